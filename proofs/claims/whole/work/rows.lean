section
-- ===== PART A: goes FIRST, ahead of the names: the tables' words, and 'selects' of the private methods out of them =====
/-- a private method of a class that the tables say can be made, by its rows of tables_1 -/
def lw_okq (q : MethodName × Nat) : Prop := (q.1.cls ≠ "java/lang/invoke/MethodHandle" ∧ q.1.cls ≠ "java/lang/invoke/VarHandle") ∧ Cond.instantiable q.1.cls q.2 ∈ tables_1 ∧ Cond.privateMethod q.1 ∈ tables_1 ∧ Cond.instanceMethod q.1 ∈ tables_1
theorem lw_p0 : lw_okq (⟨"NewsHampers$Text", "readItem", "(ILNewsHampers$Roll;)I"⟩, 3) := ⟨⟨by decide +kernel, by decide +kernel⟩, List.mem_of_getElem? (i := 25) (by decide +kernel), List.mem_of_getElem? (i := 261) (by decide +kernel), List.mem_of_getElem? (i := 262) (by decide +kernel)⟩
theorem lw_p1 : lw_okq (⟨"NewsHampers$Text", "letterAt", "(I)C"⟩, 3) := ⟨⟨by decide +kernel, by decide +kernel⟩, List.mem_of_getElem? (i := 25) (by decide +kernel), List.mem_of_getElem? (i := 265) (by decide +kernel), List.mem_of_getElem? (i := 266) (by decide +kernel)⟩
theorem lw_p2 : lw_okq (⟨"NewsHampers$Text", "readNumbers", "(II)I"⟩, 3) := ⟨⟨by decide +kernel, by decide +kernel⟩, List.mem_of_getElem? (i := 25) (by decide +kernel), List.mem_of_getElem? (i := 269) (by decide +kernel), List.mem_of_getElem? (i := 270) (by decide +kernel)⟩
theorem lw_p3 : lw_okq (⟨"NewsHampers$Text", "isFigure", "(I)Z"⟩, 3) := ⟨⟨by decide +kernel, by decide +kernel⟩, List.mem_of_getElem? (i := 25) (by decide +kernel), List.mem_of_getElem? (i := 273) (by decide +kernel), List.mem_of_getElem? (i := 274) (by decide +kernel)⟩
theorem lw_p4 : lw_okq (⟨"NewsHampers", "startFromDraft", "()V"⟩, 11) := ⟨⟨by decide +kernel, by decide +kernel⟩, List.mem_of_getElem? (i := 17) (by decide +kernel), List.mem_of_getElem? (i := 285) (by decide +kernel), List.mem_of_getElem? (i := 286) (by decide +kernel)⟩
theorem lw_p5 : lw_okq (⟨"NewsHampers", "isPerson", "(I)Z"⟩, 11) := ⟨⟨by decide +kernel, by decide +kernel⟩, List.mem_of_getElem? (i := 17) (by decide +kernel), List.mem_of_getElem? (i := 359) (by decide +kernel), List.mem_of_getElem? (i := 360) (by decide +kernel)⟩
theorem lw_p6 : lw_okq (⟨"NewsHampers$Fund", "wayDays", "(I)I"⟩, 12) := ⟨⟨by decide +kernel, by decide +kernel⟩, List.mem_of_getElem? (i := 79) (by decide +kernel), List.mem_of_getElem? (i := 406) (by decide +kernel), List.mem_of_getElem? (i := 407) (by decide +kernel)⟩
theorem lw_p7 : lw_okq (⟨"NewsHampers$Fund", "comeIn", "(I)V"⟩, 12) := ⟨⟨by decide +kernel, by decide +kernel⟩, List.mem_of_getElem? (i := 79) (by decide +kernel), List.mem_of_getElem? (i := 445) (by decide +kernel), List.mem_of_getElem? (i := 446) (by decide +kernel)⟩
theorem lw_p8 : lw_okq (⟨"NewsHampers$Fund", "willRefuse", "(I)Z"⟩, 12) := ⟨⟨by decide +kernel, by decide +kernel⟩, List.mem_of_getElem? (i := 79) (by decide +kernel), List.mem_of_getElem? (i := 449) (by decide +kernel), List.mem_of_getElem? (i := 450) (by decide +kernel)⟩
theorem lw_p9 : lw_okq (⟨"NewsHampers", "guessFits", "()Z"⟩, 11) := ⟨⟨by decide +kernel, by decide +kernel⟩, List.mem_of_getElem? (i := 17) (by decide +kernel), List.mem_of_getElem? (i := 541) (by decide +kernel), List.mem_of_getElem? (i := 542) (by decide +kernel)⟩
theorem lw_p10 : lw_okq (⟨"NewsHampers$Sights", "holdAfter", "(ILNewsHampers$Fund;)Z"⟩, 4) := ⟨⟨by decide +kernel, by decide +kernel⟩, List.mem_of_getElem? (i := 153) (by decide +kernel), List.mem_of_getElem? (i := 550) (by decide +kernel), List.mem_of_getElem? (i := 551) (by decide +kernel)⟩
theorem lw_p11 : lw_okq (⟨"NewsHampers", "softWithFrosts", "(III)Z"⟩, 11) := ⟨⟨by decide +kernel, by decide +kernel⟩, List.mem_of_getElem? (i := 17) (by decide +kernel), List.mem_of_getElem? (i := 564) (by decide +kernel), List.mem_of_getElem? (i := 565) (by decide +kernel)⟩
theorem lw_p12 : lw_okq (⟨"NewsHampersModel", "firstOne", "(IIII)V"⟩, 36) := ⟨⟨by decide +kernel, by decide +kernel⟩, List.mem_of_getElem? (i := 613) (by decide +kernel), List.mem_of_getElem? (i := 619) (by decide +kernel), List.mem_of_getElem? (i := 620) (by decide +kernel)⟩
theorem lw_p13 : lw_okq (⟨"NewsHampersModel", "begin", "(I)V"⟩, 36) := ⟨⟨by decide +kernel, by decide +kernel⟩, List.mem_of_getElem? (i := 613) (by decide +kernel), List.mem_of_getElem? (i := 623) (by decide +kernel), List.mem_of_getElem? (i := 624) (by decide +kernel)⟩
theorem lw_p14 : lw_okq (⟨"NewsHampersModel", "readsItem", "()Z"⟩, 36) := ⟨⟨by decide +kernel, by decide +kernel⟩, List.mem_of_getElem? (i := 613) (by decide +kernel), List.mem_of_getElem? (i := 751) (by decide +kernel), List.mem_of_getElem? (i := 752) (by decide +kernel)⟩
theorem lw_p15 : lw_okq (⟨"NewsHampersModel", "here", "()I"⟩, 36) := ⟨⟨by decide +kernel, by decide +kernel⟩, List.mem_of_getElem? (i := 613) (by decide +kernel), List.mem_of_getElem? (i := 755) (by decide +kernel), List.mem_of_getElem? (i := 756) (by decide +kernel)⟩
def lw_privs_1 : List (MethodName × Nat) := [(⟨"NewsHampers$Text", "readItem", "(ILNewsHampers$Roll;)I"⟩, 3), (⟨"NewsHampers$Text", "letterAt", "(I)C"⟩, 3), (⟨"NewsHampers$Text", "readNumbers", "(II)I"⟩, 3), (⟨"NewsHampers$Text", "isFigure", "(I)Z"⟩, 3), (⟨"NewsHampers", "startFromDraft", "()V"⟩, 11), (⟨"NewsHampers", "isPerson", "(I)Z"⟩, 11), (⟨"NewsHampers$Fund", "wayDays", "(I)I"⟩, 12), (⟨"NewsHampers$Fund", "comeIn", "(I)V"⟩, 12), (⟨"NewsHampers$Fund", "willRefuse", "(I)Z"⟩, 12), (⟨"NewsHampers", "guessFits", "()Z"⟩, 11), (⟨"NewsHampers$Sights", "holdAfter", "(ILNewsHampers$Fund;)Z"⟩, 4), (⟨"NewsHampers", "softWithFrosts", "(III)Z"⟩, 11), (⟨"NewsHampersModel", "firstOne", "(IIII)V"⟩, 36), (⟨"NewsHampersModel", "begin", "(I)V"⟩, 36), (⟨"NewsHampersModel", "readsItem", "()Z"⟩, 36), (⟨"NewsHampersModel", "here", "()I"⟩, 36)]
theorem lw_r1 : ∀ q ∈ lw_privs_1, lw_okq q := List.forall_mem_cons.mpr ⟨lw_p0, List.forall_mem_cons.mpr ⟨lw_p1, List.forall_mem_cons.mpr ⟨lw_p2, List.forall_mem_cons.mpr ⟨lw_p3, List.forall_mem_cons.mpr ⟨lw_p4, List.forall_mem_cons.mpr ⟨lw_p5, List.forall_mem_cons.mpr ⟨lw_p6, List.forall_mem_cons.mpr ⟨lw_p7, List.forall_mem_cons.mpr ⟨lw_p8, List.forall_mem_cons.mpr ⟨lw_p9, List.forall_mem_cons.mpr ⟨lw_p10, List.forall_mem_cons.mpr ⟨lw_p11, List.forall_mem_cons.mpr ⟨lw_p12, List.forall_mem_cons.mpr ⟨lw_p13, List.forall_mem_cons.mpr ⟨lw_p14, List.forall_mem_cons.mpr ⟨lw_p15, fun _ h => absurd h List.not_mem_nil⟩⟩⟩⟩⟩⟩⟩⟩⟩⟩⟩⟩⟩⟩⟩⟩
theorem lw_p16 : lw_okq (⟨"NewsHampersModel", "readsOne", "()Z"⟩, 36) := ⟨⟨by decide +kernel, by decide +kernel⟩, List.mem_of_getElem? (i := 613) (by decide +kernel), List.mem_of_getElem? (i := 759) (by decide +kernel), List.mem_of_getElem? (i := 760) (by decide +kernel)⟩
theorem lw_p17 : lw_okq (⟨"NewsHampersModel", "number", "(III)Z"⟩, 36) := ⟨⟨by decide +kernel, by decide +kernel⟩, List.mem_of_getElem? (i := 613) (by decide +kernel), List.mem_of_getElem? (i := 763) (by decide +kernel), List.mem_of_getElem? (i := 764) (by decide +kernel)⟩
theorem lw_p18 : lw_okq (⟨"NewsHampersModel", "isFigure", "()Z"⟩, 36) := ⟨⟨by decide +kernel, by decide +kernel⟩, List.mem_of_getElem? (i := 613) (by decide +kernel), List.mem_of_getElem? (i := 767) (by decide +kernel), List.mem_of_getElem? (i := 768) (by decide +kernel)⟩
theorem lw_p19 : lw_okq (⟨"NewsHampersModel", "readsStock", "()Z"⟩, 36) := ⟨⟨by decide +kernel, by decide +kernel⟩, List.mem_of_getElem? (i := 613) (by decide +kernel), List.mem_of_getElem? (i := 771) (by decide +kernel), List.mem_of_getElem? (i := 772) (by decide +kernel)⟩
theorem lw_p20 : lw_okq (⟨"NewsHampersModel", "isOne", "(I)Z"⟩, 36) := ⟨⟨by decide +kernel, by decide +kernel⟩, List.mem_of_getElem? (i := 613) (by decide +kernel), List.mem_of_getElem? (i := 784) (by decide +kernel), List.mem_of_getElem? (i := 785) (by decide +kernel)⟩
theorem lw_p21 : lw_okq (⟨"NewsHampersModel", "personTells", "(II)I"⟩, 36) := ⟨⟨by decide +kernel, by decide +kernel⟩, List.mem_of_getElem? (i := 613) (by decide +kernel), List.mem_of_getElem? (i := 788) (by decide +kernel), List.mem_of_getElem? (i := 789) (by decide +kernel)⟩
theorem lw_p22 : lw_okq (⟨"NewsHampersModel", "maySend", "(I)Z"⟩, 36) := ⟨⟨by decide +kernel, by decide +kernel⟩, List.mem_of_getElem? (i := 613) (by decide +kernel), List.mem_of_getElem? (i := 796) (by decide +kernel), List.mem_of_getElem? (i := 797) (by decide +kernel)⟩
theorem lw_p23 : lw_okq (⟨"NewsHampersModel", "isOpen", "(I)Z"⟩, 36) := ⟨⟨by decide +kernel, by decide +kernel⟩, List.mem_of_getElem? (i := 613) (by decide +kernel), List.mem_of_getElem? (i := 800) (by decide +kernel), List.mem_of_getElem? (i := 801) (by decide +kernel)⟩
theorem lw_p24 : lw_okq (⟨"NewsHampersModel", "notes", "()V"⟩, 36) := ⟨⟨by decide +kernel, by decide +kernel⟩, List.mem_of_getElem? (i := 613) (by decide +kernel), List.mem_of_getElem? (i := 804) (by decide +kernel), List.mem_of_getElem? (i := 805) (by decide +kernel)⟩
theorem lw_p25 : lw_okq (⟨"NewsHampersModel", "lays", "([II)V"⟩, 36) := ⟨⟨by decide +kernel, by decide +kernel⟩, List.mem_of_getElem? (i := 613) (by decide +kernel), List.mem_of_getElem? (i := 808) (by decide +kernel), List.mem_of_getElem? (i := 809) (by decide +kernel)⟩
theorem lw_p26 : lw_okq (⟨"NewsHampersModel", "sends", "(I)V"⟩, 36) := ⟨⟨by decide +kernel, by decide +kernel⟩, List.mem_of_getElem? (i := 613) (by decide +kernel), List.mem_of_getElem? (i := 812) (by decide +kernel), List.mem_of_getElem? (i := 813) (by decide +kernel)⟩
theorem lw_p27 : lw_okq (⟨"NewsHampersModel", "goesOut", "(I)V"⟩, 36) := ⟨⟨by decide +kernel, by decide +kernel⟩, List.mem_of_getElem? (i := 613) (by decide +kernel), List.mem_of_getElem? (i := 816) (by decide +kernel), List.mem_of_getElem? (i := 817) (by decide +kernel)⟩
theorem lw_p28 : lw_okq (⟨"NewsHampersModel", "calls", "(I)V"⟩, 36) := ⟨⟨by decide +kernel, by decide +kernel⟩, List.mem_of_getElem? (i := 613) (by decide +kernel), List.mem_of_getElem? (i := 824) (by decide +kernel), List.mem_of_getElem? (i := 825) (by decide +kernel)⟩
theorem lw_p29 : lw_okq (⟨"NewsHampersModel", "goesOn", "(I)I"⟩, 36) := ⟨⟨by decide +kernel, by decide +kernel⟩, List.mem_of_getElem? (i := 613) (by decide +kernel), List.mem_of_getElem? (i := 839) (by decide +kernel), List.mem_of_getElem? (i := 840) (by decide +kernel)⟩
theorem lw_p30 : lw_okq (⟨"NewsHampersModel", "passes", "(Z)I"⟩, 36) := ⟨⟨by decide +kernel, by decide +kernel⟩, List.mem_of_getElem? (i := 613) (by decide +kernel), List.mem_of_getElem? (i := 843) (by decide +kernel), List.mem_of_getElem? (i := 844) (by decide +kernel)⟩
theorem lw_p31 : lw_okq (⟨"NewsHampersModel", "comesIn", "(I)V"⟩, 36) := ⟨⟨by decide +kernel, by decide +kernel⟩, List.mem_of_getElem? (i := 613) (by decide +kernel), List.mem_of_getElem? (i := 847) (by decide +kernel), List.mem_of_getElem? (i := 848) (by decide +kernel)⟩
def lw_privs_2 : List (MethodName × Nat) := [(⟨"NewsHampersModel", "readsOne", "()Z"⟩, 36), (⟨"NewsHampersModel", "number", "(III)Z"⟩, 36), (⟨"NewsHampersModel", "isFigure", "()Z"⟩, 36), (⟨"NewsHampersModel", "readsStock", "()Z"⟩, 36), (⟨"NewsHampersModel", "isOne", "(I)Z"⟩, 36), (⟨"NewsHampersModel", "personTells", "(II)I"⟩, 36), (⟨"NewsHampersModel", "maySend", "(I)Z"⟩, 36), (⟨"NewsHampersModel", "isOpen", "(I)Z"⟩, 36), (⟨"NewsHampersModel", "notes", "()V"⟩, 36), (⟨"NewsHampersModel", "lays", "([II)V"⟩, 36), (⟨"NewsHampersModel", "sends", "(I)V"⟩, 36), (⟨"NewsHampersModel", "goesOut", "(I)V"⟩, 36), (⟨"NewsHampersModel", "calls", "(I)V"⟩, 36), (⟨"NewsHampersModel", "goesOn", "(I)I"⟩, 36), (⟨"NewsHampersModel", "passes", "(Z)I"⟩, 36), (⟨"NewsHampersModel", "comesIn", "(I)V"⟩, 36)]
theorem lw_r2 : ∀ q ∈ lw_privs_2, lw_okq q := List.forall_mem_cons.mpr ⟨lw_p16, List.forall_mem_cons.mpr ⟨lw_p17, List.forall_mem_cons.mpr ⟨lw_p18, List.forall_mem_cons.mpr ⟨lw_p19, List.forall_mem_cons.mpr ⟨lw_p20, List.forall_mem_cons.mpr ⟨lw_p21, List.forall_mem_cons.mpr ⟨lw_p22, List.forall_mem_cons.mpr ⟨lw_p23, List.forall_mem_cons.mpr ⟨lw_p24, List.forall_mem_cons.mpr ⟨lw_p25, List.forall_mem_cons.mpr ⟨lw_p26, List.forall_mem_cons.mpr ⟨lw_p27, List.forall_mem_cons.mpr ⟨lw_p28, List.forall_mem_cons.mpr ⟨lw_p29, List.forall_mem_cons.mpr ⟨lw_p30, List.forall_mem_cons.mpr ⟨lw_p31, fun _ h => absurd h List.not_mem_nil⟩⟩⟩⟩⟩⟩⟩⟩⟩⟩⟩⟩⟩⟩⟩⟩
theorem lw_p32 : lw_okq (⟨"NewsHampersModel", "takes", "([II)V"⟩, 36) := ⟨⟨by decide +kernel, by decide +kernel⟩, List.mem_of_getElem? (i := 613) (by decide +kernel), List.mem_of_getElem? (i := 858) (by decide +kernel), List.mem_of_getElem? (i := 859) (by decide +kernel)⟩
theorem lw_p33 : lw_okq (⟨"NewsHampersModel", "start", "()V"⟩, 36) := ⟨⟨by decide +kernel, by decide +kernel⟩, List.mem_of_getElem? (i := 613) (by decide +kernel), List.mem_of_getElem? (i := 866) (by decide +kernel), List.mem_of_getElem? (i := 867) (by decide +kernel)⟩
theorem lw_p34 : lw_okq (⟨"NewsHampersModel", "eatSet", "()I"⟩, 36) := ⟨⟨by decide +kernel, by decide +kernel⟩, List.mem_of_getElem? (i := 613) (by decide +kernel), List.mem_of_getElem? (i := 870) (by decide +kernel), List.mem_of_getElem? (i := 871) (by decide +kernel)⟩
theorem lw_p35 : lw_okq (⟨"NewsHampersModel", "toldSet", "()I"⟩, 36) := ⟨⟨by decide +kernel, by decide +kernel⟩, List.mem_of_getElem? (i := 613) (by decide +kernel), List.mem_of_getElem? (i := 874) (by decide +kernel), List.mem_of_getElem? (i := 875) (by decide +kernel)⟩
theorem lw_p36 : lw_okq (⟨"NewsHampersModel", "softSet", "()I"⟩, 36) := ⟨⟨by decide +kernel, by decide +kernel⟩, List.mem_of_getElem? (i := 613) (by decide +kernel), List.mem_of_getElem? (i := 878) (by decide +kernel), List.mem_of_getElem? (i := 879) (by decide +kernel)⟩
theorem lw_p37 : lw_okq (⟨"NewsHampersModel", "putBack", "()V"⟩, 36) := ⟨⟨by decide +kernel, by decide +kernel⟩, List.mem_of_getElem? (i := 613) (by decide +kernel), List.mem_of_getElem? (i := 882) (by decide +kernel), List.mem_of_getElem? (i := 883) (by decide +kernel)⟩
theorem lw_p38 : lw_okq (⟨"NewsHampersModel", "softWeight", "()I"⟩, 36) := ⟨⟨by decide +kernel, by decide +kernel⟩, List.mem_of_getElem? (i := 613) (by decide +kernel), List.mem_of_getElem? (i := 894) (by decide +kernel), List.mem_of_getElem? (i := 895) (by decide +kernel)⟩
theorem lw_p39 : lw_okq (⟨"NewsHampersModel", "isSoftBy", "(II)Z"⟩, 36) := ⟨⟨by decide +kernel, by decide +kernel⟩, List.mem_of_getElem? (i := 613) (by decide +kernel), List.mem_of_getElem? (i := 902) (by decide +kernel), List.mem_of_getElem? (i := 903) (by decide +kernel)⟩
theorem lw_p40 : lw_okq (⟨"NewsHampersModel", "mostBy", "(I)I"⟩, 36) := ⟨⟨by decide +kernel, by decide +kernel⟩, List.mem_of_getElem? (i := 613) (by decide +kernel), List.mem_of_getElem? (i := 910) (by decide +kernel), List.mem_of_getElem? (i := 911) (by decide +kernel)⟩
theorem lw_p41 : lw_okq (⟨"NewsHampersModel", "firstRow", "()V"⟩, 36) := ⟨⟨by decide +kernel, by decide +kernel⟩, List.mem_of_getElem? (i := 613) (by decide +kernel), List.mem_of_getElem? (i := 914) (by decide +kernel), List.mem_of_getElem? (i := 915) (by decide +kernel)⟩
theorem lw_p42 : lw_okq (⟨"NewsHampersModel", "gentleBy", "(I)I"⟩, 36) := ⟨⟨by decide +kernel, by decide +kernel⟩, List.mem_of_getElem? (i := 613) (by decide +kernel), List.mem_of_getElem? (i := 918) (by decide +kernel), List.mem_of_getElem? (i := 919) (by decide +kernel)⟩
theorem lw_p43 : lw_okq (⟨"NewsHampersModel", "nextRow", "()Z"⟩, 36) := ⟨⟨by decide +kernel, by decide +kernel⟩, List.mem_of_getElem? (i := 613) (by decide +kernel), List.mem_of_getElem? (i := 922) (by decide +kernel), List.mem_of_getElem? (i := 923) (by decide +kernel)⟩
theorem lw_p44 : lw_okq (⟨"NewsHampersModel", "isSo", "()Z"⟩, 36) := ⟨⟨by decide +kernel, by decide +kernel⟩, List.mem_of_getElem? (i := 613) (by decide +kernel), List.mem_of_getElem? (i := 942) (by decide +kernel), List.mem_of_getElem? (i := 943) (by decide +kernel)⟩
theorem lw_p45 : lw_okq (⟨"NewsHampersModel", "sumOf", "([I)I"⟩, 36) := ⟨⟨by decide +kernel, by decide +kernel⟩, List.mem_of_getElem? (i := 613) (by decide +kernel), List.mem_of_getElem? (i := 984) (by decide +kernel), List.mem_of_getElem? (i := 985) (by decide +kernel)⟩
def lw_privs_3 : List (MethodName × Nat) := [(⟨"NewsHampersModel", "takes", "([II)V"⟩, 36), (⟨"NewsHampersModel", "start", "()V"⟩, 36), (⟨"NewsHampersModel", "eatSet", "()I"⟩, 36), (⟨"NewsHampersModel", "toldSet", "()I"⟩, 36), (⟨"NewsHampersModel", "softSet", "()I"⟩, 36), (⟨"NewsHampersModel", "putBack", "()V"⟩, 36), (⟨"NewsHampersModel", "softWeight", "()I"⟩, 36), (⟨"NewsHampersModel", "isSoftBy", "(II)Z"⟩, 36), (⟨"NewsHampersModel", "mostBy", "(I)I"⟩, 36), (⟨"NewsHampersModel", "firstRow", "()V"⟩, 36), (⟨"NewsHampersModel", "gentleBy", "(I)I"⟩, 36), (⟨"NewsHampersModel", "nextRow", "()Z"⟩, 36), (⟨"NewsHampersModel", "isSo", "()Z"⟩, 36), (⟨"NewsHampersModel", "sumOf", "([I)I"⟩, 36)]
theorem lw_r3 : ∀ q ∈ lw_privs_3, lw_okq q := List.forall_mem_cons.mpr ⟨lw_p32, List.forall_mem_cons.mpr ⟨lw_p33, List.forall_mem_cons.mpr ⟨lw_p34, List.forall_mem_cons.mpr ⟨lw_p35, List.forall_mem_cons.mpr ⟨lw_p36, List.forall_mem_cons.mpr ⟨lw_p37, List.forall_mem_cons.mpr ⟨lw_p38, List.forall_mem_cons.mpr ⟨lw_p39, List.forall_mem_cons.mpr ⟨lw_p40, List.forall_mem_cons.mpr ⟨lw_p41, List.forall_mem_cons.mpr ⟨lw_p42, List.forall_mem_cons.mpr ⟨lw_p43, List.forall_mem_cons.mpr ⟨lw_p44, List.forall_mem_cons.mpr ⟨lw_p45, fun _ h => absurd h List.not_mem_nil⟩⟩⟩⟩⟩⟩⟩⟩⟩⟩⟩⟩⟩⟩
def lw_privs : List (MethodName × Nat) := lw_privs_1 ++ (lw_privs_2 ++ (lw_privs_3))
def lw_tbl : List Cond := k2_sels lw_privs ++ tables_1
theorem lw_privs_ok : ∀ q ∈ lw_privs, lw_okq q := by
  show ∀ q ∈ lw_privs_1 ++ (lw_privs_2 ++ (lw_privs_3)), lw_okq q
  exact List.forall_mem_append.mpr ⟨lw_r1, List.forall_mem_append.mpr ⟨lw_r2, lw_r3⟩⟩
end
section
def RX0 : String := "NewsHampers$Fund"
def TX0 : u_T := fun k => match k with
  | 0 => ("NewsHampers$Fund", "roll", "LNewsHampers$Roll;", true)
  | 1 => ("NewsHampers$Fund", "onWay", "[I", true)
  | 2 => ("NewsHampers$Fund", "due", "[I", true)
  | 3 => ("NewsHampers$Fund", "eats", "[I", true)
  | 4 => ("NewsHampers$Fund", "toldOn", "[I", true)
  | 5 => ("NewsHampers$Fund", "had", "I", false)
  | 6 => ("NewsHampers$Fund", "soft", "I", false)
  | 7 => ("NewsHampers$Fund", "refused", "I", false)
  | 8 => ("NewsHampers$Fund", "refusals", "I", false)
  | 9 => ("NewsHampers$Fund", "stock", "I", false)
  | 10 => ("NewsHampers$Fund", "day", "I", false)
  | _ => ("NewsHampers$Fund", "sentToday", "Z", false)
def tyX0 : Nat → FieldType := fun k => match k with
  | 0 => .object "NewsHampers$Roll"
  | 1 => .array .int
  | 2 => .array .int
  | 3 => .array .int
  | 4 => .array .int
  | 5 => .int
  | 6 => .int
  | 7 => .int
  | 8 => .int
  | 9 => .int
  | 10 => .int
  | _ => .boolean
abbrev wsX00 : List Cond := u_ws RX0 TX0 12
theorem nmX0 : ∀ a, a < 12 → ∀ b, b < 12 → a ≠ b → (TX0 a).2.1 ≠ (TX0 b).2.1 := by decide +kernel
theorem tyX0_ok : ∀ k, k < 12 → parseFieldDescriptor (TX0 k).2.2.1 = some (tyX0 k) := by decide +kernel
abbrev cX0_init : ByteArray := prog_2_method_1_code
def yX0_init : MethodName := ⟨RX0, "<init>", "(LNewsHampers$Roll;)V"⟩
abbrev cX0_start : ByteArray := prog_2_method_2_code
def yX0_start : MethodName := ⟨RX0, "start", "()V"⟩
abbrev cX0_copyFrom : ByteArray := prog_2_method_3_code
def yX0_copyFrom : MethodName := ⟨RX0, "copyFrom", "(LNewsHampers$Fund;)V"⟩
abbrev cX0_isTold : ByteArray := prog_2_method_4_code
def yX0_isTold : MethodName := ⟨RX0, "isTold", "(I)Z"⟩
abbrev cX0_canBeSentOne : ByteArray := prog_2_method_5_code
def yX0_canBeSentOne : MethodName := ⟨RX0, "canBeSentOne", "(I)Z"⟩
abbrev cX0_canSendNow : ByteArray := prog_2_method_6_code
def yX0_canSendNow : MethodName := ⟨RX0, "canSendNow", "(I)Z"⟩
abbrev cX0_dispatch : ByteArray := prog_2_method_7_code
def yX0_dispatch : MethodName := ⟨RX0, "dispatch", "(I)V"⟩
abbrev cX0_recall : ByteArray := prog_2_method_8_code
def yX0_recall : MethodName := ⟨RX0, "recall", "(I)V"⟩
abbrev cX0_passDays : ByteArray := prog_2_method_9_code
def yX0_passDays : MethodName := ⟨RX0, "passDays", "(I)V"⟩
abbrev cX0_passDay : ByteArray := prog_2_method_10_code
def yX0_passDay : MethodName := ⟨RX0, "passDay", "(Z)V"⟩
abbrev cX0_comeIn : ByteArray := prog_2_method_11_code
def yX0_comeIn : MethodName := ⟨RX0, "comeIn", "(I)V"⟩
abbrev cX0_actByDraw : ByteArray := prog_2_method_12_code
def yX0_actByDraw : MethodName := ⟨RX0, "actByDraw", "(I)V"⟩
abbrev cX0_endsSoft : ByteArray := prog_2_method_13_code
def yX0_endsSoft : MethodName := ⟨RX0, "endsSoft", "(I)Z"⟩
abbrev cX0_spareDays : ByteArray := prog_2_method_14_code
def yX0_spareDays : MethodName := ⟨RX0, "spareDays", "(I)I"⟩
abbrev cX0_finalWeight : ByteArray := prog_2_method_15_code
def yX0_finalWeight : MethodName := ⟨RX0, "finalWeight", "(I)I"⟩
abbrev cX0_softWeight : ByteArray := prog_2_method_16_code
def yX0_softWeight : MethodName := ⟨RX0, "softWeight", "()I"⟩
abbrev cX0_allOnWay : ByteArray := prog_2_method_17_code
def yX0_allOnWay : MethodName := ⟨RX0, "allOnWay", "()I"⟩
abbrev cX0_eatingBits : ByteArray := prog_2_method_18_code
def yX0_eatingBits : MethodName := ⟨RX0, "eatingBits", "()I"⟩
abbrev cX0_toldBits : ByteArray := prog_2_method_19_code
def yX0_toldBits : MethodName := ⟨RX0, "toldBits", "()I"⟩
abbrev cX0_standing : ByteArray := prog_2_method_20_code
def yX0_standing : MethodName := ⟨RX0, "standing", "(II)I"⟩
abbrev cX0_wayDays : ByteArray := prog_2_method_21_code
def yX0_wayDays : MethodName := ⟨RX0, "wayDays", "(I)I"⟩
abbrev cX0_willRefuse : ByteArray := prog_2_method_22_code
def yX0_willRefuse : MethodName := ⟨RX0, "willRefuse", "(I)Z"⟩
abbrev cX0_eatingDays : ByteArray := prog_2_method_23_code
def yX0_eatingDays : MethodName := ⟨RX0, "eatingDays", "(II)I"⟩
abbrev cX0_isIn : ByteArray := prog_2_method_24_code
def yX0_isIn : MethodName := ⟨RX0, "isIn", "(II)Z"⟩
def RX1 : String := "NewsHampers$OrderSearch"
def TX1 : u_T := fun k => match k with
  | 0 => ("NewsHampers$OrderSearch", "standing", "[LNewsHampers$Fund;", true)
  | 1 => ("NewsHampers$OrderSearch", "chosen", "[I", true)
  | 2 => ("NewsHampers$OrderSearch", "best", "[I", true)
  | 3 => ("NewsHampers$OrderSearch", "size", "I", false)
  | _ => ("NewsHampers$OrderSearch", "most", "I", false)
def tyX1 : Nat → FieldType := fun k => match k with
  | 0 => .array (.object "NewsHampers$Fund")
  | 1 => .array .int
  | 2 => .array .int
  | 3 => .int
  | _ => .int
abbrev wsX10 : List Cond := u_ws RX1 TX1 5
theorem nmX1 : ∀ a, a < 5 → ∀ b, b < 5 → a ≠ b → (TX1 a).2.1 ≠ (TX1 b).2.1 := by decide +kernel
theorem tyX1_ok : ∀ k, k < 5 → parseFieldDescriptor (TX1 k).2.2.1 = some (tyX1 k) := by decide +kernel
abbrev cX1_init : ByteArray := prog_3_method_1_code
def yX1_init : MethodName := ⟨RX1, "<init>", "(LNewsHampers$Roll;)V"⟩
abbrev cX1_run : ByteArray := prog_3_method_2_code
def yX1_run : MethodName := ⟨RX1, "run", "(LNewsHampers$Fund;I)I"⟩
abbrev cX1_extend : ByteArray := prog_3_method_3_code
def yX1_extend : MethodName := ⟨RX1, "extend", "(LNewsHampers$OrderSearch;II)V"⟩
def RX2 : String := "NewsHampers$Pile"
def TX2 : u_T := fun k => match k with
  | 0 => ("NewsHampers$Pile", "rows", "[LNewsHampers$Fund;", true)
  | 1 => ("NewsHampers$Pile", "size", "I", false)
  | _ => ("NewsHampers$Pile", "top", "I", false)
def tyX2 : Nat → FieldType := fun k => match k with
  | 0 => .array (.object "NewsHampers$Fund")
  | 1 => .int
  | _ => .int
abbrev wsX20 : List Cond := u_ws RX2 TX2 3
theorem nmX2 : ∀ a, a < 3 → ∀ b, b < 3 → a ≠ b → (TX2 a).2.1 ≠ (TX2 b).2.1 := by decide +kernel
theorem tyX2_ok : ∀ k, k < 3 → parseFieldDescriptor (TX2 k).2.2.1 = some (tyX2 k) := by decide +kernel
abbrev cX2_init : ByteArray := prog_4_method_1_code
def yX2_init : MethodName := ⟨RX2, "<init>", "(LNewsHampers$Roll;I)V"⟩
abbrev cX2_push : ByteArray := prog_4_method_2_code
def yX2_push : MethodName := ⟨RX2, "push", "(LNewsHampers$Fund;)V"⟩
abbrev cX2_popInto : ByteArray := prog_4_method_3_code
def yX2_popInto : MethodName := ⟨RX2, "popInto", "(LNewsHampers$Fund;)Z"⟩
def RX3 : String := "NewsHampers$Roll"
def TX3 : u_T := fun k => match k with
  | 0 => ("NewsHampers$Roll", "kind", "[I", true)
  | 1 => ("NewsHampers$Roll", "miles", "[I", true)
  | 2 => ("NewsHampers$Roll", "news", "[I", true)
  | 3 => ("NewsHampers$Roll", "weight", "[I", true)
  | 4 => ("NewsHampers$Roll", "size", "I", false)
  | _ => ("NewsHampers$Roll", "stock", "I", false)
def tyX3 : Nat → FieldType := fun k => match k with
  | 0 => .array .int
  | 1 => .array .int
  | 2 => .array .int
  | 3 => .array .int
  | 4 => .int
  | _ => .int
abbrev wsX30 : List Cond := u_ws RX3 TX3 6
theorem nmX3 : ∀ a, a < 6 → ∀ b, b < 6 → a ≠ b → (TX3 a).2.1 ≠ (TX3 b).2.1 := by decide +kernel
theorem tyX3_ok : ∀ k, k < 6 → parseFieldDescriptor (TX3 k).2.2.1 = some (tyX3 k) := by decide +kernel
abbrev cX3_init : ByteArray := prog_5_method_1_code
def yX3_init : MethodName := ⟨RX3, "<init>", "()V"⟩
abbrev cX3_clear : ByteArray := prog_5_method_2_code
def yX3_clear : MethodName := ⟨RX3, "clear", "()V"⟩
abbrev cX3_addPerson : ByteArray := prog_5_method_3_code
def yX3_addPerson : MethodName := ⟨RX3, "addPerson", "(IIII)Z"⟩
abbrev cX3_setStock : ByteArray := prog_5_method_4_code
def yX3_setStock : MethodName := ⟨RX3, "setStock", "(I)Z"⟩
abbrev cX3_copyFrom : ByteArray := prog_5_method_5_code
def yX3_copyFrom : MethodName := ⟨RX3, "copyFrom", "(LNewsHampers$Roll;)V"⟩
abbrev cX3_fact : ByteArray := prog_5_method_6_code
def yX3_fact : MethodName := ⟨RX3, "fact", "(II)I"⟩
def RX4 : String := "NewsHampers$Sights"
def TX4 : u_T := fun k => match k with
  | 0 => ("NewsHampers$Sights", "daysBehind", "[I", true)
  | 1 => ("NewsHampers$Sights", "who", "[I", true)
  | 2 => ("NewsHampers$Sights", "told", "[Z", true)
  | _ => ("NewsHampers$Sights", "size", "I", false)
def tyX4 : Nat → FieldType := fun k => match k with
  | 0 => .array .int
  | 1 => .array .int
  | 2 => .array .boolean
  | _ => .int
abbrev wsX40 : List Cond := u_ws RX4 TX4 4
theorem nmX4 : ∀ a, a < 4 → ∀ b, b < 4 → a ≠ b → (TX4 a).2.1 ≠ (TX4 b).2.1 := by decide +kernel
theorem tyX4_ok : ∀ k, k < 4 → parseFieldDescriptor (TX4 k).2.2.1 = some (tyX4 k) := by decide +kernel
abbrev cX4_init : ByteArray := prog_6_method_1_code
def yX4_init : MethodName := ⟨RX4, "<init>", "()V"⟩
abbrev cX4_add : ByteArray := prog_6_method_2_code
def yX4_add : MethodName := ⟨RX4, "add", "(IIZ)V"⟩
abbrev cX4_allHold : ByteArray := prog_6_method_3_code
def yX4_allHold : MethodName := ⟨RX4, "allHold", "(LNewsHampers$Fund;)Z"⟩
abbrev cX4_holdAfter : ByteArray := prog_6_method_4_code
def yX4_holdAfter : MethodName := ⟨RX4, "holdAfter", "(ILNewsHampers$Fund;)Z"⟩
def RX5 : String := "NewsHampers$Text"
def TX5 : u_T := fun k => match k with
  | 0 => ("NewsHampers$Text", "letters", "[C", true)
  | 1 => ("NewsHampers$Text", "numbers", "[I", true)
  | _ => ("NewsHampers$Text", "length", "I", false)
def tyX5 : Nat → FieldType := fun k => match k with
  | 0 => .array .char
  | 1 => .array .int
  | _ => .int
abbrev wsX50 : List Cond := u_ws RX5 TX5 3
theorem nmX5 : ∀ a, a < 3 → ∀ b, b < 3 → a ≠ b → (TX5 a).2.1 ≠ (TX5 b).2.1 := by decide +kernel
theorem tyX5_ok : ∀ k, k < 3 → parseFieldDescriptor (TX5 k).2.2.1 = some (tyX5 k) := by decide +kernel
abbrev cX5_init : ByteArray := prog_7_method_1_code
def yX5_init : MethodName := ⟨RX5, "<init>", "()V"⟩
abbrev cX5_append : ByteArray := prog_7_method_2_code
def yX5_append : MethodName := ⟨RX5, "append", "(I)I"⟩
abbrev cX5_empty : ByteArray := prog_7_method_3_code
def yX5_empty : MethodName := ⟨RX5, "empty", "()I"⟩
abbrev cX5_readInto : ByteArray := prog_7_method_4_code
def yX5_readInto : MethodName := ⟨RX5, "readInto", "(LNewsHampers$Roll;)I"⟩
abbrev cX5_readItem : ByteArray := prog_7_method_5_code
def yX5_readItem : MethodName := ⟨RX5, "readItem", "(ILNewsHampers$Roll;)I"⟩
abbrev cX5_readNumbers : ByteArray := prog_7_method_6_code
def yX5_readNumbers : MethodName := ⟨RX5, "readNumbers", "(II)I"⟩
abbrev cX5_isFigure : ByteArray := prog_7_method_7_code
def yX5_isFigure : MethodName := ⟨RX5, "isFigure", "(I)Z"⟩
abbrev cX5_letterAt : ByteArray := prog_7_method_8_code
def yX5_letterAt : MethodName := ⟨RX5, "letterAt", "(I)C"⟩
def RX6 : String := "NewsHampers"
def TX6 : u_T := fun k => match k with
  | 0 => ("NewsHampers", "text", "LNewsHampers$Text;", true)
  | 1 => ("NewsHampers", "roll", "LNewsHampers$Roll;", true)
  | 2 => ("NewsHampers", "draft", "LNewsHampers$Roll;", true)
  | 3 => ("NewsHampers", "guessRoll", "LNewsHampers$Roll;", true)
  | 4 => ("NewsHampers", "now", "LNewsHampers$Fund;", true)
  | 5 => ("NewsHampers", "ahead", "LNewsHampers$Fund;", true)
  | 6 => ("NewsHampers", "guess", "LNewsHampers$Fund;", true)
  | 7 => ("NewsHampers", "undone", "LNewsHampers$Pile;", true)
  | 8 => ("NewsHampers", "kept", "LNewsHampers$Pile;", true)
  | 9 => ("NewsHampers", "sights", "LNewsHampers$Sights;", true)
  | _ => ("NewsHampers", "search", "LNewsHampers$OrderSearch;", true)
def tyX6 : Nat → FieldType := fun k => match k with
  | 0 => .object "NewsHampers$Text"
  | 1 => .object "NewsHampers$Roll"
  | 2 => .object "NewsHampers$Roll"
  | 3 => .object "NewsHampers$Roll"
  | 4 => .object "NewsHampers$Fund"
  | 5 => .object "NewsHampers$Fund"
  | 6 => .object "NewsHampers$Fund"
  | 7 => .object "NewsHampers$Pile"
  | 8 => .object "NewsHampers$Pile"
  | 9 => .object "NewsHampers$Sights"
  | _ => .object "NewsHampers$OrderSearch"
abbrev wsX60 : List Cond := u_ws RX6 TX6 11
theorem nmX6 : ∀ a, a < 11 → ∀ b, b < 11 → a ≠ b → (TX6 a).2.1 ≠ (TX6 b).2.1 := by decide +kernel
theorem tyX6_ok : ∀ k, k < 11 → parseFieldDescriptor (TX6 k).2.2.1 = some (tyX6 k) := by decide +kernel
abbrev cX6_init : ByteArray := prog_1_method_1_code
def yX6_init : MethodName := ⟨RX6, "<init>", "()V"⟩
abbrev cX6_write : ByteArray := prog_1_method_2_code
def yX6_write : MethodName := ⟨RX6, "write", "(I)I"⟩
abbrev cX6_wipe : ByteArray := prog_1_method_3_code
def yX6_wipe : MethodName := ⟨RX6, "wipe", "()I"⟩
abbrev cX6_fault : ByteArray := prog_1_method_4_code
def yX6_fault : MethodName := ⟨RX6, "fault", "()I"⟩
abbrev cX6_lay : ByteArray := prog_1_method_5_code
def yX6_lay : MethodName := ⟨RX6, "lay", "()I"⟩
abbrev cX6_person : ByteArray := prog_1_method_6_code
def yX6_person : MethodName := ⟨RX6, "person", "(II)I"⟩
abbrev cX6_send : ByteArray := prog_1_method_7_code
def yX6_send : MethodName := ⟨RX6, "send", "(I)I"⟩
abbrev cX6_call : ByteArray := prog_1_method_8_code
def yX6_call : MethodName := ⟨RX6, "call", "(I)I"⟩
abbrev cX6_buy : ByteArray := prog_1_method_9_code
def yX6_buy : MethodName := ⟨RX6, "buy", "()I"⟩
abbrev cX6_pass : ByteArray := prog_1_method_10_code
def yX6_pass : MethodName := ⟨RX6, "pass", "(I)I"⟩
abbrev cX6_undo : ByteArray := prog_1_method_11_code
def yX6_undo : MethodName := ⟨RX6, "undo", "()I"⟩
abbrev cX6_behind : ByteArray := prog_1_method_12_code
def yX6_behind : MethodName := ⟨RX6, "behind", "(II)I"⟩
abbrev cX6_when : ByteArray := prog_1_method_13_code
def yX6_when : MethodName := ⟨RX6, "when", "(I)I"⟩
abbrev cX6_gentle : ByteArray := prog_1_method_14_code
def yX6_gentle : MethodName := ⟨RX6, "gentle", "()I"⟩
abbrev cX6_latest : ByteArray := prog_1_method_15_code
def yX6_latest : MethodName := ⟨RX6, "latest", "(I)I"⟩
abbrev cX6_order : ByteArray := prog_1_method_16_code
def yX6_order : MethodName := ⟨RX6, "order", "(I)I"⟩
abbrev cX6_need : ByteArray := prog_1_method_17_code
def yX6_need : MethodName := ⟨RX6, "need", "()I"⟩
abbrev cX6_seen : ByteArray := prog_1_method_18_code
def yX6_seen : MethodName := ⟨RX6, "seen", "(III)I"⟩
abbrev cX6_forget : ByteArray := prog_1_method_19_code
def yX6_forget : MethodName := ⟨RX6, "forget", "()I"⟩
abbrev cX6_kinds : ByteArray := prog_1_method_20_code
def yX6_kinds : MethodName := ⟨RX6, "kinds", "(I)I"⟩
abbrev cX6_days : ByteArray := prog_1_method_21_code
def yX6_days : MethodName := ⟨RX6, "days", "(II)I"⟩
abbrev cX6_likely : ByteArray := prog_1_method_22_code
def yX6_likely : MethodName := ⟨RX6, "likely", "(IIII)I"⟩
abbrev cX6_year : ByteArray := prog_1_method_23_code
def yX6_year : MethodName := ⟨RX6, "year", "(III)I"⟩
abbrev cX6_keep : ByteArray := prog_1_method_24_code
def yX6_keep : MethodName := ⟨RX6, "keep", "()I"⟩
abbrev cX6_back : ByteArray := prog_1_method_25_code
def yX6_back : MethodName := ⟨RX6, "back", "()I"⟩
abbrev cX6_count : ByteArray := prog_1_method_26_code
def yX6_count : MethodName := ⟨RX6, "count", "(I)I"⟩
abbrev cX6_isPerson : ByteArray := prog_1_method_27_code
def yX6_isPerson : MethodName := ⟨RX6, "isPerson", "(I)Z"⟩
abbrev cX6_startFromDraft : ByteArray := prog_1_method_28_code
def yX6_startFromDraft : MethodName := ⟨RX6, "startFromDraft", "()V"⟩
abbrev cX6_guessFits : ByteArray := prog_1_method_29_code
def yX6_guessFits : MethodName := ⟨RX6, "guessFits", "()Z"⟩
abbrev cX6_softWithFrosts : ByteArray := prog_1_method_30_code
def yX6_softWithFrosts : MethodName := ⟨RX6, "softWithFrosts", "(III)Z"⟩
abbrev cX6_weightOfFrosts : ByteArray := prog_1_method_31_code
def yX6_weightOfFrosts : MethodName := ⟨RX6, "weightOfFrosts", "(III)I"⟩
abbrev cX6_greatestDivisor : ByteArray := prog_1_method_32_code
def yX6_greatestDivisor : MethodName := ⟨RX6, "greatestDivisor", "(II)I"⟩
abbrev cX6_draw : ByteArray := prog_1_method_33_code
def yX6_draw : MethodName := ⟨RX6, "draw", "(II)I"⟩
def RX7 : String := "NewsHampersModel"
def TX7 : u_T := fun k => match k with
  | 0 => ("NewsHampersModel", "many", "I", false)
  | 1 => ("NewsHampersModel", "kindOf", "[I", true)
  | 2 => ("NewsHampersModel", "miles", "[I", true)
  | 3 => ("NewsHampersModel", "news", "[I", true)
  | 4 => ("NewsHampersModel", "heavy", "[I", true)
  | 5 => ("NewsHampersModel", "day", "I", false)
  | 6 => ("NewsHampersModel", "stock", "I", false)
  | 7 => ("NewsHampersModel", "sentNow", "I", false)
  | 8 => ("NewsHampersModel", "refusals", "I", false)
  | 9 => ("NewsHampersModel", "way", "[I", true)
  | 10 => ("NewsHampersModel", "comes", "[I", true)
  | 11 => ("NewsHampersModel", "eats", "[I", true)
  | 12 => ("NewsHampersModel", "told", "[I", true)
  | 13 => ("NewsHampersModel", "soft", "[I", true)
  | 14 => ("NewsHampersModel", "had", "[I", true)
  | 15 => ("NewsHampersModel", "refused", "[I", true)
  | 16 => ("NewsHampersModel", "sent", "[I", true)
  | 17 => ("NewsHampersModel", "seenMany", "I", false)
  | 18 => ("NewsHampersModel", "seenBehind", "[I", true)
  | 19 => ("NewsHampersModel", "seenWho", "[I", true)
  | 20 => ("NewsHampersModel", "seenIs", "[I", true)
  | 21 => ("NewsHampersModel", "text", "[I", true)
  | 22 => ("NewsHampersModel", "size", "I", false)
  | 23 => ("NewsHampersModel", "readAt", "I", false)
  | 24 => ("NewsHampersModel", "readMany", "I", false)
  | 25 => ("NewsHampersModel", "readStock", "I", false)
  | 26 => ("NewsHampersModel", "read", "[I", true)
  | 27 => ("NewsHampersModel", "readNumber", "I", false)
  | 28 => ("NewsHampersModel", "ahead", "[I", true)
  | 29 => ("NewsHampersModel", "undoMany", "I", false)
  | 30 => ("NewsHampersModel", "aside", "[I", true)
  | 31 => ("NewsHampersModel", "rowMany", "I", false)
  | 32 => ("NewsHampersModel", "row", "[I", true)
  | 33 => ("NewsHampersModel", "bestRow", "[I", true)
  | 34 => ("NewsHampersModel", "kept", "[I", true)
  | _ => ("NewsHampersModel", "keptMany", "I", false)
def tyX7 : Nat → FieldType := fun k => match k with
  | 0 => .int
  | 1 => .array .int
  | 2 => .array .int
  | 3 => .array .int
  | 4 => .array .int
  | 5 => .int
  | 6 => .int
  | 7 => .int
  | 8 => .int
  | 9 => .array .int
  | 10 => .array .int
  | 11 => .array .int
  | 12 => .array .int
  | 13 => .array .int
  | 14 => .array .int
  | 15 => .array .int
  | 16 => .array .int
  | 17 => .int
  | 18 => .array .int
  | 19 => .array .int
  | 20 => .array .int
  | 21 => .array .int
  | 22 => .int
  | 23 => .int
  | 24 => .int
  | 25 => .int
  | 26 => .array .int
  | 27 => .int
  | 28 => .array .int
  | 29 => .int
  | 30 => .array .int
  | 31 => .int
  | 32 => .array .int
  | 33 => .array .int
  | 34 => .array .int
  | _ => .int
abbrev wsX70 : List Cond := u_ws RX7 TX7 36
theorem nmX7 : ∀ a, a < 36 → ∀ b, b < 36 → a ≠ b → (TX7 a).2.1 ≠ (TX7 b).2.1 := by decide +kernel
theorem tyX7_ok : ∀ k, k < 36 → parseFieldDescriptor (TX7 k).2.2.1 = some (tyX7 k) := by decide +kernel
abbrev cX7_in : ByteArray := prog_9_method_1_code
def yX7_in : MethodName := ⟨RX7, "in", "(III)Z"⟩
abbrev cX7_has : ByteArray := prog_9_method_2_code
def yX7_has : MethodName := ⟨RX7, "has", "(II)Z"⟩
abbrev cX7_bits : ByteArray := prog_9_method_3_code
def yX7_bits : MethodName := ⟨RX7, "bits", "(I)I"⟩
abbrev cX7_lesser : ByteArray := prog_9_method_4_code
def yX7_lesser : MethodName := ⟨RX7, "lesser", "(II)I"⟩
abbrev cX7_init : ByteArray := prog_9_method_5_code
def yX7_init : MethodName := ⟨RX7, "<init>", "()V"⟩
abbrev cX7_firstOne : ByteArray := prog_9_method_6_code
def yX7_firstOne : MethodName := ⟨RX7, "firstOne", "(IIII)V"⟩
abbrev cX7_begin : ByteArray := prog_9_method_7_code
def yX7_begin : MethodName := ⟨RX7, "begin", "(I)V"⟩
abbrev cX7_isOne : ByteArray := prog_9_method_8_code
def yX7_isOne : MethodName := ⟨RX7, "isOne", "(I)Z"⟩
abbrev cX7_write : ByteArray := prog_9_method_9_code
def yX7_write : MethodName := ⟨RX7, "write", "(I)I"⟩
abbrev cX7_wipe : ByteArray := prog_9_method_10_code
def yX7_wipe : MethodName := ⟨RX7, "wipe", "()I"⟩
abbrev cX7_here : ByteArray := prog_9_method_11_code
def yX7_here : MethodName := ⟨RX7, "here", "()I"⟩
abbrev cX7_isFigure : ByteArray := prog_9_method_12_code
def yX7_isFigure : MethodName := ⟨RX7, "isFigure", "()Z"⟩
abbrev cX7_number : ByteArray := prog_9_method_13_code
def yX7_number : MethodName := ⟨RX7, "number", "(III)Z"⟩
abbrev cX7_readsOne : ByteArray := prog_9_method_14_code
def yX7_readsOne : MethodName := ⟨RX7, "readsOne", "()Z"⟩
abbrev cX7_readsStock : ByteArray := prog_9_method_15_code
def yX7_readsStock : MethodName := ⟨RX7, "readsStock", "()Z"⟩
abbrev cX7_readsItem : ByteArray := prog_9_method_16_code
def yX7_readsItem : MethodName := ⟨RX7, "readsItem", "()Z"⟩
abbrev cX7_fault : ByteArray := prog_9_method_17_code
def yX7_fault : MethodName := ⟨RX7, "fault", "()I"⟩
abbrev cX7_lay : ByteArray := prog_9_method_18_code
def yX7_lay : MethodName := ⟨RX7, "lay", "()I"⟩
abbrev cX7_eatsBy : ByteArray := prog_9_method_19_code
def yX7_eatsBy : MethodName := ⟨RX7, "eatsBy", "(II)I"⟩
abbrev cX7_comesIn : ByteArray := prog_9_method_20_code
def yX7_comesIn : MethodName := ⟨RX7, "comesIn", "(I)V"⟩
abbrev cX7_passes : ByteArray := prog_9_method_21_code
def yX7_passes : MethodName := ⟨RX7, "passes", "(Z)I"⟩
abbrev cX7_goesOn : ByteArray := prog_9_method_22_code
def yX7_goesOn : MethodName := ⟨RX7, "goesOn", "(I)I"⟩
abbrev cX7_eatSet : ByteArray := prog_9_method_23_code
def yX7_eatSet : MethodName := ⟨RX7, "eatSet", "()I"⟩
abbrev cX7_toldSet : ByteArray := prog_9_method_24_code
def yX7_toldSet : MethodName := ⟨RX7, "toldSet", "()I"⟩
abbrev cX7_softSet : ByteArray := prog_9_method_25_code
def yX7_softSet : MethodName := ⟨RX7, "softSet", "()I"⟩
abbrev cX7_softWeight : ByteArray := prog_9_method_26_code
def yX7_softWeight : MethodName := ⟨RX7, "softWeight", "()I"⟩
abbrev cX7_personTells : ByteArray := prog_9_method_27_code
def yX7_personTells : MethodName := ⟨RX7, "personTells", "(II)I"⟩
abbrev cX7_person : ByteArray := prog_9_method_28_code
def yX7_person : MethodName := ⟨RX7, "person", "(II)I"⟩
abbrev cX7_lays : ByteArray := prog_9_method_29_code
def yX7_lays : MethodName := ⟨RX7, "lays", "([II)V"⟩
abbrev cX7_takes : ByteArray := prog_9_method_30_code
def yX7_takes : MethodName := ⟨RX7, "takes", "([II)V"⟩
abbrev cX7_notes : ByteArray := prog_9_method_31_code
def yX7_notes : MethodName := ⟨RX7, "notes", "()V"⟩
abbrev cX7_isOpen : ByteArray := prog_9_method_32_code
def yX7_isOpen : MethodName := ⟨RX7, "isOpen", "(I)Z"⟩
abbrev cX7_maySend : ByteArray := prog_9_method_33_code
def yX7_maySend : MethodName := ⟨RX7, "maySend", "(I)Z"⟩
abbrev cX7_goesOut : ByteArray := prog_9_method_34_code
def yX7_goesOut : MethodName := ⟨RX7, "goesOut", "(I)V"⟩
abbrev cX7_sends : ByteArray := prog_9_method_35_code
def yX7_sends : MethodName := ⟨RX7, "sends", "(I)V"⟩
abbrev cX7_calls : ByteArray := prog_9_method_36_code
def yX7_calls : MethodName := ⟨RX7, "calls", "(I)V"⟩
abbrev cX7_send : ByteArray := prog_9_method_37_code
def yX7_send : MethodName := ⟨RX7, "send", "(I)I"⟩
abbrev cX7_call : ByteArray := prog_9_method_38_code
def yX7_call : MethodName := ⟨RX7, "call", "(I)I"⟩
abbrev cX7_buy : ByteArray := prog_9_method_39_code
def yX7_buy : MethodName := ⟨RX7, "buy", "()I"⟩
abbrev cX7_pass : ByteArray := prog_9_method_40_code
def yX7_pass : MethodName := ⟨RX7, "pass", "(I)I"⟩
abbrev cX7_undo : ByteArray := prog_9_method_41_code
def yX7_undo : MethodName := ⟨RX7, "undo", "()I"⟩
abbrev cX7_start : ByteArray := prog_9_method_42_code
def yX7_start : MethodName := ⟨RX7, "start", "()V"⟩
abbrev cX7_putBack : ByteArray := prog_9_method_43_code
def yX7_putBack : MethodName := ⟨RX7, "putBack", "()V"⟩
abbrev cX7_behind : ByteArray := prog_9_method_44_code
def yX7_behind : MethodName := ⟨RX7, "behind", "(II)I"⟩
abbrev cX7_when : ByteArray := prog_9_method_45_code
def yX7_when : MethodName := ⟨RX7, "when", "(I)I"⟩
abbrev cX7_gentle : ByteArray := prog_9_method_46_code
def yX7_gentle : MethodName := ⟨RX7, "gentle", "()I"⟩
abbrev cX7_isSoftBy : ByteArray := prog_9_method_47_code
def yX7_isSoftBy : MethodName := ⟨RX7, "isSoftBy", "(II)Z"⟩
abbrev cX7_latest : ByteArray := prog_9_method_48_code
def yX7_latest : MethodName := ⟨RX7, "latest", "(I)I"⟩
abbrev cX7_firstRow : ByteArray := prog_9_method_49_code
def yX7_firstRow : MethodName := ⟨RX7, "firstRow", "()V"⟩
abbrev cX7_nextRow : ByteArray := prog_9_method_50_code
def yX7_nextRow : MethodName := ⟨RX7, "nextRow", "()Z"⟩
abbrev cX7_gentleBy : ByteArray := prog_9_method_51_code
def yX7_gentleBy : MethodName := ⟨RX7, "gentleBy", "(I)I"⟩
abbrev cX7_mostBy : ByteArray := prog_9_method_52_code
def yX7_mostBy : MethodName := ⟨RX7, "mostBy", "(I)I"⟩
abbrev cX7_order : ByteArray := prog_9_method_53_code
def yX7_order : MethodName := ⟨RX7, "order", "(I)I"⟩
abbrev cX7_need : ByteArray := prog_9_method_54_code
def yX7_need : MethodName := ⟨RX7, "need", "()I"⟩
abbrev cX7_seen : ByteArray := prog_9_method_55_code
def yX7_seen : MethodName := ⟨RX7, "seen", "(III)I"⟩
abbrev cX7_forget : ByteArray := prog_9_method_56_code
def yX7_forget : MethodName := ⟨RX7, "forget", "()I"⟩
abbrev cX7_isSo : ByteArray := prog_9_method_57_code
def yX7_isSo : MethodName := ⟨RX7, "isSo", "()Z"⟩
abbrev cX7_kinds : ByteArray := prog_9_method_58_code
def yX7_kinds : MethodName := ⟨RX7, "kinds", "(I)I"⟩
abbrev cX7_days : ByteArray := prog_9_method_59_code
def yX7_days : MethodName := ⟨RX7, "days", "(II)I"⟩
abbrev cX7_common : ByteArray := prog_9_method_60_code
def yX7_common : MethodName := ⟨RX7, "common", "(JJ)J"⟩
abbrev cX7_likely : ByteArray := prog_9_method_61_code
def yX7_likely : MethodName := ⟨RX7, "likely", "(IIII)I"⟩
abbrev cX7_year : ByteArray := prog_9_method_62_code
def yX7_year : MethodName := ⟨RX7, "year", "(III)I"⟩
abbrev cX7_keep : ByteArray := prog_9_method_63_code
def yX7_keep : MethodName := ⟨RX7, "keep", "()I"⟩
abbrev cX7_back : ByteArray := prog_9_method_64_code
def yX7_back : MethodName := ⟨RX7, "back", "()I"⟩
abbrev cX7_sumOf : ByteArray := prog_9_method_65_code
def yX7_sumOf : MethodName := ⟨RX7, "sumOf", "([I)I"⟩
abbrev cX7_count : ByteArray := prog_9_method_66_code
def yX7_count : MethodName := ⟨RX7, "count", "(I)I"⟩
def RJ6 : String := "java/lang/Integer"
def TJ6 : u_T := fun k => match k with
  | _ => ("", "", "", false)
def tyJ6 : Nat → FieldType := fun k => match k with
  | _ => .int
abbrev wsJ60 : List Cond := u_ws RJ6 TJ6 0
theorem nmJ6 : ∀ a, a < 0 → ∀ b, b < 0 → a ≠ b → (TJ6 a).2.1 ≠ (TJ6 b).2.1 := by decide +kernel
theorem tyJ6_ok : ∀ k, k < 0 → parseFieldDescriptor (TJ6 k).2.2.1 = some (tyJ6 k) := by decide +kernel
abbrev cJ6_bitCount_0f7a4 : ByteArray := prog_10_method_49_code
def yJ6_bitCount_0f7a4 : MethodName := ⟨RJ6, "bitCount", "(I)I"⟩
def RJ9 : String := "java/lang/Math"
def TJ9 : u_T := fun k => match k with
  | _ => ("", "", "", false)
def tyJ9 : Nat → FieldType := fun k => match k with
  | _ => .int
abbrev wsJ90 : List Cond := u_ws RJ9 TJ9 0
theorem nmJ9 : ∀ a, a < 0 → ∀ b, b < 0 → a ≠ b → (TJ9 a).2.1 ≠ (TJ9 b).2.1 := by decide +kernel
theorem tyJ9_ok : ∀ k, k < 0 → parseFieldDescriptor (TJ9 k).2.2.1 = some (tyJ9 k) := by decide +kernel
abbrev cJ9_max_7cf53 : ByteArray := prog_11_method_65_code
def yJ9_max_7cf53 : MethodName := ⟨RJ9, "max", "(II)I"⟩
abbrev cJ9_min_7cf53 : ByteArray := prog_11_method_69_code
def yJ9_min_7cf53 : MethodName := ⟨RJ9, "min", "(II)I"⟩
def RJ0 : String := "java/lang/String"
def TJ0 : u_T := fun k => match k with
  | _ => ("", "", "", false)
def tyJ0 : Nat → FieldType := fun k => match k with
  | _ => .int
abbrev wsJ00 : List Cond := u_ws RJ0 TJ0 0
theorem nmJ0 : ∀ a, a < 0 → ∀ b, b < 0 → a ≠ b → (TJ0 a).2.1 ≠ (TJ0 b).2.1 := by decide +kernel
theorem tyJ0_ok : ∀ k, k < 0 → parseFieldDescriptor (TJ0 k).2.2.1 = some (tyJ0 k) := by decide +kernel
abbrev cJ0_length_8abf5 : ByteArray := prog_12_method_54_code
def yJ0_length_8abf5 : MethodName := ⟨RJ0, "length", "()I"⟩
abbrev cJ0_charAt_5068e : ByteArray := prog_12_method_56_code
def yJ0_charAt_5068e : MethodName := ⟨RJ0, "charAt", "(I)C"⟩
abbrev cJ0_coder_7d493 : ByteArray := prog_12_method_152_code
def yJ0_coder_7d493 : MethodName := ⟨RJ0, "coder", "()B"⟩
abbrev cJ0_isLatin1_aae02 : ByteArray := prog_12_method_154_code
def yJ0_isLatin1_aae02 : MethodName := ⟨RJ0, "isLatin1", "()Z"⟩
abbrev cJ0_checkIndex_df160 : ByteArray := prog_12_method_155_code
def yJ0_checkIndex_df160 : MethodName := ⟨RJ0, "checkIndex", "(II)V"⟩
def RJ1 : String := "java/lang/StringLatin1"
def TJ1 : u_T := fun k => match k with
  | _ => ("", "", "", false)
def tyJ1 : Nat → FieldType := fun k => match k with
  | _ => .int
abbrev wsJ10 : List Cond := u_ws RJ1 TJ1 0
theorem nmJ1 : ∀ a, a < 0 → ∀ b, b < 0 → a ≠ b → (TJ1 a).2.1 ≠ (TJ1 b).2.1 := by decide +kernel
theorem tyJ1_ok : ∀ k, k < 0 → parseFieldDescriptor (TJ1 k).2.2.1 = some (tyJ1 k) := by decide +kernel
abbrev cJ1_charAt_3b067 : ByteArray := prog_13_method_2_code
def yJ1_charAt_3b067 : MethodName := ⟨RJ1, "charAt", "([BI)C"⟩
def RJ2 : String := "java/lang/StringUTF16"
def TJ2 : u_T := fun k => match k with
  | _ => ("", "", "", false)
def tyJ2 : Nat → FieldType := fun k => match k with
  | _ => .int
abbrev wsJ20 : List Cond := u_ws RJ2 TJ2 0
theorem nmJ2 : ∀ a, a < 0 → ∀ b, b < 0 → a ≠ b → (TJ2 a).2.1 ≠ (TJ2 b).2.1 := by decide +kernel
theorem tyJ2_ok : ∀ k, k < 0 → parseFieldDescriptor (TJ2 k).2.2.1 = some (tyJ2 k) := by decide +kernel
abbrev cJ2_getChar_3b067 : ByteArray := prog_14_method_5_code
def yJ2_getChar_3b067 : MethodName := ⟨RJ2, "getChar", "([BI)C"⟩
abbrev cJ2_length_9d52b : ByteArray := prog_14_method_6_code
def yJ2_length_9d52b : MethodName := ⟨RJ2, "length", "([B)I"⟩
abbrev cJ2_charAt_3b067 : ByteArray := prog_14_method_83_code
def yJ2_charAt_3b067 : MethodName := ⟨RJ2, "charAt", "([BI)C"⟩
abbrev cJ2_checkIndex_2214a : ByteArray := prog_14_method_91_code
def yJ2_checkIndex_2214a : MethodName := ⟨RJ2, "checkIndex", "(I[B)V"⟩
def RJ10 : String := "java/lang/System"
def TJ10 : u_T := fun k => match k with
  | _ => ("", "", "", false)
def tyJ10 : Nat → FieldType := fun k => match k with
  | _ => .int
abbrev wsJ100 : List Cond := u_ws RJ10 TJ10 0
theorem nmJ10 : ∀ a, a < 0 → ∀ b, b < 0 → a ≠ b → (TJ10 a).2.1 ≠ (TJ10 b).2.1 := by decide +kernel
theorem tyJ10_ok : ∀ k, k < 0 → parseFieldDescriptor (TJ10 k).2.2.1 = some (tyJ10 k) := by decide +kernel
def RJ3 : String := "jdk/internal/util/Preconditions"
def TJ3 : u_T := fun k => match k with
  | _ => ("", "", "", false)
def tyJ3 : Nat → FieldType := fun k => match k with
  | _ => .int
abbrev wsJ30 : List Cond := u_ws RJ3 TJ3 0
theorem nmJ3 : ∀ a, a < 0 → ∀ b, b < 0 → a ≠ b → (TJ3 a).2.1 ≠ (TJ3 b).2.1 := by decide +kernel
theorem tyJ3_ok : ∀ k, k < 0 → parseFieldDescriptor (TJ3 k).2.2.1 = some (tyJ3 k) := by decide +kernel
abbrev cJ3_checkIndex_8e157 : ByteArray := prog_16_method_11_code
def yJ3_checkIndex_8e157 : MethodName := ⟨RJ3, "checkIndex", "(IILjava/util/function/BiFunction;)I"⟩
def RL : String := "NewsHampersLaw"
abbrev cL_law : ByteArray := code
def yL_law : MethodName := ⟨RL, "law", "([I)Z"⟩
end
section
theorem dX0_init_0 : decode cX0_init 0 = .ok (.aload_n 0, 1) := by decide +kernel
theorem dX0_init_1 : decode cX0_init 1 = .ok (.invokespecial 3, 3) := by decide +kernel
theorem dX0_init_4 : decode cX0_init 4 = .ok (.aload_n 0, 1) := by decide +kernel
theorem dX0_init_5 : decode cX0_init 5 = .ok (.bipush 6, 2) := by decide +kernel
theorem dX0_init_7 : decode cX0_init 7 = .ok (.newarray .int, 2) := by decide +kernel
theorem dX0_init_9 : decode cX0_init 9 = .ok (.putfield 9, 3) := by decide +kernel
theorem dX0_init_12 : decode cX0_init 12 = .ok (.aload_n 0, 1) := by decide +kernel
theorem dX0_init_13 : decode cX0_init 13 = .ok (.bipush 6, 2) := by decide +kernel
theorem dX0_init_15 : decode cX0_init 15 = .ok (.newarray .int, 2) := by decide +kernel
theorem dX0_init_17 : decode cX0_init 17 = .ok (.putfield 15, 3) := by decide +kernel
theorem dX0_init_20 : decode cX0_init 20 = .ok (.aload_n 0, 1) := by decide +kernel
theorem dX0_init_21 : decode cX0_init 21 = .ok (.bipush 6, 2) := by decide +kernel
theorem dX0_init_23 : decode cX0_init 23 = .ok (.newarray .int, 2) := by decide +kernel
theorem dX0_init_25 : decode cX0_init 25 = .ok (.putfield 18, 3) := by decide +kernel
theorem dX0_init_28 : decode cX0_init 28 = .ok (.aload_n 0, 1) := by decide +kernel
theorem dX0_init_29 : decode cX0_init 29 = .ok (.bipush 6, 2) := by decide +kernel
theorem dX0_init_31 : decode cX0_init 31 = .ok (.newarray .int, 2) := by decide +kernel
theorem dX0_init_33 : decode cX0_init 33 = .ok (.putfield 21, 3) := by decide +kernel
theorem dX0_init_36 : decode cX0_init 36 = .ok (.aload_n 0, 1) := by decide +kernel
theorem dX0_init_37 : decode cX0_init 37 = .ok (.iconst 0, 1) := by decide +kernel
theorem dX0_init_38 : decode cX0_init 38 = .ok (.putfield 24, 3) := by decide +kernel
theorem dX0_init_41 : decode cX0_init 41 = .ok (.aload_n 0, 1) := by decide +kernel
theorem dX0_init_42 : decode cX0_init 42 = .ok (.iconst 0, 1) := by decide +kernel
theorem dX0_init_43 : decode cX0_init 43 = .ok (.putfield 28, 3) := by decide +kernel
theorem dX0_init_46 : decode cX0_init 46 = .ok (.aload_n 0, 1) := by decide +kernel
theorem dX0_init_47 : decode cX0_init 47 = .ok (.iconst 0, 1) := by decide +kernel
theorem dX0_init_48 : decode cX0_init 48 = .ok (.putfield 31, 3) := by decide +kernel
theorem dX0_init_51 : decode cX0_init 51 = .ok (.aload_n 0, 1) := by decide +kernel
theorem dX0_init_52 : decode cX0_init 52 = .ok (.iconst 0, 1) := by decide +kernel
theorem dX0_init_53 : decode cX0_init 53 = .ok (.putfield 34, 3) := by decide +kernel
theorem dX0_init_56 : decode cX0_init 56 = .ok (.aload_n 0, 1) := by decide +kernel
theorem dX0_init_57 : decode cX0_init 57 = .ok (.iconst 0, 1) := by decide +kernel
theorem dX0_init_58 : decode cX0_init 58 = .ok (.putfield 37, 3) := by decide +kernel
theorem dX0_init_61 : decode cX0_init 61 = .ok (.aload_n 0, 1) := by decide +kernel
theorem dX0_init_62 : decode cX0_init 62 = .ok (.iconst 0, 1) := by decide +kernel
theorem dX0_init_63 : decode cX0_init 63 = .ok (.putfield 40, 3) := by decide +kernel
theorem dX0_init_66 : decode cX0_init 66 = .ok (.aload_n 0, 1) := by decide +kernel
theorem dX0_init_67 : decode cX0_init 67 = .ok (.iconst 0, 1) := by decide +kernel
theorem dX0_init_68 : decode cX0_init 68 = .ok (.putfield 43, 3) := by decide +kernel
theorem dX0_init_71 : decode cX0_init 71 = .ok (.aload_n 0, 1) := by decide +kernel
theorem dX0_init_72 : decode cX0_init 72 = .ok (.aload_n 1, 1) := by decide +kernel
theorem dX0_init_73 : decode cX0_init 73 = .ok (.putfield 47, 3) := by decide +kernel
theorem dX0_init_76 : decode cX0_init 76 = .ok (.return_, 1) := by decide +kernel
theorem dX0_start_0 : decode cX0_start 0 = .ok (.iconst 0, 1) := by decide +kernel
theorem dX0_start_1 : decode cX0_start 1 = .ok (.istore_n 1, 1) := by decide +kernel
theorem dX0_start_2 : decode cX0_start 2 = .ok (.iload_n 1, 1) := by decide +kernel
theorem dX0_start_3 : decode cX0_start 3 = .ok (.bipush 6, 2) := by decide +kernel
theorem dX0_start_5 : decode cX0_start 5 = .ok (.if_icmp .ge 39, 3) := by decide +kernel
theorem dX0_start_8 : decode cX0_start 8 = .ok (.aload_n 0, 1) := by decide +kernel
theorem dX0_start_9 : decode cX0_start 9 = .ok (.getfield 9, 3) := by decide +kernel
theorem dX0_start_12 : decode cX0_start 12 = .ok (.iload_n 1, 1) := by decide +kernel
theorem dX0_start_13 : decode cX0_start 13 = .ok (.iconst 0, 1) := by decide +kernel
theorem dX0_start_14 : decode cX0_start 14 = .ok (.iastore, 1) := by decide +kernel
theorem dX0_start_15 : decode cX0_start 15 = .ok (.aload_n 0, 1) := by decide +kernel
theorem dX0_start_16 : decode cX0_start 16 = .ok (.getfield 15, 3) := by decide +kernel
theorem dX0_start_19 : decode cX0_start 19 = .ok (.iload_n 1, 1) := by decide +kernel
theorem dX0_start_20 : decode cX0_start 20 = .ok (.bipush (-4), 2) := by decide +kernel
theorem dX0_start_22 : decode cX0_start 22 = .ok (.iastore, 1) := by decide +kernel
theorem dX0_start_23 : decode cX0_start 23 = .ok (.aload_n 0, 1) := by decide +kernel
theorem dX0_start_24 : decode cX0_start 24 = .ok (.getfield 18, 3) := by decide +kernel
theorem dX0_start_27 : decode cX0_start 27 = .ok (.iload_n 1, 1) := by decide +kernel
theorem dX0_start_28 : decode cX0_start 28 = .ok (.iconst 0, 1) := by decide +kernel
theorem dX0_start_29 : decode cX0_start 29 = .ok (.iastore, 1) := by decide +kernel
theorem dX0_start_30 : decode cX0_start 30 = .ok (.aload_n 0, 1) := by decide +kernel
theorem dX0_start_31 : decode cX0_start 31 = .ok (.getfield 21, 3) := by decide +kernel
theorem dX0_start_34 : decode cX0_start 34 = .ok (.iload_n 1, 1) := by decide +kernel
theorem dX0_start_35 : decode cX0_start 35 = .ok (.bipush (-4), 2) := by decide +kernel
theorem dX0_start_37 : decode cX0_start 37 = .ok (.iastore, 1) := by decide +kernel
theorem dX0_start_38 : decode cX0_start 38 = .ok (.iinc 1 1, 3) := by decide +kernel
theorem dX0_start_41 : decode cX0_start 41 = .ok (.goto (-39), 3) := by decide +kernel
theorem dX0_start_44 : decode cX0_start 44 = .ok (.aload_n 0, 1) := by decide +kernel
theorem dX0_start_45 : decode cX0_start 45 = .ok (.iconst 0, 1) := by decide +kernel
theorem dX0_start_46 : decode cX0_start 46 = .ok (.putfield 24, 3) := by decide +kernel
theorem dX0_start_49 : decode cX0_start 49 = .ok (.aload_n 0, 1) := by decide +kernel
theorem dX0_start_50 : decode cX0_start 50 = .ok (.iconst 0, 1) := by decide +kernel
theorem dX0_start_51 : decode cX0_start 51 = .ok (.putfield 28, 3) := by decide +kernel
theorem dX0_start_54 : decode cX0_start 54 = .ok (.aload_n 0, 1) := by decide +kernel
theorem dX0_start_55 : decode cX0_start 55 = .ok (.iconst 0, 1) := by decide +kernel
theorem dX0_start_56 : decode cX0_start 56 = .ok (.putfield 31, 3) := by decide +kernel
theorem dX0_start_59 : decode cX0_start 59 = .ok (.aload_n 0, 1) := by decide +kernel
theorem dX0_start_60 : decode cX0_start 60 = .ok (.iconst 0, 1) := by decide +kernel
theorem dX0_start_61 : decode cX0_start 61 = .ok (.putfield 34, 3) := by decide +kernel
theorem dX0_start_64 : decode cX0_start 64 = .ok (.aload_n 0, 1) := by decide +kernel
theorem dX0_start_65 : decode cX0_start 65 = .ok (.aload_n 0, 1) := by decide +kernel
theorem dX0_start_66 : decode cX0_start 66 = .ok (.getfield 47, 3) := by decide +kernel
theorem dX0_start_69 : decode cX0_start 69 = .ok (.getfield 51, 3) := by decide +kernel
theorem dX0_start_72 : decode cX0_start 72 = .ok (.putfield 37, 3) := by decide +kernel
theorem dX0_start_75 : decode cX0_start 75 = .ok (.aload_n 0, 1) := by decide +kernel
theorem dX0_start_76 : decode cX0_start 76 = .ok (.iconst 0, 1) := by decide +kernel
theorem dX0_start_77 : decode cX0_start 77 = .ok (.putfield 40, 3) := by decide +kernel
theorem dX0_start_80 : decode cX0_start 80 = .ok (.aload_n 0, 1) := by decide +kernel
theorem dX0_start_81 : decode cX0_start 81 = .ok (.iconst 0, 1) := by decide +kernel
theorem dX0_start_82 : decode cX0_start 82 = .ok (.putfield 43, 3) := by decide +kernel
theorem dX0_start_85 : decode cX0_start 85 = .ok (.return_, 1) := by decide +kernel
theorem dX0_copyFrom_0 : decode cX0_copyFrom 0 = .ok (.aload_n 1, 1) := by decide +kernel
theorem dX0_copyFrom_1 : decode cX0_copyFrom 1 = .ok (.getfield 9, 3) := by decide +kernel
theorem dX0_copyFrom_4 : decode cX0_copyFrom 4 = .ok (.iconst 0, 1) := by decide +kernel
theorem dX0_copyFrom_5 : decode cX0_copyFrom 5 = .ok (.aload_n 0, 1) := by decide +kernel
theorem dX0_copyFrom_6 : decode cX0_copyFrom 6 = .ok (.getfield 9, 3) := by decide +kernel
theorem dX0_copyFrom_9 : decode cX0_copyFrom 9 = .ok (.iconst 0, 1) := by decide +kernel
theorem dX0_copyFrom_10 : decode cX0_copyFrom 10 = .ok (.bipush 6, 2) := by decide +kernel
theorem dX0_copyFrom_12 : decode cX0_copyFrom 12 = .ok (.invokestatic 54, 3) := by decide +kernel
theorem dX0_copyFrom_15 : decode cX0_copyFrom 15 = .ok (.aload_n 1, 1) := by decide +kernel
theorem dX0_copyFrom_16 : decode cX0_copyFrom 16 = .ok (.getfield 15, 3) := by decide +kernel
theorem dX0_copyFrom_19 : decode cX0_copyFrom 19 = .ok (.iconst 0, 1) := by decide +kernel
theorem dX0_copyFrom_20 : decode cX0_copyFrom 20 = .ok (.aload_n 0, 1) := by decide +kernel
theorem dX0_copyFrom_21 : decode cX0_copyFrom 21 = .ok (.getfield 15, 3) := by decide +kernel
theorem dX0_copyFrom_24 : decode cX0_copyFrom 24 = .ok (.iconst 0, 1) := by decide +kernel
theorem dX0_copyFrom_25 : decode cX0_copyFrom 25 = .ok (.bipush 6, 2) := by decide +kernel
theorem dX0_copyFrom_27 : decode cX0_copyFrom 27 = .ok (.invokestatic 54, 3) := by decide +kernel
theorem dX0_copyFrom_30 : decode cX0_copyFrom 30 = .ok (.aload_n 1, 1) := by decide +kernel
theorem dX0_copyFrom_31 : decode cX0_copyFrom 31 = .ok (.getfield 18, 3) := by decide +kernel
theorem dX0_copyFrom_34 : decode cX0_copyFrom 34 = .ok (.iconst 0, 1) := by decide +kernel
theorem dX0_copyFrom_35 : decode cX0_copyFrom 35 = .ok (.aload_n 0, 1) := by decide +kernel
theorem dX0_copyFrom_36 : decode cX0_copyFrom 36 = .ok (.getfield 18, 3) := by decide +kernel
theorem dX0_copyFrom_39 : decode cX0_copyFrom 39 = .ok (.iconst 0, 1) := by decide +kernel
theorem dX0_copyFrom_40 : decode cX0_copyFrom 40 = .ok (.bipush 6, 2) := by decide +kernel
theorem dX0_copyFrom_42 : decode cX0_copyFrom 42 = .ok (.invokestatic 54, 3) := by decide +kernel
theorem dX0_copyFrom_45 : decode cX0_copyFrom 45 = .ok (.aload_n 1, 1) := by decide +kernel
theorem dX0_copyFrom_46 : decode cX0_copyFrom 46 = .ok (.getfield 21, 3) := by decide +kernel
theorem dX0_copyFrom_49 : decode cX0_copyFrom 49 = .ok (.iconst 0, 1) := by decide +kernel
theorem dX0_copyFrom_50 : decode cX0_copyFrom 50 = .ok (.aload_n 0, 1) := by decide +kernel
theorem dX0_copyFrom_51 : decode cX0_copyFrom 51 = .ok (.getfield 21, 3) := by decide +kernel
theorem dX0_copyFrom_54 : decode cX0_copyFrom 54 = .ok (.iconst 0, 1) := by decide +kernel
theorem dX0_copyFrom_55 : decode cX0_copyFrom 55 = .ok (.bipush 6, 2) := by decide +kernel
theorem dX0_copyFrom_57 : decode cX0_copyFrom 57 = .ok (.invokestatic 54, 3) := by decide +kernel
theorem dX0_copyFrom_60 : decode cX0_copyFrom 60 = .ok (.aload_n 0, 1) := by decide +kernel
theorem dX0_copyFrom_61 : decode cX0_copyFrom 61 = .ok (.aload_n 1, 1) := by decide +kernel
theorem dX0_copyFrom_62 : decode cX0_copyFrom 62 = .ok (.getfield 24, 3) := by decide +kernel
theorem dX0_copyFrom_65 : decode cX0_copyFrom 65 = .ok (.putfield 24, 3) := by decide +kernel
theorem dX0_copyFrom_68 : decode cX0_copyFrom 68 = .ok (.aload_n 0, 1) := by decide +kernel
theorem dX0_copyFrom_69 : decode cX0_copyFrom 69 = .ok (.aload_n 1, 1) := by decide +kernel
theorem dX0_copyFrom_70 : decode cX0_copyFrom 70 = .ok (.getfield 28, 3) := by decide +kernel
theorem dX0_copyFrom_73 : decode cX0_copyFrom 73 = .ok (.putfield 28, 3) := by decide +kernel
theorem dX0_copyFrom_76 : decode cX0_copyFrom 76 = .ok (.aload_n 0, 1) := by decide +kernel
theorem dX0_copyFrom_77 : decode cX0_copyFrom 77 = .ok (.aload_n 1, 1) := by decide +kernel
theorem dX0_copyFrom_78 : decode cX0_copyFrom 78 = .ok (.getfield 31, 3) := by decide +kernel
theorem dX0_copyFrom_81 : decode cX0_copyFrom 81 = .ok (.putfield 31, 3) := by decide +kernel
theorem dX0_copyFrom_84 : decode cX0_copyFrom 84 = .ok (.aload_n 0, 1) := by decide +kernel
theorem dX0_copyFrom_85 : decode cX0_copyFrom 85 = .ok (.aload_n 1, 1) := by decide +kernel
theorem dX0_copyFrom_86 : decode cX0_copyFrom 86 = .ok (.getfield 34, 3) := by decide +kernel
theorem dX0_copyFrom_89 : decode cX0_copyFrom 89 = .ok (.putfield 34, 3) := by decide +kernel
theorem dX0_copyFrom_92 : decode cX0_copyFrom 92 = .ok (.aload_n 0, 1) := by decide +kernel
theorem dX0_copyFrom_93 : decode cX0_copyFrom 93 = .ok (.aload_n 1, 1) := by decide +kernel
theorem dX0_copyFrom_94 : decode cX0_copyFrom 94 = .ok (.getfield 37, 3) := by decide +kernel
theorem dX0_copyFrom_97 : decode cX0_copyFrom 97 = .ok (.putfield 37, 3) := by decide +kernel
theorem dX0_copyFrom_100 : decode cX0_copyFrom 100 = .ok (.aload_n 0, 1) := by decide +kernel
theorem dX0_copyFrom_101 : decode cX0_copyFrom 101 = .ok (.aload_n 1, 1) := by decide +kernel
theorem dX0_copyFrom_102 : decode cX0_copyFrom 102 = .ok (.getfield 40, 3) := by decide +kernel
theorem dX0_copyFrom_105 : decode cX0_copyFrom 105 = .ok (.putfield 40, 3) := by decide +kernel
theorem dX0_copyFrom_108 : decode cX0_copyFrom 108 = .ok (.aload_n 0, 1) := by decide +kernel
theorem dX0_copyFrom_109 : decode cX0_copyFrom 109 = .ok (.aload_n 1, 1) := by decide +kernel
theorem dX0_copyFrom_110 : decode cX0_copyFrom 110 = .ok (.getfield 43, 3) := by decide +kernel
theorem dX0_copyFrom_113 : decode cX0_copyFrom 113 = .ok (.putfield 43, 3) := by decide +kernel
theorem dX0_copyFrom_116 : decode cX0_copyFrom 116 = .ok (.return_, 1) := by decide +kernel
theorem dX0_isTold_0 : decode cX0_isTold 0 = .ok (.aload_n 0, 1) := by decide +kernel
theorem dX0_isTold_1 : decode cX0_isTold 1 = .ok (.getfield 21, 3) := by decide +kernel
theorem dX0_isTold_4 : decode cX0_isTold 4 = .ok (.iload_n 1, 1) := by decide +kernel
theorem dX0_isTold_5 : decode cX0_isTold 5 = .ok (.iaload, 1) := by decide +kernel
theorem dX0_isTold_6 : decode cX0_isTold 6 = .ok (.ifCond .lt 7, 3) := by decide +kernel
theorem dX0_isTold_9 : decode cX0_isTold 9 = .ok (.iconst 1, 1) := by decide +kernel
theorem dX0_isTold_10 : decode cX0_isTold 10 = .ok (.goto 4, 3) := by decide +kernel
theorem dX0_isTold_13 : decode cX0_isTold 13 = .ok (.iconst 0, 1) := by decide +kernel
theorem dX0_isTold_14 : decode cX0_isTold 14 = .ok (.ireturn, 1) := by decide +kernel
theorem dX0_canBeSentOne_0 : decode cX0_canBeSentOne 0 = .ok (.aload_n 0, 1) := by decide +kernel
theorem dX0_canBeSentOne_1 : decode cX0_canBeSentOne 1 = .ok (.getfield 9, 3) := by decide +kernel
theorem dX0_canBeSentOne_4 : decode cX0_canBeSentOne 4 = .ok (.iload_n 1, 1) := by decide +kernel
theorem dX0_canBeSentOne_5 : decode cX0_canBeSentOne 5 = .ok (.iaload, 1) := by decide +kernel
theorem dX0_canBeSentOne_6 : decode cX0_canBeSentOne 6 = .ok (.ifCond .ne 26, 3) := by decide +kernel
theorem dX0_canBeSentOne_9 : decode cX0_canBeSentOne 9 = .ok (.aload_n 0, 1) := by decide +kernel
theorem dX0_canBeSentOne_10 : decode cX0_canBeSentOne 10 = .ok (.getfield 24, 3) := by decide +kernel
theorem dX0_canBeSentOne_13 : decode cX0_canBeSentOne 13 = .ok (.iload_n 1, 1) := by decide +kernel
theorem dX0_canBeSentOne_14 : decode cX0_canBeSentOne 14 = .ok (.invokestatic 60, 3) := by decide +kernel
theorem dX0_canBeSentOne_17 : decode cX0_canBeSentOne 17 = .ok (.ifCond .ne 15, 3) := by decide +kernel
theorem dX0_canBeSentOne_20 : decode cX0_canBeSentOne 20 = .ok (.aload_n 0, 1) := by decide +kernel
theorem dX0_canBeSentOne_21 : decode cX0_canBeSentOne 21 = .ok (.iload_n 1, 1) := by decide +kernel
theorem dX0_canBeSentOne_22 : decode cX0_canBeSentOne 22 = .ok (.invokevirtual 64, 3) := by decide +kernel
theorem dX0_canBeSentOne_25 : decode cX0_canBeSentOne 25 = .ok (.ifCond .ne 7, 3) := by decide +kernel
theorem dX0_canBeSentOne_28 : decode cX0_canBeSentOne 28 = .ok (.iconst 1, 1) := by decide +kernel
theorem dX0_canBeSentOne_29 : decode cX0_canBeSentOne 29 = .ok (.goto 4, 3) := by decide +kernel
theorem dX0_canBeSentOne_32 : decode cX0_canBeSentOne 32 = .ok (.iconst 0, 1) := by decide +kernel
theorem dX0_canBeSentOne_33 : decode cX0_canBeSentOne 33 = .ok (.ireturn, 1) := by decide +kernel
theorem dX0_canSendNow_0 : decode cX0_canSendNow 0 = .ok (.aload_n 0, 1) := by decide +kernel
theorem dX0_canSendNow_1 : decode cX0_canSendNow 1 = .ok (.iload_n 1, 1) := by decide +kernel
theorem dX0_canSendNow_2 : decode cX0_canSendNow 2 = .ok (.invokevirtual 68, 3) := by decide +kernel
theorem dX0_canSendNow_5 : decode cX0_canSendNow 5 = .ok (.ifCond .eq 21, 3) := by decide +kernel
theorem dX0_canSendNow_8 : decode cX0_canSendNow 8 = .ok (.aload_n 0, 1) := by decide +kernel
theorem dX0_canSendNow_9 : decode cX0_canSendNow 9 = .ok (.getfield 37, 3) := by decide +kernel
theorem dX0_canSendNow_12 : decode cX0_canSendNow 12 = .ok (.ifCond .le 14, 3) := by decide +kernel
theorem dX0_canSendNow_15 : decode cX0_canSendNow 15 = .ok (.aload_n 0, 1) := by decide +kernel
theorem dX0_canSendNow_16 : decode cX0_canSendNow 16 = .ok (.getfield 43, 3) := by decide +kernel
theorem dX0_canSendNow_19 : decode cX0_canSendNow 19 = .ok (.ifCond .ne 7, 3) := by decide +kernel
theorem dX0_canSendNow_22 : decode cX0_canSendNow 22 = .ok (.iconst 1, 1) := by decide +kernel
theorem dX0_canSendNow_23 : decode cX0_canSendNow 23 = .ok (.goto 4, 3) := by decide +kernel
theorem dX0_canSendNow_26 : decode cX0_canSendNow 26 = .ok (.iconst 0, 1) := by decide +kernel
theorem dX0_canSendNow_27 : decode cX0_canSendNow 27 = .ok (.ireturn, 1) := by decide +kernel
theorem dX0_dispatch_0 : decode cX0_dispatch 0 = .ok (.aload_n 0, 1) := by decide +kernel
theorem dX0_dispatch_1 : decode cX0_dispatch 1 = .ok (.dup, 1) := by decide +kernel
theorem dX0_dispatch_2 : decode cX0_dispatch 2 = .ok (.getfield 37, 3) := by decide +kernel
theorem dX0_dispatch_5 : decode cX0_dispatch 5 = .ok (.iconst 1, 1) := by decide +kernel
theorem dX0_dispatch_6 : decode cX0_dispatch 6 = .ok (.isub, 1) := by decide +kernel
theorem dX0_dispatch_7 : decode cX0_dispatch 7 = .ok (.putfield 37, 3) := by decide +kernel
theorem dX0_dispatch_10 : decode cX0_dispatch 10 = .ok (.aload_n 0, 1) := by decide +kernel
theorem dX0_dispatch_11 : decode cX0_dispatch 11 = .ok (.iconst 1, 1) := by decide +kernel
theorem dX0_dispatch_12 : decode cX0_dispatch 12 = .ok (.putfield 43, 3) := by decide +kernel
theorem dX0_dispatch_15 : decode cX0_dispatch 15 = .ok (.aload_n 0, 1) := by decide +kernel
theorem dX0_dispatch_16 : decode cX0_dispatch 16 = .ok (.getfield 9, 3) := by decide +kernel
theorem dX0_dispatch_19 : decode cX0_dispatch 19 = .ok (.iload_n 1, 1) := by decide +kernel
theorem dX0_dispatch_20 : decode cX0_dispatch 20 = .ok (.iconst 1, 1) := by decide +kernel
theorem dX0_dispatch_21 : decode cX0_dispatch 21 = .ok (.iastore, 1) := by decide +kernel
theorem dX0_dispatch_22 : decode cX0_dispatch 22 = .ok (.aload_n 0, 1) := by decide +kernel
theorem dX0_dispatch_23 : decode cX0_dispatch 23 = .ok (.getfield 15, 3) := by decide +kernel
theorem dX0_dispatch_26 : decode cX0_dispatch 26 = .ok (.iload_n 1, 1) := by decide +kernel
theorem dX0_dispatch_27 : decode cX0_dispatch 27 = .ok (.aload_n 0, 1) := by decide +kernel
theorem dX0_dispatch_28 : decode cX0_dispatch 28 = .ok (.getfield 40, 3) := by decide +kernel
theorem dX0_dispatch_31 : decode cX0_dispatch 31 = .ok (.aload_n 0, 1) := by decide +kernel
theorem dX0_dispatch_32 : decode cX0_dispatch 32 = .ok (.iload_n 1, 1) := by decide +kernel
theorem dX0_dispatch_33 : decode cX0_dispatch 33 = .ok (.invokevirtual 71, 3) := by decide +kernel
theorem dX0_dispatch_36 : decode cX0_dispatch 36 = .ok (.iadd, 1) := by decide +kernel
theorem dX0_dispatch_37 : decode cX0_dispatch 37 = .ok (.iastore, 1) := by decide +kernel
theorem dX0_dispatch_38 : decode cX0_dispatch 38 = .ok (.return_, 1) := by decide +kernel
theorem dX0_recall_0 : decode cX0_recall 0 = .ok (.aload_n 0, 1) := by decide +kernel
theorem dX0_recall_1 : decode cX0_recall 1 = .ok (.bipush 20, 2) := by decide +kernel
theorem dX0_recall_3 : decode cX0_recall 3 = .ok (.aload_n 0, 1) := by decide +kernel
theorem dX0_recall_4 : decode cX0_recall 4 = .ok (.getfield 37, 3) := by decide +kernel
theorem dX0_recall_7 : decode cX0_recall 7 = .ok (.aload_n 0, 1) := by decide +kernel
theorem dX0_recall_8 : decode cX0_recall 8 = .ok (.getfield 9, 3) := by decide +kernel
theorem dX0_recall_11 : decode cX0_recall 11 = .ok (.iload_n 1, 1) := by decide +kernel
theorem dX0_recall_12 : decode cX0_recall 12 = .ok (.iaload, 1) := by decide +kernel
theorem dX0_recall_13 : decode cX0_recall 13 = .ok (.iadd, 1) := by decide +kernel
theorem dX0_recall_14 : decode cX0_recall 14 = .ok (.invokestatic 75, 3) := by decide +kernel
theorem dX0_recall_17 : decode cX0_recall 17 = .ok (.putfield 37, 3) := by decide +kernel
theorem dX0_recall_20 : decode cX0_recall 20 = .ok (.aload_n 0, 1) := by decide +kernel
theorem dX0_recall_21 : decode cX0_recall 21 = .ok (.getfield 9, 3) := by decide +kernel
theorem dX0_recall_24 : decode cX0_recall 24 = .ok (.iload_n 1, 1) := by decide +kernel
theorem dX0_recall_25 : decode cX0_recall 25 = .ok (.iconst 0, 1) := by decide +kernel
theorem dX0_recall_26 : decode cX0_recall 26 = .ok (.iastore, 1) := by decide +kernel
theorem dX0_recall_27 : decode cX0_recall 27 = .ok (.aload_n 0, 1) := by decide +kernel
theorem dX0_recall_28 : decode cX0_recall 28 = .ok (.getfield 15, 3) := by decide +kernel
theorem dX0_recall_31 : decode cX0_recall 31 = .ok (.iload_n 1, 1) := by decide +kernel
theorem dX0_recall_32 : decode cX0_recall 32 = .ok (.bipush (-4), 2) := by decide +kernel
theorem dX0_recall_34 : decode cX0_recall 34 = .ok (.iastore, 1) := by decide +kernel
theorem dX0_recall_35 : decode cX0_recall 35 = .ok (.aload_n 0, 1) := by decide +kernel
theorem dX0_recall_36 : decode cX0_recall 36 = .ok (.dup, 1) := by decide +kernel
theorem dX0_recall_37 : decode cX0_recall 37 = .ok (.getfield 31, 3) := by decide +kernel
theorem dX0_recall_40 : decode cX0_recall 40 = .ok (.iconst 1, 1) := by decide +kernel
theorem dX0_recall_41 : decode cX0_recall 41 = .ok (.iload_n 1, 1) := by decide +kernel
theorem dX0_recall_42 : decode cX0_recall 42 = .ok (.ishl, 1) := by decide +kernel
theorem dX0_recall_43 : decode cX0_recall 43 = .ok (.iconst (-1), 1) := by decide +kernel
theorem dX0_recall_44 : decode cX0_recall 44 = .ok (.ixor, 1) := by decide +kernel
theorem dX0_recall_45 : decode cX0_recall 45 = .ok (.iand, 1) := by decide +kernel
theorem dX0_recall_46 : decode cX0_recall 46 = .ok (.putfield 31, 3) := by decide +kernel
theorem dX0_recall_49 : decode cX0_recall 49 = .ok (.return_, 1) := by decide +kernel
theorem dX0_passDays_0 : decode cX0_passDays 0 = .ok (.iconst 0, 1) := by decide +kernel
theorem dX0_passDays_1 : decode cX0_passDays 1 = .ok (.istore_n 2, 1) := by decide +kernel
theorem dX0_passDays_2 : decode cX0_passDays 2 = .ok (.iload_n 2, 1) := by decide +kernel
theorem dX0_passDays_3 : decode cX0_passDays 3 = .ok (.iload_n 1, 1) := by decide +kernel
theorem dX0_passDays_4 : decode cX0_passDays 4 = .ok (.if_icmp .ge 14, 3) := by decide +kernel
theorem dX0_passDays_7 : decode cX0_passDays 7 = .ok (.aload_n 0, 1) := by decide +kernel
theorem dX0_passDays_8 : decode cX0_passDays 8 = .ok (.iconst 0, 1) := by decide +kernel
theorem dX0_passDays_9 : decode cX0_passDays 9 = .ok (.invokevirtual 81, 3) := by decide +kernel
theorem dX0_passDays_12 : decode cX0_passDays 12 = .ok (.iinc 2 1, 3) := by decide +kernel
theorem dX0_passDays_15 : decode cX0_passDays 15 = .ok (.goto (-13), 3) := by decide +kernel
theorem dX0_passDays_18 : decode cX0_passDays 18 = .ok (.return_, 1) := by decide +kernel
theorem dX0_passDay_0 : decode cX0_passDay 0 = .ok (.iconst 0, 1) := by decide +kernel
theorem dX0_passDay_1 : decode cX0_passDay 1 = .ok (.istore_n 2, 1) := by decide +kernel
theorem dX0_passDay_2 : decode cX0_passDay 2 = .ok (.iload_n 2, 1) := by decide +kernel
theorem dX0_passDay_3 : decode cX0_passDay 3 = .ok (.aload_n 0, 1) := by decide +kernel
theorem dX0_passDay_4 : decode cX0_passDay 4 = .ok (.getfield 47, 3) := by decide +kernel
theorem dX0_passDay_7 : decode cX0_passDay 7 = .ok (.getfield 85, 3) := by decide +kernel
theorem dX0_passDay_10 : decode cX0_passDay 10 = .ok (.if_icmp .ge 40, 3) := by decide +kernel
theorem dX0_passDay_13 : decode cX0_passDay 13 = .ok (.iload_n 1, 1) := by decide +kernel
theorem dX0_passDay_14 : decode cX0_passDay 14 = .ok (.ifCond .ne 36, 3) := by decide +kernel
theorem dX0_passDay_17 : decode cX0_passDay 17 = .ok (.aload_n 0, 1) := by decide +kernel
theorem dX0_passDay_18 : decode cX0_passDay 18 = .ok (.getfield 9, 3) := by decide +kernel
theorem dX0_passDay_21 : decode cX0_passDay 21 = .ok (.iload_n 2, 1) := by decide +kernel
theorem dX0_passDay_22 : decode cX0_passDay 22 = .ok (.iaload, 1) := by decide +kernel
theorem dX0_passDay_23 : decode cX0_passDay 23 = .ok (.ifCond .le 21, 3) := by decide +kernel
theorem dX0_passDay_26 : decode cX0_passDay 26 = .ok (.aload_n 0, 1) := by decide +kernel
theorem dX0_passDay_27 : decode cX0_passDay 27 = .ok (.getfield 15, 3) := by decide +kernel
theorem dX0_passDay_30 : decode cX0_passDay 30 = .ok (.iload_n 2, 1) := by decide +kernel
theorem dX0_passDay_31 : decode cX0_passDay 31 = .ok (.iaload, 1) := by decide +kernel
theorem dX0_passDay_32 : decode cX0_passDay 32 = .ok (.aload_n 0, 1) := by decide +kernel
theorem dX0_passDay_33 : decode cX0_passDay 33 = .ok (.getfield 40, 3) := by decide +kernel
theorem dX0_passDay_36 : decode cX0_passDay 36 = .ok (.if_icmp .gt 8, 3) := by decide +kernel
theorem dX0_passDay_39 : decode cX0_passDay 39 = .ok (.aload_n 0, 1) := by decide +kernel
theorem dX0_passDay_40 : decode cX0_passDay 40 = .ok (.iload_n 2, 1) := by decide +kernel
theorem dX0_passDay_41 : decode cX0_passDay 41 = .ok (.invokevirtual 88, 3) := by decide +kernel
theorem dX0_passDay_44 : decode cX0_passDay 44 = .ok (.iinc 2 1, 3) := by decide +kernel
theorem dX0_passDay_47 : decode cX0_passDay 47 = .ok (.goto (-45), 3) := by decide +kernel
theorem dX0_passDay_50 : decode cX0_passDay 50 = .ok (.iconst 0, 1) := by decide +kernel
theorem dX0_passDay_51 : decode cX0_passDay 51 = .ok (.istore_n 2, 1) := by decide +kernel
theorem dX0_passDay_52 : decode cX0_passDay 52 = .ok (.iload_n 2, 1) := by decide +kernel
theorem dX0_passDay_53 : decode cX0_passDay 53 = .ok (.aload_n 0, 1) := by decide +kernel
theorem dX0_passDay_54 : decode cX0_passDay 54 = .ok (.getfield 47, 3) := by decide +kernel
theorem dX0_passDay_57 : decode cX0_passDay 57 = .ok (.getfield 85, 3) := by decide +kernel
theorem dX0_passDay_60 : decode cX0_passDay 60 = .ok (.if_icmp .ge 69, 3) := by decide +kernel
theorem dX0_passDay_63 : decode cX0_passDay 63 = .ok (.aload_n 0, 1) := by decide +kernel
theorem dX0_passDay_64 : decode cX0_passDay 64 = .ok (.getfield 47, 3) := by decide +kernel
theorem dX0_passDay_67 : decode cX0_passDay 67 = .ok (.getfield 92, 3) := by decide +kernel
theorem dX0_passDay_70 : decode cX0_passDay 70 = .ok (.iload_n 2, 1) := by decide +kernel
theorem dX0_passDay_71 : decode cX0_passDay 71 = .ok (.iaload, 1) := by decide +kernel
theorem dX0_passDay_72 : decode cX0_passDay 72 = .ok (.aload_n 0, 1) := by decide +kernel
theorem dX0_passDay_73 : decode cX0_passDay 73 = .ok (.getfield 40, 3) := by decide +kernel
theorem dX0_passDay_76 : decode cX0_passDay 76 = .ok (.if_icmp .gt 47, 3) := by decide +kernel
theorem dX0_passDay_79 : decode cX0_passDay 79 = .ok (.aload_n 0, 1) := by decide +kernel
theorem dX0_passDay_80 : decode cX0_passDay 80 = .ok (.iload_n 2, 1) := by decide +kernel
theorem dX0_passDay_81 : decode cX0_passDay 81 = .ok (.invokevirtual 64, 3) := by decide +kernel
theorem dX0_passDay_84 : decode cX0_passDay 84 = .ok (.ifCond .ne 39, 3) := by decide +kernel
theorem dX0_passDay_87 : decode cX0_passDay 87 = .ok (.aload_n 0, 1) := by decide +kernel
theorem dX0_passDay_88 : decode cX0_passDay 88 = .ok (.getfield 18, 3) := by decide +kernel
theorem dX0_passDay_91 : decode cX0_passDay 91 = .ok (.iload_n 2, 1) := by decide +kernel
theorem dX0_passDay_92 : decode cX0_passDay 92 = .ok (.iaload, 1) := by decide +kernel
theorem dX0_passDay_93 : decode cX0_passDay 93 = .ok (.ifCond .ne 30, 3) := by decide +kernel
theorem dX0_passDay_96 : decode cX0_passDay 96 = .ok (.aload_n 0, 1) := by decide +kernel
theorem dX0_passDay_97 : decode cX0_passDay 97 = .ok (.getfield 21, 3) := by decide +kernel
theorem dX0_passDay_100 : decode cX0_passDay 100 = .ok (.iload_n 2, 1) := by decide +kernel
theorem dX0_passDay_101 : decode cX0_passDay 101 = .ok (.aload_n 0, 1) := by decide +kernel
theorem dX0_passDay_102 : decode cX0_passDay 102 = .ok (.getfield 40, 3) := by decide +kernel
theorem dX0_passDay_105 : decode cX0_passDay 105 = .ok (.iastore, 1) := by decide +kernel
theorem dX0_passDay_106 : decode cX0_passDay 106 = .ok (.aload_n 0, 1) := by decide +kernel
theorem dX0_passDay_107 : decode cX0_passDay 107 = .ok (.dup, 1) := by decide +kernel
theorem dX0_passDay_108 : decode cX0_passDay 108 = .ok (.getfield 28, 3) := by decide +kernel
theorem dX0_passDay_111 : decode cX0_passDay 111 = .ok (.aload_n 0, 1) := by decide +kernel
theorem dX0_passDay_112 : decode cX0_passDay 112 = .ok (.getfield 24, 3) := by decide +kernel
theorem dX0_passDay_115 : decode cX0_passDay 115 = .ok (.iconst 1, 1) := by decide +kernel
theorem dX0_passDay_116 : decode cX0_passDay 116 = .ok (.iload_n 2, 1) := by decide +kernel
theorem dX0_passDay_117 : decode cX0_passDay 117 = .ok (.ishl, 1) := by decide +kernel
theorem dX0_passDay_118 : decode cX0_passDay 118 = .ok (.iand, 1) := by decide +kernel
theorem dX0_passDay_119 : decode cX0_passDay 119 = .ok (.ior, 1) := by decide +kernel
theorem dX0_passDay_120 : decode cX0_passDay 120 = .ok (.putfield 28, 3) := by decide +kernel
theorem dX0_passDay_123 : decode cX0_passDay 123 = .ok (.iinc 2 1, 3) := by decide +kernel
theorem dX0_passDay_126 : decode cX0_passDay 126 = .ok (.goto (-74), 3) := by decide +kernel
theorem dX0_passDay_129 : decode cX0_passDay 129 = .ok (.iconst 0, 1) := by decide +kernel
theorem dX0_passDay_130 : decode cX0_passDay 130 = .ok (.istore_n 2, 1) := by decide +kernel
theorem dX0_passDay_131 : decode cX0_passDay 131 = .ok (.iload_n 2, 1) := by decide +kernel
theorem dX0_passDay_132 : decode cX0_passDay 132 = .ok (.aload_n 0, 1) := by decide +kernel
theorem dX0_passDay_133 : decode cX0_passDay 133 = .ok (.getfield 47, 3) := by decide +kernel
theorem dX0_passDay_136 : decode cX0_passDay 136 = .ok (.getfield 85, 3) := by decide +kernel
theorem dX0_passDay_139 : decode cX0_passDay 139 = .ok (.if_icmp .ge 28, 3) := by decide +kernel
theorem dX0_passDay_142 : decode cX0_passDay 142 = .ok (.aload_n 0, 1) := by decide +kernel
theorem dX0_passDay_143 : decode cX0_passDay 143 = .ok (.getfield 18, 3) := by decide +kernel
theorem dX0_passDay_146 : decode cX0_passDay 146 = .ok (.iload_n 2, 1) := by decide +kernel
theorem dX0_passDay_147 : decode cX0_passDay 147 = .ok (.iaload, 1) := by decide +kernel
theorem dX0_passDay_148 : decode cX0_passDay 148 = .ok (.ifCond .le 13, 3) := by decide +kernel
theorem dX0_passDay_151 : decode cX0_passDay 151 = .ok (.aload_n 0, 1) := by decide +kernel
theorem dX0_passDay_152 : decode cX0_passDay 152 = .ok (.getfield 18, 3) := by decide +kernel
theorem dX0_passDay_155 : decode cX0_passDay 155 = .ok (.iload_n 2, 1) := by decide +kernel
theorem dX0_passDay_156 : decode cX0_passDay 156 = .ok (.dup2, 1) := by decide +kernel
theorem dX0_passDay_157 : decode cX0_passDay 157 = .ok (.iaload, 1) := by decide +kernel
theorem dX0_passDay_158 : decode cX0_passDay 158 = .ok (.iconst 1, 1) := by decide +kernel
theorem dX0_passDay_159 : decode cX0_passDay 159 = .ok (.isub, 1) := by decide +kernel
theorem dX0_passDay_160 : decode cX0_passDay 160 = .ok (.iastore, 1) := by decide +kernel
theorem dX0_passDay_161 : decode cX0_passDay 161 = .ok (.iinc 2 1, 3) := by decide +kernel
theorem dX0_passDay_164 : decode cX0_passDay 164 = .ok (.goto (-33), 3) := by decide +kernel
theorem dX0_passDay_167 : decode cX0_passDay 167 = .ok (.aload_n 0, 1) := by decide +kernel
theorem dX0_passDay_168 : decode cX0_passDay 168 = .ok (.dup, 1) := by decide +kernel
theorem dX0_passDay_169 : decode cX0_passDay 169 = .ok (.getfield 40, 3) := by decide +kernel
theorem dX0_passDay_172 : decode cX0_passDay 172 = .ok (.iconst 1, 1) := by decide +kernel
theorem dX0_passDay_173 : decode cX0_passDay 173 = .ok (.iadd, 1) := by decide +kernel
theorem dX0_passDay_174 : decode cX0_passDay 174 = .ok (.putfield 40, 3) := by decide +kernel
theorem dX0_passDay_177 : decode cX0_passDay 177 = .ok (.aload_n 0, 1) := by decide +kernel
theorem dX0_passDay_178 : decode cX0_passDay 178 = .ok (.iconst 0, 1) := by decide +kernel
theorem dX0_passDay_179 : decode cX0_passDay 179 = .ok (.putfield 43, 3) := by decide +kernel
theorem dX0_passDay_182 : decode cX0_passDay 182 = .ok (.return_, 1) := by decide +kernel
theorem dX0_comeIn_0 : decode cX0_comeIn 0 = .ok (.aload_n 0, 1) := by decide +kernel
theorem dX0_comeIn_1 : decode cX0_comeIn 1 = .ok (.iload_n 1, 1) := by decide +kernel
theorem dX0_comeIn_2 : decode cX0_comeIn 2 = .ok (.invokevirtual 95, 3) := by decide +kernel
theorem dX0_comeIn_5 : decode cX0_comeIn 5 = .ok (.ifCond .eq 62, 3) := by decide +kernel
theorem dX0_comeIn_8 : decode cX0_comeIn 8 = .ok (.aload_n 0, 1) := by decide +kernel
theorem dX0_comeIn_9 : decode cX0_comeIn 9 = .ok (.dup, 1) := by decide +kernel
theorem dX0_comeIn_10 : decode cX0_comeIn 10 = .ok (.getfield 31, 3) := by decide +kernel
theorem dX0_comeIn_13 : decode cX0_comeIn 13 = .ok (.iconst 1, 1) := by decide +kernel
theorem dX0_comeIn_14 : decode cX0_comeIn 14 = .ok (.iload_n 1, 1) := by decide +kernel
theorem dX0_comeIn_15 : decode cX0_comeIn 15 = .ok (.ishl, 1) := by decide +kernel
theorem dX0_comeIn_16 : decode cX0_comeIn 16 = .ok (.ior, 1) := by decide +kernel
theorem dX0_comeIn_17 : decode cX0_comeIn 17 = .ok (.putfield 31, 3) := by decide +kernel
theorem dX0_comeIn_20 : decode cX0_comeIn 20 = .ok (.aload_n 0, 1) := by decide +kernel
theorem dX0_comeIn_21 : decode cX0_comeIn 21 = .ok (.dup, 1) := by decide +kernel
theorem dX0_comeIn_22 : decode cX0_comeIn 22 = .ok (.getfield 34, 3) := by decide +kernel
theorem dX0_comeIn_25 : decode cX0_comeIn 25 = .ok (.iconst 1, 1) := by decide +kernel
theorem dX0_comeIn_26 : decode cX0_comeIn 26 = .ok (.iadd, 1) := by decide +kernel
theorem dX0_comeIn_27 : decode cX0_comeIn 27 = .ok (.putfield 34, 3) := by decide +kernel
theorem dX0_comeIn_30 : decode cX0_comeIn 30 = .ok (.aload_n 0, 1) := by decide +kernel
theorem dX0_comeIn_31 : decode cX0_comeIn 31 = .ok (.getfield 15, 3) := by decide +kernel
theorem dX0_comeIn_34 : decode cX0_comeIn 34 = .ok (.iload_n 1, 1) := by decide +kernel
theorem dX0_comeIn_35 : decode cX0_comeIn 35 = .ok (.aload_n 0, 1) := by decide +kernel
theorem dX0_comeIn_36 : decode cX0_comeIn 36 = .ok (.getfield 40, 3) := by decide +kernel
theorem dX0_comeIn_39 : decode cX0_comeIn 39 = .ok (.iconst 1, 1) := by decide +kernel
theorem dX0_comeIn_40 : decode cX0_comeIn 40 = .ok (.iadd, 1) := by decide +kernel
theorem dX0_comeIn_41 : decode cX0_comeIn 41 = .ok (.iastore, 1) := by decide +kernel
theorem dX0_comeIn_42 : decode cX0_comeIn 42 = .ok (.aload_n 0, 1) := by decide +kernel
theorem dX0_comeIn_43 : decode cX0_comeIn 43 = .ok (.getfield 37, 3) := by decide +kernel
theorem dX0_comeIn_46 : decode cX0_comeIn 46 = .ok (.ifCond .le 20, 3) := by decide +kernel
theorem dX0_comeIn_49 : decode cX0_comeIn 49 = .ok (.aload_n 0, 1) := by decide +kernel
theorem dX0_comeIn_50 : decode cX0_comeIn 50 = .ok (.dup, 1) := by decide +kernel
theorem dX0_comeIn_51 : decode cX0_comeIn 51 = .ok (.getfield 37, 3) := by decide +kernel
theorem dX0_comeIn_54 : decode cX0_comeIn 54 = .ok (.iconst 1, 1) := by decide +kernel
theorem dX0_comeIn_55 : decode cX0_comeIn 55 = .ok (.isub, 1) := by decide +kernel
theorem dX0_comeIn_56 : decode cX0_comeIn 56 = .ok (.putfield 37, 3) := by decide +kernel
theorem dX0_comeIn_59 : decode cX0_comeIn 59 = .ok (.aload_n 0, 1) := by decide +kernel
theorem dX0_comeIn_60 : decode cX0_comeIn 60 = .ok (.getfield 9, 3) := by decide +kernel
theorem dX0_comeIn_63 : decode cX0_comeIn 63 = .ok (.iload_n 1, 1) := by decide +kernel
theorem dX0_comeIn_64 : decode cX0_comeIn 64 = .ok (.iconst 2, 1) := by decide +kernel
theorem dX0_comeIn_65 : decode cX0_comeIn 65 = .ok (.iastore, 1) := by decide +kernel
theorem dX0_comeIn_66 : decode cX0_comeIn 66 = .ok (.return_, 1) := by decide +kernel
theorem dX0_comeIn_67 : decode cX0_comeIn 67 = .ok (.aload_n 0, 1) := by decide +kernel
theorem dX0_comeIn_68 : decode cX0_comeIn 68 = .ok (.getfield 18, 3) := by decide +kernel
theorem dX0_comeIn_71 : decode cX0_comeIn 71 = .ok (.iload_n 1, 1) := by decide +kernel
theorem dX0_comeIn_72 : decode cX0_comeIn 72 = .ok (.aload_n 0, 1) := by decide +kernel
theorem dX0_comeIn_73 : decode cX0_comeIn 73 = .ok (.getfield 47, 3) := by decide +kernel
theorem dX0_comeIn_76 : decode cX0_comeIn 76 = .ok (.getfield 98, 3) := by decide +kernel
theorem dX0_comeIn_79 : decode cX0_comeIn 79 = .ok (.iload_n 1, 1) := by decide +kernel
theorem dX0_comeIn_80 : decode cX0_comeIn 80 = .ok (.iaload, 1) := by decide +kernel
theorem dX0_comeIn_81 : decode cX0_comeIn 81 = .ok (.aload_n 0, 1) := by decide +kernel
theorem dX0_comeIn_82 : decode cX0_comeIn 82 = .ok (.getfield 9, 3) := by decide +kernel
theorem dX0_comeIn_85 : decode cX0_comeIn 85 = .ok (.iload_n 1, 1) := by decide +kernel
theorem dX0_comeIn_86 : decode cX0_comeIn 86 = .ok (.iaload, 1) := by decide +kernel
theorem dX0_comeIn_87 : decode cX0_comeIn 87 = .ok (.invokestatic 101, 3) := by decide +kernel
theorem dX0_comeIn_90 : decode cX0_comeIn 90 = .ok (.iastore, 1) := by decide +kernel
theorem dX0_comeIn_91 : decode cX0_comeIn 91 = .ok (.aload_n 0, 1) := by decide +kernel
theorem dX0_comeIn_92 : decode cX0_comeIn 92 = .ok (.dup, 1) := by decide +kernel
theorem dX0_comeIn_93 : decode cX0_comeIn 93 = .ok (.getfield 24, 3) := by decide +kernel
theorem dX0_comeIn_96 : decode cX0_comeIn 96 = .ok (.iconst 1, 1) := by decide +kernel
theorem dX0_comeIn_97 : decode cX0_comeIn 97 = .ok (.iload_n 1, 1) := by decide +kernel
theorem dX0_comeIn_98 : decode cX0_comeIn 98 = .ok (.ishl, 1) := by decide +kernel
theorem dX0_comeIn_99 : decode cX0_comeIn 99 = .ok (.ior, 1) := by decide +kernel
theorem dX0_comeIn_100 : decode cX0_comeIn 100 = .ok (.putfield 24, 3) := by decide +kernel
theorem dX0_comeIn_103 : decode cX0_comeIn 103 = .ok (.aload_n 0, 1) := by decide +kernel
theorem dX0_comeIn_104 : decode cX0_comeIn 104 = .ok (.getfield 9, 3) := by decide +kernel
theorem dX0_comeIn_107 : decode cX0_comeIn 107 = .ok (.iload_n 1, 1) := by decide +kernel
theorem dX0_comeIn_108 : decode cX0_comeIn 108 = .ok (.iconst 0, 1) := by decide +kernel
theorem dX0_comeIn_109 : decode cX0_comeIn 109 = .ok (.iastore, 1) := by decide +kernel
theorem dX0_comeIn_110 : decode cX0_comeIn 110 = .ok (.aload_n 0, 1) := by decide +kernel
theorem dX0_comeIn_111 : decode cX0_comeIn 111 = .ok (.getfield 15, 3) := by decide +kernel
theorem dX0_comeIn_114 : decode cX0_comeIn 114 = .ok (.iload_n 1, 1) := by decide +kernel
theorem dX0_comeIn_115 : decode cX0_comeIn 115 = .ok (.bipush (-4), 2) := by decide +kernel
theorem dX0_comeIn_117 : decode cX0_comeIn 117 = .ok (.iastore, 1) := by decide +kernel
theorem dX0_comeIn_118 : decode cX0_comeIn 118 = .ok (.return_, 1) := by decide +kernel
theorem dX0_actByDraw_0 : decode cX0_actByDraw 0 = .ok (.aload_n 0, 1) := by decide +kernel
theorem dX0_actByDraw_1 : decode cX0_actByDraw 1 = .ok (.getfield 47, 3) := by decide +kernel
theorem dX0_actByDraw_4 : decode cX0_actByDraw 4 = .ok (.getfield 85, 3) := by decide +kernel
theorem dX0_actByDraw_7 : decode cX0_actByDraw 7 = .ok (.ifCond .gt 4, 3) := by decide +kernel
theorem dX0_actByDraw_10 : decode cX0_actByDraw 10 = .ok (.return_, 1) := by decide +kernel
theorem dX0_actByDraw_11 : decode cX0_actByDraw 11 = .ok (.iload_n 1, 1) := by decide +kernel
theorem dX0_actByDraw_12 : decode cX0_actByDraw 12 = .ok (.aload_n 0, 1) := by decide +kernel
theorem dX0_actByDraw_13 : decode cX0_actByDraw 13 = .ok (.getfield 47, 3) := by decide +kernel
theorem dX0_actByDraw_16 : decode cX0_actByDraw 16 = .ok (.getfield 85, 3) := by decide +kernel
theorem dX0_actByDraw_19 : decode cX0_actByDraw 19 = .ok (.irem, 1) := by decide +kernel
theorem dX0_actByDraw_20 : decode cX0_actByDraw 20 = .ok (.istore_n 2, 1) := by decide +kernel
theorem dX0_actByDraw_21 : decode cX0_actByDraw 21 = .ok (.iload_n 1, 1) := by decide +kernel
theorem dX0_actByDraw_22 : decode cX0_actByDraw 22 = .ok (.bipush 8, 2) := by decide +kernel
theorem dX0_actByDraw_24 : decode cX0_actByDraw 24 = .ok (.idiv, 1) := by decide +kernel
theorem dX0_actByDraw_25 : decode cX0_actByDraw 25 = .ok (.iconst 4, 1) := by decide +kernel
theorem dX0_actByDraw_26 : decode cX0_actByDraw 26 = .ok (.irem, 1) := by decide +kernel
theorem dX0_actByDraw_27 : decode cX0_actByDraw 27 = .ok (.istore_n 3, 1) := by decide +kernel
theorem dX0_actByDraw_28 : decode cX0_actByDraw 28 = .ok (.iload_n 3, 1) := by decide +kernel
theorem dX0_actByDraw_29 : decode cX0_actByDraw 29 = .ok (.iconst 2, 1) := by decide +kernel
theorem dX0_actByDraw_30 : decode cX0_actByDraw 30 = .ok (.if_icmp .ge 19, 3) := by decide +kernel
theorem dX0_actByDraw_33 : decode cX0_actByDraw 33 = .ok (.aload_n 0, 1) := by decide +kernel
theorem dX0_actByDraw_34 : decode cX0_actByDraw 34 = .ok (.iload_n 2, 1) := by decide +kernel
theorem dX0_actByDraw_35 : decode cX0_actByDraw 35 = .ok (.invokevirtual 104, 3) := by decide +kernel
theorem dX0_actByDraw_38 : decode cX0_actByDraw 38 = .ok (.ifCond .eq 11, 3) := by decide +kernel
theorem dX0_actByDraw_41 : decode cX0_actByDraw 41 = .ok (.aload_n 0, 1) := by decide +kernel
theorem dX0_actByDraw_42 : decode cX0_actByDraw 42 = .ok (.iload_n 2, 1) := by decide +kernel
theorem dX0_actByDraw_43 : decode cX0_actByDraw 43 = .ok (.invokevirtual 107, 3) := by decide +kernel
theorem dX0_actByDraw_46 : decode cX0_actByDraw 46 = .ok (.goto 49, 3) := by decide +kernel
theorem dX0_actByDraw_49 : decode cX0_actByDraw 49 = .ok (.iload_n 3, 1) := by decide +kernel
theorem dX0_actByDraw_50 : decode cX0_actByDraw 50 = .ok (.iconst 2, 1) := by decide +kernel
theorem dX0_actByDraw_51 : decode cX0_actByDraw 51 = .ok (.if_icmp .ne 20, 3) := by decide +kernel
theorem dX0_actByDraw_54 : decode cX0_actByDraw 54 = .ok (.aload_n 0, 1) := by decide +kernel
theorem dX0_actByDraw_55 : decode cX0_actByDraw 55 = .ok (.getfield 9, 3) := by decide +kernel
theorem dX0_actByDraw_58 : decode cX0_actByDraw 58 = .ok (.iload_n 2, 1) := by decide +kernel
theorem dX0_actByDraw_59 : decode cX0_actByDraw 59 = .ok (.iaload, 1) := by decide +kernel
theorem dX0_actByDraw_60 : decode cX0_actByDraw 60 = .ok (.ifCond .le 11, 3) := by decide +kernel
theorem dX0_actByDraw_63 : decode cX0_actByDraw 63 = .ok (.aload_n 0, 1) := by decide +kernel
theorem dX0_actByDraw_64 : decode cX0_actByDraw 64 = .ok (.iload_n 2, 1) := by decide +kernel
theorem dX0_actByDraw_65 : decode cX0_actByDraw 65 = .ok (.invokevirtual 110, 3) := by decide +kernel
theorem dX0_actByDraw_68 : decode cX0_actByDraw 68 = .ok (.goto 27, 3) := by decide +kernel
theorem dX0_actByDraw_71 : decode cX0_actByDraw 71 = .ok (.iload_n 3, 1) := by decide +kernel
theorem dX0_actByDraw_72 : decode cX0_actByDraw 72 = .ok (.iconst 3, 1) := by decide +kernel
theorem dX0_actByDraw_73 : decode cX0_actByDraw 73 = .ok (.if_icmp .ne 22, 3) := by decide +kernel
theorem dX0_actByDraw_76 : decode cX0_actByDraw 76 = .ok (.aload_n 0, 1) := by decide +kernel
theorem dX0_actByDraw_77 : decode cX0_actByDraw 77 = .ok (.getfield 37, 3) := by decide +kernel
theorem dX0_actByDraw_80 : decode cX0_actByDraw 80 = .ok (.bipush 20, 2) := by decide +kernel
theorem dX0_actByDraw_82 : decode cX0_actByDraw 82 = .ok (.if_icmp .ge 13, 3) := by decide +kernel
theorem dX0_actByDraw_85 : decode cX0_actByDraw 85 = .ok (.aload_n 0, 1) := by decide +kernel
theorem dX0_actByDraw_86 : decode cX0_actByDraw 86 = .ok (.dup, 1) := by decide +kernel
theorem dX0_actByDraw_87 : decode cX0_actByDraw 87 = .ok (.getfield 37, 3) := by decide +kernel
theorem dX0_actByDraw_90 : decode cX0_actByDraw 90 = .ok (.iconst 1, 1) := by decide +kernel
theorem dX0_actByDraw_91 : decode cX0_actByDraw 91 = .ok (.iadd, 1) := by decide +kernel
theorem dX0_actByDraw_92 : decode cX0_actByDraw 92 = .ok (.putfield 37, 3) := by decide +kernel
theorem dX0_actByDraw_95 : decode cX0_actByDraw 95 = .ok (.return_, 1) := by decide +kernel
theorem dX0_endsSoft_0 : decode cX0_endsSoft 0 = .ok (.aload_n 0, 1) := by decide +kernel
theorem dX0_endsSoft_1 : decode cX0_endsSoft 1 = .ok (.iload_n 1, 1) := by decide +kernel
theorem dX0_endsSoft_2 : decode cX0_endsSoft 2 = .ok (.invokevirtual 64, 3) := by decide +kernel
theorem dX0_endsSoft_5 : decode cX0_endsSoft 5 = .ok (.ifCond .eq 12, 3) := by decide +kernel
theorem dX0_endsSoft_8 : decode cX0_endsSoft 8 = .ok (.aload_n 0, 1) := by decide +kernel
theorem dX0_endsSoft_9 : decode cX0_endsSoft 9 = .ok (.getfield 28, 3) := by decide +kernel
theorem dX0_endsSoft_12 : decode cX0_endsSoft 12 = .ok (.iload_n 1, 1) := by decide +kernel
theorem dX0_endsSoft_13 : decode cX0_endsSoft 13 = .ok (.invokestatic 60, 3) := by decide +kernel
theorem dX0_endsSoft_16 : decode cX0_endsSoft 16 = .ok (.ireturn, 1) := by decide +kernel
theorem dX0_endsSoft_17 : decode cX0_endsSoft 17 = .ok (.aload_n 0, 1) := by decide +kernel
theorem dX0_endsSoft_18 : decode cX0_endsSoft 18 = .ok (.getfield 24, 3) := by decide +kernel
theorem dX0_endsSoft_21 : decode cX0_endsSoft 21 = .ok (.iload_n 1, 1) := by decide +kernel
theorem dX0_endsSoft_22 : decode cX0_endsSoft 22 = .ok (.invokestatic 60, 3) := by decide +kernel
theorem dX0_endsSoft_25 : decode cX0_endsSoft 25 = .ok (.ifCond .eq 5, 3) := by decide +kernel
theorem dX0_endsSoft_28 : decode cX0_endsSoft 28 = .ok (.iconst 1, 1) := by decide +kernel
theorem dX0_endsSoft_29 : decode cX0_endsSoft 29 = .ok (.ireturn, 1) := by decide +kernel
theorem dX0_endsSoft_30 : decode cX0_endsSoft 30 = .ok (.aload_n 0, 1) := by decide +kernel
theorem dX0_endsSoft_31 : decode cX0_endsSoft 31 = .ok (.getfield 15, 3) := by decide +kernel
theorem dX0_endsSoft_34 : decode cX0_endsSoft 34 = .ok (.iload_n 1, 1) := by decide +kernel
theorem dX0_endsSoft_35 : decode cX0_endsSoft 35 = .ok (.iaload, 1) := by decide +kernel
theorem dX0_endsSoft_36 : decode cX0_endsSoft 36 = .ok (.aload_n 0, 1) := by decide +kernel
theorem dX0_endsSoft_37 : decode cX0_endsSoft 37 = .ok (.getfield 40, 3) := by decide +kernel
theorem dX0_endsSoft_40 : decode cX0_endsSoft 40 = .ok (.invokestatic 113, 3) := by decide +kernel
theorem dX0_endsSoft_43 : decode cX0_endsSoft 43 = .ok (.aload_n 0, 1) := by decide +kernel
theorem dX0_endsSoft_44 : decode cX0_endsSoft 44 = .ok (.iload_n 1, 1) := by decide +kernel
theorem dX0_endsSoft_45 : decode cX0_endsSoft 45 = .ok (.invokevirtual 95, 3) := by decide +kernel
theorem dX0_endsSoft_48 : decode cX0_endsSoft 48 = .ok (.ifCond .eq 7, 3) := by decide +kernel
theorem dX0_endsSoft_51 : decode cX0_endsSoft 51 = .ok (.iconst 1, 1) := by decide +kernel
theorem dX0_endsSoft_52 : decode cX0_endsSoft 52 = .ok (.goto 4, 3) := by decide +kernel
theorem dX0_endsSoft_55 : decode cX0_endsSoft 55 = .ok (.iconst 0, 1) := by decide +kernel
theorem dX0_endsSoft_56 : decode cX0_endsSoft 56 = .ok (.iadd, 1) := by decide +kernel
theorem dX0_endsSoft_57 : decode cX0_endsSoft 57 = .ok (.istore_n 2, 1) := by decide +kernel
theorem dX0_endsSoft_58 : decode cX0_endsSoft 58 = .ok (.aload_n 0, 1) := by decide +kernel
theorem dX0_endsSoft_59 : decode cX0_endsSoft 59 = .ok (.getfield 9, 3) := by decide +kernel
theorem dX0_endsSoft_62 : decode cX0_endsSoft 62 = .ok (.iload_n 1, 1) := by decide +kernel
theorem dX0_endsSoft_63 : decode cX0_endsSoft 63 = .ok (.iaload, 1) := by decide +kernel
theorem dX0_endsSoft_64 : decode cX0_endsSoft 64 = .ok (.ifCond .le 20, 3) := by decide +kernel
theorem dX0_endsSoft_67 : decode cX0_endsSoft 67 = .ok (.iload_n 2, 1) := by decide +kernel
theorem dX0_endsSoft_68 : decode cX0_endsSoft 68 = .ok (.aload_n 0, 1) := by decide +kernel
theorem dX0_endsSoft_69 : decode cX0_endsSoft 69 = .ok (.getfield 47, 3) := by decide +kernel
theorem dX0_endsSoft_72 : decode cX0_endsSoft 72 = .ok (.getfield 92, 3) := by decide +kernel
theorem dX0_endsSoft_75 : decode cX0_endsSoft 75 = .ok (.iload_n 1, 1) := by decide +kernel
theorem dX0_endsSoft_76 : decode cX0_endsSoft 76 = .ok (.iaload, 1) := by decide +kernel
theorem dX0_endsSoft_77 : decode cX0_endsSoft 77 = .ok (.if_icmp .gt 7, 3) := by decide +kernel
theorem dX0_endsSoft_80 : decode cX0_endsSoft 80 = .ok (.iconst 1, 1) := by decide +kernel
theorem dX0_endsSoft_81 : decode cX0_endsSoft 81 = .ok (.goto 4, 3) := by decide +kernel
theorem dX0_endsSoft_84 : decode cX0_endsSoft 84 = .ok (.iconst 0, 1) := by decide +kernel
theorem dX0_endsSoft_85 : decode cX0_endsSoft 85 = .ok (.ireturn, 1) := by decide +kernel
theorem dX0_spareDays_0 : decode cX0_spareDays 0 = .ok (.aload_n 0, 1) := by decide +kernel
theorem dX0_spareDays_1 : decode cX0_spareDays 1 = .ok (.getfield 47, 3) := by decide +kernel
theorem dX0_spareDays_4 : decode cX0_spareDays 4 = .ok (.getfield 92, 3) := by decide +kernel
theorem dX0_spareDays_7 : decode cX0_spareDays 7 = .ok (.iload_n 1, 1) := by decide +kernel
theorem dX0_spareDays_8 : decode cX0_spareDays 8 = .ok (.iaload, 1) := by decide +kernel
theorem dX0_spareDays_9 : decode cX0_spareDays 9 = .ok (.aload_n 0, 1) := by decide +kernel
theorem dX0_spareDays_10 : decode cX0_spareDays 10 = .ok (.getfield 40, 3) := by decide +kernel
theorem dX0_spareDays_13 : decode cX0_spareDays 13 = .ok (.isub, 1) := by decide +kernel
theorem dX0_spareDays_14 : decode cX0_spareDays 14 = .ok (.aload_n 0, 1) := by decide +kernel
theorem dX0_spareDays_15 : decode cX0_spareDays 15 = .ok (.iload_n 1, 1) := by decide +kernel
theorem dX0_spareDays_16 : decode cX0_spareDays 16 = .ok (.invokevirtual 71, 3) := by decide +kernel
theorem dX0_spareDays_19 : decode cX0_spareDays 19 = .ok (.isub, 1) := by decide +kernel
theorem dX0_spareDays_20 : decode cX0_spareDays 20 = .ok (.aload_n 0, 1) := by decide +kernel
theorem dX0_spareDays_21 : decode cX0_spareDays 21 = .ok (.iload_n 1, 1) := by decide +kernel
theorem dX0_spareDays_22 : decode cX0_spareDays 22 = .ok (.invokevirtual 95, 3) := by decide +kernel
theorem dX0_spareDays_25 : decode cX0_spareDays 25 = .ok (.ifCond .eq 7, 3) := by decide +kernel
theorem dX0_spareDays_28 : decode cX0_spareDays 28 = .ok (.iconst 1, 1) := by decide +kernel
theorem dX0_spareDays_29 : decode cX0_spareDays 29 = .ok (.goto 4, 3) := by decide +kernel
theorem dX0_spareDays_32 : decode cX0_spareDays 32 = .ok (.iconst 0, 1) := by decide +kernel
theorem dX0_spareDays_33 : decode cX0_spareDays 33 = .ok (.isub, 1) := by decide +kernel
theorem dX0_spareDays_34 : decode cX0_spareDays 34 = .ok (.ireturn, 1) := by decide +kernel
theorem dX0_finalWeight_0 : decode cX0_finalWeight 0 = .ok (.iconst 0, 1) := by decide +kernel
theorem dX0_finalWeight_1 : decode cX0_finalWeight 1 = .ok (.istore_n 2, 1) := by decide +kernel
theorem dX0_finalWeight_2 : decode cX0_finalWeight 2 = .ok (.iconst 0, 1) := by decide +kernel
theorem dX0_finalWeight_3 : decode cX0_finalWeight 3 = .ok (.istore_n 3, 1) := by decide +kernel
theorem dX0_finalWeight_4 : decode cX0_finalWeight 4 = .ok (.iload_n 3, 1) := by decide +kernel
theorem dX0_finalWeight_5 : decode cX0_finalWeight 5 = .ok (.aload_n 0, 1) := by decide +kernel
theorem dX0_finalWeight_6 : decode cX0_finalWeight 6 = .ok (.getfield 47, 3) := by decide +kernel
theorem dX0_finalWeight_9 : decode cX0_finalWeight 9 = .ok (.getfield 85, 3) := by decide +kernel
theorem dX0_finalWeight_12 : decode cX0_finalWeight 12 = .ok (.if_icmp .ge 45, 3) := by decide +kernel
theorem dX0_finalWeight_15 : decode cX0_finalWeight 15 = .ok (.aload_n 0, 1) := by decide +kernel
theorem dX0_finalWeight_16 : decode cX0_finalWeight 16 = .ok (.iload_n 3, 1) := by decide +kernel
theorem dX0_finalWeight_17 : decode cX0_finalWeight 17 = .ok (.invokevirtual 116, 3) := by decide +kernel
theorem dX0_finalWeight_20 : decode cX0_finalWeight 20 = .ok (.ifCond .ne 19, 3) := by decide +kernel
theorem dX0_finalWeight_23 : decode cX0_finalWeight 23 = .ok (.iload_n 1, 1) := by decide +kernel
theorem dX0_finalWeight_24 : decode cX0_finalWeight 24 = .ok (.iload_n 3, 1) := by decide +kernel
theorem dX0_finalWeight_25 : decode cX0_finalWeight 25 = .ok (.invokestatic 60, 3) := by decide +kernel
theorem dX0_finalWeight_28 : decode cX0_finalWeight 28 = .ok (.ifCond .eq 23, 3) := by decide +kernel
theorem dX0_finalWeight_31 : decode cX0_finalWeight 31 = .ok (.aload_n 0, 1) := by decide +kernel
theorem dX0_finalWeight_32 : decode cX0_finalWeight 32 = .ok (.iload_n 3, 1) := by decide +kernel
theorem dX0_finalWeight_33 : decode cX0_finalWeight 33 = .ok (.invokevirtual 119, 3) := by decide +kernel
theorem dX0_finalWeight_36 : decode cX0_finalWeight 36 = .ok (.ifCond .lt 15, 3) := by decide +kernel
theorem dX0_finalWeight_39 : decode cX0_finalWeight 39 = .ok (.iload_n 2, 1) := by decide +kernel
theorem dX0_finalWeight_40 : decode cX0_finalWeight 40 = .ok (.aload_n 0, 1) := by decide +kernel
theorem dX0_finalWeight_41 : decode cX0_finalWeight 41 = .ok (.getfield 47, 3) := by decide +kernel
theorem dX0_finalWeight_44 : decode cX0_finalWeight 44 = .ok (.getfield 122, 3) := by decide +kernel
theorem dX0_finalWeight_47 : decode cX0_finalWeight 47 = .ok (.iload_n 3, 1) := by decide +kernel
theorem dX0_finalWeight_48 : decode cX0_finalWeight 48 = .ok (.iaload, 1) := by decide +kernel
theorem dX0_finalWeight_49 : decode cX0_finalWeight 49 = .ok (.iadd, 1) := by decide +kernel
theorem dX0_finalWeight_50 : decode cX0_finalWeight 50 = .ok (.istore_n 2, 1) := by decide +kernel
theorem dX0_finalWeight_51 : decode cX0_finalWeight 51 = .ok (.iinc 3 1, 3) := by decide +kernel
theorem dX0_finalWeight_54 : decode cX0_finalWeight 54 = .ok (.goto (-50), 3) := by decide +kernel
theorem dX0_finalWeight_57 : decode cX0_finalWeight 57 = .ok (.iload_n 2, 1) := by decide +kernel
theorem dX0_finalWeight_58 : decode cX0_finalWeight 58 = .ok (.ireturn, 1) := by decide +kernel
theorem dX0_softWeight_0 : decode cX0_softWeight 0 = .ok (.iconst 0, 1) := by decide +kernel
theorem dX0_softWeight_1 : decode cX0_softWeight 1 = .ok (.istore_n 1, 1) := by decide +kernel
theorem dX0_softWeight_2 : decode cX0_softWeight 2 = .ok (.iconst 0, 1) := by decide +kernel
theorem dX0_softWeight_3 : decode cX0_softWeight 3 = .ok (.istore_n 2, 1) := by decide +kernel
theorem dX0_softWeight_4 : decode cX0_softWeight 4 = .ok (.iload_n 2, 1) := by decide +kernel
theorem dX0_softWeight_5 : decode cX0_softWeight 5 = .ok (.aload_n 0, 1) := by decide +kernel
theorem dX0_softWeight_6 : decode cX0_softWeight 6 = .ok (.getfield 47, 3) := by decide +kernel
theorem dX0_softWeight_9 : decode cX0_softWeight 9 = .ok (.getfield 85, 3) := by decide +kernel
theorem dX0_softWeight_12 : decode cX0_softWeight 12 = .ok (.if_icmp .ge 32, 3) := by decide +kernel
theorem dX0_softWeight_15 : decode cX0_softWeight 15 = .ok (.aload_n 0, 1) := by decide +kernel
theorem dX0_softWeight_16 : decode cX0_softWeight 16 = .ok (.getfield 28, 3) := by decide +kernel
theorem dX0_softWeight_19 : decode cX0_softWeight 19 = .ok (.iload_n 2, 1) := by decide +kernel
theorem dX0_softWeight_20 : decode cX0_softWeight 20 = .ok (.invokestatic 60, 3) := by decide +kernel
theorem dX0_softWeight_23 : decode cX0_softWeight 23 = .ok (.ifCond .eq 15, 3) := by decide +kernel
theorem dX0_softWeight_26 : decode cX0_softWeight 26 = .ok (.iload_n 1, 1) := by decide +kernel
theorem dX0_softWeight_27 : decode cX0_softWeight 27 = .ok (.aload_n 0, 1) := by decide +kernel
theorem dX0_softWeight_28 : decode cX0_softWeight 28 = .ok (.getfield 47, 3) := by decide +kernel
theorem dX0_softWeight_31 : decode cX0_softWeight 31 = .ok (.getfield 122, 3) := by decide +kernel
theorem dX0_softWeight_34 : decode cX0_softWeight 34 = .ok (.iload_n 2, 1) := by decide +kernel
theorem dX0_softWeight_35 : decode cX0_softWeight 35 = .ok (.iaload, 1) := by decide +kernel
theorem dX0_softWeight_36 : decode cX0_softWeight 36 = .ok (.iadd, 1) := by decide +kernel
theorem dX0_softWeight_37 : decode cX0_softWeight 37 = .ok (.istore_n 1, 1) := by decide +kernel
theorem dX0_softWeight_38 : decode cX0_softWeight 38 = .ok (.iinc 2 1, 3) := by decide +kernel
theorem dX0_softWeight_41 : decode cX0_softWeight 41 = .ok (.goto (-37), 3) := by decide +kernel
theorem dX0_softWeight_44 : decode cX0_softWeight 44 = .ok (.iload_n 1, 1) := by decide +kernel
theorem dX0_softWeight_45 : decode cX0_softWeight 45 = .ok (.ireturn, 1) := by decide +kernel
theorem dX0_allOnWay_0 : decode cX0_allOnWay 0 = .ok (.iconst 0, 1) := by decide +kernel
theorem dX0_allOnWay_1 : decode cX0_allOnWay 1 = .ok (.istore_n 1, 1) := by decide +kernel
theorem dX0_allOnWay_2 : decode cX0_allOnWay 2 = .ok (.iconst 0, 1) := by decide +kernel
theorem dX0_allOnWay_3 : decode cX0_allOnWay 3 = .ok (.istore_n 2, 1) := by decide +kernel
theorem dX0_allOnWay_4 : decode cX0_allOnWay 4 = .ok (.iload_n 2, 1) := by decide +kernel
theorem dX0_allOnWay_5 : decode cX0_allOnWay 5 = .ok (.aload_n 0, 1) := by decide +kernel
theorem dX0_allOnWay_6 : decode cX0_allOnWay 6 = .ok (.getfield 47, 3) := by decide +kernel
theorem dX0_allOnWay_9 : decode cX0_allOnWay 9 = .ok (.getfield 85, 3) := by decide +kernel
theorem dX0_allOnWay_12 : decode cX0_allOnWay 12 = .ok (.if_icmp .ge 18, 3) := by decide +kernel
theorem dX0_allOnWay_15 : decode cX0_allOnWay 15 = .ok (.iload_n 1, 1) := by decide +kernel
theorem dX0_allOnWay_16 : decode cX0_allOnWay 16 = .ok (.aload_n 0, 1) := by decide +kernel
theorem dX0_allOnWay_17 : decode cX0_allOnWay 17 = .ok (.getfield 9, 3) := by decide +kernel
theorem dX0_allOnWay_20 : decode cX0_allOnWay 20 = .ok (.iload_n 2, 1) := by decide +kernel
theorem dX0_allOnWay_21 : decode cX0_allOnWay 21 = .ok (.iaload, 1) := by decide +kernel
theorem dX0_allOnWay_22 : decode cX0_allOnWay 22 = .ok (.iadd, 1) := by decide +kernel
theorem dX0_allOnWay_23 : decode cX0_allOnWay 23 = .ok (.istore_n 1, 1) := by decide +kernel
theorem dX0_allOnWay_24 : decode cX0_allOnWay 24 = .ok (.iinc 2 1, 3) := by decide +kernel
theorem dX0_allOnWay_27 : decode cX0_allOnWay 27 = .ok (.goto (-23), 3) := by decide +kernel
theorem dX0_allOnWay_30 : decode cX0_allOnWay 30 = .ok (.iload_n 1, 1) := by decide +kernel
theorem dX0_allOnWay_31 : decode cX0_allOnWay 31 = .ok (.ireturn, 1) := by decide +kernel
theorem dX0_eatingBits_0 : decode cX0_eatingBits 0 = .ok (.iconst 0, 1) := by decide +kernel
theorem dX0_eatingBits_1 : decode cX0_eatingBits 1 = .ok (.istore_n 1, 1) := by decide +kernel
theorem dX0_eatingBits_2 : decode cX0_eatingBits 2 = .ok (.iconst 0, 1) := by decide +kernel
theorem dX0_eatingBits_3 : decode cX0_eatingBits 3 = .ok (.istore_n 2, 1) := by decide +kernel
theorem dX0_eatingBits_4 : decode cX0_eatingBits 4 = .ok (.iload_n 2, 1) := by decide +kernel
theorem dX0_eatingBits_5 : decode cX0_eatingBits 5 = .ok (.aload_n 0, 1) := by decide +kernel
theorem dX0_eatingBits_6 : decode cX0_eatingBits 6 = .ok (.getfield 47, 3) := by decide +kernel
theorem dX0_eatingBits_9 : decode cX0_eatingBits 9 = .ok (.getfield 85, 3) := by decide +kernel
theorem dX0_eatingBits_12 : decode cX0_eatingBits 12 = .ok (.if_icmp .ge 24, 3) := by decide +kernel
theorem dX0_eatingBits_15 : decode cX0_eatingBits 15 = .ok (.aload_n 0, 1) := by decide +kernel
theorem dX0_eatingBits_16 : decode cX0_eatingBits 16 = .ok (.getfield 18, 3) := by decide +kernel
theorem dX0_eatingBits_19 : decode cX0_eatingBits 19 = .ok (.iload_n 2, 1) := by decide +kernel
theorem dX0_eatingBits_20 : decode cX0_eatingBits 20 = .ok (.iaload, 1) := by decide +kernel
theorem dX0_eatingBits_21 : decode cX0_eatingBits 21 = .ok (.ifCond .le 9, 3) := by decide +kernel
theorem dX0_eatingBits_24 : decode cX0_eatingBits 24 = .ok (.iload_n 1, 1) := by decide +kernel
theorem dX0_eatingBits_25 : decode cX0_eatingBits 25 = .ok (.iconst 1, 1) := by decide +kernel
theorem dX0_eatingBits_26 : decode cX0_eatingBits 26 = .ok (.iload_n 2, 1) := by decide +kernel
theorem dX0_eatingBits_27 : decode cX0_eatingBits 27 = .ok (.ishl, 1) := by decide +kernel
theorem dX0_eatingBits_28 : decode cX0_eatingBits 28 = .ok (.ior, 1) := by decide +kernel
theorem dX0_eatingBits_29 : decode cX0_eatingBits 29 = .ok (.istore_n 1, 1) := by decide +kernel
theorem dX0_eatingBits_30 : decode cX0_eatingBits 30 = .ok (.iinc 2 1, 3) := by decide +kernel
theorem dX0_eatingBits_33 : decode cX0_eatingBits 33 = .ok (.goto (-29), 3) := by decide +kernel
theorem dX0_eatingBits_36 : decode cX0_eatingBits 36 = .ok (.iload_n 1, 1) := by decide +kernel
theorem dX0_eatingBits_37 : decode cX0_eatingBits 37 = .ok (.ireturn, 1) := by decide +kernel
theorem dX0_toldBits_0 : decode cX0_toldBits 0 = .ok (.iconst 0, 1) := by decide +kernel
theorem dX0_toldBits_1 : decode cX0_toldBits 1 = .ok (.istore_n 1, 1) := by decide +kernel
theorem dX0_toldBits_2 : decode cX0_toldBits 2 = .ok (.iconst 0, 1) := by decide +kernel
theorem dX0_toldBits_3 : decode cX0_toldBits 3 = .ok (.istore_n 2, 1) := by decide +kernel
theorem dX0_toldBits_4 : decode cX0_toldBits 4 = .ok (.iload_n 2, 1) := by decide +kernel
theorem dX0_toldBits_5 : decode cX0_toldBits 5 = .ok (.aload_n 0, 1) := by decide +kernel
theorem dX0_toldBits_6 : decode cX0_toldBits 6 = .ok (.getfield 47, 3) := by decide +kernel
theorem dX0_toldBits_9 : decode cX0_toldBits 9 = .ok (.getfield 85, 3) := by decide +kernel
theorem dX0_toldBits_12 : decode cX0_toldBits 12 = .ok (.if_icmp .ge 23, 3) := by decide +kernel
theorem dX0_toldBits_15 : decode cX0_toldBits 15 = .ok (.aload_n 0, 1) := by decide +kernel
theorem dX0_toldBits_16 : decode cX0_toldBits 16 = .ok (.iload_n 2, 1) := by decide +kernel
theorem dX0_toldBits_17 : decode cX0_toldBits 17 = .ok (.invokevirtual 64, 3) := by decide +kernel
theorem dX0_toldBits_20 : decode cX0_toldBits 20 = .ok (.ifCond .eq 9, 3) := by decide +kernel
theorem dX0_toldBits_23 : decode cX0_toldBits 23 = .ok (.iload_n 1, 1) := by decide +kernel
theorem dX0_toldBits_24 : decode cX0_toldBits 24 = .ok (.iconst 1, 1) := by decide +kernel
theorem dX0_toldBits_25 : decode cX0_toldBits 25 = .ok (.iload_n 2, 1) := by decide +kernel
theorem dX0_toldBits_26 : decode cX0_toldBits 26 = .ok (.ishl, 1) := by decide +kernel
theorem dX0_toldBits_27 : decode cX0_toldBits 27 = .ok (.ior, 1) := by decide +kernel
theorem dX0_toldBits_28 : decode cX0_toldBits 28 = .ok (.istore_n 1, 1) := by decide +kernel
theorem dX0_toldBits_29 : decode cX0_toldBits 29 = .ok (.iinc 2 1, 3) := by decide +kernel
theorem dX0_toldBits_32 : decode cX0_toldBits 32 = .ok (.goto (-28), 3) := by decide +kernel
theorem dX0_toldBits_35 : decode cX0_toldBits 35 = .ok (.iload_n 1, 1) := by decide +kernel
theorem dX0_toldBits_36 : decode cX0_toldBits 36 = .ok (.ireturn, 1) := by decide +kernel
theorem dX0_standing_0 : decode cX0_standing 0 = .ok (.iload_n 2, 1) := by decide +kernel
theorem dX0_standing_1 : decode cX0_standing 1 = .ok (.tableswitch 85 4 9 #[39, 46, 53, 60, 67, 76], 39) := by decide +kernel
theorem dX0_standing_40 : decode cX0_standing 40 = .ok (.aload_n 0, 1) := by decide +kernel
theorem dX0_standing_41 : decode cX0_standing 41 = .ok (.getfield 9, 3) := by decide +kernel
theorem dX0_standing_44 : decode cX0_standing 44 = .ok (.iload_n 1, 1) := by decide +kernel
theorem dX0_standing_45 : decode cX0_standing 45 = .ok (.iaload, 1) := by decide +kernel
theorem dX0_standing_46 : decode cX0_standing 46 = .ok (.ireturn, 1) := by decide +kernel
theorem dX0_standing_47 : decode cX0_standing 47 = .ok (.aload_n 0, 1) := by decide +kernel
theorem dX0_standing_48 : decode cX0_standing 48 = .ok (.getfield 15, 3) := by decide +kernel
theorem dX0_standing_51 : decode cX0_standing 51 = .ok (.iload_n 1, 1) := by decide +kernel
theorem dX0_standing_52 : decode cX0_standing 52 = .ok (.iaload, 1) := by decide +kernel
theorem dX0_standing_53 : decode cX0_standing 53 = .ok (.ireturn, 1) := by decide +kernel
theorem dX0_standing_54 : decode cX0_standing 54 = .ok (.aload_n 0, 1) := by decide +kernel
theorem dX0_standing_55 : decode cX0_standing 55 = .ok (.getfield 18, 3) := by decide +kernel
theorem dX0_standing_58 : decode cX0_standing 58 = .ok (.iload_n 1, 1) := by decide +kernel
theorem dX0_standing_59 : decode cX0_standing 59 = .ok (.iaload, 1) := by decide +kernel
theorem dX0_standing_60 : decode cX0_standing 60 = .ok (.ireturn, 1) := by decide +kernel
theorem dX0_standing_61 : decode cX0_standing 61 = .ok (.aload_n 0, 1) := by decide +kernel
theorem dX0_standing_62 : decode cX0_standing 62 = .ok (.getfield 21, 3) := by decide +kernel
theorem dX0_standing_65 : decode cX0_standing 65 = .ok (.iload_n 1, 1) := by decide +kernel
theorem dX0_standing_66 : decode cX0_standing 66 = .ok (.iaload, 1) := by decide +kernel
theorem dX0_standing_67 : decode cX0_standing 67 = .ok (.ireturn, 1) := by decide +kernel
theorem dX0_standing_68 : decode cX0_standing 68 = .ok (.aload_n 0, 1) := by decide +kernel
theorem dX0_standing_69 : decode cX0_standing 69 = .ok (.getfield 28, 3) := by decide +kernel
theorem dX0_standing_72 : decode cX0_standing 72 = .ok (.iload_n 1, 1) := by decide +kernel
theorem dX0_standing_73 : decode cX0_standing 73 = .ok (.ishr, 1) := by decide +kernel
theorem dX0_standing_74 : decode cX0_standing 74 = .ok (.iconst 1, 1) := by decide +kernel
theorem dX0_standing_75 : decode cX0_standing 75 = .ok (.iand, 1) := by decide +kernel
theorem dX0_standing_76 : decode cX0_standing 76 = .ok (.ireturn, 1) := by decide +kernel
theorem dX0_standing_77 : decode cX0_standing 77 = .ok (.aload_n 0, 1) := by decide +kernel
theorem dX0_standing_78 : decode cX0_standing 78 = .ok (.getfield 24, 3) := by decide +kernel
theorem dX0_standing_81 : decode cX0_standing 81 = .ok (.iload_n 1, 1) := by decide +kernel
theorem dX0_standing_82 : decode cX0_standing 82 = .ok (.ishr, 1) := by decide +kernel
theorem dX0_standing_83 : decode cX0_standing 83 = .ok (.iconst 1, 1) := by decide +kernel
theorem dX0_standing_84 : decode cX0_standing 84 = .ok (.iand, 1) := by decide +kernel
theorem dX0_standing_85 : decode cX0_standing 85 = .ok (.ireturn, 1) := by decide +kernel
theorem dX0_standing_86 : decode cX0_standing 86 = .ok (.aload_n 0, 1) := by decide +kernel
theorem dX0_standing_87 : decode cX0_standing 87 = .ok (.getfield 31, 3) := by decide +kernel
theorem dX0_standing_90 : decode cX0_standing 90 = .ok (.iload_n 1, 1) := by decide +kernel
theorem dX0_standing_91 : decode cX0_standing 91 = .ok (.ishr, 1) := by decide +kernel
theorem dX0_standing_92 : decode cX0_standing 92 = .ok (.iconst 1, 1) := by decide +kernel
theorem dX0_standing_93 : decode cX0_standing 93 = .ok (.iand, 1) := by decide +kernel
theorem dX0_standing_94 : decode cX0_standing 94 = .ok (.ireturn, 1) := by decide +kernel
theorem dX0_wayDays_0 : decode cX0_wayDays 0 = .ok (.aload_n 0, 1) := by decide +kernel
theorem dX0_wayDays_1 : decode cX0_wayDays 1 = .ok (.getfield 47, 3) := by decide +kernel
theorem dX0_wayDays_4 : decode cX0_wayDays 4 = .ok (.getfield 125, 3) := by decide +kernel
theorem dX0_wayDays_7 : decode cX0_wayDays 7 = .ok (.iload_n 1, 1) := by decide +kernel
theorem dX0_wayDays_8 : decode cX0_wayDays 8 = .ok (.iaload, 1) := by decide +kernel
theorem dX0_wayDays_9 : decode cX0_wayDays 9 = .ok (.bipush 10, 2) := by decide +kernel
theorem dX0_wayDays_11 : decode cX0_wayDays 11 = .ok (.idiv, 1) := by decide +kernel
theorem dX0_wayDays_12 : decode cX0_wayDays 12 = .ok (.iconst 1, 1) := by decide +kernel
theorem dX0_wayDays_13 : decode cX0_wayDays 13 = .ok (.iadd, 1) := by decide +kernel
theorem dX0_wayDays_14 : decode cX0_wayDays 14 = .ok (.ireturn, 1) := by decide +kernel
theorem dX0_willRefuse_0 : decode cX0_willRefuse 0 = .ok (.aload_n 0, 1) := by decide +kernel
theorem dX0_willRefuse_1 : decode cX0_willRefuse 1 = .ok (.getfield 47, 3) := by decide +kernel
theorem dX0_willRefuse_4 : decode cX0_willRefuse 4 = .ok (.getfield 98, 3) := by decide +kernel
theorem dX0_willRefuse_7 : decode cX0_willRefuse 7 = .ok (.iload_n 1, 1) := by decide +kernel
theorem dX0_willRefuse_8 : decode cX0_willRefuse 8 = .ok (.iaload, 1) := by decide +kernel
theorem dX0_willRefuse_9 : decode cX0_willRefuse 9 = .ok (.iconst 3, 1) := by decide +kernel
theorem dX0_willRefuse_10 : decode cX0_willRefuse 10 = .ok (.if_icmp .ne 18, 3) := by decide +kernel
theorem dX0_willRefuse_13 : decode cX0_willRefuse 13 = .ok (.aload_n 0, 1) := by decide +kernel
theorem dX0_willRefuse_14 : decode cX0_willRefuse 14 = .ok (.getfield 31, 3) := by decide +kernel
theorem dX0_willRefuse_17 : decode cX0_willRefuse 17 = .ok (.iload_n 1, 1) := by decide +kernel
theorem dX0_willRefuse_18 : decode cX0_willRefuse 18 = .ok (.invokestatic 60, 3) := by decide +kernel
theorem dX0_willRefuse_21 : decode cX0_willRefuse 21 = .ok (.ifCond .ne 7, 3) := by decide +kernel
theorem dX0_willRefuse_24 : decode cX0_willRefuse 24 = .ok (.iconst 1, 1) := by decide +kernel
theorem dX0_willRefuse_25 : decode cX0_willRefuse 25 = .ok (.goto 4, 3) := by decide +kernel
theorem dX0_willRefuse_28 : decode cX0_willRefuse 28 = .ok (.iconst 0, 1) := by decide +kernel
theorem dX0_willRefuse_29 : decode cX0_willRefuse 29 = .ok (.ireturn, 1) := by decide +kernel
theorem dX0_eatingDays_0 : decode cX0_eatingDays 0 = .ok (.iload_n 0, 1) := by decide +kernel
theorem dX0_eatingDays_1 : decode cX0_eatingDays 1 = .ok (.iconst 2, 1) := by decide +kernel
theorem dX0_eatingDays_2 : decode cX0_eatingDays 2 = .ok (.if_icmp .ne 5, 3) := by decide +kernel
theorem dX0_eatingDays_5 : decode cX0_eatingDays 5 = .ok (.iload_n 1, 1) := by decide +kernel
theorem dX0_eatingDays_6 : decode cX0_eatingDays 6 = .ok (.ireturn, 1) := by decide +kernel
theorem dX0_eatingDays_7 : decode cX0_eatingDays 7 = .ok (.iload_n 0, 1) := by decide +kernel
theorem dX0_eatingDays_8 : decode cX0_eatingDays 8 = .ok (.iconst 1, 1) := by decide +kernel
theorem dX0_eatingDays_9 : decode cX0_eatingDays 9 = .ok (.if_icmp .ne 11, 3) := by decide +kernel
theorem dX0_eatingDays_12 : decode cX0_eatingDays 12 = .ok (.iconst 2, 1) := by decide +kernel
theorem dX0_eatingDays_13 : decode cX0_eatingDays 13 = .ok (.iload_n 1, 1) := by decide +kernel
theorem dX0_eatingDays_14 : decode cX0_eatingDays 14 = .ok (.imul, 1) := by decide +kernel
theorem dX0_eatingDays_15 : decode cX0_eatingDays 15 = .ok (.iconst 2, 1) := by decide +kernel
theorem dX0_eatingDays_16 : decode cX0_eatingDays 16 = .ok (.iadd, 1) := by decide +kernel
theorem dX0_eatingDays_17 : decode cX0_eatingDays 17 = .ok (.goto 6, 3) := by decide +kernel
theorem dX0_eatingDays_20 : decode cX0_eatingDays 20 = .ok (.iconst 2, 1) := by decide +kernel
theorem dX0_eatingDays_21 : decode cX0_eatingDays 21 = .ok (.iload_n 1, 1) := by decide +kernel
theorem dX0_eatingDays_22 : decode cX0_eatingDays 22 = .ok (.imul, 1) := by decide +kernel
theorem dX0_eatingDays_23 : decode cX0_eatingDays 23 = .ok (.ireturn, 1) := by decide +kernel
theorem dX0_isIn_0 : decode cX0_isIn 0 = .ok (.iload_n 0, 1) := by decide +kernel
theorem dX0_isIn_1 : decode cX0_isIn 1 = .ok (.iload_n 1, 1) := by decide +kernel
theorem dX0_isIn_2 : decode cX0_isIn 2 = .ok (.ishr, 1) := by decide +kernel
theorem dX0_isIn_3 : decode cX0_isIn 3 = .ok (.iconst 1, 1) := by decide +kernel
theorem dX0_isIn_4 : decode cX0_isIn 4 = .ok (.iand, 1) := by decide +kernel
theorem dX0_isIn_5 : decode cX0_isIn 5 = .ok (.iconst 1, 1) := by decide +kernel
theorem dX0_isIn_6 : decode cX0_isIn 6 = .ok (.if_icmp .ne 7, 3) := by decide +kernel
theorem dX0_isIn_9 : decode cX0_isIn 9 = .ok (.iconst 1, 1) := by decide +kernel
theorem dX0_isIn_10 : decode cX0_isIn 10 = .ok (.goto 4, 3) := by decide +kernel
theorem dX0_isIn_13 : decode cX0_isIn 13 = .ok (.iconst 0, 1) := by decide +kernel
theorem dX0_isIn_14 : decode cX0_isIn 14 = .ok (.ireturn, 1) := by decide +kernel
theorem dX1_init_0 : decode cX1_init 0 = .ok (.aload_n 0, 1) := by decide +kernel
theorem dX1_init_1 : decode cX1_init 1 = .ok (.invokespecial 3, 3) := by decide +kernel
theorem dX1_init_4 : decode cX1_init 4 = .ok (.aload_n 0, 1) := by decide +kernel
theorem dX1_init_5 : decode cX1_init 5 = .ok (.bipush 7, 2) := by decide +kernel
theorem dX1_init_7 : decode cX1_init 7 = .ok (.anewarray 9, 3) := by decide +kernel
theorem dX1_init_10 : decode cX1_init 10 = .ok (.putfield 11, 3) := by decide +kernel
theorem dX1_init_13 : decode cX1_init 13 = .ok (.aload_n 0, 1) := by decide +kernel
theorem dX1_init_14 : decode cX1_init 14 = .ok (.bipush 6, 2) := by decide +kernel
theorem dX1_init_16 : decode cX1_init 16 = .ok (.newarray .int, 2) := by decide +kernel
theorem dX1_init_18 : decode cX1_init 18 = .ok (.putfield 17, 3) := by decide +kernel
theorem dX1_init_21 : decode cX1_init 21 = .ok (.aload_n 0, 1) := by decide +kernel
theorem dX1_init_22 : decode cX1_init 22 = .ok (.bipush 6, 2) := by decide +kernel
theorem dX1_init_24 : decode cX1_init 24 = .ok (.newarray .int, 2) := by decide +kernel
theorem dX1_init_26 : decode cX1_init 26 = .ok (.putfield 21, 3) := by decide +kernel
theorem dX1_init_29 : decode cX1_init 29 = .ok (.aload_n 0, 1) := by decide +kernel
theorem dX1_init_30 : decode cX1_init 30 = .ok (.iconst 0, 1) := by decide +kernel
theorem dX1_init_31 : decode cX1_init 31 = .ok (.putfield 24, 3) := by decide +kernel
theorem dX1_init_34 : decode cX1_init 34 = .ok (.aload_n 0, 1) := by decide +kernel
theorem dX1_init_35 : decode cX1_init 35 = .ok (.iconst (-1), 1) := by decide +kernel
theorem dX1_init_36 : decode cX1_init 36 = .ok (.putfield 28, 3) := by decide +kernel
theorem dX1_init_39 : decode cX1_init 39 = .ok (.iconst 0, 1) := by decide +kernel
theorem dX1_init_40 : decode cX1_init 40 = .ok (.istore_n 2, 1) := by decide +kernel
theorem dX1_init_41 : decode cX1_init 41 = .ok (.iload_n 2, 1) := by decide +kernel
theorem dX1_init_42 : decode cX1_init 42 = .ok (.aload_n 0, 1) := by decide +kernel
theorem dX1_init_43 : decode cX1_init 43 = .ok (.getfield 11, 3) := by decide +kernel
theorem dX1_init_46 : decode cX1_init 46 = .ok (.arraylength, 1) := by decide +kernel
theorem dX1_init_47 : decode cX1_init 47 = .ok (.if_icmp .ge 23, 3) := by decide +kernel
theorem dX1_init_50 : decode cX1_init 50 = .ok (.aload_n 0, 1) := by decide +kernel
theorem dX1_init_51 : decode cX1_init 51 = .ok (.getfield 11, 3) := by decide +kernel
theorem dX1_init_54 : decode cX1_init 54 = .ok (.iload_n 2, 1) := by decide +kernel
theorem dX1_init_55 : decode cX1_init 55 = .ok (.new 9, 3) := by decide +kernel
theorem dX1_init_58 : decode cX1_init 58 = .ok (.dup, 1) := by decide +kernel
theorem dX1_init_59 : decode cX1_init 59 = .ok (.aload_n 1, 1) := by decide +kernel
theorem dX1_init_60 : decode cX1_init 60 = .ok (.invokespecial 31, 3) := by decide +kernel
theorem dX1_init_63 : decode cX1_init 63 = .ok (.aastore, 1) := by decide +kernel
theorem dX1_init_64 : decode cX1_init 64 = .ok (.iinc 2 1, 3) := by decide +kernel
theorem dX1_init_67 : decode cX1_init 67 = .ok (.goto (-26), 3) := by decide +kernel
theorem dX1_init_70 : decode cX1_init 70 = .ok (.return_, 1) := by decide +kernel
theorem dX1_run_0 : decode cX1_run 0 = .ok (.aload_n 0, 1) := by decide +kernel
theorem dX1_run_1 : decode cX1_run 1 = .ok (.getfield 11, 3) := by decide +kernel
theorem dX1_run_4 : decode cX1_run 4 = .ok (.iconst 0, 1) := by decide +kernel
theorem dX1_run_5 : decode cX1_run 5 = .ok (.aaload, 1) := by decide +kernel
theorem dX1_run_6 : decode cX1_run 6 = .ok (.astore_n 3, 1) := by decide +kernel
theorem dX1_run_7 : decode cX1_run 7 = .ok (.aload_n 3, 1) := by decide +kernel
theorem dX1_run_8 : decode cX1_run 8 = .ok (.aload_n 1, 1) := by decide +kernel
theorem dX1_run_9 : decode cX1_run 9 = .ok (.invokevirtual 34, 3) := by decide +kernel
theorem dX1_run_12 : decode cX1_run 12 = .ok (.aload_n 3, 1) := by decide +kernel
theorem dX1_run_13 : decode cX1_run 13 = .ok (.iload_n 2, 1) := by decide +kernel
theorem dX1_run_14 : decode cX1_run 14 = .ok (.putfield 38, 3) := by decide +kernel
theorem dX1_run_17 : decode cX1_run 17 = .ok (.iconst 0, 1) := by decide +kernel
theorem dX1_run_18 : decode cX1_run 18 = .ok (.istore 4, 2) := by decide +kernel
theorem dX1_run_20 : decode cX1_run 20 = .ok (.iconst 0, 1) := by decide +kernel
theorem dX1_run_21 : decode cX1_run 21 = .ok (.istore 5, 2) := by decide +kernel
theorem dX1_run_23 : decode cX1_run 23 = .ok (.iload 5, 2) := by decide +kernel
theorem dX1_run_25 : decode cX1_run 25 = .ok (.aload_n 1, 1) := by decide +kernel
theorem dX1_run_26 : decode cX1_run 26 = .ok (.getfield 41, 3) := by decide +kernel
theorem dX1_run_29 : decode cX1_run 29 = .ok (.getfield 45, 3) := by decide +kernel
theorem dX1_run_32 : decode cX1_run 32 = .ok (.if_icmp .ge 27, 3) := by decide +kernel
theorem dX1_run_35 : decode cX1_run 35 = .ok (.aload_n 1, 1) := by decide +kernel
theorem dX1_run_36 : decode cX1_run 36 = .ok (.iload 5, 2) := by decide +kernel
theorem dX1_run_38 : decode cX1_run 38 = .ok (.invokevirtual 48, 3) := by decide +kernel
theorem dX1_run_41 : decode cX1_run 41 = .ok (.ifCond .eq 12, 3) := by decide +kernel
theorem dX1_run_44 : decode cX1_run 44 = .ok (.iload 4, 2) := by decide +kernel
theorem dX1_run_46 : decode cX1_run 46 = .ok (.iconst 1, 1) := by decide +kernel
theorem dX1_run_47 : decode cX1_run 47 = .ok (.iload 5, 2) := by decide +kernel
theorem dX1_run_49 : decode cX1_run 49 = .ok (.ishl, 1) := by decide +kernel
theorem dX1_run_50 : decode cX1_run 50 = .ok (.ior, 1) := by decide +kernel
theorem dX1_run_51 : decode cX1_run 51 = .ok (.istore 4, 2) := by decide +kernel
theorem dX1_run_53 : decode cX1_run 53 = .ok (.iinc 5 1, 3) := by decide +kernel
theorem dX1_run_56 : decode cX1_run 56 = .ok (.goto (-33), 3) := by decide +kernel
theorem dX1_run_59 : decode cX1_run 59 = .ok (.aload_n 0, 1) := by decide +kernel
theorem dX1_run_60 : decode cX1_run 60 = .ok (.iload 4, 2) := by decide +kernel
theorem dX1_run_62 : decode cX1_run 62 = .ok (.invokestatic 52, 3) := by decide +kernel
theorem dX1_run_65 : decode cX1_run 65 = .ok (.putfield 24, 3) := by decide +kernel
theorem dX1_run_68 : decode cX1_run 68 = .ok (.aload_n 0, 1) := by decide +kernel
theorem dX1_run_69 : decode cX1_run 69 = .ok (.iconst (-1), 1) := by decide +kernel
theorem dX1_run_70 : decode cX1_run 70 = .ok (.putfield 28, 3) := by decide +kernel
theorem dX1_run_73 : decode cX1_run 73 = .ok (.aload_n 0, 1) := by decide +kernel
theorem dX1_run_74 : decode cX1_run 74 = .ok (.iconst 0, 1) := by decide +kernel
theorem dX1_run_75 : decode cX1_run 75 = .ok (.iload 4, 2) := by decide +kernel
theorem dX1_run_77 : decode cX1_run 77 = .ok (.invokestatic 58, 3) := by decide +kernel
theorem dX1_run_80 : decode cX1_run 80 = .ok (.aload_n 0, 1) := by decide +kernel
theorem dX1_run_81 : decode cX1_run 81 = .ok (.getfield 28, 3) := by decide +kernel
theorem dX1_run_84 : decode cX1_run 84 = .ok (.ireturn, 1) := by decide +kernel
theorem dX1_extend_0 : decode cX1_extend 0 = .ok (.iload_n 2, 1) := by decide +kernel
theorem dX1_extend_1 : decode cX1_extend 1 = .ok (.ifCond .eq 9, 3) := by decide +kernel
theorem dX1_extend_4 : decode cX1_extend 4 = .ok (.iload_n 1, 1) := by decide +kernel
theorem dX1_extend_5 : decode cX1_extend 5 = .ok (.bipush 6, 2) := by decide +kernel
theorem dX1_extend_7 : decode cX1_extend 7 = .ok (.if_icmp .lt 33, 3) := by decide +kernel
theorem dX1_extend_10 : decode cX1_extend 10 = .ok (.aload_n 0, 1) := by decide +kernel
theorem dX1_extend_11 : decode cX1_extend 11 = .ok (.aload_n 0, 1) := by decide +kernel
theorem dX1_extend_12 : decode cX1_extend 12 = .ok (.getfield 11, 3) := by decide +kernel
theorem dX1_extend_15 : decode cX1_extend 15 = .ok (.iload_n 1, 1) := by decide +kernel
theorem dX1_extend_16 : decode cX1_extend 16 = .ok (.aaload, 1) := by decide +kernel
theorem dX1_extend_17 : decode cX1_extend 17 = .ok (.iconst 0, 1) := by decide +kernel
theorem dX1_extend_18 : decode cX1_extend 18 = .ok (.invokevirtual 62, 3) := by decide +kernel
theorem dX1_extend_21 : decode cX1_extend 21 = .ok (.putfield 28, 3) := by decide +kernel
theorem dX1_extend_24 : decode cX1_extend 24 = .ok (.aload_n 0, 1) := by decide +kernel
theorem dX1_extend_25 : decode cX1_extend 25 = .ok (.getfield 17, 3) := by decide +kernel
theorem dX1_extend_28 : decode cX1_extend 28 = .ok (.iconst 0, 1) := by decide +kernel
theorem dX1_extend_29 : decode cX1_extend 29 = .ok (.aload_n 0, 1) := by decide +kernel
theorem dX1_extend_30 : decode cX1_extend 30 = .ok (.getfield 21, 3) := by decide +kernel
theorem dX1_extend_33 : decode cX1_extend 33 = .ok (.iconst 0, 1) := by decide +kernel
theorem dX1_extend_34 : decode cX1_extend 34 = .ok (.bipush 6, 2) := by decide +kernel
theorem dX1_extend_36 : decode cX1_extend 36 = .ok (.invokestatic 65, 3) := by decide +kernel
theorem dX1_extend_39 : decode cX1_extend 39 = .ok (.return_, 1) := by decide +kernel
theorem dX1_extend_40 : decode cX1_extend 40 = .ok (.aload_n 0, 1) := by decide +kernel
theorem dX1_extend_41 : decode cX1_extend 41 = .ok (.getfield 11, 3) := by decide +kernel
theorem dX1_extend_44 : decode cX1_extend 44 = .ok (.iload_n 1, 1) := by decide +kernel
theorem dX1_extend_45 : decode cX1_extend 45 = .ok (.iconst 1, 1) := by decide +kernel
theorem dX1_extend_46 : decode cX1_extend 46 = .ok (.iadd, 1) := by decide +kernel
theorem dX1_extend_47 : decode cX1_extend 47 = .ok (.aaload, 1) := by decide +kernel
theorem dX1_extend_48 : decode cX1_extend 48 = .ok (.astore_n 3, 1) := by decide +kernel
theorem dX1_extend_49 : decode cX1_extend 49 = .ok (.iconst 0, 1) := by decide +kernel
theorem dX1_extend_50 : decode cX1_extend 50 = .ok (.istore 4, 2) := by decide +kernel
theorem dX1_extend_52 : decode cX1_extend 52 = .ok (.iload 4, 2) := by decide +kernel
theorem dX1_extend_54 : decode cX1_extend 54 = .ok (.bipush 6, 2) := by decide +kernel
theorem dX1_extend_56 : decode cX1_extend 56 = .ok (.if_icmp .ge 102, 3) := by decide +kernel
theorem dX1_extend_59 : decode cX1_extend 59 = .ok (.iload_n 2, 1) := by decide +kernel
theorem dX1_extend_60 : decode cX1_extend 60 = .ok (.iload 4, 2) := by decide +kernel
theorem dX1_extend_62 : decode cX1_extend 62 = .ok (.ishr, 1) := by decide +kernel
theorem dX1_extend_63 : decode cX1_extend 63 = .ok (.iconst 1, 1) := by decide +kernel
theorem dX1_extend_64 : decode cX1_extend 64 = .ok (.iand, 1) := by decide +kernel
theorem dX1_extend_65 : decode cX1_extend 65 = .ok (.ifCond .ne 6, 3) := by decide +kernel
theorem dX1_extend_68 : decode cX1_extend 68 = .ok (.goto 84, 3) := by decide +kernel
theorem dX1_extend_71 : decode cX1_extend 71 = .ok (.aload_n 3, 1) := by decide +kernel
theorem dX1_extend_72 : decode cX1_extend 72 = .ok (.aload_n 0, 1) := by decide +kernel
theorem dX1_extend_73 : decode cX1_extend 73 = .ok (.getfield 11, 3) := by decide +kernel
theorem dX1_extend_76 : decode cX1_extend 76 = .ok (.iload_n 1, 1) := by decide +kernel
theorem dX1_extend_77 : decode cX1_extend 77 = .ok (.aaload, 1) := by decide +kernel
theorem dX1_extend_78 : decode cX1_extend 78 = .ok (.invokevirtual 34, 3) := by decide +kernel
theorem dX1_extend_81 : decode cX1_extend 81 = .ok (.aload_n 3, 1) := by decide +kernel
theorem dX1_extend_82 : decode cX1_extend 82 = .ok (.iload 4, 2) := by decide +kernel
theorem dX1_extend_84 : decode cX1_extend 84 = .ok (.invokevirtual 71, 3) := by decide +kernel
theorem dX1_extend_87 : decode cX1_extend 87 = .ok (.ifCond .eq 9, 3) := by decide +kernel
theorem dX1_extend_90 : decode cX1_extend 90 = .ok (.aload_n 3, 1) := by decide +kernel
theorem dX1_extend_91 : decode cX1_extend 91 = .ok (.iload 4, 2) := by decide +kernel
theorem dX1_extend_93 : decode cX1_extend 93 = .ok (.invokevirtual 74, 3) := by decide +kernel
theorem dX1_extend_96 : decode cX1_extend 96 = .ok (.aload_n 3, 1) := by decide +kernel
theorem dX1_extend_97 : decode cX1_extend 97 = .ok (.iconst 0, 1) := by decide +kernel
theorem dX1_extend_98 : decode cX1_extend 98 = .ok (.invokevirtual 78, 3) := by decide +kernel
theorem dX1_extend_101 : decode cX1_extend 101 = .ok (.iload_n 2, 1) := by decide +kernel
theorem dX1_extend_102 : decode cX1_extend 102 = .ok (.iconst 1, 1) := by decide +kernel
theorem dX1_extend_103 : decode cX1_extend 103 = .ok (.iload 4, 2) := by decide +kernel
theorem dX1_extend_105 : decode cX1_extend 105 = .ok (.ishl, 1) := by decide +kernel
theorem dX1_extend_106 : decode cX1_extend 106 = .ok (.iconst (-1), 1) := by decide +kernel
theorem dX1_extend_107 : decode cX1_extend 107 = .ok (.ixor, 1) := by decide +kernel
theorem dX1_extend_108 : decode cX1_extend 108 = .ok (.iand, 1) := by decide +kernel
theorem dX1_extend_109 : decode cX1_extend 109 = .ok (.istore 5, 2) := by decide +kernel
theorem dX1_extend_111 : decode cX1_extend 111 = .ok (.aload_n 3, 1) := by decide +kernel
theorem dX1_extend_112 : decode cX1_extend 112 = .ok (.aload_n 3, 1) := by decide +kernel
theorem dX1_extend_113 : decode cX1_extend 113 = .ok (.getfield 38, 3) := by decide +kernel
theorem dX1_extend_116 : decode cX1_extend 116 = .ok (.ifCond .le 8, 3) := by decide +kernel
theorem dX1_extend_119 : decode cX1_extend 119 = .ok (.iload 5, 2) := by decide +kernel
theorem dX1_extend_121 : decode cX1_extend 121 = .ok (.goto 4, 3) := by decide +kernel
theorem dX1_extend_124 : decode cX1_extend 124 = .ok (.iconst 0, 1) := by decide +kernel
theorem dX1_extend_125 : decode cX1_extend 125 = .ok (.invokevirtual 62, 3) := by decide +kernel
theorem dX1_extend_128 : decode cX1_extend 128 = .ok (.aload_n 0, 1) := by decide +kernel
theorem dX1_extend_129 : decode cX1_extend 129 = .ok (.getfield 28, 3) := by decide +kernel
theorem dX1_extend_132 : decode cX1_extend 132 = .ok (.if_icmp .le 20, 3) := by decide +kernel
theorem dX1_extend_135 : decode cX1_extend 135 = .ok (.aload_n 0, 1) := by decide +kernel
theorem dX1_extend_136 : decode cX1_extend 136 = .ok (.getfield 17, 3) := by decide +kernel
theorem dX1_extend_139 : decode cX1_extend 139 = .ok (.iload_n 1, 1) := by decide +kernel
theorem dX1_extend_140 : decode cX1_extend 140 = .ok (.iload 4, 2) := by decide +kernel
theorem dX1_extend_142 : decode cX1_extend 142 = .ok (.iastore, 1) := by decide +kernel
theorem dX1_extend_143 : decode cX1_extend 143 = .ok (.aload_n 0, 1) := by decide +kernel
theorem dX1_extend_144 : decode cX1_extend 144 = .ok (.iload_n 1, 1) := by decide +kernel
theorem dX1_extend_145 : decode cX1_extend 145 = .ok (.iconst 1, 1) := by decide +kernel
theorem dX1_extend_146 : decode cX1_extend 146 = .ok (.iadd, 1) := by decide +kernel
theorem dX1_extend_147 : decode cX1_extend 147 = .ok (.iload 5, 2) := by decide +kernel
theorem dX1_extend_149 : decode cX1_extend 149 = .ok (.invokestatic 58, 3) := by decide +kernel
theorem dX1_extend_152 : decode cX1_extend 152 = .ok (.iinc 4 1, 3) := by decide +kernel
theorem dX1_extend_155 : decode cX1_extend 155 = .ok (.goto (-103), 3) := by decide +kernel
theorem dX1_extend_158 : decode cX1_extend 158 = .ok (.return_, 1) := by decide +kernel
theorem dX2_init_0 : decode cX2_init 0 = .ok (.aload_n 0, 1) := by decide +kernel
theorem dX2_init_1 : decode cX2_init 1 = .ok (.invokespecial 1, 3) := by decide +kernel
theorem dX2_init_4 : decode cX2_init 4 = .ok (.aload_n 0, 1) := by decide +kernel
theorem dX2_init_5 : decode cX2_init 5 = .ok (.iconst 0, 1) := by decide +kernel
theorem dX2_init_6 : decode cX2_init 6 = .ok (.putfield 7, 3) := by decide +kernel
theorem dX2_init_9 : decode cX2_init 9 = .ok (.aload_n 0, 1) := by decide +kernel
theorem dX2_init_10 : decode cX2_init 10 = .ok (.iconst 0, 1) := by decide +kernel
theorem dX2_init_11 : decode cX2_init 11 = .ok (.putfield 13, 3) := by decide +kernel
theorem dX2_init_14 : decode cX2_init 14 = .ok (.aload_n 0, 1) := by decide +kernel
theorem dX2_init_15 : decode cX2_init 15 = .ok (.iload_n 2, 1) := by decide +kernel
theorem dX2_init_16 : decode cX2_init 16 = .ok (.iconst 1, 1) := by decide +kernel
theorem dX2_init_17 : decode cX2_init 17 = .ok (.invokestatic 16, 3) := by decide +kernel
theorem dX2_init_20 : decode cX2_init 20 = .ok (.anewarray 22, 3) := by decide +kernel
theorem dX2_init_23 : decode cX2_init 23 = .ok (.putfield 24, 3) := by decide +kernel
theorem dX2_init_26 : decode cX2_init 26 = .ok (.iconst 0, 1) := by decide +kernel
theorem dX2_init_27 : decode cX2_init 27 = .ok (.istore_n 3, 1) := by decide +kernel
theorem dX2_init_28 : decode cX2_init 28 = .ok (.iload_n 3, 1) := by decide +kernel
theorem dX2_init_29 : decode cX2_init 29 = .ok (.aload_n 0, 1) := by decide +kernel
theorem dX2_init_30 : decode cX2_init 30 = .ok (.getfield 24, 3) := by decide +kernel
theorem dX2_init_33 : decode cX2_init 33 = .ok (.arraylength, 1) := by decide +kernel
theorem dX2_init_34 : decode cX2_init 34 = .ok (.if_icmp .ge 23, 3) := by decide +kernel
theorem dX2_init_37 : decode cX2_init 37 = .ok (.aload_n 0, 1) := by decide +kernel
theorem dX2_init_38 : decode cX2_init 38 = .ok (.getfield 24, 3) := by decide +kernel
theorem dX2_init_41 : decode cX2_init 41 = .ok (.iload_n 3, 1) := by decide +kernel
theorem dX2_init_42 : decode cX2_init 42 = .ok (.new 22, 3) := by decide +kernel
theorem dX2_init_45 : decode cX2_init 45 = .ok (.dup, 1) := by decide +kernel
theorem dX2_init_46 : decode cX2_init 46 = .ok (.aload_n 1, 1) := by decide +kernel
theorem dX2_init_47 : decode cX2_init 47 = .ok (.invokespecial 28, 3) := by decide +kernel
theorem dX2_init_50 : decode cX2_init 50 = .ok (.aastore, 1) := by decide +kernel
theorem dX2_init_51 : decode cX2_init 51 = .ok (.iinc 3 1, 3) := by decide +kernel
theorem dX2_init_54 : decode cX2_init 54 = .ok (.goto (-26), 3) := by decide +kernel
theorem dX2_init_57 : decode cX2_init 57 = .ok (.return_, 1) := by decide +kernel
theorem dX2_push_0 : decode cX2_push 0 = .ok (.aload_n 0, 1) := by decide +kernel
theorem dX2_push_1 : decode cX2_push 1 = .ok (.aload_n 0, 1) := by decide +kernel
theorem dX2_push_2 : decode cX2_push 2 = .ok (.getfield 13, 3) := by decide +kernel
theorem dX2_push_5 : decode cX2_push 5 = .ok (.iconst 1, 1) := by decide +kernel
theorem dX2_push_6 : decode cX2_push 6 = .ok (.iadd, 1) := by decide +kernel
theorem dX2_push_7 : decode cX2_push 7 = .ok (.aload_n 0, 1) := by decide +kernel
theorem dX2_push_8 : decode cX2_push 8 = .ok (.getfield 24, 3) := by decide +kernel
theorem dX2_push_11 : decode cX2_push 11 = .ok (.arraylength, 1) := by decide +kernel
theorem dX2_push_12 : decode cX2_push 12 = .ok (.if_icmp .ge 12, 3) := by decide +kernel
theorem dX2_push_15 : decode cX2_push 15 = .ok (.aload_n 0, 1) := by decide +kernel
theorem dX2_push_16 : decode cX2_push 16 = .ok (.getfield 13, 3) := by decide +kernel
theorem dX2_push_19 : decode cX2_push 19 = .ok (.iconst 1, 1) := by decide +kernel
theorem dX2_push_20 : decode cX2_push 20 = .ok (.iadd, 1) := by decide +kernel
theorem dX2_push_21 : decode cX2_push 21 = .ok (.goto 4, 3) := by decide +kernel
theorem dX2_push_24 : decode cX2_push 24 = .ok (.iconst 0, 1) := by decide +kernel
theorem dX2_push_25 : decode cX2_push 25 = .ok (.putfield 13, 3) := by decide +kernel
theorem dX2_push_28 : decode cX2_push 28 = .ok (.aload_n 0, 1) := by decide +kernel
theorem dX2_push_29 : decode cX2_push 29 = .ok (.getfield 24, 3) := by decide +kernel
theorem dX2_push_32 : decode cX2_push 32 = .ok (.aload_n 0, 1) := by decide +kernel
theorem dX2_push_33 : decode cX2_push 33 = .ok (.getfield 13, 3) := by decide +kernel
theorem dX2_push_36 : decode cX2_push 36 = .ok (.aaload, 1) := by decide +kernel
theorem dX2_push_37 : decode cX2_push 37 = .ok (.aload_n 1, 1) := by decide +kernel
theorem dX2_push_38 : decode cX2_push 38 = .ok (.invokevirtual 31, 3) := by decide +kernel
theorem dX2_push_41 : decode cX2_push 41 = .ok (.aload_n 0, 1) := by decide +kernel
theorem dX2_push_42 : decode cX2_push 42 = .ok (.aload_n 0, 1) := by decide +kernel
theorem dX2_push_43 : decode cX2_push 43 = .ok (.getfield 7, 3) := by decide +kernel
theorem dX2_push_46 : decode cX2_push 46 = .ok (.iconst 1, 1) := by decide +kernel
theorem dX2_push_47 : decode cX2_push 47 = .ok (.iadd, 1) := by decide +kernel
theorem dX2_push_48 : decode cX2_push 48 = .ok (.aload_n 0, 1) := by decide +kernel
theorem dX2_push_49 : decode cX2_push 49 = .ok (.getfield 24, 3) := by decide +kernel
theorem dX2_push_52 : decode cX2_push 52 = .ok (.arraylength, 1) := by decide +kernel
theorem dX2_push_53 : decode cX2_push 53 = .ok (.invokestatic 35, 3) := by decide +kernel
theorem dX2_push_56 : decode cX2_push 56 = .ok (.putfield 7, 3) := by decide +kernel
theorem dX2_push_59 : decode cX2_push 59 = .ok (.return_, 1) := by decide +kernel
theorem dX2_popInto_0 : decode cX2_popInto 0 = .ok (.aload_n 0, 1) := by decide +kernel
theorem dX2_popInto_1 : decode cX2_popInto 1 = .ok (.getfield 7, 3) := by decide +kernel
theorem dX2_popInto_4 : decode cX2_popInto 4 = .ok (.ifCond .ne 5, 3) := by decide +kernel
theorem dX2_popInto_7 : decode cX2_popInto 7 = .ok (.iconst 0, 1) := by decide +kernel
theorem dX2_popInto_8 : decode cX2_popInto 8 = .ok (.ireturn, 1) := by decide +kernel
theorem dX2_popInto_9 : decode cX2_popInto 9 = .ok (.aload_n 1, 1) := by decide +kernel
theorem dX2_popInto_10 : decode cX2_popInto 10 = .ok (.aload_n 0, 1) := by decide +kernel
theorem dX2_popInto_11 : decode cX2_popInto 11 = .ok (.getfield 24, 3) := by decide +kernel
theorem dX2_popInto_14 : decode cX2_popInto 14 = .ok (.aload_n 0, 1) := by decide +kernel
theorem dX2_popInto_15 : decode cX2_popInto 15 = .ok (.getfield 13, 3) := by decide +kernel
theorem dX2_popInto_18 : decode cX2_popInto 18 = .ok (.aaload, 1) := by decide +kernel
theorem dX2_popInto_19 : decode cX2_popInto 19 = .ok (.invokevirtual 31, 3) := by decide +kernel
theorem dX2_popInto_22 : decode cX2_popInto 22 = .ok (.aload_n 0, 1) := by decide +kernel
theorem dX2_popInto_23 : decode cX2_popInto 23 = .ok (.aload_n 0, 1) := by decide +kernel
theorem dX2_popInto_24 : decode cX2_popInto 24 = .ok (.getfield 13, 3) := by decide +kernel
theorem dX2_popInto_27 : decode cX2_popInto 27 = .ok (.ifCond .le 12, 3) := by decide +kernel
theorem dX2_popInto_30 : decode cX2_popInto 30 = .ok (.aload_n 0, 1) := by decide +kernel
theorem dX2_popInto_31 : decode cX2_popInto 31 = .ok (.getfield 13, 3) := by decide +kernel
theorem dX2_popInto_34 : decode cX2_popInto 34 = .ok (.iconst 1, 1) := by decide +kernel
theorem dX2_popInto_35 : decode cX2_popInto 35 = .ok (.isub, 1) := by decide +kernel
theorem dX2_popInto_36 : decode cX2_popInto 36 = .ok (.goto 10, 3) := by decide +kernel
theorem dX2_popInto_39 : decode cX2_popInto 39 = .ok (.aload_n 0, 1) := by decide +kernel
theorem dX2_popInto_40 : decode cX2_popInto 40 = .ok (.getfield 24, 3) := by decide +kernel
theorem dX2_popInto_43 : decode cX2_popInto 43 = .ok (.arraylength, 1) := by decide +kernel
theorem dX2_popInto_44 : decode cX2_popInto 44 = .ok (.iconst 1, 1) := by decide +kernel
theorem dX2_popInto_45 : decode cX2_popInto 45 = .ok (.isub, 1) := by decide +kernel
theorem dX2_popInto_46 : decode cX2_popInto 46 = .ok (.putfield 13, 3) := by decide +kernel
theorem dX2_popInto_49 : decode cX2_popInto 49 = .ok (.aload_n 0, 1) := by decide +kernel
theorem dX2_popInto_50 : decode cX2_popInto 50 = .ok (.dup, 1) := by decide +kernel
theorem dX2_popInto_51 : decode cX2_popInto 51 = .ok (.getfield 7, 3) := by decide +kernel
theorem dX2_popInto_54 : decode cX2_popInto 54 = .ok (.iconst 1, 1) := by decide +kernel
theorem dX2_popInto_55 : decode cX2_popInto 55 = .ok (.isub, 1) := by decide +kernel
theorem dX2_popInto_56 : decode cX2_popInto 56 = .ok (.putfield 7, 3) := by decide +kernel
theorem dX2_popInto_59 : decode cX2_popInto 59 = .ok (.iconst 1, 1) := by decide +kernel
theorem dX2_popInto_60 : decode cX2_popInto 60 = .ok (.ireturn, 1) := by decide +kernel
theorem dX3_init_0 : decode cX3_init 0 = .ok (.aload_n 0, 1) := by decide +kernel
theorem dX3_init_1 : decode cX3_init 1 = .ok (.invokespecial 3, 3) := by decide +kernel
theorem dX3_init_4 : decode cX3_init 4 = .ok (.aload_n 0, 1) := by decide +kernel
theorem dX3_init_5 : decode cX3_init 5 = .ok (.bipush 6, 2) := by decide +kernel
theorem dX3_init_7 : decode cX3_init 7 = .ok (.newarray .int, 2) := by decide +kernel
theorem dX3_init_9 : decode cX3_init 9 = .ok (.putfield 9, 3) := by decide +kernel
theorem dX3_init_12 : decode cX3_init 12 = .ok (.aload_n 0, 1) := by decide +kernel
theorem dX3_init_13 : decode cX3_init 13 = .ok (.bipush 6, 2) := by decide +kernel
theorem dX3_init_15 : decode cX3_init 15 = .ok (.newarray .int, 2) := by decide +kernel
theorem dX3_init_17 : decode cX3_init 17 = .ok (.putfield 15, 3) := by decide +kernel
theorem dX3_init_20 : decode cX3_init 20 = .ok (.aload_n 0, 1) := by decide +kernel
theorem dX3_init_21 : decode cX3_init 21 = .ok (.bipush 6, 2) := by decide +kernel
theorem dX3_init_23 : decode cX3_init 23 = .ok (.newarray .int, 2) := by decide +kernel
theorem dX3_init_25 : decode cX3_init 25 = .ok (.putfield 18, 3) := by decide +kernel
theorem dX3_init_28 : decode cX3_init 28 = .ok (.aload_n 0, 1) := by decide +kernel
theorem dX3_init_29 : decode cX3_init 29 = .ok (.bipush 6, 2) := by decide +kernel
theorem dX3_init_31 : decode cX3_init 31 = .ok (.newarray .int, 2) := by decide +kernel
theorem dX3_init_33 : decode cX3_init 33 = .ok (.putfield 21, 3) := by decide +kernel
theorem dX3_init_36 : decode cX3_init 36 = .ok (.aload_n 0, 1) := by decide +kernel
theorem dX3_init_37 : decode cX3_init 37 = .ok (.iconst 0, 1) := by decide +kernel
theorem dX3_init_38 : decode cX3_init 38 = .ok (.putfield 24, 3) := by decide +kernel
theorem dX3_init_41 : decode cX3_init 41 = .ok (.aload_n 0, 1) := by decide +kernel
theorem dX3_init_42 : decode cX3_init 42 = .ok (.iconst 3, 1) := by decide +kernel
theorem dX3_init_43 : decode cX3_init 43 = .ok (.putfield 28, 3) := by decide +kernel
theorem dX3_init_46 : decode cX3_init 46 = .ok (.return_, 1) := by decide +kernel
theorem dX3_clear_0 : decode cX3_clear 0 = .ok (.aload_n 0, 1) := by decide +kernel
theorem dX3_clear_1 : decode cX3_clear 1 = .ok (.iconst 0, 1) := by decide +kernel
theorem dX3_clear_2 : decode cX3_clear 2 = .ok (.putfield 24, 3) := by decide +kernel
theorem dX3_clear_5 : decode cX3_clear 5 = .ok (.aload_n 0, 1) := by decide +kernel
theorem dX3_clear_6 : decode cX3_clear 6 = .ok (.iconst 3, 1) := by decide +kernel
theorem dX3_clear_7 : decode cX3_clear 7 = .ok (.putfield 28, 3) := by decide +kernel
theorem dX3_clear_10 : decode cX3_clear 10 = .ok (.return_, 1) := by decide +kernel
theorem dX3_addPerson_0 : decode cX3_addPerson 0 = .ok (.aload_n 0, 1) := by decide +kernel
theorem dX3_addPerson_1 : decode cX3_addPerson 1 = .ok (.getfield 24, 3) := by decide +kernel
theorem dX3_addPerson_4 : decode cX3_addPerson 4 = .ok (.bipush 6, 2) := by decide +kernel
theorem dX3_addPerson_6 : decode cX3_addPerson 6 = .ok (.if_icmp .ge 33, 3) := by decide +kernel
theorem dX3_addPerson_9 : decode cX3_addPerson 9 = .ok (.iload_n 1, 1) := by decide +kernel
theorem dX3_addPerson_10 : decode cX3_addPerson 10 = .ok (.iconst 4, 1) := by decide +kernel
theorem dX3_addPerson_11 : decode cX3_addPerson 11 = .ok (.if_icmp .ge 28, 3) := by decide +kernel
theorem dX3_addPerson_14 : decode cX3_addPerson 14 = .ok (.iload_n 2, 1) := by decide +kernel
theorem dX3_addPerson_15 : decode cX3_addPerson 15 = .ok (.bipush 40, 2) := by decide +kernel
theorem dX3_addPerson_17 : decode cX3_addPerson 17 = .ok (.if_icmp .gt 22, 3) := by decide +kernel
theorem dX3_addPerson_20 : decode cX3_addPerson 20 = .ok (.iload_n 3, 1) := by decide +kernel
theorem dX3_addPerson_21 : decode cX3_addPerson 21 = .ok (.bipush 40, 2) := by decide +kernel
theorem dX3_addPerson_23 : decode cX3_addPerson 23 = .ok (.if_icmp .gt 16, 3) := by decide +kernel
theorem dX3_addPerson_26 : decode cX3_addPerson 26 = .ok (.iload 4, 2) := by decide +kernel
theorem dX3_addPerson_28 : decode cX3_addPerson 28 = .ok (.iconst 1, 1) := by decide +kernel
theorem dX3_addPerson_29 : decode cX3_addPerson 29 = .ok (.if_icmp .lt 10, 3) := by decide +kernel
theorem dX3_addPerson_32 : decode cX3_addPerson 32 = .ok (.iload 4, 2) := by decide +kernel
theorem dX3_addPerson_34 : decode cX3_addPerson 34 = .ok (.bipush 9, 2) := by decide +kernel
theorem dX3_addPerson_36 : decode cX3_addPerson 36 = .ok (.if_icmp .le 5, 3) := by decide +kernel
theorem dX3_addPerson_39 : decode cX3_addPerson 39 = .ok (.iconst 0, 1) := by decide +kernel
theorem dX3_addPerson_40 : decode cX3_addPerson 40 = .ok (.ireturn, 1) := by decide +kernel
theorem dX3_addPerson_41 : decode cX3_addPerson 41 = .ok (.aload_n 0, 1) := by decide +kernel
theorem dX3_addPerson_42 : decode cX3_addPerson 42 = .ok (.getfield 9, 3) := by decide +kernel
theorem dX3_addPerson_45 : decode cX3_addPerson 45 = .ok (.aload_n 0, 1) := by decide +kernel
theorem dX3_addPerson_46 : decode cX3_addPerson 46 = .ok (.getfield 24, 3) := by decide +kernel
theorem dX3_addPerson_49 : decode cX3_addPerson 49 = .ok (.iload_n 1, 1) := by decide +kernel
theorem dX3_addPerson_50 : decode cX3_addPerson 50 = .ok (.iastore, 1) := by decide +kernel
theorem dX3_addPerson_51 : decode cX3_addPerson 51 = .ok (.aload_n 0, 1) := by decide +kernel
theorem dX3_addPerson_52 : decode cX3_addPerson 52 = .ok (.getfield 15, 3) := by decide +kernel
theorem dX3_addPerson_55 : decode cX3_addPerson 55 = .ok (.aload_n 0, 1) := by decide +kernel
theorem dX3_addPerson_56 : decode cX3_addPerson 56 = .ok (.getfield 24, 3) := by decide +kernel
theorem dX3_addPerson_59 : decode cX3_addPerson 59 = .ok (.iload_n 2, 1) := by decide +kernel
theorem dX3_addPerson_60 : decode cX3_addPerson 60 = .ok (.iastore, 1) := by decide +kernel
theorem dX3_addPerson_61 : decode cX3_addPerson 61 = .ok (.aload_n 0, 1) := by decide +kernel
theorem dX3_addPerson_62 : decode cX3_addPerson 62 = .ok (.getfield 18, 3) := by decide +kernel
theorem dX3_addPerson_65 : decode cX3_addPerson 65 = .ok (.aload_n 0, 1) := by decide +kernel
theorem dX3_addPerson_66 : decode cX3_addPerson 66 = .ok (.getfield 24, 3) := by decide +kernel
theorem dX3_addPerson_69 : decode cX3_addPerson 69 = .ok (.iload_n 3, 1) := by decide +kernel
theorem dX3_addPerson_70 : decode cX3_addPerson 70 = .ok (.iastore, 1) := by decide +kernel
theorem dX3_addPerson_71 : decode cX3_addPerson 71 = .ok (.aload_n 0, 1) := by decide +kernel
theorem dX3_addPerson_72 : decode cX3_addPerson 72 = .ok (.getfield 21, 3) := by decide +kernel
theorem dX3_addPerson_75 : decode cX3_addPerson 75 = .ok (.aload_n 0, 1) := by decide +kernel
theorem dX3_addPerson_76 : decode cX3_addPerson 76 = .ok (.getfield 24, 3) := by decide +kernel
theorem dX3_addPerson_79 : decode cX3_addPerson 79 = .ok (.iload 4, 2) := by decide +kernel
theorem dX3_addPerson_81 : decode cX3_addPerson 81 = .ok (.iastore, 1) := by decide +kernel
theorem dX3_addPerson_82 : decode cX3_addPerson 82 = .ok (.aload_n 0, 1) := by decide +kernel
theorem dX3_addPerson_83 : decode cX3_addPerson 83 = .ok (.dup, 1) := by decide +kernel
theorem dX3_addPerson_84 : decode cX3_addPerson 84 = .ok (.getfield 24, 3) := by decide +kernel
theorem dX3_addPerson_87 : decode cX3_addPerson 87 = .ok (.iconst 1, 1) := by decide +kernel
theorem dX3_addPerson_88 : decode cX3_addPerson 88 = .ok (.iadd, 1) := by decide +kernel
theorem dX3_addPerson_89 : decode cX3_addPerson 89 = .ok (.putfield 24, 3) := by decide +kernel
theorem dX3_addPerson_92 : decode cX3_addPerson 92 = .ok (.iconst 1, 1) := by decide +kernel
theorem dX3_addPerson_93 : decode cX3_addPerson 93 = .ok (.ireturn, 1) := by decide +kernel
theorem dX3_setStock_0 : decode cX3_setStock 0 = .ok (.iload_n 1, 1) := by decide +kernel
theorem dX3_setStock_1 : decode cX3_setStock 1 = .ok (.bipush 20, 2) := by decide +kernel
theorem dX3_setStock_3 : decode cX3_setStock 3 = .ok (.if_icmp .le 5, 3) := by decide +kernel
theorem dX3_setStock_6 : decode cX3_setStock 6 = .ok (.iconst 0, 1) := by decide +kernel
theorem dX3_setStock_7 : decode cX3_setStock 7 = .ok (.ireturn, 1) := by decide +kernel
theorem dX3_setStock_8 : decode cX3_setStock 8 = .ok (.aload_n 0, 1) := by decide +kernel
theorem dX3_setStock_9 : decode cX3_setStock 9 = .ok (.iload_n 1, 1) := by decide +kernel
theorem dX3_setStock_10 : decode cX3_setStock 10 = .ok (.putfield 28, 3) := by decide +kernel
theorem dX3_setStock_13 : decode cX3_setStock 13 = .ok (.iconst 1, 1) := by decide +kernel
theorem dX3_setStock_14 : decode cX3_setStock 14 = .ok (.ireturn, 1) := by decide +kernel
theorem dX3_copyFrom_0 : decode cX3_copyFrom 0 = .ok (.aload_n 1, 1) := by decide +kernel
theorem dX3_copyFrom_1 : decode cX3_copyFrom 1 = .ok (.getfield 9, 3) := by decide +kernel
theorem dX3_copyFrom_4 : decode cX3_copyFrom 4 = .ok (.iconst 0, 1) := by decide +kernel
theorem dX3_copyFrom_5 : decode cX3_copyFrom 5 = .ok (.aload_n 0, 1) := by decide +kernel
theorem dX3_copyFrom_6 : decode cX3_copyFrom 6 = .ok (.getfield 9, 3) := by decide +kernel
theorem dX3_copyFrom_9 : decode cX3_copyFrom 9 = .ok (.iconst 0, 1) := by decide +kernel
theorem dX3_copyFrom_10 : decode cX3_copyFrom 10 = .ok (.bipush 6, 2) := by decide +kernel
theorem dX3_copyFrom_12 : decode cX3_copyFrom 12 = .ok (.invokestatic 31, 3) := by decide +kernel
theorem dX3_copyFrom_15 : decode cX3_copyFrom 15 = .ok (.aload_n 1, 1) := by decide +kernel
theorem dX3_copyFrom_16 : decode cX3_copyFrom 16 = .ok (.getfield 15, 3) := by decide +kernel
theorem dX3_copyFrom_19 : decode cX3_copyFrom 19 = .ok (.iconst 0, 1) := by decide +kernel
theorem dX3_copyFrom_20 : decode cX3_copyFrom 20 = .ok (.aload_n 0, 1) := by decide +kernel
theorem dX3_copyFrom_21 : decode cX3_copyFrom 21 = .ok (.getfield 15, 3) := by decide +kernel
theorem dX3_copyFrom_24 : decode cX3_copyFrom 24 = .ok (.iconst 0, 1) := by decide +kernel
theorem dX3_copyFrom_25 : decode cX3_copyFrom 25 = .ok (.bipush 6, 2) := by decide +kernel
theorem dX3_copyFrom_27 : decode cX3_copyFrom 27 = .ok (.invokestatic 31, 3) := by decide +kernel
theorem dX3_copyFrom_30 : decode cX3_copyFrom 30 = .ok (.aload_n 1, 1) := by decide +kernel
theorem dX3_copyFrom_31 : decode cX3_copyFrom 31 = .ok (.getfield 18, 3) := by decide +kernel
theorem dX3_copyFrom_34 : decode cX3_copyFrom 34 = .ok (.iconst 0, 1) := by decide +kernel
theorem dX3_copyFrom_35 : decode cX3_copyFrom 35 = .ok (.aload_n 0, 1) := by decide +kernel
theorem dX3_copyFrom_36 : decode cX3_copyFrom 36 = .ok (.getfield 18, 3) := by decide +kernel
theorem dX3_copyFrom_39 : decode cX3_copyFrom 39 = .ok (.iconst 0, 1) := by decide +kernel
theorem dX3_copyFrom_40 : decode cX3_copyFrom 40 = .ok (.bipush 6, 2) := by decide +kernel
theorem dX3_copyFrom_42 : decode cX3_copyFrom 42 = .ok (.invokestatic 31, 3) := by decide +kernel
theorem dX3_copyFrom_45 : decode cX3_copyFrom 45 = .ok (.aload_n 1, 1) := by decide +kernel
theorem dX3_copyFrom_46 : decode cX3_copyFrom 46 = .ok (.getfield 21, 3) := by decide +kernel
theorem dX3_copyFrom_49 : decode cX3_copyFrom 49 = .ok (.iconst 0, 1) := by decide +kernel
theorem dX3_copyFrom_50 : decode cX3_copyFrom 50 = .ok (.aload_n 0, 1) := by decide +kernel
theorem dX3_copyFrom_51 : decode cX3_copyFrom 51 = .ok (.getfield 21, 3) := by decide +kernel
theorem dX3_copyFrom_54 : decode cX3_copyFrom 54 = .ok (.iconst 0, 1) := by decide +kernel
theorem dX3_copyFrom_55 : decode cX3_copyFrom 55 = .ok (.bipush 6, 2) := by decide +kernel
theorem dX3_copyFrom_57 : decode cX3_copyFrom 57 = .ok (.invokestatic 31, 3) := by decide +kernel
theorem dX3_copyFrom_60 : decode cX3_copyFrom 60 = .ok (.aload_n 0, 1) := by decide +kernel
theorem dX3_copyFrom_61 : decode cX3_copyFrom 61 = .ok (.aload_n 1, 1) := by decide +kernel
theorem dX3_copyFrom_62 : decode cX3_copyFrom 62 = .ok (.getfield 24, 3) := by decide +kernel
theorem dX3_copyFrom_65 : decode cX3_copyFrom 65 = .ok (.putfield 24, 3) := by decide +kernel
theorem dX3_copyFrom_68 : decode cX3_copyFrom 68 = .ok (.aload_n 0, 1) := by decide +kernel
theorem dX3_copyFrom_69 : decode cX3_copyFrom 69 = .ok (.aload_n 1, 1) := by decide +kernel
theorem dX3_copyFrom_70 : decode cX3_copyFrom 70 = .ok (.getfield 28, 3) := by decide +kernel
theorem dX3_copyFrom_73 : decode cX3_copyFrom 73 = .ok (.putfield 28, 3) := by decide +kernel
theorem dX3_copyFrom_76 : decode cX3_copyFrom 76 = .ok (.return_, 1) := by decide +kernel
theorem dX3_fact_0 : decode cX3_fact 0 = .ok (.iload_n 2, 1) := by decide +kernel
theorem dX3_fact_1 : decode cX3_fact 1 = .ok (.tableswitch 48 0 2 #[27, 34, 41], 27) := by decide +kernel
theorem dX3_fact_28 : decode cX3_fact 28 = .ok (.aload_n 0, 1) := by decide +kernel
theorem dX3_fact_29 : decode cX3_fact 29 = .ok (.getfield 9, 3) := by decide +kernel
theorem dX3_fact_32 : decode cX3_fact 32 = .ok (.iload_n 1, 1) := by decide +kernel
theorem dX3_fact_33 : decode cX3_fact 33 = .ok (.iaload, 1) := by decide +kernel
theorem dX3_fact_34 : decode cX3_fact 34 = .ok (.ireturn, 1) := by decide +kernel
theorem dX3_fact_35 : decode cX3_fact 35 = .ok (.aload_n 0, 1) := by decide +kernel
theorem dX3_fact_36 : decode cX3_fact 36 = .ok (.getfield 15, 3) := by decide +kernel
theorem dX3_fact_39 : decode cX3_fact 39 = .ok (.iload_n 1, 1) := by decide +kernel
theorem dX3_fact_40 : decode cX3_fact 40 = .ok (.iaload, 1) := by decide +kernel
theorem dX3_fact_41 : decode cX3_fact 41 = .ok (.ireturn, 1) := by decide +kernel
theorem dX3_fact_42 : decode cX3_fact 42 = .ok (.aload_n 0, 1) := by decide +kernel
theorem dX3_fact_43 : decode cX3_fact 43 = .ok (.getfield 18, 3) := by decide +kernel
theorem dX3_fact_46 : decode cX3_fact 46 = .ok (.iload_n 1, 1) := by decide +kernel
theorem dX3_fact_47 : decode cX3_fact 47 = .ok (.iaload, 1) := by decide +kernel
theorem dX3_fact_48 : decode cX3_fact 48 = .ok (.ireturn, 1) := by decide +kernel
theorem dX3_fact_49 : decode cX3_fact 49 = .ok (.aload_n 0, 1) := by decide +kernel
theorem dX3_fact_50 : decode cX3_fact 50 = .ok (.getfield 21, 3) := by decide +kernel
theorem dX3_fact_53 : decode cX3_fact 53 = .ok (.iload_n 1, 1) := by decide +kernel
theorem dX3_fact_54 : decode cX3_fact 54 = .ok (.iaload, 1) := by decide +kernel
theorem dX3_fact_55 : decode cX3_fact 55 = .ok (.ireturn, 1) := by decide +kernel
theorem dX4_init_0 : decode cX4_init 0 = .ok (.aload_n 0, 1) := by decide +kernel
theorem dX4_init_1 : decode cX4_init 1 = .ok (.invokespecial 3, 3) := by decide +kernel
theorem dX4_init_4 : decode cX4_init 4 = .ok (.aload_n 0, 1) := by decide +kernel
theorem dX4_init_5 : decode cX4_init 5 = .ok (.bipush 6, 2) := by decide +kernel
theorem dX4_init_7 : decode cX4_init 7 = .ok (.newarray .int, 2) := by decide +kernel
theorem dX4_init_9 : decode cX4_init 9 = .ok (.putfield 9, 3) := by decide +kernel
theorem dX4_init_12 : decode cX4_init 12 = .ok (.aload_n 0, 1) := by decide +kernel
theorem dX4_init_13 : decode cX4_init 13 = .ok (.bipush 6, 2) := by decide +kernel
theorem dX4_init_15 : decode cX4_init 15 = .ok (.newarray .int, 2) := by decide +kernel
theorem dX4_init_17 : decode cX4_init 17 = .ok (.putfield 15, 3) := by decide +kernel
theorem dX4_init_20 : decode cX4_init 20 = .ok (.aload_n 0, 1) := by decide +kernel
theorem dX4_init_21 : decode cX4_init 21 = .ok (.bipush 6, 2) := by decide +kernel
theorem dX4_init_23 : decode cX4_init 23 = .ok (.newarray .boolean, 2) := by decide +kernel
theorem dX4_init_25 : decode cX4_init 25 = .ok (.putfield 18, 3) := by decide +kernel
theorem dX4_init_28 : decode cX4_init 28 = .ok (.aload_n 0, 1) := by decide +kernel
theorem dX4_init_29 : decode cX4_init 29 = .ok (.iconst 0, 1) := by decide +kernel
theorem dX4_init_30 : decode cX4_init 30 = .ok (.putfield 22, 3) := by decide +kernel
theorem dX4_init_33 : decode cX4_init 33 = .ok (.return_, 1) := by decide +kernel
theorem dX4_add_0 : decode cX4_add 0 = .ok (.aload_n 0, 1) := by decide +kernel
theorem dX4_add_1 : decode cX4_add 1 = .ok (.getfield 22, 3) := by decide +kernel
theorem dX4_add_4 : decode cX4_add 4 = .ok (.bipush 6, 2) := by decide +kernel
theorem dX4_add_6 : decode cX4_add 6 = .ok (.if_icmp .ge 43, 3) := by decide +kernel
theorem dX4_add_9 : decode cX4_add 9 = .ok (.aload_n 0, 1) := by decide +kernel
theorem dX4_add_10 : decode cX4_add 10 = .ok (.getfield 9, 3) := by decide +kernel
theorem dX4_add_13 : decode cX4_add 13 = .ok (.aload_n 0, 1) := by decide +kernel
theorem dX4_add_14 : decode cX4_add 14 = .ok (.getfield 22, 3) := by decide +kernel
theorem dX4_add_17 : decode cX4_add 17 = .ok (.iload_n 1, 1) := by decide +kernel
theorem dX4_add_18 : decode cX4_add 18 = .ok (.iastore, 1) := by decide +kernel
theorem dX4_add_19 : decode cX4_add 19 = .ok (.aload_n 0, 1) := by decide +kernel
theorem dX4_add_20 : decode cX4_add 20 = .ok (.getfield 15, 3) := by decide +kernel
theorem dX4_add_23 : decode cX4_add 23 = .ok (.aload_n 0, 1) := by decide +kernel
theorem dX4_add_24 : decode cX4_add 24 = .ok (.getfield 22, 3) := by decide +kernel
theorem dX4_add_27 : decode cX4_add 27 = .ok (.iload_n 2, 1) := by decide +kernel
theorem dX4_add_28 : decode cX4_add 28 = .ok (.iastore, 1) := by decide +kernel
theorem dX4_add_29 : decode cX4_add 29 = .ok (.aload_n 0, 1) := by decide +kernel
theorem dX4_add_30 : decode cX4_add 30 = .ok (.getfield 18, 3) := by decide +kernel
theorem dX4_add_33 : decode cX4_add 33 = .ok (.aload_n 0, 1) := by decide +kernel
theorem dX4_add_34 : decode cX4_add 34 = .ok (.getfield 22, 3) := by decide +kernel
theorem dX4_add_37 : decode cX4_add 37 = .ok (.iload_n 3, 1) := by decide +kernel
theorem dX4_add_38 : decode cX4_add 38 = .ok (.bastore, 1) := by decide +kernel
theorem dX4_add_39 : decode cX4_add 39 = .ok (.aload_n 0, 1) := by decide +kernel
theorem dX4_add_40 : decode cX4_add 40 = .ok (.dup, 1) := by decide +kernel
theorem dX4_add_41 : decode cX4_add 41 = .ok (.getfield 22, 3) := by decide +kernel
theorem dX4_add_44 : decode cX4_add 44 = .ok (.iconst 1, 1) := by decide +kernel
theorem dX4_add_45 : decode cX4_add 45 = .ok (.iadd, 1) := by decide +kernel
theorem dX4_add_46 : decode cX4_add 46 = .ok (.putfield 22, 3) := by decide +kernel
theorem dX4_add_49 : decode cX4_add 49 = .ok (.return_, 1) := by decide +kernel
theorem dX4_allHold_0 : decode cX4_allHold 0 = .ok (.iconst 0, 1) := by decide +kernel
theorem dX4_allHold_1 : decode cX4_allHold 1 = .ok (.istore_n 2, 1) := by decide +kernel
theorem dX4_allHold_2 : decode cX4_allHold 2 = .ok (.iconst 0, 1) := by decide +kernel
theorem dX4_allHold_3 : decode cX4_allHold 3 = .ok (.istore_n 3, 1) := by decide +kernel
theorem dX4_allHold_4 : decode cX4_allHold 4 = .ok (.iload_n 3, 1) := by decide +kernel
theorem dX4_allHold_5 : decode cX4_allHold 5 = .ok (.aload_n 0, 1) := by decide +kernel
theorem dX4_allHold_6 : decode cX4_allHold 6 = .ok (.getfield 22, 3) := by decide +kernel
theorem dX4_allHold_9 : decode cX4_allHold 9 = .ok (.if_icmp .ge 20, 3) := by decide +kernel
theorem dX4_allHold_12 : decode cX4_allHold 12 = .ok (.iload_n 2, 1) := by decide +kernel
theorem dX4_allHold_13 : decode cX4_allHold 13 = .ok (.aload_n 0, 1) := by decide +kernel
theorem dX4_allHold_14 : decode cX4_allHold 14 = .ok (.getfield 9, 3) := by decide +kernel
theorem dX4_allHold_17 : decode cX4_allHold 17 = .ok (.iload_n 3, 1) := by decide +kernel
theorem dX4_allHold_18 : decode cX4_allHold 18 = .ok (.iaload, 1) := by decide +kernel
theorem dX4_allHold_19 : decode cX4_allHold 19 = .ok (.invokestatic 26, 3) := by decide +kernel
theorem dX4_allHold_22 : decode cX4_allHold 22 = .ok (.istore_n 2, 1) := by decide +kernel
theorem dX4_allHold_23 : decode cX4_allHold 23 = .ok (.iinc 3 1, 3) := by decide +kernel
theorem dX4_allHold_26 : decode cX4_allHold 26 = .ok (.goto (-22), 3) := by decide +kernel
theorem dX4_allHold_29 : decode cX4_allHold 29 = .ok (.iconst 0, 1) := by decide +kernel
theorem dX4_allHold_30 : decode cX4_allHold 30 = .ok (.istore_n 3, 1) := by decide +kernel
theorem dX4_allHold_31 : decode cX4_allHold 31 = .ok (.iload_n 3, 1) := by decide +kernel
theorem dX4_allHold_32 : decode cX4_allHold 32 = .ok (.iload_n 2, 1) := by decide +kernel
theorem dX4_allHold_33 : decode cX4_allHold 33 = .ok (.if_icmp .gt 25, 3) := by decide +kernel
theorem dX4_allHold_36 : decode cX4_allHold 36 = .ok (.aload_n 0, 1) := by decide +kernel
theorem dX4_allHold_37 : decode cX4_allHold 37 = .ok (.iload_n 3, 1) := by decide +kernel
theorem dX4_allHold_38 : decode cX4_allHold 38 = .ok (.aload_n 1, 1) := by decide +kernel
theorem dX4_allHold_39 : decode cX4_allHold 39 = .ok (.invokevirtual 32, 3) := by decide +kernel
theorem dX4_allHold_42 : decode cX4_allHold 42 = .ok (.ifCond .ne 5, 3) := by decide +kernel
theorem dX4_allHold_45 : decode cX4_allHold 45 = .ok (.iconst 0, 1) := by decide +kernel
theorem dX4_allHold_46 : decode cX4_allHold 46 = .ok (.ireturn, 1) := by decide +kernel
theorem dX4_allHold_47 : decode cX4_allHold 47 = .ok (.aload_n 1, 1) := by decide +kernel
theorem dX4_allHold_48 : decode cX4_allHold 48 = .ok (.iconst 0, 1) := by decide +kernel
theorem dX4_allHold_49 : decode cX4_allHold 49 = .ok (.invokevirtual 36, 3) := by decide +kernel
theorem dX4_allHold_52 : decode cX4_allHold 52 = .ok (.iinc 3 1, 3) := by decide +kernel
theorem dX4_allHold_55 : decode cX4_allHold 55 = .ok (.goto (-24), 3) := by decide +kernel
theorem dX4_allHold_58 : decode cX4_allHold 58 = .ok (.iconst 1, 1) := by decide +kernel
theorem dX4_allHold_59 : decode cX4_allHold 59 = .ok (.ireturn, 1) := by decide +kernel
theorem dX4_holdAfter_0 : decode cX4_holdAfter 0 = .ok (.iconst 0, 1) := by decide +kernel
theorem dX4_holdAfter_1 : decode cX4_holdAfter 1 = .ok (.istore_n 3, 1) := by decide +kernel
theorem dX4_holdAfter_2 : decode cX4_holdAfter 2 = .ok (.iload_n 3, 1) := by decide +kernel
theorem dX4_holdAfter_3 : decode cX4_holdAfter 3 = .ok (.aload_n 0, 1) := by decide +kernel
theorem dX4_holdAfter_4 : decode cX4_holdAfter 4 = .ok (.getfield 22, 3) := by decide +kernel
theorem dX4_holdAfter_7 : decode cX4_holdAfter 7 = .ok (.if_icmp .ge 40, 3) := by decide +kernel
theorem dX4_holdAfter_10 : decode cX4_holdAfter 10 = .ok (.aload_n 0, 1) := by decide +kernel
theorem dX4_holdAfter_11 : decode cX4_holdAfter 11 = .ok (.getfield 9, 3) := by decide +kernel
theorem dX4_holdAfter_14 : decode cX4_holdAfter 14 = .ok (.iload_n 3, 1) := by decide +kernel
theorem dX4_holdAfter_15 : decode cX4_holdAfter 15 = .ok (.iaload, 1) := by decide +kernel
theorem dX4_holdAfter_16 : decode cX4_holdAfter 16 = .ok (.iload_n 1, 1) := by decide +kernel
theorem dX4_holdAfter_17 : decode cX4_holdAfter 17 = .ok (.if_icmp .ne 24, 3) := by decide +kernel
theorem dX4_holdAfter_20 : decode cX4_holdAfter 20 = .ok (.aload_n 2, 1) := by decide +kernel
theorem dX4_holdAfter_21 : decode cX4_holdAfter 21 = .ok (.aload_n 0, 1) := by decide +kernel
theorem dX4_holdAfter_22 : decode cX4_holdAfter 22 = .ok (.getfield 15, 3) := by decide +kernel
theorem dX4_holdAfter_25 : decode cX4_holdAfter 25 = .ok (.iload_n 3, 1) := by decide +kernel
theorem dX4_holdAfter_26 : decode cX4_holdAfter 26 = .ok (.iaload, 1) := by decide +kernel
theorem dX4_holdAfter_27 : decode cX4_holdAfter 27 = .ok (.invokevirtual 42, 3) := by decide +kernel
theorem dX4_holdAfter_30 : decode cX4_holdAfter 30 = .ok (.aload_n 0, 1) := by decide +kernel
theorem dX4_holdAfter_31 : decode cX4_holdAfter 31 = .ok (.getfield 18, 3) := by decide +kernel
theorem dX4_holdAfter_34 : decode cX4_holdAfter 34 = .ok (.iload_n 3, 1) := by decide +kernel
theorem dX4_holdAfter_35 : decode cX4_holdAfter 35 = .ok (.baload, 1) := by decide +kernel
theorem dX4_holdAfter_36 : decode cX4_holdAfter 36 = .ok (.if_icmp .eq 5, 3) := by decide +kernel
theorem dX4_holdAfter_39 : decode cX4_holdAfter 39 = .ok (.iconst 0, 1) := by decide +kernel
theorem dX4_holdAfter_40 : decode cX4_holdAfter 40 = .ok (.ireturn, 1) := by decide +kernel
theorem dX4_holdAfter_41 : decode cX4_holdAfter 41 = .ok (.iinc 3 1, 3) := by decide +kernel
theorem dX4_holdAfter_44 : decode cX4_holdAfter 44 = .ok (.goto (-42), 3) := by decide +kernel
theorem dX4_holdAfter_47 : decode cX4_holdAfter 47 = .ok (.iconst 1, 1) := by decide +kernel
theorem dX4_holdAfter_48 : decode cX4_holdAfter 48 = .ok (.ireturn, 1) := by decide +kernel
theorem dX5_init_0 : decode cX5_init 0 = .ok (.aload_n 0, 1) := by decide +kernel
theorem dX5_init_1 : decode cX5_init 1 = .ok (.invokespecial 3, 3) := by decide +kernel
theorem dX5_init_4 : decode cX5_init 4 = .ok (.aload_n 0, 1) := by decide +kernel
theorem dX5_init_5 : decode cX5_init 5 = .ok (.sipush 200, 3) := by decide +kernel
theorem dX5_init_8 : decode cX5_init 8 = .ok (.newarray .char, 2) := by decide +kernel
theorem dX5_init_10 : decode cX5_init 10 = .ok (.putfield 9, 3) := by decide +kernel
theorem dX5_init_13 : decode cX5_init 13 = .ok (.aload_n 0, 1) := by decide +kernel
theorem dX5_init_14 : decode cX5_init 14 = .ok (.iconst 4, 1) := by decide +kernel
theorem dX5_init_15 : decode cX5_init 15 = .ok (.newarray .int, 2) := by decide +kernel
theorem dX5_init_17 : decode cX5_init 17 = .ok (.putfield 15, 3) := by decide +kernel
theorem dX5_init_20 : decode cX5_init 20 = .ok (.aload_n 0, 1) := by decide +kernel
end
section
theorem dX5_init_21 : decode cX5_init 21 = .ok (.iconst 0, 1) := by decide +kernel
theorem dX5_init_22 : decode cX5_init 22 = .ok (.putfield 19, 3) := by decide +kernel
theorem dX5_init_25 : decode cX5_init 25 = .ok (.return_, 1) := by decide +kernel
theorem dX5_append_0 : decode cX5_append 0 = .ok (.aload_n 0, 1) := by decide +kernel
theorem dX5_append_1 : decode cX5_append 1 = .ok (.getfield 19, 3) := by decide +kernel
theorem dX5_append_4 : decode cX5_append 4 = .ok (.sipush 200, 3) := by decide +kernel
theorem dX5_append_7 : decode cX5_append 7 = .ok (.if_icmp .ge 24, 3) := by decide +kernel
theorem dX5_append_10 : decode cX5_append 10 = .ok (.aload_n 0, 1) := by decide +kernel
theorem dX5_append_11 : decode cX5_append 11 = .ok (.getfield 9, 3) := by decide +kernel
theorem dX5_append_14 : decode cX5_append 14 = .ok (.aload_n 0, 1) := by decide +kernel
theorem dX5_append_15 : decode cX5_append 15 = .ok (.getfield 19, 3) := by decide +kernel
theorem dX5_append_18 : decode cX5_append 18 = .ok (.iload_n 1, 1) := by decide +kernel
theorem dX5_append_19 : decode cX5_append 19 = .ok (.i2c, 1) := by decide +kernel
theorem dX5_append_20 : decode cX5_append 20 = .ok (.castore, 1) := by decide +kernel
theorem dX5_append_21 : decode cX5_append 21 = .ok (.aload_n 0, 1) := by decide +kernel
theorem dX5_append_22 : decode cX5_append 22 = .ok (.dup, 1) := by decide +kernel
theorem dX5_append_23 : decode cX5_append 23 = .ok (.getfield 19, 3) := by decide +kernel
theorem dX5_append_26 : decode cX5_append 26 = .ok (.iconst 1, 1) := by decide +kernel
theorem dX5_append_27 : decode cX5_append 27 = .ok (.iadd, 1) := by decide +kernel
theorem dX5_append_28 : decode cX5_append 28 = .ok (.putfield 19, 3) := by decide +kernel
theorem dX5_append_31 : decode cX5_append 31 = .ok (.aload_n 0, 1) := by decide +kernel
theorem dX5_append_32 : decode cX5_append 32 = .ok (.getfield 19, 3) := by decide +kernel
theorem dX5_append_35 : decode cX5_append 35 = .ok (.ireturn, 1) := by decide +kernel
theorem dX5_empty_0 : decode cX5_empty 0 = .ok (.aload_n 0, 1) := by decide +kernel
theorem dX5_empty_1 : decode cX5_empty 1 = .ok (.getfield 19, 3) := by decide +kernel
theorem dX5_empty_4 : decode cX5_empty 4 = .ok (.istore_n 1, 1) := by decide +kernel
theorem dX5_empty_5 : decode cX5_empty 5 = .ok (.aload_n 0, 1) := by decide +kernel
theorem dX5_empty_6 : decode cX5_empty 6 = .ok (.iconst 0, 1) := by decide +kernel
theorem dX5_empty_7 : decode cX5_empty 7 = .ok (.putfield 19, 3) := by decide +kernel
theorem dX5_empty_10 : decode cX5_empty 10 = .ok (.iload_n 1, 1) := by decide +kernel
theorem dX5_empty_11 : decode cX5_empty 11 = .ok (.ireturn, 1) := by decide +kernel
theorem dX5_readInto_0 : decode cX5_readInto 0 = .ok (.aload_n 1, 1) := by decide +kernel
theorem dX5_readInto_1 : decode cX5_readInto 1 = .ok (.invokevirtual 23, 3) := by decide +kernel
theorem dX5_readInto_4 : decode cX5_readInto 4 = .ok (.iconst 0, 1) := by decide +kernel
theorem dX5_readInto_5 : decode cX5_readInto 5 = .ok (.istore_n 2, 1) := by decide +kernel
theorem dX5_readInto_6 : decode cX5_readInto 6 = .ok (.iconst 0, 1) := by decide +kernel
theorem dX5_readInto_7 : decode cX5_readInto 7 = .ok (.istore_n 3, 1) := by decide +kernel
theorem dX5_readInto_8 : decode cX5_readInto 8 = .ok (.iload_n 3, 1) := by decide +kernel
theorem dX5_readInto_9 : decode cX5_readInto 9 = .ok (.sipush 200, 3) := by decide +kernel
theorem dX5_readInto_12 : decode cX5_readInto 12 = .ok (.if_icmp .ge 35, 3) := by decide +kernel
theorem dX5_readInto_15 : decode cX5_readInto 15 = .ok (.iload_n 2, 1) := by decide +kernel
theorem dX5_readInto_16 : decode cX5_readInto 16 = .ok (.aload_n 0, 1) := by decide +kernel
theorem dX5_readInto_17 : decode cX5_readInto 17 = .ok (.getfield 19, 3) := by decide +kernel
theorem dX5_readInto_20 : decode cX5_readInto 20 = .ok (.if_icmp .ge 27, 3) := by decide +kernel
theorem dX5_readInto_23 : decode cX5_readInto 23 = .ok (.aload_n 0, 1) := by decide +kernel
theorem dX5_readInto_24 : decode cX5_readInto 24 = .ok (.iload_n 2, 1) := by decide +kernel
theorem dX5_readInto_25 : decode cX5_readInto 25 = .ok (.aload_n 1, 1) := by decide +kernel
theorem dX5_readInto_26 : decode cX5_readInto 26 = .ok (.invokevirtual 28, 3) := by decide +kernel
theorem dX5_readInto_29 : decode cX5_readInto 29 = .ok (.istore 4, 2) := by decide +kernel
theorem dX5_readInto_31 : decode cX5_readInto 31 = .ok (.iload 4, 2) := by decide +kernel
theorem dX5_readInto_33 : decode cX5_readInto 33 = .ok (.ifCond .ge 5, 3) := by decide +kernel
theorem dX5_readInto_36 : decode cX5_readInto 36 = .ok (.iload_n 2, 1) := by decide +kernel
theorem dX5_readInto_37 : decode cX5_readInto 37 = .ok (.ireturn, 1) := by decide +kernel
theorem dX5_readInto_38 : decode cX5_readInto 38 = .ok (.iload 4, 2) := by decide +kernel
theorem dX5_readInto_40 : decode cX5_readInto 40 = .ok (.istore_n 2, 1) := by decide +kernel
theorem dX5_readInto_41 : decode cX5_readInto 41 = .ok (.iinc 3 1, 3) := by decide +kernel
theorem dX5_readInto_44 : decode cX5_readInto 44 = .ok (.goto (-36), 3) := by decide +kernel
theorem dX5_readInto_47 : decode cX5_readInto 47 = .ok (.bipush (-4), 2) := by decide +kernel
theorem dX5_readInto_49 : decode cX5_readInto 49 = .ok (.ireturn, 1) := by decide +kernel
theorem dX5_readItem_0 : decode cX5_readItem 0 = .ok (.aload_n 0, 1) := by decide +kernel
theorem dX5_readItem_1 : decode cX5_readItem 1 = .ok (.iload_n 1, 1) := by decide +kernel
theorem dX5_readItem_2 : decode cX5_readItem 2 = .ok (.invokevirtual 32, 3) := by decide +kernel
theorem dX5_readItem_5 : decode cX5_readItem 5 = .ok (.istore_n 3, 1) := by decide +kernel
theorem dX5_readItem_6 : decode cX5_readItem 6 = .ok (.iload_n 3, 1) := by decide +kernel
theorem dX5_readItem_7 : decode cX5_readItem 7 = .ok (.bipush 112, 2) := by decide +kernel
theorem dX5_readItem_9 : decode cX5_readItem 9 = .ok (.if_icmp .eq 12, 3) := by decide +kernel
theorem dX5_readItem_12 : decode cX5_readItem 12 = .ok (.iload_n 3, 1) := by decide +kernel
theorem dX5_readItem_13 : decode cX5_readItem 13 = .ok (.bipush 104, 2) := by decide +kernel
theorem dX5_readItem_15 : decode cX5_readItem 15 = .ok (.if_icmp .eq 6, 3) := by decide +kernel
theorem dX5_readItem_18 : decode cX5_readItem 18 = .ok (.bipush (-4), 2) := by decide +kernel
theorem dX5_readItem_20 : decode cX5_readItem 20 = .ok (.ireturn, 1) := by decide +kernel
theorem dX5_readItem_21 : decode cX5_readItem 21 = .ok (.aload_n 0, 1) := by decide +kernel
theorem dX5_readItem_22 : decode cX5_readItem 22 = .ok (.iload_n 1, 1) := by decide +kernel
theorem dX5_readItem_23 : decode cX5_readItem 23 = .ok (.iconst 1, 1) := by decide +kernel
theorem dX5_readItem_24 : decode cX5_readItem 24 = .ok (.iadd, 1) := by decide +kernel
theorem dX5_readItem_25 : decode cX5_readItem 25 = .ok (.iload_n 3, 1) := by decide +kernel
theorem dX5_readItem_26 : decode cX5_readItem 26 = .ok (.bipush 112, 2) := by decide +kernel
theorem dX5_readItem_28 : decode cX5_readItem 28 = .ok (.if_icmp .ne 7, 3) := by decide +kernel
theorem dX5_readItem_31 : decode cX5_readItem 31 = .ok (.iconst 4, 1) := by decide +kernel
theorem dX5_readItem_32 : decode cX5_readItem 32 = .ok (.goto 4, 3) := by decide +kernel
theorem dX5_readItem_35 : decode cX5_readItem 35 = .ok (.iconst 1, 1) := by decide +kernel
theorem dX5_readItem_36 : decode cX5_readItem 36 = .ok (.invokevirtual 36, 3) := by decide +kernel
theorem dX5_readItem_39 : decode cX5_readItem 39 = .ok (.istore 4, 2) := by decide +kernel
theorem dX5_readItem_41 : decode cX5_readItem 41 = .ok (.iload 4, 2) := by decide +kernel
theorem dX5_readItem_43 : decode cX5_readItem 43 = .ok (.ifCond .ge 6, 3) := by decide +kernel
theorem dX5_readItem_46 : decode cX5_readItem 46 = .ok (.bipush (-4), 2) := by decide +kernel
theorem dX5_readItem_48 : decode cX5_readItem 48 = .ok (.ireturn, 1) := by decide +kernel
theorem dX5_readItem_49 : decode cX5_readItem 49 = .ok (.iload_n 3, 1) := by decide +kernel
theorem dX5_readItem_50 : decode cX5_readItem 50 = .ok (.bipush 112, 2) := by decide +kernel
theorem dX5_readItem_52 : decode cX5_readItem 52 = .ok (.if_icmp .ne 34, 3) := by decide +kernel
theorem dX5_readItem_55 : decode cX5_readItem 55 = .ok (.aload_n 2, 1) := by decide +kernel
theorem dX5_readItem_56 : decode cX5_readItem 56 = .ok (.aload_n 0, 1) := by decide +kernel
theorem dX5_readItem_57 : decode cX5_readItem 57 = .ok (.getfield 15, 3) := by decide +kernel
theorem dX5_readItem_60 : decode cX5_readItem 60 = .ok (.iconst 0, 1) := by decide +kernel
theorem dX5_readItem_61 : decode cX5_readItem 61 = .ok (.iaload, 1) := by decide +kernel
theorem dX5_readItem_62 : decode cX5_readItem 62 = .ok (.aload_n 0, 1) := by decide +kernel
theorem dX5_readItem_63 : decode cX5_readItem 63 = .ok (.getfield 15, 3) := by decide +kernel
theorem dX5_readItem_66 : decode cX5_readItem 66 = .ok (.iconst 1, 1) := by decide +kernel
theorem dX5_readItem_67 : decode cX5_readItem 67 = .ok (.iaload, 1) := by decide +kernel
theorem dX5_readItem_68 : decode cX5_readItem 68 = .ok (.aload_n 0, 1) := by decide +kernel
theorem dX5_readItem_69 : decode cX5_readItem 69 = .ok (.getfield 15, 3) := by decide +kernel
theorem dX5_readItem_72 : decode cX5_readItem 72 = .ok (.iconst 2, 1) := by decide +kernel
theorem dX5_readItem_73 : decode cX5_readItem 73 = .ok (.iaload, 1) := by decide +kernel
theorem dX5_readItem_74 : decode cX5_readItem 74 = .ok (.aload_n 0, 1) := by decide +kernel
theorem dX5_readItem_75 : decode cX5_readItem 75 = .ok (.getfield 15, 3) := by decide +kernel
theorem dX5_readItem_78 : decode cX5_readItem 78 = .ok (.iconst 3, 1) := by decide +kernel
theorem dX5_readItem_79 : decode cX5_readItem 79 = .ok (.iaload, 1) := by decide +kernel
theorem dX5_readItem_80 : decode cX5_readItem 80 = .ok (.invokevirtual 40, 3) := by decide +kernel
theorem dX5_readItem_83 : decode cX5_readItem 83 = .ok (.goto 13, 3) := by decide +kernel
theorem dX5_readItem_86 : decode cX5_readItem 86 = .ok (.aload_n 2, 1) := by decide +kernel
theorem dX5_readItem_87 : decode cX5_readItem 87 = .ok (.aload_n 0, 1) := by decide +kernel
theorem dX5_readItem_88 : decode cX5_readItem 88 = .ok (.getfield 15, 3) := by decide +kernel
theorem dX5_readItem_91 : decode cX5_readItem 91 = .ok (.iconst 0, 1) := by decide +kernel
theorem dX5_readItem_92 : decode cX5_readItem 92 = .ok (.iaload, 1) := by decide +kernel
theorem dX5_readItem_93 : decode cX5_readItem 93 = .ok (.invokevirtual 44, 3) := by decide +kernel
theorem dX5_readItem_96 : decode cX5_readItem 96 = .ok (.istore 5, 2) := by decide +kernel
theorem dX5_readItem_98 : decode cX5_readItem 98 = .ok (.iload 5, 2) := by decide +kernel
theorem dX5_readItem_100 : decode cX5_readItem 100 = .ok (.ifCond .eq 8, 3) := by decide +kernel
theorem dX5_readItem_103 : decode cX5_readItem 103 = .ok (.iload 4, 2) := by decide +kernel
theorem dX5_readItem_105 : decode cX5_readItem 105 = .ok (.goto 5, 3) := by decide +kernel
theorem dX5_readItem_108 : decode cX5_readItem 108 = .ok (.bipush (-4), 2) := by decide +kernel
theorem dX5_readItem_110 : decode cX5_readItem 110 = .ok (.ireturn, 1) := by decide +kernel
theorem dX5_readNumbers_0 : decode cX5_readNumbers 0 = .ok (.iload_n 1, 1) := by decide +kernel
theorem dX5_readNumbers_1 : decode cX5_readNumbers 1 = .ok (.istore_n 3, 1) := by decide +kernel
theorem dX5_readNumbers_2 : decode cX5_readNumbers 2 = .ok (.iconst 0, 1) := by decide +kernel
theorem dX5_readNumbers_3 : decode cX5_readNumbers 3 = .ok (.istore 4, 2) := by decide +kernel
theorem dX5_readNumbers_5 : decode cX5_readNumbers 5 = .ok (.iload 4, 2) := by decide +kernel
theorem dX5_readNumbers_7 : decode cX5_readNumbers 7 = .ok (.iload_n 2, 1) := by decide +kernel
theorem dX5_readNumbers_8 : decode cX5_readNumbers 8 = .ok (.if_icmp .ge 108, 3) := by decide +kernel
theorem dX5_readNumbers_11 : decode cX5_readNumbers 11 = .ok (.iload 4, 2) := by decide +kernel
theorem dX5_readNumbers_13 : decode cX5_readNumbers 13 = .ok (.aload_n 0, 1) := by decide +kernel
theorem dX5_readNumbers_14 : decode cX5_readNumbers 14 = .ok (.getfield 15, 3) := by decide +kernel
theorem dX5_readNumbers_17 : decode cX5_readNumbers 17 = .ok (.arraylength, 1) := by decide +kernel
theorem dX5_readNumbers_18 : decode cX5_readNumbers 18 = .ok (.if_icmp .ge 98, 3) := by decide +kernel
theorem dX5_readNumbers_21 : decode cX5_readNumbers 21 = .ok (.aload_n 0, 1) := by decide +kernel
theorem dX5_readNumbers_22 : decode cX5_readNumbers 22 = .ok (.iload_n 3, 1) := by decide +kernel
theorem dX5_readNumbers_23 : decode cX5_readNumbers 23 = .ok (.invokevirtual 48, 3) := by decide +kernel
theorem dX5_readNumbers_26 : decode cX5_readNumbers 26 = .ok (.ifCond .ne 6, 3) := by decide +kernel
theorem dX5_readNumbers_29 : decode cX5_readNumbers 29 = .ok (.bipush (-4), 2) := by decide +kernel
theorem dX5_readNumbers_31 : decode cX5_readNumbers 31 = .ok (.ireturn, 1) := by decide +kernel
theorem dX5_readNumbers_32 : decode cX5_readNumbers 32 = .ok (.aload_n 0, 1) := by decide +kernel
theorem dX5_readNumbers_33 : decode cX5_readNumbers 33 = .ok (.iload_n 3, 1) := by decide +kernel
theorem dX5_readNumbers_34 : decode cX5_readNumbers 34 = .ok (.invokevirtual 32, 3) := by decide +kernel
theorem dX5_readNumbers_37 : decode cX5_readNumbers 37 = .ok (.bipush 48, 2) := by decide +kernel
theorem dX5_readNumbers_39 : decode cX5_readNumbers 39 = .ok (.isub, 1) := by decide +kernel
theorem dX5_readNumbers_40 : decode cX5_readNumbers 40 = .ok (.istore 5, 2) := by decide +kernel
theorem dX5_readNumbers_42 : decode cX5_readNumbers 42 = .ok (.iinc 3 1, 3) := by decide +kernel
theorem dX5_readNumbers_45 : decode cX5_readNumbers 45 = .ok (.aload_n 0, 1) := by decide +kernel
theorem dX5_readNumbers_46 : decode cX5_readNumbers 46 = .ok (.iload_n 3, 1) := by decide +kernel
theorem dX5_readNumbers_47 : decode cX5_readNumbers 47 = .ok (.invokevirtual 48, 3) := by decide +kernel
theorem dX5_readNumbers_50 : decode cX5_readNumbers 50 = .ok (.ifCond .eq 22, 3) := by decide +kernel
theorem dX5_readNumbers_53 : decode cX5_readNumbers 53 = .ok (.iload 5, 2) := by decide +kernel
theorem dX5_readNumbers_55 : decode cX5_readNumbers 55 = .ok (.bipush 10, 2) := by decide +kernel
theorem dX5_readNumbers_57 : decode cX5_readNumbers 57 = .ok (.imul, 1) := by decide +kernel
theorem dX5_readNumbers_58 : decode cX5_readNumbers 58 = .ok (.aload_n 0, 1) := by decide +kernel
theorem dX5_readNumbers_59 : decode cX5_readNumbers 59 = .ok (.iload_n 3, 1) := by decide +kernel
theorem dX5_readNumbers_60 : decode cX5_readNumbers 60 = .ok (.invokevirtual 32, 3) := by decide +kernel
theorem dX5_readNumbers_63 : decode cX5_readNumbers 63 = .ok (.iadd, 1) := by decide +kernel
theorem dX5_readNumbers_64 : decode cX5_readNumbers 64 = .ok (.bipush 48, 2) := by decide +kernel
theorem dX5_readNumbers_66 : decode cX5_readNumbers 66 = .ok (.isub, 1) := by decide +kernel
theorem dX5_readNumbers_67 : decode cX5_readNumbers 67 = .ok (.istore 5, 2) := by decide +kernel
theorem dX5_readNumbers_69 : decode cX5_readNumbers 69 = .ok (.iinc 3 1, 3) := by decide +kernel
theorem dX5_readNumbers_72 : decode cX5_readNumbers 72 = .ok (.aload_n 0, 1) := by decide +kernel
theorem dX5_readNumbers_73 : decode cX5_readNumbers 73 = .ok (.getfield 15, 3) := by decide +kernel
theorem dX5_readNumbers_76 : decode cX5_readNumbers 76 = .ok (.iload 4, 2) := by decide +kernel
theorem dX5_readNumbers_78 : decode cX5_readNumbers 78 = .ok (.iload 5, 2) := by decide +kernel
theorem dX5_readNumbers_80 : decode cX5_readNumbers 80 = .ok (.iastore, 1) := by decide +kernel
theorem dX5_readNumbers_81 : decode cX5_readNumbers 81 = .ok (.aload_n 0, 1) := by decide +kernel
theorem dX5_readNumbers_82 : decode cX5_readNumbers 82 = .ok (.iload_n 3, 1) := by decide +kernel
theorem dX5_readNumbers_83 : decode cX5_readNumbers 83 = .ok (.invokevirtual 32, 3) := by decide +kernel
theorem dX5_readNumbers_86 : decode cX5_readNumbers 86 = .ok (.iload 4, 2) := by decide +kernel
theorem dX5_readNumbers_88 : decode cX5_readNumbers 88 = .ok (.iload_n 2, 1) := by decide +kernel
theorem dX5_readNumbers_89 : decode cX5_readNumbers 89 = .ok (.iconst 1, 1) := by decide +kernel
theorem dX5_readNumbers_90 : decode cX5_readNumbers 90 = .ok (.isub, 1) := by decide +kernel
theorem dX5_readNumbers_91 : decode cX5_readNumbers 91 = .ok (.if_icmp .ne 8, 3) := by decide +kernel
theorem dX5_readNumbers_94 : decode cX5_readNumbers 94 = .ok (.bipush 59, 2) := by decide +kernel
theorem dX5_readNumbers_96 : decode cX5_readNumbers 96 = .ok (.goto 5, 3) := by decide +kernel
theorem dX5_readNumbers_99 : decode cX5_readNumbers 99 = .ok (.bipush 44, 2) := by decide +kernel
theorem dX5_readNumbers_101 : decode cX5_readNumbers 101 = .ok (.if_icmp .eq 6, 3) := by decide +kernel
theorem dX5_readNumbers_104 : decode cX5_readNumbers 104 = .ok (.bipush (-4), 2) := by decide +kernel
theorem dX5_readNumbers_106 : decode cX5_readNumbers 106 = .ok (.ireturn, 1) := by decide +kernel
theorem dX5_readNumbers_107 : decode cX5_readNumbers 107 = .ok (.iinc 3 1, 3) := by decide +kernel
theorem dX5_readNumbers_110 : decode cX5_readNumbers 110 = .ok (.iinc 4 1, 3) := by decide +kernel
theorem dX5_readNumbers_113 : decode cX5_readNumbers 113 = .ok (.goto (-108), 3) := by decide +kernel
theorem dX5_readNumbers_116 : decode cX5_readNumbers 116 = .ok (.iload_n 3, 1) := by decide +kernel
theorem dX5_readNumbers_117 : decode cX5_readNumbers 117 = .ok (.ireturn, 1) := by decide +kernel
theorem dX5_isFigure_0 : decode cX5_isFigure 0 = .ok (.aload_n 0, 1) := by decide +kernel
theorem dX5_isFigure_1 : decode cX5_isFigure 1 = .ok (.iload_n 1, 1) := by decide +kernel
theorem dX5_isFigure_2 : decode cX5_isFigure 2 = .ok (.invokevirtual 32, 3) := by decide +kernel
theorem dX5_isFigure_5 : decode cX5_isFigure 5 = .ok (.istore_n 2, 1) := by decide +kernel
theorem dX5_isFigure_6 : decode cX5_isFigure 6 = .ok (.iload_n 2, 1) := by decide +kernel
theorem dX5_isFigure_7 : decode cX5_isFigure 7 = .ok (.bipush 48, 2) := by decide +kernel
theorem dX5_isFigure_9 : decode cX5_isFigure 9 = .ok (.if_icmp .lt 13, 3) := by decide +kernel
theorem dX5_isFigure_12 : decode cX5_isFigure 12 = .ok (.iload_n 2, 1) := by decide +kernel
theorem dX5_isFigure_13 : decode cX5_isFigure 13 = .ok (.bipush 57, 2) := by decide +kernel
theorem dX5_isFigure_15 : decode cX5_isFigure 15 = .ok (.if_icmp .gt 7, 3) := by decide +kernel
theorem dX5_isFigure_18 : decode cX5_isFigure 18 = .ok (.iconst 1, 1) := by decide +kernel
theorem dX5_isFigure_19 : decode cX5_isFigure 19 = .ok (.goto 4, 3) := by decide +kernel
theorem dX5_isFigure_22 : decode cX5_isFigure 22 = .ok (.iconst 0, 1) := by decide +kernel
theorem dX5_isFigure_23 : decode cX5_isFigure 23 = .ok (.ireturn, 1) := by decide +kernel
theorem dX5_letterAt_0 : decode cX5_letterAt 0 = .ok (.iload_n 1, 1) := by decide +kernel
theorem dX5_letterAt_1 : decode cX5_letterAt 1 = .ok (.ifCond .lt 27, 3) := by decide +kernel
theorem dX5_letterAt_4 : decode cX5_letterAt 4 = .ok (.iload_n 1, 1) := by decide +kernel
theorem dX5_letterAt_5 : decode cX5_letterAt 5 = .ok (.aload_n 0, 1) := by decide +kernel
theorem dX5_letterAt_6 : decode cX5_letterAt 6 = .ok (.getfield 19, 3) := by decide +kernel
theorem dX5_letterAt_9 : decode cX5_letterAt 9 = .ok (.if_icmp .ge 19, 3) := by decide +kernel
theorem dX5_letterAt_12 : decode cX5_letterAt 12 = .ok (.iload_n 1, 1) := by decide +kernel
theorem dX5_letterAt_13 : decode cX5_letterAt 13 = .ok (.sipush 200, 3) := by decide +kernel
theorem dX5_letterAt_16 : decode cX5_letterAt 16 = .ok (.if_icmp .ge 12, 3) := by decide +kernel
theorem dX5_letterAt_19 : decode cX5_letterAt 19 = .ok (.aload_n 0, 1) := by decide +kernel
theorem dX5_letterAt_20 : decode cX5_letterAt 20 = .ok (.getfield 9, 3) := by decide +kernel
theorem dX5_letterAt_23 : decode cX5_letterAt 23 = .ok (.iload_n 1, 1) := by decide +kernel
theorem dX5_letterAt_24 : decode cX5_letterAt 24 = .ok (.caload, 1) := by decide +kernel
theorem dX5_letterAt_25 : decode cX5_letterAt 25 = .ok (.goto 4, 3) := by decide +kernel
theorem dX5_letterAt_28 : decode cX5_letterAt 28 = .ok (.iconst 0, 1) := by decide +kernel
theorem dX5_letterAt_29 : decode cX5_letterAt 29 = .ok (.ireturn, 1) := by decide +kernel
theorem dX6_init_0 : decode cX6_init 0 = .ok (.aload_n 0, 1) := by decide +kernel
theorem dX6_init_1 : decode cX6_init 1 = .ok (.invokespecial 1, 3) := by decide +kernel
theorem dX6_init_4 : decode cX6_init 4 = .ok (.aload_n 0, 1) := by decide +kernel
theorem dX6_init_5 : decode cX6_init 5 = .ok (.new 7, 3) := by decide +kernel
theorem dX6_init_8 : decode cX6_init 8 = .ok (.dup, 1) := by decide +kernel
theorem dX6_init_9 : decode cX6_init 9 = .ok (.invokespecial 9, 3) := by decide +kernel
theorem dX6_init_12 : decode cX6_init 12 = .ok (.putfield 10, 3) := by decide +kernel
theorem dX6_init_15 : decode cX6_init 15 = .ok (.aload_n 0, 1) := by decide +kernel
theorem dX6_init_16 : decode cX6_init 16 = .ok (.new 16, 3) := by decide +kernel
theorem dX6_init_19 : decode cX6_init 19 = .ok (.dup, 1) := by decide +kernel
theorem dX6_init_20 : decode cX6_init 20 = .ok (.invokespecial 18, 3) := by decide +kernel
theorem dX6_init_23 : decode cX6_init 23 = .ok (.putfield 19, 3) := by decide +kernel
theorem dX6_init_26 : decode cX6_init 26 = .ok (.aload_n 0, 1) := by decide +kernel
theorem dX6_init_27 : decode cX6_init 27 = .ok (.new 16, 3) := by decide +kernel
theorem dX6_init_30 : decode cX6_init 30 = .ok (.dup, 1) := by decide +kernel
theorem dX6_init_31 : decode cX6_init 31 = .ok (.invokespecial 18, 3) := by decide +kernel
theorem dX6_init_34 : decode cX6_init 34 = .ok (.putfield 23, 3) := by decide +kernel
theorem dX6_init_37 : decode cX6_init 37 = .ok (.aload_n 0, 1) := by decide +kernel
theorem dX6_init_38 : decode cX6_init 38 = .ok (.new 16, 3) := by decide +kernel
theorem dX6_init_41 : decode cX6_init 41 = .ok (.dup, 1) := by decide +kernel
theorem dX6_init_42 : decode cX6_init 42 = .ok (.invokespecial 18, 3) := by decide +kernel
theorem dX6_init_45 : decode cX6_init 45 = .ok (.putfield 26, 3) := by decide +kernel
theorem dX6_init_48 : decode cX6_init 48 = .ok (.aload_n 0, 1) := by decide +kernel
theorem dX6_init_49 : decode cX6_init 49 = .ok (.new 29, 3) := by decide +kernel
theorem dX6_init_52 : decode cX6_init 52 = .ok (.dup, 1) := by decide +kernel
theorem dX6_init_53 : decode cX6_init 53 = .ok (.aload_n 0, 1) := by decide +kernel
theorem dX6_init_54 : decode cX6_init 54 = .ok (.getfield 19, 3) := by decide +kernel
theorem dX6_init_57 : decode cX6_init 57 = .ok (.invokespecial 31, 3) := by decide +kernel
theorem dX6_init_60 : decode cX6_init 60 = .ok (.putfield 34, 3) := by decide +kernel
theorem dX6_init_63 : decode cX6_init 63 = .ok (.aload_n 0, 1) := by decide +kernel
theorem dX6_init_64 : decode cX6_init 64 = .ok (.new 29, 3) := by decide +kernel
theorem dX6_init_67 : decode cX6_init 67 = .ok (.dup, 1) := by decide +kernel
theorem dX6_init_68 : decode cX6_init 68 = .ok (.aload_n 0, 1) := by decide +kernel
theorem dX6_init_69 : decode cX6_init 69 = .ok (.getfield 19, 3) := by decide +kernel
theorem dX6_init_72 : decode cX6_init 72 = .ok (.invokespecial 31, 3) := by decide +kernel
theorem dX6_init_75 : decode cX6_init 75 = .ok (.putfield 38, 3) := by decide +kernel
theorem dX6_init_78 : decode cX6_init 78 = .ok (.aload_n 0, 1) := by decide +kernel
theorem dX6_init_79 : decode cX6_init 79 = .ok (.new 29, 3) := by decide +kernel
theorem dX6_init_82 : decode cX6_init 82 = .ok (.dup, 1) := by decide +kernel
theorem dX6_init_83 : decode cX6_init 83 = .ok (.aload_n 0, 1) := by decide +kernel
theorem dX6_init_84 : decode cX6_init 84 = .ok (.getfield 26, 3) := by decide +kernel
theorem dX6_init_87 : decode cX6_init 87 = .ok (.invokespecial 31, 3) := by decide +kernel
theorem dX6_init_90 : decode cX6_init 90 = .ok (.putfield 41, 3) := by decide +kernel
theorem dX6_init_93 : decode cX6_init 93 = .ok (.aload_n 0, 1) := by decide +kernel
theorem dX6_init_94 : decode cX6_init 94 = .ok (.new 44, 3) := by decide +kernel
theorem dX6_init_97 : decode cX6_init 97 = .ok (.dup, 1) := by decide +kernel
theorem dX6_init_98 : decode cX6_init 98 = .ok (.aload_n 0, 1) := by decide +kernel
theorem dX6_init_99 : decode cX6_init 99 = .ok (.getfield 19, 3) := by decide +kernel
theorem dX6_init_102 : decode cX6_init 102 = .ok (.bipush 8, 2) := by decide +kernel
theorem dX6_init_104 : decode cX6_init 104 = .ok (.invokespecial 46, 3) := by decide +kernel
theorem dX6_init_107 : decode cX6_init 107 = .ok (.putfield 49, 3) := by decide +kernel
theorem dX6_init_110 : decode cX6_init 110 = .ok (.aload_n 0, 1) := by decide +kernel
theorem dX6_init_111 : decode cX6_init 111 = .ok (.new 44, 3) := by decide +kernel
theorem dX6_init_114 : decode cX6_init 114 = .ok (.dup, 1) := by decide +kernel
theorem dX6_init_115 : decode cX6_init 115 = .ok (.aload_n 0, 1) := by decide +kernel
theorem dX6_init_116 : decode cX6_init 116 = .ok (.getfield 19, 3) := by decide +kernel
theorem dX6_init_119 : decode cX6_init 119 = .ok (.iconst 2, 1) := by decide +kernel
theorem dX6_init_120 : decode cX6_init 120 = .ok (.invokespecial 46, 3) := by decide +kernel
theorem dX6_init_123 : decode cX6_init 123 = .ok (.putfield 53, 3) := by decide +kernel
theorem dX6_init_126 : decode cX6_init 126 = .ok (.aload_n 0, 1) := by decide +kernel
theorem dX6_init_127 : decode cX6_init 127 = .ok (.new 56, 3) := by decide +kernel
theorem dX6_init_130 : decode cX6_init 130 = .ok (.dup, 1) := by decide +kernel
theorem dX6_init_131 : decode cX6_init 131 = .ok (.invokespecial 58, 3) := by decide +kernel
theorem dX6_init_134 : decode cX6_init 134 = .ok (.putfield 59, 3) := by decide +kernel
theorem dX6_init_137 : decode cX6_init 137 = .ok (.aload_n 0, 1) := by decide +kernel
theorem dX6_init_138 : decode cX6_init 138 = .ok (.new 63, 3) := by decide +kernel
theorem dX6_init_141 : decode cX6_init 141 = .ok (.dup, 1) := by decide +kernel
theorem dX6_init_142 : decode cX6_init 142 = .ok (.aload_n 0, 1) := by decide +kernel
theorem dX6_init_143 : decode cX6_init 143 = .ok (.getfield 19, 3) := by decide +kernel
theorem dX6_init_146 : decode cX6_init 146 = .ok (.invokespecial 65, 3) := by decide +kernel
theorem dX6_init_149 : decode cX6_init 149 = .ok (.putfield 66, 3) := by decide +kernel
theorem dX6_init_152 : decode cX6_init 152 = .ok (.iconst 0, 1) := by decide +kernel
theorem dX6_init_153 : decode cX6_init 153 = .ok (.istore_n 1, 1) := by decide +kernel
theorem dX6_init_154 : decode cX6_init 154 = .ok (.iload_n 1, 1) := by decide +kernel
theorem dX6_init_155 : decode cX6_init 155 = .ok (.ldc 70, 2) := by decide +kernel
theorem dX6_init_157 : decode cX6_init 157 = .ok (.invokevirtual 72, 3) := by decide +kernel
theorem dX6_init_160 : decode cX6_init 160 = .ok (.if_icmp .ge 23, 3) := by decide +kernel
theorem dX6_init_163 : decode cX6_init 163 = .ok (.aload_n 0, 1) := by decide +kernel
theorem dX6_init_164 : decode cX6_init 164 = .ok (.getfield 10, 3) := by decide +kernel
theorem dX6_init_167 : decode cX6_init 167 = .ok (.ldc 70, 2) := by decide +kernel
theorem dX6_init_169 : decode cX6_init 169 = .ok (.iload_n 1, 1) := by decide +kernel
theorem dX6_init_170 : decode cX6_init 170 = .ok (.invokevirtual 78, 3) := by decide +kernel
theorem dX6_init_173 : decode cX6_init 173 = .ok (.invokevirtual 82, 3) := by decide +kernel
theorem dX6_init_176 : decode cX6_init 176 = .ok (.pop, 1) := by decide +kernel
theorem dX6_init_177 : decode cX6_init 177 = .ok (.iinc 1 1, 3) := by decide +kernel
theorem dX6_init_180 : decode cX6_init 180 = .ok (.goto (-26), 3) := by decide +kernel
theorem dX6_init_183 : decode cX6_init 183 = .ok (.aload_n 0, 1) := by decide +kernel
theorem dX6_init_184 : decode cX6_init 184 = .ok (.getfield 10, 3) := by decide +kernel
theorem dX6_init_187 : decode cX6_init 187 = .ok (.aload_n 0, 1) := by decide +kernel
theorem dX6_init_188 : decode cX6_init 188 = .ok (.getfield 23, 3) := by decide +kernel
theorem dX6_init_191 : decode cX6_init 191 = .ok (.invokevirtual 86, 3) := by decide +kernel
theorem dX6_init_194 : decode cX6_init 194 = .ok (.pop, 1) := by decide +kernel
theorem dX6_init_195 : decode cX6_init 195 = .ok (.aload_n 0, 1) := by decide +kernel
theorem dX6_init_196 : decode cX6_init 196 = .ok (.invokevirtual 90, 3) := by decide +kernel
theorem dX6_init_199 : decode cX6_init 199 = .ok (.aload_n 0, 1) := by decide +kernel
theorem dX6_init_200 : decode cX6_init 200 = .ok (.getfield 10, 3) := by decide +kernel
theorem dX6_init_203 : decode cX6_init 203 = .ok (.invokevirtual 93, 3) := by decide +kernel
theorem dX6_init_206 : decode cX6_init 206 = .ok (.pop, 1) := by decide +kernel
theorem dX6_init_207 : decode cX6_init 207 = .ok (.return_, 1) := by decide +kernel
theorem dX6_write_0 : decode cX6_write 0 = .ok (.iload_n 1, 1) := by decide +kernel
theorem dX6_write_1 : decode cX6_write 1 = .ok (.bipush 32, 2) := by decide +kernel
theorem dX6_write_3 : decode cX6_write 3 = .ok (.if_icmp .lt 9, 3) := by decide +kernel
theorem dX6_write_6 : decode cX6_write 6 = .ok (.iload_n 1, 1) := by decide +kernel
theorem dX6_write_7 : decode cX6_write 7 = .ok (.bipush 126, 2) := by decide +kernel
theorem dX6_write_9 : decode cX6_write 9 = .ok (.if_icmp .le 5, 3) := by decide +kernel
theorem dX6_write_12 : decode cX6_write 12 = .ok (.iconst (-1), 1) := by decide +kernel
theorem dX6_write_13 : decode cX6_write 13 = .ok (.ireturn, 1) := by decide +kernel
theorem dX6_write_14 : decode cX6_write 14 = .ok (.aload_n 0, 1) := by decide +kernel
theorem dX6_write_15 : decode cX6_write 15 = .ok (.getfield 10, 3) := by decide +kernel
theorem dX6_write_18 : decode cX6_write 18 = .ok (.getfield 96, 3) := by decide +kernel
theorem dX6_write_21 : decode cX6_write 21 = .ok (.sipush 200, 3) := by decide +kernel
theorem dX6_write_24 : decode cX6_write 24 = .ok (.if_icmp .lt 6, 3) := by decide +kernel
theorem dX6_write_27 : decode cX6_write 27 = .ok (.bipush (-3), 2) := by decide +kernel
theorem dX6_write_29 : decode cX6_write 29 = .ok (.ireturn, 1) := by decide +kernel
theorem dX6_write_30 : decode cX6_write 30 = .ok (.aload_n 0, 1) := by decide +kernel
theorem dX6_write_31 : decode cX6_write 31 = .ok (.getfield 10, 3) := by decide +kernel
theorem dX6_write_34 : decode cX6_write 34 = .ok (.iload_n 1, 1) := by decide +kernel
theorem dX6_write_35 : decode cX6_write 35 = .ok (.invokevirtual 82, 3) := by decide +kernel
theorem dX6_write_38 : decode cX6_write 38 = .ok (.ireturn, 1) := by decide +kernel
theorem dX6_wipe_0 : decode cX6_wipe 0 = .ok (.aload_n 0, 1) := by decide +kernel
theorem dX6_wipe_1 : decode cX6_wipe 1 = .ok (.getfield 10, 3) := by decide +kernel
theorem dX6_wipe_4 : decode cX6_wipe 4 = .ok (.invokevirtual 93, 3) := by decide +kernel
theorem dX6_wipe_7 : decode cX6_wipe 7 = .ok (.ireturn, 1) := by decide +kernel
theorem dX6_fault_0 : decode cX6_fault 0 = .ok (.aload_n 0, 1) := by decide +kernel
theorem dX6_fault_1 : decode cX6_fault 1 = .ok (.getfield 10, 3) := by decide +kernel
theorem dX6_fault_4 : decode cX6_fault 4 = .ok (.aload_n 0, 1) := by decide +kernel
theorem dX6_fault_5 : decode cX6_fault 5 = .ok (.getfield 23, 3) := by decide +kernel
theorem dX6_fault_8 : decode cX6_fault 8 = .ok (.invokevirtual 86, 3) := by decide +kernel
theorem dX6_fault_11 : decode cX6_fault 11 = .ok (.ireturn, 1) := by decide +kernel
theorem dX6_lay_0 : decode cX6_lay 0 = .ok (.aload_n 0, 1) := by decide +kernel
theorem dX6_lay_1 : decode cX6_lay 1 = .ok (.getfield 10, 3) := by decide +kernel
theorem dX6_lay_4 : decode cX6_lay 4 = .ok (.aload_n 0, 1) := by decide +kernel
theorem dX6_lay_5 : decode cX6_lay 5 = .ok (.getfield 23, 3) := by decide +kernel
theorem dX6_lay_8 : decode cX6_lay 8 = .ok (.invokevirtual 86, 3) := by decide +kernel
theorem dX6_lay_11 : decode cX6_lay 11 = .ok (.bipush (-4), 2) := by decide +kernel
theorem dX6_lay_13 : decode cX6_lay 13 = .ok (.if_icmp .ne 13, 3) := by decide +kernel
theorem dX6_lay_16 : decode cX6_lay 16 = .ok (.aload_n 0, 1) := by decide +kernel
theorem dX6_lay_17 : decode cX6_lay 17 = .ok (.getfield 23, 3) := by decide +kernel
theorem dX6_lay_20 : decode cX6_lay 20 = .ok (.getfield 99, 3) := by decide +kernel
theorem dX6_lay_23 : decode cX6_lay 23 = .ok (.ifCond .ne 6, 3) := by decide +kernel
theorem dX6_lay_26 : decode cX6_lay 26 = .ok (.bipush (-2), 2) := by decide +kernel
theorem dX6_lay_28 : decode cX6_lay 28 = .ok (.ireturn, 1) := by decide +kernel
theorem dX6_lay_29 : decode cX6_lay 29 = .ok (.aload_n 0, 1) := by decide +kernel
theorem dX6_lay_30 : decode cX6_lay 30 = .ok (.invokevirtual 90, 3) := by decide +kernel
theorem dX6_lay_33 : decode cX6_lay 33 = .ok (.aload_n 0, 1) := by decide +kernel
theorem dX6_lay_34 : decode cX6_lay 34 = .ok (.getfield 19, 3) := by decide +kernel
theorem dX6_lay_37 : decode cX6_lay 37 = .ok (.getfield 99, 3) := by decide +kernel
theorem dX6_lay_40 : decode cX6_lay 40 = .ok (.ireturn, 1) := by decide +kernel
theorem dX6_person_0 : decode cX6_person 0 = .ok (.aload_n 0, 1) := by decide +kernel
theorem dX6_person_1 : decode cX6_person 1 = .ok (.iload_n 1, 1) := by decide +kernel
theorem dX6_person_2 : decode cX6_person 2 = .ok (.invokevirtual 102, 3) := by decide +kernel
theorem dX6_person_5 : decode cX6_person 5 = .ok (.ifCond .eq 13, 3) := by decide +kernel
theorem dX6_person_8 : decode cX6_person 8 = .ok (.iload_n 2, 1) := by decide +kernel
theorem dX6_person_9 : decode cX6_person 9 = .ok (.ifCond .lt 9, 3) := by decide +kernel
theorem dX6_person_12 : decode cX6_person 12 = .ok (.iload_n 2, 1) := by decide +kernel
theorem dX6_person_13 : decode cX6_person 13 = .ok (.bipush 10, 2) := by decide +kernel
theorem dX6_person_15 : decode cX6_person 15 = .ok (.if_icmp .le 5, 3) := by decide +kernel
theorem dX6_person_18 : decode cX6_person 18 = .ok (.iconst (-1), 1) := by decide +kernel
theorem dX6_person_19 : decode cX6_person 19 = .ok (.ireturn, 1) := by decide +kernel
theorem dX6_person_20 : decode cX6_person 20 = .ok (.iload_n 2, 1) := by decide +kernel
theorem dX6_person_21 : decode cX6_person 21 = .ok (.iconst 4, 1) := by decide +kernel
theorem dX6_person_22 : decode cX6_person 22 = .ok (.if_icmp .ge 15, 3) := by decide +kernel
theorem dX6_person_25 : decode cX6_person 25 = .ok (.aload_n 0, 1) := by decide +kernel
theorem dX6_person_26 : decode cX6_person 26 = .ok (.getfield 19, 3) := by decide +kernel
theorem dX6_person_29 : decode cX6_person 29 = .ok (.iload_n 1, 1) := by decide +kernel
theorem dX6_person_30 : decode cX6_person 30 = .ok (.iload_n 2, 1) := by decide +kernel
theorem dX6_person_31 : decode cX6_person 31 = .ok (.invokevirtual 106, 3) := by decide +kernel
theorem dX6_person_34 : decode cX6_person 34 = .ok (.goto 12, 3) := by decide +kernel
theorem dX6_person_37 : decode cX6_person 37 = .ok (.aload_n 0, 1) := by decide +kernel
theorem dX6_person_38 : decode cX6_person 38 = .ok (.getfield 34, 3) := by decide +kernel
theorem dX6_person_41 : decode cX6_person 41 = .ok (.iload_n 1, 1) := by decide +kernel
theorem dX6_person_42 : decode cX6_person 42 = .ok (.iload_n 2, 1) := by decide +kernel
theorem dX6_person_43 : decode cX6_person 43 = .ok (.invokevirtual 110, 3) := by decide +kernel
theorem dX6_person_46 : decode cX6_person 46 = .ok (.ireturn, 1) := by decide +kernel
theorem dX6_send_0 : decode cX6_send 0 = .ok (.aload_n 0, 1) := by decide +kernel
theorem dX6_send_1 : decode cX6_send 1 = .ok (.iload_n 1, 1) := by decide +kernel
theorem dX6_send_2 : decode cX6_send 2 = .ok (.invokevirtual 102, 3) := by decide +kernel
theorem dX6_send_5 : decode cX6_send 5 = .ok (.ifCond .ne 5, 3) := by decide +kernel
theorem dX6_send_8 : decode cX6_send 8 = .ok (.iconst (-1), 1) := by decide +kernel
theorem dX6_send_9 : decode cX6_send 9 = .ok (.ireturn, 1) := by decide +kernel
theorem dX6_send_10 : decode cX6_send 10 = .ok (.aload_n 0, 1) := by decide +kernel
theorem dX6_send_11 : decode cX6_send 11 = .ok (.getfield 34, 3) := by decide +kernel
theorem dX6_send_14 : decode cX6_send 14 = .ok (.iload_n 1, 1) := by decide +kernel
theorem dX6_send_15 : decode cX6_send 15 = .ok (.invokevirtual 113, 3) := by decide +kernel
theorem dX6_send_18 : decode cX6_send 18 = .ok (.ifCond .ne 6, 3) := by decide +kernel
theorem dX6_send_21 : decode cX6_send 21 = .ok (.bipush (-2), 2) := by decide +kernel
theorem dX6_send_23 : decode cX6_send 23 = .ok (.ireturn, 1) := by decide +kernel
theorem dX6_send_24 : decode cX6_send 24 = .ok (.aload_n 0, 1) := by decide +kernel
theorem dX6_send_25 : decode cX6_send 25 = .ok (.getfield 49, 3) := by decide +kernel
theorem dX6_send_28 : decode cX6_send 28 = .ok (.aload_n 0, 1) := by decide +kernel
theorem dX6_send_29 : decode cX6_send 29 = .ok (.getfield 34, 3) := by decide +kernel
theorem dX6_send_32 : decode cX6_send 32 = .ok (.invokevirtual 116, 3) := by decide +kernel
theorem dX6_send_35 : decode cX6_send 35 = .ok (.aload_n 0, 1) := by decide +kernel
theorem dX6_send_36 : decode cX6_send 36 = .ok (.getfield 34, 3) := by decide +kernel
theorem dX6_send_39 : decode cX6_send 39 = .ok (.iload_n 1, 1) := by decide +kernel
theorem dX6_send_40 : decode cX6_send 40 = .ok (.invokevirtual 120, 3) := by decide +kernel
theorem dX6_send_43 : decode cX6_send 43 = .ok (.aload_n 0, 1) := by decide +kernel
theorem dX6_send_44 : decode cX6_send 44 = .ok (.getfield 34, 3) := by decide +kernel
theorem dX6_send_47 : decode cX6_send 47 = .ok (.getfield 124, 3) := by decide +kernel
theorem dX6_send_50 : decode cX6_send 50 = .ok (.iload_n 1, 1) := by decide +kernel
theorem dX6_send_51 : decode cX6_send 51 = .ok (.iaload, 1) := by decide +kernel
theorem dX6_send_52 : decode cX6_send 52 = .ok (.ireturn, 1) := by decide +kernel
theorem dX6_call_0 : decode cX6_call 0 = .ok (.aload_n 0, 1) := by decide +kernel
theorem dX6_call_1 : decode cX6_call 1 = .ok (.iload_n 1, 1) := by decide +kernel
theorem dX6_call_2 : decode cX6_call 2 = .ok (.invokevirtual 102, 3) := by decide +kernel
theorem dX6_call_5 : decode cX6_call 5 = .ok (.ifCond .ne 5, 3) := by decide +kernel
theorem dX6_call_8 : decode cX6_call 8 = .ok (.iconst (-1), 1) := by decide +kernel
theorem dX6_call_9 : decode cX6_call 9 = .ok (.ireturn, 1) := by decide +kernel
theorem dX6_call_10 : decode cX6_call 10 = .ok (.aload_n 0, 1) := by decide +kernel
theorem dX6_call_11 : decode cX6_call 11 = .ok (.getfield 34, 3) := by decide +kernel
theorem dX6_call_14 : decode cX6_call 14 = .ok (.getfield 128, 3) := by decide +kernel
theorem dX6_call_17 : decode cX6_call 17 = .ok (.iload_n 1, 1) := by decide +kernel
theorem dX6_call_18 : decode cX6_call 18 = .ok (.iaload, 1) := by decide +kernel
theorem dX6_call_19 : decode cX6_call 19 = .ok (.ifCond .ne 6, 3) := by decide +kernel
theorem dX6_call_22 : decode cX6_call 22 = .ok (.bipush (-2), 2) := by decide +kernel
theorem dX6_call_24 : decode cX6_call 24 = .ok (.ireturn, 1) := by decide +kernel
theorem dX6_call_25 : decode cX6_call 25 = .ok (.aload_n 0, 1) := by decide +kernel
theorem dX6_call_26 : decode cX6_call 26 = .ok (.getfield 49, 3) := by decide +kernel
theorem dX6_call_29 : decode cX6_call 29 = .ok (.aload_n 0, 1) := by decide +kernel
theorem dX6_call_30 : decode cX6_call 30 = .ok (.getfield 34, 3) := by decide +kernel
theorem dX6_call_33 : decode cX6_call 33 = .ok (.invokevirtual 116, 3) := by decide +kernel
theorem dX6_call_36 : decode cX6_call 36 = .ok (.aload_n 0, 1) := by decide +kernel
theorem dX6_call_37 : decode cX6_call 37 = .ok (.getfield 34, 3) := by decide +kernel
theorem dX6_call_40 : decode cX6_call 40 = .ok (.iload_n 1, 1) := by decide +kernel
theorem dX6_call_41 : decode cX6_call 41 = .ok (.invokevirtual 131, 3) := by decide +kernel
theorem dX6_call_44 : decode cX6_call 44 = .ok (.aload_n 0, 1) := by decide +kernel
theorem dX6_call_45 : decode cX6_call 45 = .ok (.getfield 34, 3) := by decide +kernel
theorem dX6_call_48 : decode cX6_call 48 = .ok (.getfield 134, 3) := by decide +kernel
theorem dX6_call_51 : decode cX6_call 51 = .ok (.ireturn, 1) := by decide +kernel
theorem dX6_buy_0 : decode cX6_buy 0 = .ok (.aload_n 0, 1) := by decide +kernel
theorem dX6_buy_1 : decode cX6_buy 1 = .ok (.getfield 34, 3) := by decide +kernel
theorem dX6_buy_4 : decode cX6_buy 4 = .ok (.getfield 134, 3) := by decide +kernel
theorem dX6_buy_7 : decode cX6_buy 7 = .ok (.bipush 20, 2) := by decide +kernel
theorem dX6_buy_9 : decode cX6_buy 9 = .ok (.if_icmp .lt 6, 3) := by decide +kernel
theorem dX6_buy_12 : decode cX6_buy 12 = .ok (.bipush (-3), 2) := by decide +kernel
theorem dX6_buy_14 : decode cX6_buy 14 = .ok (.ireturn, 1) := by decide +kernel
theorem dX6_buy_15 : decode cX6_buy 15 = .ok (.aload_n 0, 1) := by decide +kernel
theorem dX6_buy_16 : decode cX6_buy 16 = .ok (.getfield 49, 3) := by decide +kernel
theorem dX6_buy_19 : decode cX6_buy 19 = .ok (.aload_n 0, 1) := by decide +kernel
theorem dX6_buy_20 : decode cX6_buy 20 = .ok (.getfield 34, 3) := by decide +kernel
theorem dX6_buy_23 : decode cX6_buy 23 = .ok (.invokevirtual 116, 3) := by decide +kernel
theorem dX6_buy_26 : decode cX6_buy 26 = .ok (.aload_n 0, 1) := by decide +kernel
theorem dX6_buy_27 : decode cX6_buy 27 = .ok (.getfield 34, 3) := by decide +kernel
theorem dX6_buy_30 : decode cX6_buy 30 = .ok (.dup, 1) := by decide +kernel
theorem dX6_buy_31 : decode cX6_buy 31 = .ok (.getfield 134, 3) := by decide +kernel
theorem dX6_buy_34 : decode cX6_buy 34 = .ok (.iconst 1, 1) := by decide +kernel
theorem dX6_buy_35 : decode cX6_buy 35 = .ok (.iadd, 1) := by decide +kernel
theorem dX6_buy_36 : decode cX6_buy 36 = .ok (.putfield 134, 3) := by decide +kernel
theorem dX6_buy_39 : decode cX6_buy 39 = .ok (.aload_n 0, 1) := by decide +kernel
theorem dX6_buy_40 : decode cX6_buy 40 = .ok (.getfield 34, 3) := by decide +kernel
theorem dX6_buy_43 : decode cX6_buy 43 = .ok (.getfield 134, 3) := by decide +kernel
theorem dX6_buy_46 : decode cX6_buy 46 = .ok (.ireturn, 1) := by decide +kernel
theorem dX6_pass_0 : decode cX6_pass 0 = .ok (.iload_n 1, 1) := by decide +kernel
theorem dX6_pass_1 : decode cX6_pass 1 = .ok (.iconst 1, 1) := by decide +kernel
theorem dX6_pass_2 : decode cX6_pass 2 = .ok (.if_icmp .lt 9, 3) := by decide +kernel
theorem dX6_pass_5 : decode cX6_pass 5 = .ok (.iload_n 1, 1) := by decide +kernel
theorem dX6_pass_6 : decode cX6_pass 6 = .ok (.bipush 20, 2) := by decide +kernel
theorem dX6_pass_8 : decode cX6_pass 8 = .ok (.if_icmp .le 5, 3) := by decide +kernel
theorem dX6_pass_11 : decode cX6_pass 11 = .ok (.iconst (-1), 1) := by decide +kernel
theorem dX6_pass_12 : decode cX6_pass 12 = .ok (.ireturn, 1) := by decide +kernel
theorem dX6_pass_13 : decode cX6_pass 13 = .ok (.aload_n 0, 1) := by decide +kernel
theorem dX6_pass_14 : decode cX6_pass 14 = .ok (.getfield 34, 3) := by decide +kernel
theorem dX6_pass_17 : decode cX6_pass 17 = .ok (.getfield 137, 3) := by decide +kernel
theorem dX6_pass_20 : decode cX6_pass 20 = .ok (.iload_n 1, 1) := by decide +kernel
theorem dX6_pass_21 : decode cX6_pass 21 = .ok (.iadd, 1) := by decide +kernel
theorem dX6_pass_22 : decode cX6_pass 22 = .ok (.sipush 999, 3) := by decide +kernel
theorem dX6_pass_25 : decode cX6_pass 25 = .ok (.if_icmp .le 6, 3) := by decide +kernel
theorem dX6_pass_28 : decode cX6_pass 28 = .ok (.bipush (-2), 2) := by decide +kernel
theorem dX6_pass_30 : decode cX6_pass 30 = .ok (.ireturn, 1) := by decide +kernel
theorem dX6_pass_31 : decode cX6_pass 31 = .ok (.aload_n 0, 1) := by decide +kernel
theorem dX6_pass_32 : decode cX6_pass 32 = .ok (.getfield 49, 3) := by decide +kernel
theorem dX6_pass_35 : decode cX6_pass 35 = .ok (.aload_n 0, 1) := by decide +kernel
theorem dX6_pass_36 : decode cX6_pass 36 = .ok (.getfield 34, 3) := by decide +kernel
theorem dX6_pass_39 : decode cX6_pass 39 = .ok (.invokevirtual 116, 3) := by decide +kernel
theorem dX6_pass_42 : decode cX6_pass 42 = .ok (.aload_n 0, 1) := by decide +kernel
theorem dX6_pass_43 : decode cX6_pass 43 = .ok (.getfield 34, 3) := by decide +kernel
theorem dX6_pass_46 : decode cX6_pass 46 = .ok (.invokevirtual 140, 3) := by decide +kernel
theorem dX6_pass_49 : decode cX6_pass 49 = .ok (.invokestatic 143, 3) := by decide +kernel
theorem dX6_pass_52 : decode cX6_pass 52 = .ok (.istore_n 2, 1) := by decide +kernel
theorem dX6_pass_53 : decode cX6_pass 53 = .ok (.aload_n 0, 1) := by decide +kernel
theorem dX6_pass_54 : decode cX6_pass 54 = .ok (.getfield 34, 3) := by decide +kernel
theorem dX6_pass_57 : decode cX6_pass 57 = .ok (.iload_n 1, 1) := by decide +kernel
theorem dX6_pass_58 : decode cX6_pass 58 = .ok (.invokevirtual 148, 3) := by decide +kernel
theorem dX6_pass_61 : decode cX6_pass 61 = .ok (.aload_n 0, 1) := by decide +kernel
theorem dX6_pass_62 : decode cX6_pass 62 = .ok (.getfield 34, 3) := by decide +kernel
theorem dX6_pass_65 : decode cX6_pass 65 = .ok (.invokevirtual 140, 3) := by decide +kernel
theorem dX6_pass_68 : decode cX6_pass 68 = .ok (.invokestatic 143, 3) := by decide +kernel
theorem dX6_pass_71 : decode cX6_pass 71 = .ok (.iload_n 2, 1) := by decide +kernel
theorem dX6_pass_72 : decode cX6_pass 72 = .ok (.isub, 1) := by decide +kernel
theorem dX6_pass_73 : decode cX6_pass 73 = .ok (.ireturn, 1) := by decide +kernel
theorem dX6_undo_0 : decode cX6_undo 0 = .ok (.aload_n 0, 1) := by decide +kernel
theorem dX6_undo_1 : decode cX6_undo 1 = .ok (.getfield 49, 3) := by decide +kernel
theorem dX6_undo_4 : decode cX6_undo 4 = .ok (.aload_n 0, 1) := by decide +kernel
theorem dX6_undo_5 : decode cX6_undo 5 = .ok (.getfield 34, 3) := by decide +kernel
theorem dX6_undo_8 : decode cX6_undo 8 = .ok (.invokevirtual 151, 3) := by decide +kernel
theorem dX6_undo_11 : decode cX6_undo 11 = .ok (.ifCond .ne 6, 3) := by decide +kernel
theorem dX6_undo_14 : decode cX6_undo 14 = .ok (.bipush (-2), 2) := by decide +kernel
theorem dX6_undo_16 : decode cX6_undo 16 = .ok (.ireturn, 1) := by decide +kernel
theorem dX6_undo_17 : decode cX6_undo 17 = .ok (.aload_n 0, 1) := by decide +kernel
theorem dX6_undo_18 : decode cX6_undo 18 = .ok (.getfield 49, 3) := by decide +kernel
theorem dX6_undo_21 : decode cX6_undo 21 = .ok (.getfield 155, 3) := by decide +kernel
theorem dX6_undo_24 : decode cX6_undo 24 = .ok (.ireturn, 1) := by decide +kernel
theorem dX6_behind_0 : decode cX6_behind 0 = .ok (.iload_n 1, 1) := by decide +kernel
theorem dX6_behind_1 : decode cX6_behind 1 = .ok (.ifCond .lt 18, 3) := by decide +kernel
theorem dX6_behind_4 : decode cX6_behind 4 = .ok (.iload_n 1, 1) := by decide +kernel
theorem dX6_behind_5 : decode cX6_behind 5 = .ok (.bipush 60, 2) := by decide +kernel
theorem dX6_behind_7 : decode cX6_behind 7 = .ok (.if_icmp .gt 12, 3) := by decide +kernel
theorem dX6_behind_10 : decode cX6_behind 10 = .ok (.iload_n 2, 1) := by decide +kernel
theorem dX6_behind_11 : decode cX6_behind 11 = .ok (.ifCond .lt 8, 3) := by decide +kernel
theorem dX6_behind_14 : decode cX6_behind 14 = .ok (.iload_n 2, 1) := by decide +kernel
theorem dX6_behind_15 : decode cX6_behind 15 = .ok (.iconst 2, 1) := by decide +kernel
theorem dX6_behind_16 : decode cX6_behind 16 = .ok (.if_icmp .le 5, 3) := by decide +kernel
theorem dX6_behind_19 : decode cX6_behind 19 = .ok (.iconst (-1), 1) := by decide +kernel
theorem dX6_behind_20 : decode cX6_behind 20 = .ok (.ireturn, 1) := by decide +kernel
theorem dX6_behind_21 : decode cX6_behind 21 = .ok (.aload_n 0, 1) := by decide +kernel
theorem dX6_behind_22 : decode cX6_behind 22 = .ok (.getfield 38, 3) := by decide +kernel
theorem dX6_behind_25 : decode cX6_behind 25 = .ok (.aload_n 0, 1) := by decide +kernel
theorem dX6_behind_26 : decode cX6_behind 26 = .ok (.getfield 34, 3) := by decide +kernel
theorem dX6_behind_29 : decode cX6_behind 29 = .ok (.invokevirtual 156, 3) := by decide +kernel
theorem dX6_behind_32 : decode cX6_behind 32 = .ok (.aload_n 0, 1) := by decide +kernel
theorem dX6_behind_33 : decode cX6_behind 33 = .ok (.getfield 38, 3) := by decide +kernel
theorem dX6_behind_36 : decode cX6_behind 36 = .ok (.iload_n 1, 1) := by decide +kernel
theorem dX6_behind_37 : decode cX6_behind 37 = .ok (.invokevirtual 148, 3) := by decide +kernel
theorem dX6_behind_40 : decode cX6_behind 40 = .ok (.iload_n 2, 1) := by decide +kernel
theorem dX6_behind_41 : decode cX6_behind 41 = .ok (.ifCond .ne 11, 3) := by decide +kernel
theorem dX6_behind_44 : decode cX6_behind 44 = .ok (.aload_n 0, 1) := by decide +kernel
theorem dX6_behind_45 : decode cX6_behind 45 = .ok (.getfield 38, 3) := by decide +kernel
theorem dX6_behind_48 : decode cX6_behind 48 = .ok (.invokevirtual 159, 3) := by decide +kernel
theorem dX6_behind_51 : decode cX6_behind 51 = .ok (.ireturn, 1) := by decide +kernel
theorem dX6_behind_52 : decode cX6_behind 52 = .ok (.iload_n 2, 1) := by decide +kernel
theorem dX6_behind_53 : decode cX6_behind 53 = .ok (.iconst 1, 1) := by decide +kernel
theorem dX6_behind_54 : decode cX6_behind 54 = .ok (.if_icmp .ne 13, 3) := by decide +kernel
theorem dX6_behind_57 : decode cX6_behind 57 = .ok (.aload_n 0, 1) := by decide +kernel
theorem dX6_behind_58 : decode cX6_behind 58 = .ok (.getfield 38, 3) := by decide +kernel
theorem dX6_behind_61 : decode cX6_behind 61 = .ok (.invokevirtual 140, 3) := by decide +kernel
theorem dX6_behind_64 : decode cX6_behind 64 = .ok (.goto 10, 3) := by decide +kernel
theorem dX6_behind_67 : decode cX6_behind 67 = .ok (.aload_n 0, 1) := by decide +kernel
theorem dX6_behind_68 : decode cX6_behind 68 = .ok (.getfield 38, 3) := by decide +kernel
theorem dX6_behind_71 : decode cX6_behind 71 = .ok (.getfield 162, 3) := by decide +kernel
theorem dX6_behind_74 : decode cX6_behind 74 = .ok (.ireturn, 1) := by decide +kernel
theorem dX6_when_0 : decode cX6_when 0 = .ok (.aload_n 0, 1) := by decide +kernel
theorem dX6_when_1 : decode cX6_when 1 = .ok (.iload_n 1, 1) := by decide +kernel
theorem dX6_when_2 : decode cX6_when 2 = .ok (.invokevirtual 102, 3) := by decide +kernel
theorem dX6_when_5 : decode cX6_when 5 = .ok (.ifCond .ne 5, 3) := by decide +kernel
theorem dX6_when_8 : decode cX6_when 8 = .ok (.iconst (-1), 1) := by decide +kernel
theorem dX6_when_9 : decode cX6_when 9 = .ok (.ireturn, 1) := by decide +kernel
theorem dX6_when_10 : decode cX6_when 10 = .ok (.aload_n 0, 1) := by decide +kernel
theorem dX6_when_11 : decode cX6_when 11 = .ok (.getfield 38, 3) := by decide +kernel
theorem dX6_when_14 : decode cX6_when 14 = .ok (.aload_n 0, 1) := by decide +kernel
theorem dX6_when_15 : decode cX6_when 15 = .ok (.getfield 34, 3) := by decide +kernel
theorem dX6_when_18 : decode cX6_when 18 = .ok (.invokevirtual 156, 3) := by decide +kernel
theorem dX6_when_21 : decode cX6_when 21 = .ok (.iconst 0, 1) := by decide +kernel
theorem dX6_when_22 : decode cX6_when 22 = .ok (.istore_n 2, 1) := by decide +kernel
theorem dX6_when_23 : decode cX6_when 23 = .ok (.iload_n 2, 1) := by decide +kernel
theorem dX6_when_24 : decode cX6_when 24 = .ok (.bipush 60, 2) := by decide +kernel
theorem dX6_when_26 : decode cX6_when 26 = .ok (.if_icmp .gt 30, 3) := by decide +kernel
theorem dX6_when_29 : decode cX6_when 29 = .ok (.aload_n 0, 1) := by decide +kernel
theorem dX6_when_30 : decode cX6_when 30 = .ok (.getfield 38, 3) := by decide +kernel
theorem dX6_when_33 : decode cX6_when 33 = .ok (.iload_n 1, 1) := by decide +kernel
theorem dX6_when_34 : decode cX6_when 34 = .ok (.invokevirtual 165, 3) := by decide +kernel
theorem dX6_when_37 : decode cX6_when 37 = .ok (.ifCond .eq 5, 3) := by decide +kernel
theorem dX6_when_40 : decode cX6_when 40 = .ok (.iload_n 2, 1) := by decide +kernel
theorem dX6_when_41 : decode cX6_when 41 = .ok (.ireturn, 1) := by decide +kernel
theorem dX6_when_42 : decode cX6_when 42 = .ok (.aload_n 0, 1) := by decide +kernel
theorem dX6_when_43 : decode cX6_when 43 = .ok (.getfield 38, 3) := by decide +kernel
theorem dX6_when_46 : decode cX6_when 46 = .ok (.iconst 0, 1) := by decide +kernel
theorem dX6_when_47 : decode cX6_when 47 = .ok (.invokevirtual 168, 3) := by decide +kernel
theorem dX6_when_50 : decode cX6_when 50 = .ok (.iinc 2 1, 3) := by decide +kernel
theorem dX6_when_53 : decode cX6_when 53 = .ok (.goto (-30), 3) := by decide +kernel
theorem dX6_when_56 : decode cX6_when 56 = .ok (.bipush (-4), 2) := by decide +kernel
theorem dX6_when_58 : decode cX6_when 58 = .ok (.ireturn, 1) := by decide +kernel
theorem dX6_gentle_0 : decode cX6_gentle 0 = .ok (.aload_n 0, 1) := by decide +kernel
theorem dX6_gentle_1 : decode cX6_gentle 1 = .ok (.getfield 34, 3) := by decide +kernel
theorem dX6_gentle_4 : decode cX6_gentle 4 = .ok (.iconst 0, 1) := by decide +kernel
theorem dX6_gentle_5 : decode cX6_gentle 5 = .ok (.invokevirtual 172, 3) := by decide +kernel
theorem dX6_gentle_8 : decode cX6_gentle 8 = .ok (.ireturn, 1) := by decide +kernel
theorem dX6_latest_0 : decode cX6_latest 0 = .ok (.aload_n 0, 1) := by decide +kernel
theorem dX6_latest_1 : decode cX6_latest 1 = .ok (.iload_n 1, 1) := by decide +kernel
theorem dX6_latest_2 : decode cX6_latest 2 = .ok (.invokevirtual 102, 3) := by decide +kernel
theorem dX6_latest_5 : decode cX6_latest 5 = .ok (.ifCond .ne 5, 3) := by decide +kernel
theorem dX6_latest_8 : decode cX6_latest 8 = .ok (.iconst (-1), 1) := by decide +kernel
theorem dX6_latest_9 : decode cX6_latest 9 = .ok (.ireturn, 1) := by decide +kernel
theorem dX6_latest_10 : decode cX6_latest 10 = .ok (.aload_n 0, 1) := by decide +kernel
theorem dX6_latest_11 : decode cX6_latest 11 = .ok (.getfield 34, 3) := by decide +kernel
theorem dX6_latest_14 : decode cX6_latest 14 = .ok (.iload_n 1, 1) := by decide +kernel
theorem dX6_latest_15 : decode cX6_latest 15 = .ok (.invokevirtual 175, 3) := by decide +kernel
theorem dX6_latest_18 : decode cX6_latest 18 = .ok (.ifCond .ne 6, 3) := by decide +kernel
theorem dX6_latest_21 : decode cX6_latest 21 = .ok (.bipush (-2), 2) := by decide +kernel
theorem dX6_latest_23 : decode cX6_latest 23 = .ok (.ireturn, 1) := by decide +kernel
theorem dX6_latest_24 : decode cX6_latest 24 = .ok (.aload_n 0, 1) := by decide +kernel
theorem dX6_latest_25 : decode cX6_latest 25 = .ok (.getfield 34, 3) := by decide +kernel
theorem dX6_latest_28 : decode cX6_latest 28 = .ok (.iload_n 1, 1) := by decide +kernel
theorem dX6_latest_29 : decode cX6_latest 29 = .ok (.invokevirtual 178, 3) := by decide +kernel
theorem dX6_latest_32 : decode cX6_latest 32 = .ok (.istore_n 2, 1) := by decide +kernel
theorem dX6_latest_33 : decode cX6_latest 33 = .ok (.iload_n 2, 1) := by decide +kernel
theorem dX6_latest_34 : decode cX6_latest 34 = .ok (.ifCond .ge 8, 3) := by decide +kernel
theorem dX6_latest_37 : decode cX6_latest 37 = .ok (.bipush (-4), 2) := by decide +kernel
theorem dX6_latest_39 : decode cX6_latest 39 = .ok (.goto 4, 3) := by decide +kernel
theorem dX6_latest_42 : decode cX6_latest 42 = .ok (.iload_n 2, 1) := by decide +kernel
theorem dX6_latest_43 : decode cX6_latest 43 = .ok (.ireturn, 1) := by decide +kernel
theorem dX6_order_0 : decode cX6_order 0 = .ok (.iload_n 1, 1) := by decide +kernel
theorem dX6_order_1 : decode cX6_order 1 = .ok (.iconst (-1), 1) := by decide +kernel
theorem dX6_order_2 : decode cX6_order 2 = .ok (.if_icmp .lt 9, 3) := by decide +kernel
theorem dX6_order_5 : decode cX6_order 5 = .ok (.iload_n 1, 1) := by decide +kernel
theorem dX6_order_6 : decode cX6_order 6 = .ok (.bipush 6, 2) := by decide +kernel
theorem dX6_order_8 : decode cX6_order 8 = .ok (.if_icmp .lt 5, 3) := by decide +kernel
theorem dX6_order_11 : decode cX6_order 11 = .ok (.iconst (-1), 1) := by decide +kernel
theorem dX6_order_12 : decode cX6_order 12 = .ok (.ireturn, 1) := by decide +kernel
theorem dX6_order_13 : decode cX6_order 13 = .ok (.aload_n 0, 1) := by decide +kernel
theorem dX6_order_14 : decode cX6_order 14 = .ok (.getfield 66, 3) := by decide +kernel
theorem dX6_order_17 : decode cX6_order 17 = .ok (.aload_n 0, 1) := by decide +kernel
theorem dX6_order_18 : decode cX6_order 18 = .ok (.getfield 34, 3) := by decide +kernel
theorem dX6_order_21 : decode cX6_order 21 = .ok (.aload_n 0, 1) := by decide +kernel
theorem dX6_order_22 : decode cX6_order 22 = .ok (.getfield 34, 3) := by decide +kernel
theorem dX6_order_25 : decode cX6_order 25 = .ok (.getfield 134, 3) := by decide +kernel
theorem dX6_order_28 : decode cX6_order 28 = .ok (.invokevirtual 181, 3) := by decide +kernel
theorem dX6_order_31 : decode cX6_order 31 = .ok (.istore_n 2, 1) := by decide +kernel
theorem dX6_order_32 : decode cX6_order 32 = .ok (.iload_n 1, 1) := by decide +kernel
theorem dX6_order_33 : decode cX6_order 33 = .ok (.iconst (-1), 1) := by decide +kernel
theorem dX6_order_34 : decode cX6_order 34 = .ok (.if_icmp .ne 5, 3) := by decide +kernel
theorem dX6_order_37 : decode cX6_order 37 = .ok (.iload_n 2, 1) := by decide +kernel
theorem dX6_order_38 : decode cX6_order 38 = .ok (.ireturn, 1) := by decide +kernel
theorem dX6_order_39 : decode cX6_order 39 = .ok (.iload_n 1, 1) := by decide +kernel
theorem dX6_order_40 : decode cX6_order 40 = .ok (.aload_n 0, 1) := by decide +kernel
theorem dX6_order_41 : decode cX6_order 41 = .ok (.getfield 66, 3) := by decide +kernel
theorem dX6_order_44 : decode cX6_order 44 = .ok (.getfield 185, 3) := by decide +kernel
theorem dX6_order_47 : decode cX6_order 47 = .ok (.if_icmp .ge 15, 3) := by decide +kernel
theorem dX6_order_50 : decode cX6_order 50 = .ok (.aload_n 0, 1) := by decide +kernel
theorem dX6_order_51 : decode cX6_order 51 = .ok (.getfield 66, 3) := by decide +kernel
theorem dX6_order_54 : decode cX6_order 54 = .ok (.getfield 186, 3) := by decide +kernel
theorem dX6_order_57 : decode cX6_order 57 = .ok (.iload_n 1, 1) := by decide +kernel
theorem dX6_order_58 : decode cX6_order 58 = .ok (.iaload, 1) := by decide +kernel
theorem dX6_order_59 : decode cX6_order 59 = .ok (.goto 5, 3) := by decide +kernel
theorem dX6_order_62 : decode cX6_order 62 = .ok (.bipush (-4), 2) := by decide +kernel
theorem dX6_order_64 : decode cX6_order 64 = .ok (.ireturn, 1) := by decide +kernel
theorem dX6_need_0 : decode cX6_need 0 = .ok (.aload_n 0, 1) := by decide +kernel
theorem dX6_need_1 : decode cX6_need 1 = .ok (.getfield 66, 3) := by decide +kernel
theorem dX6_need_4 : decode cX6_need 4 = .ok (.aload_n 0, 1) := by decide +kernel
theorem dX6_need_5 : decode cX6_need 5 = .ok (.getfield 34, 3) := by decide +kernel
theorem dX6_need_8 : decode cX6_need 8 = .ok (.bipush 20, 2) := by decide +kernel
theorem dX6_need_10 : decode cX6_need 10 = .ok (.invokevirtual 181, 3) := by decide +kernel
theorem dX6_need_13 : decode cX6_need 13 = .ok (.istore_n 1, 1) := by decide +kernel
theorem dX6_need_14 : decode cX6_need 14 = .ok (.iconst 0, 1) := by decide +kernel
theorem dX6_need_15 : decode cX6_need 15 = .ok (.istore_n 2, 1) := by decide +kernel
theorem dX6_need_16 : decode cX6_need 16 = .ok (.iload_n 2, 1) := by decide +kernel
theorem dX6_need_17 : decode cX6_need 17 = .ok (.bipush 20, 2) := by decide +kernel
theorem dX6_need_19 : decode cX6_need 19 = .ok (.if_icmp .ge 27, 3) := by decide +kernel
theorem dX6_need_22 : decode cX6_need 22 = .ok (.aload_n 0, 1) := by decide +kernel
theorem dX6_need_23 : decode cX6_need 23 = .ok (.getfield 66, 3) := by decide +kernel
theorem dX6_need_26 : decode cX6_need 26 = .ok (.aload_n 0, 1) := by decide +kernel
theorem dX6_need_27 : decode cX6_need 27 = .ok (.getfield 34, 3) := by decide +kernel
theorem dX6_need_30 : decode cX6_need 30 = .ok (.iload_n 2, 1) := by decide +kernel
theorem dX6_need_31 : decode cX6_need 31 = .ok (.invokevirtual 181, 3) := by decide +kernel
theorem dX6_need_34 : decode cX6_need 34 = .ok (.iload_n 1, 1) := by decide +kernel
theorem dX6_need_35 : decode cX6_need 35 = .ok (.if_icmp .ne 5, 3) := by decide +kernel
theorem dX6_need_38 : decode cX6_need 38 = .ok (.iload_n 2, 1) := by decide +kernel
theorem dX6_need_39 : decode cX6_need 39 = .ok (.ireturn, 1) := by decide +kernel
theorem dX6_need_40 : decode cX6_need 40 = .ok (.iinc 2 1, 3) := by decide +kernel
theorem dX6_need_43 : decode cX6_need 43 = .ok (.goto (-27), 3) := by decide +kernel
theorem dX6_need_46 : decode cX6_need 46 = .ok (.bipush 20, 2) := by decide +kernel
theorem dX6_need_48 : decode cX6_need 48 = .ok (.ireturn, 1) := by decide +kernel
theorem dX6_seen_0 : decode cX6_seen 0 = .ok (.iload_n 1, 1) := by decide +kernel
theorem dX6_seen_1 : decode cX6_seen 1 = .ok (.ifCond .lt 26, 3) := by decide +kernel
theorem dX6_seen_4 : decode cX6_seen 4 = .ok (.iload_n 1, 1) := by decide +kernel
theorem dX6_seen_5 : decode cX6_seen 5 = .ok (.bipush 40, 2) := by decide +kernel
theorem dX6_seen_7 : decode cX6_seen 7 = .ok (.if_icmp .gt 20, 3) := by decide +kernel
theorem dX6_seen_10 : decode cX6_seen 10 = .ok (.aload_n 0, 1) := by decide +kernel
theorem dX6_seen_11 : decode cX6_seen 11 = .ok (.iload_n 2, 1) := by decide +kernel
theorem dX6_seen_12 : decode cX6_seen 12 = .ok (.invokevirtual 102, 3) := by decide +kernel
theorem dX6_seen_15 : decode cX6_seen 15 = .ok (.ifCond .eq 12, 3) := by decide +kernel
theorem dX6_seen_18 : decode cX6_seen 18 = .ok (.iload_n 3, 1) := by decide +kernel
theorem dX6_seen_19 : decode cX6_seen 19 = .ok (.ifCond .lt 8, 3) := by decide +kernel
theorem dX6_seen_22 : decode cX6_seen 22 = .ok (.iload_n 3, 1) := by decide +kernel
theorem dX6_seen_23 : decode cX6_seen 23 = .ok (.iconst 1, 1) := by decide +kernel
theorem dX6_seen_24 : decode cX6_seen 24 = .ok (.if_icmp .le 5, 3) := by decide +kernel
theorem dX6_seen_27 : decode cX6_seen 27 = .ok (.iconst (-1), 1) := by decide +kernel
theorem dX6_seen_28 : decode cX6_seen 28 = .ok (.ireturn, 1) := by decide +kernel
theorem dX6_seen_29 : decode cX6_seen 29 = .ok (.aload_n 0, 1) := by decide +kernel
theorem dX6_seen_30 : decode cX6_seen 30 = .ok (.getfield 59, 3) := by decide +kernel
theorem dX6_seen_33 : decode cX6_seen 33 = .ok (.getfield 189, 3) := by decide +kernel
theorem dX6_seen_36 : decode cX6_seen 36 = .ok (.bipush 6, 2) := by decide +kernel
theorem dX6_seen_38 : decode cX6_seen 38 = .ok (.if_icmp .lt 6, 3) := by decide +kernel
theorem dX6_seen_41 : decode cX6_seen 41 = .ok (.bipush (-3), 2) := by decide +kernel
theorem dX6_seen_43 : decode cX6_seen 43 = .ok (.ireturn, 1) := by decide +kernel
theorem dX6_seen_44 : decode cX6_seen 44 = .ok (.aload_n 0, 1) := by decide +kernel
theorem dX6_seen_45 : decode cX6_seen 45 = .ok (.getfield 59, 3) := by decide +kernel
theorem dX6_seen_48 : decode cX6_seen 48 = .ok (.iload_n 1, 1) := by decide +kernel
theorem dX6_seen_49 : decode cX6_seen 49 = .ok (.iload_n 2, 1) := by decide +kernel
theorem dX6_seen_50 : decode cX6_seen 50 = .ok (.iload_n 3, 1) := by decide +kernel
theorem dX6_seen_51 : decode cX6_seen 51 = .ok (.iconst 1, 1) := by decide +kernel
theorem dX6_seen_52 : decode cX6_seen 52 = .ok (.if_icmp .ne 7, 3) := by decide +kernel
theorem dX6_seen_55 : decode cX6_seen 55 = .ok (.iconst 1, 1) := by decide +kernel
theorem dX6_seen_56 : decode cX6_seen 56 = .ok (.goto 4, 3) := by decide +kernel
theorem dX6_seen_59 : decode cX6_seen 59 = .ok (.iconst 0, 1) := by decide +kernel
theorem dX6_seen_60 : decode cX6_seen 60 = .ok (.invokevirtual 190, 3) := by decide +kernel
theorem dX6_seen_63 : decode cX6_seen 63 = .ok (.aload_n 0, 1) := by decide +kernel
theorem dX6_seen_64 : decode cX6_seen 64 = .ok (.getfield 59, 3) := by decide +kernel
theorem dX6_seen_67 : decode cX6_seen 67 = .ok (.getfield 189, 3) := by decide +kernel
theorem dX6_seen_70 : decode cX6_seen 70 = .ok (.ireturn, 1) := by decide +kernel
theorem dX6_forget_0 : decode cX6_forget 0 = .ok (.aload_n 0, 1) := by decide +kernel
theorem dX6_forget_1 : decode cX6_forget 1 = .ok (.getfield 59, 3) := by decide +kernel
theorem dX6_forget_4 : decode cX6_forget 4 = .ok (.getfield 189, 3) := by decide +kernel
theorem dX6_forget_7 : decode cX6_forget 7 = .ok (.istore_n 1, 1) := by decide +kernel
theorem dX6_forget_8 : decode cX6_forget 8 = .ok (.aload_n 0, 1) := by decide +kernel
theorem dX6_forget_9 : decode cX6_forget 9 = .ok (.getfield 59, 3) := by decide +kernel
theorem dX6_forget_12 : decode cX6_forget 12 = .ok (.iconst 0, 1) := by decide +kernel
theorem dX6_forget_13 : decode cX6_forget 13 = .ok (.putfield 189, 3) := by decide +kernel
theorem dX6_forget_16 : decode cX6_forget 16 = .ok (.iload_n 1, 1) := by decide +kernel
theorem dX6_forget_17 : decode cX6_forget 17 = .ok (.ireturn, 1) := by decide +kernel
theorem dX6_kinds_0 : decode cX6_kinds 0 = .ok (.aload_n 0, 1) := by decide +kernel
theorem dX6_kinds_1 : decode cX6_kinds 1 = .ok (.iload_n 1, 1) := by decide +kernel
theorem dX6_kinds_2 : decode cX6_kinds 2 = .ok (.invokevirtual 102, 3) := by decide +kernel
theorem dX6_kinds_5 : decode cX6_kinds 5 = .ok (.ifCond .ne 5, 3) := by decide +kernel
theorem dX6_kinds_8 : decode cX6_kinds 8 = .ok (.iconst (-1), 1) := by decide +kernel
theorem dX6_kinds_9 : decode cX6_kinds 9 = .ok (.ireturn, 1) := by decide +kernel
theorem dX6_kinds_10 : decode cX6_kinds 10 = .ok (.iconst 0, 1) := by decide +kernel
theorem dX6_kinds_11 : decode cX6_kinds 11 = .ok (.istore_n 2, 1) := by decide +kernel
theorem dX6_kinds_12 : decode cX6_kinds 12 = .ok (.aload_n 0, 1) := by decide +kernel
theorem dX6_kinds_13 : decode cX6_kinds 13 = .ok (.getfield 26, 3) := by decide +kernel
theorem dX6_kinds_16 : decode cX6_kinds 16 = .ok (.aload_n 0, 1) := by decide +kernel
theorem dX6_kinds_17 : decode cX6_kinds 17 = .ok (.getfield 19, 3) := by decide +kernel
theorem dX6_kinds_20 : decode cX6_kinds 20 = .ok (.invokevirtual 194, 3) := by decide +kernel
theorem dX6_kinds_23 : decode cX6_kinds 23 = .ok (.iconst 0, 1) := by decide +kernel
theorem dX6_kinds_24 : decode cX6_kinds 24 = .ok (.istore_n 3, 1) := by decide +kernel
theorem dX6_kinds_25 : decode cX6_kinds 25 = .ok (.iload_n 3, 1) := by decide +kernel
theorem dX6_kinds_26 : decode cX6_kinds 26 = .ok (.iconst 4, 1) := by decide +kernel
theorem dX6_kinds_27 : decode cX6_kinds 27 = .ok (.if_icmp .ge 32, 3) := by decide +kernel
theorem dX6_kinds_30 : decode cX6_kinds 30 = .ok (.aload_n 0, 1) := by decide +kernel
theorem dX6_kinds_31 : decode cX6_kinds 31 = .ok (.getfield 26, 3) := by decide +kernel
theorem dX6_kinds_34 : decode cX6_kinds 34 = .ok (.getfield 196, 3) := by decide +kernel
theorem dX6_kinds_37 : decode cX6_kinds 37 = .ok (.iload_n 1, 1) := by decide +kernel
theorem dX6_kinds_38 : decode cX6_kinds 38 = .ok (.iload_n 3, 1) := by decide +kernel
theorem dX6_kinds_39 : decode cX6_kinds 39 = .ok (.iastore, 1) := by decide +kernel
theorem dX6_kinds_40 : decode cX6_kinds 40 = .ok (.aload_n 0, 1) := by decide +kernel
theorem dX6_kinds_41 : decode cX6_kinds 41 = .ok (.invokevirtual 199, 3) := by decide +kernel
theorem dX6_kinds_44 : decode cX6_kinds 44 = .ok (.ifCond .eq 9, 3) := by decide +kernel
theorem dX6_kinds_47 : decode cX6_kinds 47 = .ok (.iload_n 2, 1) := by decide +kernel
theorem dX6_kinds_48 : decode cX6_kinds 48 = .ok (.iconst 1, 1) := by decide +kernel
theorem dX6_kinds_49 : decode cX6_kinds 49 = .ok (.iload_n 3, 1) := by decide +kernel
theorem dX6_kinds_50 : decode cX6_kinds 50 = .ok (.ishl, 1) := by decide +kernel
theorem dX6_kinds_51 : decode cX6_kinds 51 = .ok (.ior, 1) := by decide +kernel
theorem dX6_kinds_52 : decode cX6_kinds 52 = .ok (.istore_n 2, 1) := by decide +kernel
theorem dX6_kinds_53 : decode cX6_kinds 53 = .ok (.iinc 3 1, 3) := by decide +kernel
theorem dX6_kinds_56 : decode cX6_kinds 56 = .ok (.goto (-31), 3) := by decide +kernel
theorem dX6_kinds_59 : decode cX6_kinds 59 = .ok (.iload_n 2, 1) := by decide +kernel
theorem dX6_kinds_60 : decode cX6_kinds 60 = .ok (.ireturn, 1) := by decide +kernel
theorem dX6_days_0 : decode cX6_days 0 = .ok (.aload_n 0, 1) := by decide +kernel
theorem dX6_days_1 : decode cX6_days 1 = .ok (.iload_n 1, 1) := by decide +kernel
theorem dX6_days_2 : decode cX6_days 2 = .ok (.invokevirtual 102, 3) := by decide +kernel
theorem dX6_days_5 : decode cX6_days 5 = .ok (.ifCond .eq 12, 3) := by decide +kernel
theorem dX6_days_8 : decode cX6_days 8 = .ok (.iload_n 2, 1) := by decide +kernel
theorem dX6_days_9 : decode cX6_days 9 = .ok (.ifCond .lt 8, 3) := by decide +kernel
theorem dX6_days_12 : decode cX6_days 12 = .ok (.iload_n 2, 1) := by decide +kernel
theorem dX6_days_13 : decode cX6_days 13 = .ok (.iconst 1, 1) := by decide +kernel
theorem dX6_days_14 : decode cX6_days 14 = .ok (.if_icmp .le 5, 3) := by decide +kernel
theorem dX6_days_17 : decode cX6_days 17 = .ok (.iconst (-1), 1) := by decide +kernel
theorem dX6_days_18 : decode cX6_days 18 = .ok (.ireturn, 1) := by decide +kernel
theorem dX6_days_19 : decode cX6_days 19 = .ok (.iconst 0, 1) := by decide +kernel
theorem dX6_days_20 : decode cX6_days 20 = .ok (.istore_n 3, 1) := by decide +kernel
theorem dX6_days_21 : decode cX6_days 21 = .ok (.bipush (-4), 2) := by decide +kernel
theorem dX6_days_23 : decode cX6_days 23 = .ok (.istore 4, 2) := by decide +kernel
theorem dX6_days_25 : decode cX6_days 25 = .ok (.aload_n 0, 1) := by decide +kernel
theorem dX6_days_26 : decode cX6_days 26 = .ok (.getfield 26, 3) := by decide +kernel
theorem dX6_days_29 : decode cX6_days 29 = .ok (.aload_n 0, 1) := by decide +kernel
theorem dX6_days_30 : decode cX6_days 30 = .ok (.getfield 19, 3) := by decide +kernel
theorem dX6_days_33 : decode cX6_days 33 = .ok (.invokevirtual 194, 3) := by decide +kernel
theorem dX6_days_36 : decode cX6_days 36 = .ok (.bipush 40, 2) := by decide +kernel
theorem dX6_days_38 : decode cX6_days 38 = .ok (.istore 5, 2) := by decide +kernel
theorem dX6_days_40 : decode cX6_days 40 = .ok (.iload 5, 2) := by decide +kernel
theorem dX6_days_42 : decode cX6_days 42 = .ok (.ifCond .lt 34, 3) := by decide +kernel
theorem dX6_days_45 : decode cX6_days 45 = .ok (.aload_n 0, 1) := by decide +kernel
theorem dX6_days_46 : decode cX6_days 46 = .ok (.getfield 26, 3) := by decide +kernel
theorem dX6_days_49 : decode cX6_days 49 = .ok (.getfield 203, 3) := by decide +kernel
theorem dX6_days_52 : decode cX6_days 52 = .ok (.iload_n 1, 1) := by decide +kernel
theorem dX6_days_53 : decode cX6_days 53 = .ok (.iload 5, 2) := by decide +kernel
theorem dX6_days_55 : decode cX6_days 55 = .ok (.iastore, 1) := by decide +kernel
theorem dX6_days_56 : decode cX6_days 56 = .ok (.aload_n 0, 1) := by decide +kernel
theorem dX6_days_57 : decode cX6_days 57 = .ok (.invokevirtual 199, 3) := by decide +kernel
theorem dX6_days_60 : decode cX6_days 60 = .ok (.ifCond .eq 10, 3) := by decide +kernel
theorem dX6_days_63 : decode cX6_days 63 = .ok (.iinc 3 1, 3) := by decide +kernel
theorem dX6_days_66 : decode cX6_days 66 = .ok (.iload 5, 2) := by decide +kernel
theorem dX6_days_68 : decode cX6_days 68 = .ok (.istore 4, 2) := by decide +kernel
theorem dX6_days_70 : decode cX6_days 70 = .ok (.iinc 5 (-1), 3) := by decide +kernel
theorem dX6_days_73 : decode cX6_days 73 = .ok (.goto (-33), 3) := by decide +kernel
theorem dX6_days_76 : decode cX6_days 76 = .ok (.iload_n 2, 1) := by decide +kernel
theorem dX6_days_77 : decode cX6_days 77 = .ok (.ifCond .ne 7, 3) := by decide +kernel
theorem dX6_days_80 : decode cX6_days 80 = .ok (.iload_n 3, 1) := by decide +kernel
theorem dX6_days_81 : decode cX6_days 81 = .ok (.goto 5, 3) := by decide +kernel
theorem dX6_days_84 : decode cX6_days 84 = .ok (.iload 4, 2) := by decide +kernel
theorem dX6_days_86 : decode cX6_days 86 = .ok (.ireturn, 1) := by decide +kernel
theorem dX6_likely_0 : decode cX6_likely 0 = .ok (.aload_n 0, 1) := by decide +kernel
theorem dX6_likely_1 : decode cX6_likely 1 = .ok (.iload_n 1, 1) := by decide +kernel
theorem dX6_likely_2 : decode cX6_likely 2 = .ok (.invokevirtual 102, 3) := by decide +kernel
theorem dX6_likely_5 : decode cX6_likely 5 = .ok (.ifCond .eq 34, 3) := by decide +kernel
theorem dX6_likely_8 : decode cX6_likely 8 = .ok (.iload_n 2, 1) := by decide +kernel
theorem dX6_likely_9 : decode cX6_likely 9 = .ok (.ifCond .lt 30, 3) := by decide +kernel
theorem dX6_likely_12 : decode cX6_likely 12 = .ok (.iload_n 2, 1) := by decide +kernel
theorem dX6_likely_13 : decode cX6_likely 13 = .ok (.bipush 7, 2) := by decide +kernel
theorem dX6_likely_15 : decode cX6_likely 15 = .ok (.if_icmp .gt 24, 3) := by decide +kernel
theorem dX6_likely_18 : decode cX6_likely 18 = .ok (.iload_n 3, 1) := by decide +kernel
theorem dX6_likely_19 : decode cX6_likely 19 = .ok (.ifCond .lt 20, 3) := by decide +kernel
theorem dX6_likely_22 : decode cX6_likely 22 = .ok (.iload_n 3, 1) := by decide +kernel
theorem dX6_likely_23 : decode cX6_likely 23 = .ok (.bipush 10, 2) := by decide +kernel
theorem dX6_likely_25 : decode cX6_likely 25 = .ok (.if_icmp .gt 14, 3) := by decide +kernel
theorem dX6_likely_28 : decode cX6_likely 28 = .ok (.iload 4, 2) := by decide +kernel
theorem dX6_likely_30 : decode cX6_likely 30 = .ok (.ifCond .lt 9, 3) := by decide +kernel
theorem dX6_likely_33 : decode cX6_likely 33 = .ok (.iload 4, 2) := by decide +kernel
theorem dX6_likely_35 : decode cX6_likely 35 = .ok (.iconst 1, 1) := by decide +kernel
theorem dX6_likely_36 : decode cX6_likely 36 = .ok (.if_icmp .le 5, 3) := by decide +kernel
theorem dX6_likely_39 : decode cX6_likely 39 = .ok (.iconst (-1), 1) := by decide +kernel
theorem dX6_likely_40 : decode cX6_likely 40 = .ok (.ireturn, 1) := by decide +kernel
theorem dX6_likely_41 : decode cX6_likely 41 = .ok (.iconst 0, 1) := by decide +kernel
theorem dX6_likely_42 : decode cX6_likely 42 = .ok (.istore 5, 2) := by decide +kernel
theorem dX6_likely_44 : decode cX6_likely 44 = .ok (.iconst 1, 1) := by decide +kernel
theorem dX6_likely_45 : decode cX6_likely 45 = .ok (.istore 6, 2) := by decide +kernel
theorem dX6_likely_47 : decode cX6_likely 47 = .ok (.iconst 0, 1) := by decide +kernel
theorem dX6_likely_48 : decode cX6_likely 48 = .ok (.istore 7, 2) := by decide +kernel
theorem dX6_likely_50 : decode cX6_likely 50 = .ok (.iload 7, 2) := by decide +kernel
theorem dX6_likely_52 : decode cX6_likely 52 = .ok (.iload_n 2, 1) := by decide +kernel
theorem dX6_likely_53 : decode cX6_likely 53 = .ok (.if_icmp .ge 16, 3) := by decide +kernel
theorem dX6_likely_56 : decode cX6_likely 56 = .ok (.iload 6, 2) := by decide +kernel
theorem dX6_likely_58 : decode cX6_likely 58 = .ok (.bipush 10, 2) := by decide +kernel
theorem dX6_likely_60 : decode cX6_likely 60 = .ok (.imul, 1) := by decide +kernel
theorem dX6_likely_61 : decode cX6_likely 61 = .ok (.istore 6, 2) := by decide +kernel
theorem dX6_likely_63 : decode cX6_likely 63 = .ok (.iinc 7 1, 3) := by decide +kernel
theorem dX6_likely_66 : decode cX6_likely 66 = .ok (.goto (-16), 3) := by decide +kernel
theorem dX6_likely_69 : decode cX6_likely 69 = .ok (.iconst 0, 1) := by decide +kernel
theorem dX6_likely_70 : decode cX6_likely 70 = .ok (.istore 7, 2) := by decide +kernel
theorem dX6_likely_72 : decode cX6_likely 72 = .ok (.iload 7, 2) := by decide +kernel
theorem dX6_likely_74 : decode cX6_likely 74 = .ok (.iconst 1, 1) := by decide +kernel
theorem dX6_likely_75 : decode cX6_likely 75 = .ok (.iload_n 2, 1) := by decide +kernel
theorem dX6_likely_76 : decode cX6_likely 76 = .ok (.ishl, 1) := by decide +kernel
theorem dX6_likely_77 : decode cX6_likely 77 = .ok (.if_icmp .ge 32, 3) := by decide +kernel
theorem dX6_likely_80 : decode cX6_likely 80 = .ok (.aload_n 0, 1) := by decide +kernel
theorem dX6_likely_81 : decode cX6_likely 81 = .ok (.iload_n 1, 1) := by decide +kernel
theorem dX6_likely_82 : decode cX6_likely 82 = .ok (.iload_n 2, 1) := by decide +kernel
theorem dX6_likely_83 : decode cX6_likely 83 = .ok (.iload 7, 2) := by decide +kernel
theorem dX6_likely_85 : decode cX6_likely 85 = .ok (.invokevirtual 206, 3) := by decide +kernel
theorem dX6_likely_88 : decode cX6_likely 88 = .ok (.ifCond .eq 15, 3) := by decide +kernel
theorem dX6_likely_91 : decode cX6_likely 91 = .ok (.iload 5, 2) := by decide +kernel
theorem dX6_likely_93 : decode cX6_likely 93 = .ok (.iload_n 2, 1) := by decide +kernel
theorem dX6_likely_94 : decode cX6_likely 94 = .ok (.iload 7, 2) := by decide +kernel
theorem dX6_likely_96 : decode cX6_likely 96 = .ok (.iload_n 3, 1) := by decide +kernel
theorem dX6_likely_97 : decode cX6_likely 97 = .ok (.invokestatic 210, 3) := by decide +kernel
theorem dX6_likely_100 : decode cX6_likely 100 = .ok (.iadd, 1) := by decide +kernel
theorem dX6_likely_101 : decode cX6_likely 101 = .ok (.istore 5, 2) := by decide +kernel
theorem dX6_likely_103 : decode cX6_likely 103 = .ok (.iinc 7 1, 3) := by decide +kernel
theorem dX6_likely_106 : decode cX6_likely 106 = .ok (.goto (-34), 3) := by decide +kernel
theorem dX6_likely_109 : decode cX6_likely 109 = .ok (.iload 5, 2) := by decide +kernel
theorem dX6_likely_111 : decode cX6_likely 111 = .ok (.iload 6, 2) := by decide +kernel
theorem dX6_likely_113 : decode cX6_likely 113 = .ok (.invokestatic 214, 3) := by decide +kernel
theorem dX6_likely_116 : decode cX6_likely 116 = .ok (.istore 7, 2) := by decide +kernel
theorem dX6_likely_118 : decode cX6_likely 118 = .ok (.iload 7, 2) := by decide +kernel
theorem dX6_likely_120 : decode cX6_likely 120 = .ok (.ifCond .gt 5, 3) := by decide +kernel
theorem dX6_likely_123 : decode cX6_likely 123 = .ok (.iconst (-1), 1) := by decide +kernel
theorem dX6_likely_124 : decode cX6_likely 124 = .ok (.ireturn, 1) := by decide +kernel
theorem dX6_likely_125 : decode cX6_likely 125 = .ok (.iload 4, 2) := by decide +kernel
theorem dX6_likely_127 : decode cX6_likely 127 = .ok (.ifCond .ne 11, 3) := by decide +kernel
theorem dX6_likely_130 : decode cX6_likely 130 = .ok (.iload 5, 2) := by decide +kernel
theorem dX6_likely_132 : decode cX6_likely 132 = .ok (.iload 7, 2) := by decide +kernel
theorem dX6_likely_134 : decode cX6_likely 134 = .ok (.idiv, 1) := by decide +kernel
theorem dX6_likely_135 : decode cX6_likely 135 = .ok (.goto 8, 3) := by decide +kernel
theorem dX6_likely_138 : decode cX6_likely 138 = .ok (.iload 6, 2) := by decide +kernel
theorem dX6_likely_140 : decode cX6_likely 140 = .ok (.iload 7, 2) := by decide +kernel
theorem dX6_likely_142 : decode cX6_likely 142 = .ok (.idiv, 1) := by decide +kernel
theorem dX6_likely_143 : decode cX6_likely 143 = .ok (.ireturn, 1) := by decide +kernel
theorem dX6_year_0 : decode cX6_year 0 = .ok (.iload_n 1, 1) := by decide +kernel
theorem dX6_year_1 : decode cX6_year 1 = .ok (.ifCond .lt 30, 3) := by decide +kernel
theorem dX6_year_4 : decode cX6_year 4 = .ok (.iload_n 1, 1) := by decide +kernel
theorem dX6_year_5 : decode cX6_year 5 = .ok (.sipush 9999, 3) := by decide +kernel
theorem dX6_year_8 : decode cX6_year 8 = .ok (.if_icmp .gt 23, 3) := by decide +kernel
theorem dX6_year_11 : decode cX6_year 11 = .ok (.iload_n 2, 1) := by decide +kernel
theorem dX6_year_12 : decode cX6_year 12 = .ok (.iconst 1, 1) := by decide +kernel
theorem dX6_year_13 : decode cX6_year 13 = .ok (.if_icmp .lt 18, 3) := by decide +kernel
theorem dX6_year_16 : decode cX6_year 16 = .ok (.iload_n 2, 1) := by decide +kernel
theorem dX6_year_17 : decode cX6_year 17 = .ok (.bipush 60, 2) := by decide +kernel
theorem dX6_year_19 : decode cX6_year 19 = .ok (.if_icmp .gt 12, 3) := by decide +kernel
theorem dX6_year_22 : decode cX6_year 22 = .ok (.iload_n 3, 1) := by decide +kernel
theorem dX6_year_23 : decode cX6_year 23 = .ok (.ifCond .lt 8, 3) := by decide +kernel
theorem dX6_year_26 : decode cX6_year 26 = .ok (.iload_n 3, 1) := by decide +kernel
theorem dX6_year_27 : decode cX6_year 27 = .ok (.iconst 2, 1) := by decide +kernel
theorem dX6_year_28 : decode cX6_year 28 = .ok (.if_icmp .le 5, 3) := by decide +kernel
theorem dX6_year_31 : decode cX6_year 31 = .ok (.iconst (-1), 1) := by decide +kernel
theorem dX6_year_32 : decode cX6_year 32 = .ok (.ireturn, 1) := by decide +kernel
theorem dX6_year_33 : decode cX6_year 33 = .ok (.aload_n 0, 1) := by decide +kernel
theorem dX6_year_34 : decode cX6_year 34 = .ok (.getfield 38, 3) := by decide +kernel
theorem dX6_year_37 : decode cX6_year 37 = .ok (.aload_n 0, 1) := by decide +kernel
theorem dX6_year_38 : decode cX6_year 38 = .ok (.getfield 34, 3) := by decide +kernel
theorem dX6_year_41 : decode cX6_year 41 = .ok (.invokevirtual 156, 3) := by decide +kernel
theorem dX6_year_44 : decode cX6_year 44 = .ok (.iconst 0, 1) := by decide +kernel
theorem dX6_year_45 : decode cX6_year 45 = .ok (.istore 4, 2) := by decide +kernel
theorem dX6_year_47 : decode cX6_year 47 = .ok (.iload 4, 2) := by decide +kernel
theorem dX6_year_49 : decode cX6_year 49 = .ok (.iload_n 2, 1) := by decide +kernel
theorem dX6_year_50 : decode cX6_year 50 = .ok (.if_icmp .ge 30, 3) := by decide +kernel
theorem dX6_year_53 : decode cX6_year 53 = .ok (.aload_n 0, 1) := by decide +kernel
theorem dX6_year_54 : decode cX6_year 54 = .ok (.getfield 38, 3) := by decide +kernel
theorem dX6_year_57 : decode cX6_year 57 = .ok (.iload_n 1, 1) := by decide +kernel
theorem dX6_year_58 : decode cX6_year 58 = .ok (.iload 4, 2) := by decide +kernel
theorem dX6_year_60 : decode cX6_year 60 = .ok (.invokestatic 217, 3) := by decide +kernel
theorem dX6_year_63 : decode cX6_year 63 = .ok (.invokevirtual 220, 3) := by decide +kernel
theorem dX6_year_66 : decode cX6_year 66 = .ok (.aload_n 0, 1) := by decide +kernel
theorem dX6_year_67 : decode cX6_year 67 = .ok (.getfield 38, 3) := by decide +kernel
theorem dX6_year_70 : decode cX6_year 70 = .ok (.iconst 0, 1) := by decide +kernel
theorem dX6_year_71 : decode cX6_year 71 = .ok (.invokevirtual 168, 3) := by decide +kernel
theorem dX6_year_74 : decode cX6_year 74 = .ok (.iinc 4 1, 3) := by decide +kernel
theorem dX6_year_77 : decode cX6_year 77 = .ok (.goto (-30), 3) := by decide +kernel
theorem dX6_year_80 : decode cX6_year 80 = .ok (.iload_n 3, 1) := by decide +kernel
theorem dX6_year_81 : decode cX6_year 81 = .ok (.ifCond .ne 11, 3) := by decide +kernel
theorem dX6_year_84 : decode cX6_year 84 = .ok (.aload_n 0, 1) := by decide +kernel
theorem dX6_year_85 : decode cX6_year 85 = .ok (.getfield 38, 3) := by decide +kernel
theorem dX6_year_88 : decode cX6_year 88 = .ok (.invokevirtual 223, 3) := by decide +kernel
theorem dX6_year_91 : decode cX6_year 91 = .ok (.ireturn, 1) := by decide +kernel
theorem dX6_year_92 : decode cX6_year 92 = .ok (.iload_n 3, 1) := by decide +kernel
theorem dX6_year_93 : decode cX6_year 93 = .ok (.iconst 1, 1) := by decide +kernel
theorem dX6_year_94 : decode cX6_year 94 = .ok (.if_icmp .ne 16, 3) := by decide +kernel
theorem dX6_year_97 : decode cX6_year 97 = .ok (.aload_n 0, 1) := by decide +kernel
theorem dX6_year_98 : decode cX6_year 98 = .ok (.getfield 38, 3) := by decide +kernel
theorem dX6_year_101 : decode cX6_year 101 = .ok (.invokevirtual 140, 3) := by decide +kernel
theorem dX6_year_104 : decode cX6_year 104 = .ok (.invokestatic 143, 3) := by decide +kernel
theorem dX6_year_107 : decode cX6_year 107 = .ok (.goto 10, 3) := by decide +kernel
theorem dX6_year_110 : decode cX6_year 110 = .ok (.aload_n 0, 1) := by decide +kernel
theorem dX6_year_111 : decode cX6_year 111 = .ok (.getfield 38, 3) := by decide +kernel
theorem dX6_year_114 : decode cX6_year 114 = .ok (.getfield 134, 3) := by decide +kernel
theorem dX6_year_117 : decode cX6_year 117 = .ok (.ireturn, 1) := by decide +kernel
theorem dX6_keep_0 : decode cX6_keep 0 = .ok (.aload_n 0, 1) := by decide +kernel
theorem dX6_keep_1 : decode cX6_keep 1 = .ok (.getfield 53, 3) := by decide +kernel
theorem dX6_keep_4 : decode cX6_keep 4 = .ok (.getfield 155, 3) := by decide +kernel
theorem dX6_keep_7 : decode cX6_keep 7 = .ok (.iconst 2, 1) := by decide +kernel
theorem dX6_keep_8 : decode cX6_keep 8 = .ok (.if_icmp .lt 6, 3) := by decide +kernel
theorem dX6_keep_11 : decode cX6_keep 11 = .ok (.bipush (-3), 2) := by decide +kernel
theorem dX6_keep_13 : decode cX6_keep 13 = .ok (.ireturn, 1) := by decide +kernel
theorem dX6_keep_14 : decode cX6_keep 14 = .ok (.aload_n 0, 1) := by decide +kernel
theorem dX6_keep_15 : decode cX6_keep 15 = .ok (.getfield 53, 3) := by decide +kernel
theorem dX6_keep_18 : decode cX6_keep 18 = .ok (.aload_n 0, 1) := by decide +kernel
theorem dX6_keep_19 : decode cX6_keep 19 = .ok (.getfield 34, 3) := by decide +kernel
theorem dX6_keep_22 : decode cX6_keep 22 = .ok (.invokevirtual 116, 3) := by decide +kernel
theorem dX6_keep_25 : decode cX6_keep 25 = .ok (.aload_n 0, 1) := by decide +kernel
theorem dX6_keep_26 : decode cX6_keep 26 = .ok (.getfield 53, 3) := by decide +kernel
theorem dX6_keep_29 : decode cX6_keep 29 = .ok (.getfield 155, 3) := by decide +kernel
theorem dX6_keep_32 : decode cX6_keep 32 = .ok (.ireturn, 1) := by decide +kernel
theorem dX6_back_0 : decode cX6_back 0 = .ok (.aload_n 0, 1) := by decide +kernel
theorem dX6_back_1 : decode cX6_back 1 = .ok (.getfield 53, 3) := by decide +kernel
theorem dX6_back_4 : decode cX6_back 4 = .ok (.aload_n 0, 1) := by decide +kernel
theorem dX6_back_5 : decode cX6_back 5 = .ok (.getfield 34, 3) := by decide +kernel
theorem dX6_back_8 : decode cX6_back 8 = .ok (.invokevirtual 151, 3) := by decide +kernel
theorem dX6_back_11 : decode cX6_back 11 = .ok (.ifCond .ne 6, 3) := by decide +kernel
theorem dX6_back_14 : decode cX6_back 14 = .ok (.bipush (-2), 2) := by decide +kernel
theorem dX6_back_16 : decode cX6_back 16 = .ok (.ireturn, 1) := by decide +kernel
theorem dX6_back_17 : decode cX6_back 17 = .ok (.aload_n 0, 1) := by decide +kernel
theorem dX6_back_18 : decode cX6_back 18 = .ok (.getfield 49, 3) := by decide +kernel
theorem dX6_back_21 : decode cX6_back 21 = .ok (.iconst 0, 1) := by decide +kernel
theorem dX6_back_22 : decode cX6_back 22 = .ok (.putfield 155, 3) := by decide +kernel
theorem dX6_back_25 : decode cX6_back 25 = .ok (.aload_n 0, 1) := by decide +kernel
theorem dX6_back_26 : decode cX6_back 26 = .ok (.getfield 53, 3) := by decide +kernel
theorem dX6_back_29 : decode cX6_back 29 = .ok (.getfield 155, 3) := by decide +kernel
theorem dX6_back_32 : decode cX6_back 32 = .ok (.ireturn, 1) := by decide +kernel
theorem dX6_count_0 : decode cX6_count 0 = .ok (.iload_n 1, 1) := by decide +kernel
theorem dX6_count_1 : decode cX6_count 1 = .ok (.tableswitch 168 0 11 #[63, 71, 79, 87, 95, 106, 117, 128, 136, 144, 152, 160], 63) := by decide +kernel
theorem dX6_count_64 : decode cX6_count 64 = .ok (.aload_n 0, 1) := by decide +kernel
theorem dX6_count_65 : decode cX6_count 65 = .ok (.getfield 19, 3) := by decide +kernel
theorem dX6_count_68 : decode cX6_count 68 = .ok (.getfield 99, 3) := by decide +kernel
theorem dX6_count_71 : decode cX6_count 71 = .ok (.ireturn, 1) := by decide +kernel
theorem dX6_count_72 : decode cX6_count 72 = .ok (.aload_n 0, 1) := by decide +kernel
theorem dX6_count_73 : decode cX6_count 73 = .ok (.getfield 34, 3) := by decide +kernel
theorem dX6_count_76 : decode cX6_count 76 = .ok (.getfield 137, 3) := by decide +kernel
theorem dX6_count_79 : decode cX6_count 79 = .ok (.ireturn, 1) := by decide +kernel
theorem dX6_count_80 : decode cX6_count 80 = .ok (.aload_n 0, 1) := by decide +kernel
theorem dX6_count_81 : decode cX6_count 81 = .ok (.getfield 34, 3) := by decide +kernel
theorem dX6_count_84 : decode cX6_count 84 = .ok (.getfield 134, 3) := by decide +kernel
theorem dX6_count_87 : decode cX6_count 87 = .ok (.ireturn, 1) := by decide +kernel
theorem dX6_count_88 : decode cX6_count 88 = .ok (.aload_n 0, 1) := by decide +kernel
theorem dX6_count_89 : decode cX6_count 89 = .ok (.getfield 34, 3) := by decide +kernel
theorem dX6_count_92 : decode cX6_count 92 = .ok (.invokevirtual 226, 3) := by decide +kernel
theorem dX6_count_95 : decode cX6_count 95 = .ok (.ireturn, 1) := by decide +kernel
theorem dX6_count_96 : decode cX6_count 96 = .ok (.aload_n 0, 1) := by decide +kernel
theorem dX6_count_97 : decode cX6_count 97 = .ok (.getfield 34, 3) := by decide +kernel
theorem dX6_count_100 : decode cX6_count 100 = .ok (.invokevirtual 159, 3) := by decide +kernel
theorem dX6_count_103 : decode cX6_count 103 = .ok (.invokestatic 143, 3) := by decide +kernel
theorem dX6_count_106 : decode cX6_count 106 = .ok (.ireturn, 1) := by decide +kernel
theorem dX6_count_107 : decode cX6_count 107 = .ok (.aload_n 0, 1) := by decide +kernel
theorem dX6_count_108 : decode cX6_count 108 = .ok (.getfield 34, 3) := by decide +kernel
theorem dX6_count_111 : decode cX6_count 111 = .ok (.invokevirtual 140, 3) := by decide +kernel
theorem dX6_count_114 : decode cX6_count 114 = .ok (.invokestatic 143, 3) := by decide +kernel
theorem dX6_count_117 : decode cX6_count 117 = .ok (.ireturn, 1) := by decide +kernel
theorem dX6_count_118 : decode cX6_count 118 = .ok (.aload_n 0, 1) := by decide +kernel
theorem dX6_count_119 : decode cX6_count 119 = .ok (.getfield 34, 3) := by decide +kernel
theorem dX6_count_122 : decode cX6_count 122 = .ok (.getfield 162, 3) := by decide +kernel
theorem dX6_count_125 : decode cX6_count 125 = .ok (.invokestatic 143, 3) := by decide +kernel
theorem dX6_count_128 : decode cX6_count 128 = .ok (.ireturn, 1) := by decide +kernel
theorem dX6_count_129 : decode cX6_count 129 = .ok (.aload_n 0, 1) := by decide +kernel
theorem dX6_count_130 : decode cX6_count 130 = .ok (.getfield 34, 3) := by decide +kernel
theorem dX6_count_133 : decode cX6_count 133 = .ok (.getfield 229, 3) := by decide +kernel
theorem dX6_count_136 : decode cX6_count 136 = .ok (.ireturn, 1) := by decide +kernel
theorem dX6_count_137 : decode cX6_count 137 = .ok (.aload_n 0, 1) := by decide +kernel
theorem dX6_count_138 : decode cX6_count 138 = .ok (.getfield 59, 3) := by decide +kernel
theorem dX6_count_141 : decode cX6_count 141 = .ok (.getfield 189, 3) := by decide +kernel
theorem dX6_count_144 : decode cX6_count 144 = .ok (.ireturn, 1) := by decide +kernel
theorem dX6_count_145 : decode cX6_count 145 = .ok (.aload_n 0, 1) := by decide +kernel
theorem dX6_count_146 : decode cX6_count 146 = .ok (.getfield 49, 3) := by decide +kernel
theorem dX6_count_149 : decode cX6_count 149 = .ok (.getfield 155, 3) := by decide +kernel
theorem dX6_count_152 : decode cX6_count 152 = .ok (.ireturn, 1) := by decide +kernel
theorem dX6_count_153 : decode cX6_count 153 = .ok (.aload_n 0, 1) := by decide +kernel
theorem dX6_count_154 : decode cX6_count 154 = .ok (.getfield 53, 3) := by decide +kernel
theorem dX6_count_157 : decode cX6_count 157 = .ok (.getfield 155, 3) := by decide +kernel
theorem dX6_count_160 : decode cX6_count 160 = .ok (.ireturn, 1) := by decide +kernel
theorem dX6_count_161 : decode cX6_count 161 = .ok (.aload_n 0, 1) := by decide +kernel
theorem dX6_count_162 : decode cX6_count 162 = .ok (.getfield 10, 3) := by decide +kernel
theorem dX6_count_165 : decode cX6_count 165 = .ok (.getfield 96, 3) := by decide +kernel
theorem dX6_count_168 : decode cX6_count 168 = .ok (.ireturn, 1) := by decide +kernel
theorem dX6_count_169 : decode cX6_count 169 = .ok (.iconst (-1), 1) := by decide +kernel
theorem dX6_count_170 : decode cX6_count 170 = .ok (.ireturn, 1) := by decide +kernel
theorem dX6_isPerson_0 : decode cX6_isPerson 0 = .ok (.iload_n 1, 1) := by decide +kernel
theorem dX6_isPerson_1 : decode cX6_isPerson 1 = .ok (.ifCond .lt 18, 3) := by decide +kernel
theorem dX6_isPerson_4 : decode cX6_isPerson 4 = .ok (.iload_n 1, 1) := by decide +kernel
theorem dX6_isPerson_5 : decode cX6_isPerson 5 = .ok (.aload_n 0, 1) := by decide +kernel
theorem dX6_isPerson_6 : decode cX6_isPerson 6 = .ok (.getfield 19, 3) := by decide +kernel
theorem dX6_isPerson_9 : decode cX6_isPerson 9 = .ok (.getfield 99, 3) := by decide +kernel
theorem dX6_isPerson_12 : decode cX6_isPerson 12 = .ok (.if_icmp .ge 7, 3) := by decide +kernel
theorem dX6_isPerson_15 : decode cX6_isPerson 15 = .ok (.iconst 1, 1) := by decide +kernel
theorem dX6_isPerson_16 : decode cX6_isPerson 16 = .ok (.goto 4, 3) := by decide +kernel
theorem dX6_isPerson_19 : decode cX6_isPerson 19 = .ok (.iconst 0, 1) := by decide +kernel
theorem dX6_isPerson_20 : decode cX6_isPerson 20 = .ok (.ireturn, 1) := by decide +kernel
theorem dX6_startFromDraft_0 : decode cX6_startFromDraft 0 = .ok (.aload_n 0, 1) := by decide +kernel
theorem dX6_startFromDraft_1 : decode cX6_startFromDraft 1 = .ok (.getfield 19, 3) := by decide +kernel
theorem dX6_startFromDraft_4 : decode cX6_startFromDraft 4 = .ok (.aload_n 0, 1) := by decide +kernel
theorem dX6_startFromDraft_5 : decode cX6_startFromDraft 5 = .ok (.getfield 23, 3) := by decide +kernel
theorem dX6_startFromDraft_8 : decode cX6_startFromDraft 8 = .ok (.invokevirtual 194, 3) := by decide +kernel
theorem dX6_startFromDraft_11 : decode cX6_startFromDraft 11 = .ok (.aload_n 0, 1) := by decide +kernel
theorem dX6_startFromDraft_12 : decode cX6_startFromDraft 12 = .ok (.getfield 34, 3) := by decide +kernel
theorem dX6_startFromDraft_15 : decode cX6_startFromDraft 15 = .ok (.invokevirtual 232, 3) := by decide +kernel
theorem dX6_startFromDraft_18 : decode cX6_startFromDraft 18 = .ok (.aload_n 0, 1) := by decide +kernel
theorem dX6_startFromDraft_19 : decode cX6_startFromDraft 19 = .ok (.getfield 59, 3) := by decide +kernel
theorem dX6_startFromDraft_22 : decode cX6_startFromDraft 22 = .ok (.iconst 0, 1) := by decide +kernel
theorem dX6_startFromDraft_23 : decode cX6_startFromDraft 23 = .ok (.putfield 189, 3) := by decide +kernel
theorem dX6_startFromDraft_26 : decode cX6_startFromDraft 26 = .ok (.aload_n 0, 1) := by decide +kernel
theorem dX6_startFromDraft_27 : decode cX6_startFromDraft 27 = .ok (.getfield 49, 3) := by decide +kernel
theorem dX6_startFromDraft_30 : decode cX6_startFromDraft 30 = .ok (.iconst 0, 1) := by decide +kernel
theorem dX6_startFromDraft_31 : decode cX6_startFromDraft 31 = .ok (.putfield 155, 3) := by decide +kernel
theorem dX6_startFromDraft_34 : decode cX6_startFromDraft 34 = .ok (.aload_n 0, 1) := by decide +kernel
theorem dX6_startFromDraft_35 : decode cX6_startFromDraft 35 = .ok (.getfield 53, 3) := by decide +kernel
theorem dX6_startFromDraft_38 : decode cX6_startFromDraft 38 = .ok (.iconst 0, 1) := by decide +kernel
theorem dX6_startFromDraft_39 : decode cX6_startFromDraft 39 = .ok (.putfield 155, 3) := by decide +kernel
theorem dX6_startFromDraft_42 : decode cX6_startFromDraft 42 = .ok (.return_, 1) := by decide +kernel
theorem dX6_guessFits_0 : decode cX6_guessFits 0 = .ok (.aload_n 0, 1) := by decide +kernel
theorem dX6_guessFits_1 : decode cX6_guessFits 1 = .ok (.getfield 41, 3) := by decide +kernel
theorem dX6_guessFits_4 : decode cX6_guessFits 4 = .ok (.aload_n 0, 1) := by decide +kernel
theorem dX6_guessFits_5 : decode cX6_guessFits 5 = .ok (.getfield 34, 3) := by decide +kernel
theorem dX6_guessFits_8 : decode cX6_guessFits 8 = .ok (.invokevirtual 156, 3) := by decide +kernel
theorem dX6_guessFits_11 : decode cX6_guessFits 11 = .ok (.aload_n 0, 1) := by decide +kernel
theorem dX6_guessFits_12 : decode cX6_guessFits 12 = .ok (.getfield 59, 3) := by decide +kernel
theorem dX6_guessFits_15 : decode cX6_guessFits 15 = .ok (.aload_n 0, 1) := by decide +kernel
theorem dX6_guessFits_16 : decode cX6_guessFits 16 = .ok (.getfield 41, 3) := by decide +kernel
theorem dX6_guessFits_19 : decode cX6_guessFits 19 = .ok (.invokevirtual 235, 3) := by decide +kernel
theorem dX6_guessFits_22 : decode cX6_guessFits 22 = .ok (.ireturn, 1) := by decide +kernel
theorem dX6_softWithFrosts_0 : decode cX6_softWithFrosts 0 = .ok (.aload_n 0, 1) := by decide +kernel
theorem dX6_softWithFrosts_1 : decode cX6_softWithFrosts 1 = .ok (.getfield 38, 3) := by decide +kernel
theorem dX6_softWithFrosts_4 : decode cX6_softWithFrosts 4 = .ok (.aload_n 0, 1) := by decide +kernel
theorem dX6_softWithFrosts_5 : decode cX6_softWithFrosts 5 = .ok (.getfield 34, 3) := by decide +kernel
theorem dX6_softWithFrosts_8 : decode cX6_softWithFrosts 8 = .ok (.invokevirtual 156, 3) := by decide +kernel
theorem dX6_softWithFrosts_11 : decode cX6_softWithFrosts 11 = .ok (.iconst 0, 1) := by decide +kernel
theorem dX6_softWithFrosts_12 : decode cX6_softWithFrosts 12 = .ok (.istore 4, 2) := by decide +kernel
theorem dX6_softWithFrosts_14 : decode cX6_softWithFrosts 14 = .ok (.iload 4, 2) := by decide +kernel
theorem dX6_softWithFrosts_16 : decode cX6_softWithFrosts 16 = .ok (.iload_n 2, 1) := by decide +kernel
theorem dX6_softWithFrosts_17 : decode cX6_softWithFrosts 17 = .ok (.if_icmp .ge 31, 3) := by decide +kernel
theorem dX6_softWithFrosts_20 : decode cX6_softWithFrosts 20 = .ok (.aload_n 0, 1) := by decide +kernel
theorem dX6_softWithFrosts_21 : decode cX6_softWithFrosts 21 = .ok (.getfield 38, 3) := by decide +kernel
theorem dX6_softWithFrosts_24 : decode cX6_softWithFrosts 24 = .ok (.iload_n 3, 1) := by decide +kernel
theorem dX6_softWithFrosts_25 : decode cX6_softWithFrosts 25 = .ok (.iload 4, 2) := by decide +kernel
theorem dX6_softWithFrosts_27 : decode cX6_softWithFrosts 27 = .ok (.ishr, 1) := by decide +kernel
theorem dX6_softWithFrosts_28 : decode cX6_softWithFrosts 28 = .ok (.iconst 1, 1) := by decide +kernel
theorem dX6_softWithFrosts_29 : decode cX6_softWithFrosts 29 = .ok (.iand, 1) := by decide +kernel
theorem dX6_softWithFrosts_30 : decode cX6_softWithFrosts 30 = .ok (.iconst 1, 1) := by decide +kernel
theorem dX6_softWithFrosts_31 : decode cX6_softWithFrosts 31 = .ok (.if_icmp .ne 7, 3) := by decide +kernel
theorem dX6_softWithFrosts_34 : decode cX6_softWithFrosts 34 = .ok (.iconst 1, 1) := by decide +kernel
theorem dX6_softWithFrosts_35 : decode cX6_softWithFrosts 35 = .ok (.goto 4, 3) := by decide +kernel
theorem dX6_softWithFrosts_38 : decode cX6_softWithFrosts 38 = .ok (.iconst 0, 1) := by decide +kernel
theorem dX6_softWithFrosts_39 : decode cX6_softWithFrosts 39 = .ok (.invokevirtual 168, 3) := by decide +kernel
theorem dX6_softWithFrosts_42 : decode cX6_softWithFrosts 42 = .ok (.iinc 4 1, 3) := by decide +kernel
theorem dX6_softWithFrosts_45 : decode cX6_softWithFrosts 45 = .ok (.goto (-31), 3) := by decide +kernel
theorem dX6_softWithFrosts_48 : decode cX6_softWithFrosts 48 = .ok (.aload_n 0, 1) := by decide +kernel
theorem dX6_softWithFrosts_49 : decode cX6_softWithFrosts 49 = .ok (.getfield 38, 3) := by decide +kernel
theorem dX6_softWithFrosts_52 : decode cX6_softWithFrosts 52 = .ok (.iload_n 1, 1) := by decide +kernel
theorem dX6_softWithFrosts_53 : decode cX6_softWithFrosts 53 = .ok (.invokevirtual 238, 3) := by decide +kernel
theorem dX6_softWithFrosts_56 : decode cX6_softWithFrosts 56 = .ok (.ireturn, 1) := by decide +kernel
theorem dX6_weightOfFrosts_0 : decode cX6_weightOfFrosts 0 = .ok (.iconst 1, 1) := by decide +kernel
theorem dX6_weightOfFrosts_1 : decode cX6_weightOfFrosts 1 = .ok (.istore_n 3, 1) := by decide +kernel
theorem dX6_weightOfFrosts_2 : decode cX6_weightOfFrosts 2 = .ok (.iconst 0, 1) := by decide +kernel
theorem dX6_weightOfFrosts_3 : decode cX6_weightOfFrosts 3 = .ok (.istore 4, 2) := by decide +kernel
theorem dX6_weightOfFrosts_5 : decode cX6_weightOfFrosts 5 = .ok (.iload 4, 2) := by decide +kernel
theorem dX6_weightOfFrosts_7 : decode cX6_weightOfFrosts 7 = .ok (.iload_n 0, 1) := by decide +kernel
theorem dX6_weightOfFrosts_8 : decode cX6_weightOfFrosts 8 = .ok (.if_icmp .ge 30, 3) := by decide +kernel
theorem dX6_weightOfFrosts_11 : decode cX6_weightOfFrosts 11 = .ok (.iload_n 3, 1) := by decide +kernel
theorem dX6_weightOfFrosts_12 : decode cX6_weightOfFrosts 12 = .ok (.iload_n 1, 1) := by decide +kernel
theorem dX6_weightOfFrosts_13 : decode cX6_weightOfFrosts 13 = .ok (.iload 4, 2) := by decide +kernel
theorem dX6_weightOfFrosts_15 : decode cX6_weightOfFrosts 15 = .ok (.ishr, 1) := by decide +kernel
theorem dX6_weightOfFrosts_16 : decode cX6_weightOfFrosts 16 = .ok (.iconst 1, 1) := by decide +kernel
theorem dX6_weightOfFrosts_17 : decode cX6_weightOfFrosts 17 = .ok (.iand, 1) := by decide +kernel
theorem dX6_weightOfFrosts_18 : decode cX6_weightOfFrosts 18 = .ok (.iconst 1, 1) := by decide +kernel
theorem dX6_weightOfFrosts_19 : decode cX6_weightOfFrosts 19 = .ok (.if_icmp .ne 7, 3) := by decide +kernel
theorem dX6_weightOfFrosts_22 : decode cX6_weightOfFrosts 22 = .ok (.iload_n 2, 1) := by decide +kernel
theorem dX6_weightOfFrosts_23 : decode cX6_weightOfFrosts 23 = .ok (.goto 7, 3) := by decide +kernel
theorem dX6_weightOfFrosts_26 : decode cX6_weightOfFrosts 26 = .ok (.bipush 10, 2) := by decide +kernel
theorem dX6_weightOfFrosts_28 : decode cX6_weightOfFrosts 28 = .ok (.iload_n 2, 1) := by decide +kernel
theorem dX6_weightOfFrosts_29 : decode cX6_weightOfFrosts 29 = .ok (.isub, 1) := by decide +kernel
theorem dX6_weightOfFrosts_30 : decode cX6_weightOfFrosts 30 = .ok (.imul, 1) := by decide +kernel
theorem dX6_weightOfFrosts_31 : decode cX6_weightOfFrosts 31 = .ok (.istore_n 3, 1) := by decide +kernel
theorem dX6_weightOfFrosts_32 : decode cX6_weightOfFrosts 32 = .ok (.iinc 4 1, 3) := by decide +kernel
theorem dX6_weightOfFrosts_35 : decode cX6_weightOfFrosts 35 = .ok (.goto (-30), 3) := by decide +kernel
theorem dX6_weightOfFrosts_38 : decode cX6_weightOfFrosts 38 = .ok (.iload_n 3, 1) := by decide +kernel
theorem dX6_weightOfFrosts_39 : decode cX6_weightOfFrosts 39 = .ok (.ireturn, 1) := by decide +kernel
theorem dX6_greatestDivisor_0 : decode cX6_greatestDivisor 0 = .ok (.iload_n 0, 1) := by decide +kernel
theorem dX6_greatestDivisor_1 : decode cX6_greatestDivisor 1 = .ok (.istore_n 2, 1) := by decide +kernel
theorem dX6_greatestDivisor_2 : decode cX6_greatestDivisor 2 = .ok (.iload_n 1, 1) := by decide +kernel
theorem dX6_greatestDivisor_3 : decode cX6_greatestDivisor 3 = .ok (.istore_n 3, 1) := by decide +kernel
theorem dX6_greatestDivisor_4 : decode cX6_greatestDivisor 4 = .ok (.iconst 0, 1) := by decide +kernel
theorem dX6_greatestDivisor_5 : decode cX6_greatestDivisor 5 = .ok (.istore 4, 2) := by decide +kernel
theorem dX6_greatestDivisor_7 : decode cX6_greatestDivisor 7 = .ok (.iload 4, 2) := by decide +kernel
theorem dX6_greatestDivisor_9 : decode cX6_greatestDivisor 9 = .ok (.bipush 64, 2) := by decide +kernel
theorem dX6_greatestDivisor_11 : decode cX6_greatestDivisor 11 = .ok (.if_icmp .ge 23, 3) := by decide +kernel
theorem dX6_greatestDivisor_14 : decode cX6_greatestDivisor 14 = .ok (.iload_n 3, 1) := by decide +kernel
theorem dX6_greatestDivisor_15 : decode cX6_greatestDivisor 15 = .ok (.ifCond .eq 19, 3) := by decide +kernel
theorem dX6_greatestDivisor_18 : decode cX6_greatestDivisor 18 = .ok (.iload_n 2, 1) := by decide +kernel
theorem dX6_greatestDivisor_19 : decode cX6_greatestDivisor 19 = .ok (.iload_n 3, 1) := by decide +kernel
theorem dX6_greatestDivisor_20 : decode cX6_greatestDivisor 20 = .ok (.irem, 1) := by decide +kernel
theorem dX6_greatestDivisor_21 : decode cX6_greatestDivisor 21 = .ok (.istore 5, 2) := by decide +kernel
theorem dX6_greatestDivisor_23 : decode cX6_greatestDivisor 23 = .ok (.iload_n 3, 1) := by decide +kernel
theorem dX6_greatestDivisor_24 : decode cX6_greatestDivisor 24 = .ok (.istore_n 2, 1) := by decide +kernel
theorem dX6_greatestDivisor_25 : decode cX6_greatestDivisor 25 = .ok (.iload 5, 2) := by decide +kernel
theorem dX6_greatestDivisor_27 : decode cX6_greatestDivisor 27 = .ok (.istore_n 3, 1) := by decide +kernel
theorem dX6_greatestDivisor_28 : decode cX6_greatestDivisor 28 = .ok (.iinc 4 1, 3) := by decide +kernel
theorem dX6_greatestDivisor_31 : decode cX6_greatestDivisor 31 = .ok (.goto (-24), 3) := by decide +kernel
theorem dX6_greatestDivisor_34 : decode cX6_greatestDivisor 34 = .ok (.iload_n 2, 1) := by decide +kernel
theorem dX6_greatestDivisor_35 : decode cX6_greatestDivisor 35 = .ok (.ireturn, 1) := by decide +kernel
theorem dX6_draw_0 : decode cX6_draw 0 = .ok (.ldc2_w 241, 3) := by decide +kernel
theorem dX6_draw_3 : decode cX6_draw 3 = .ok (.iload_n 0, 1) := by decide +kernel
theorem dX6_draw_4 : decode cX6_draw 4 = .ok (.i2l, 1) := by decide +kernel
theorem dX6_draw_5 : decode cX6_draw 5 = .ok (.lmul, 1) := by decide +kernel
theorem dX6_draw_6 : decode cX6_draw 6 = .ok (.ldc2_w 243, 3) := by decide +kernel
theorem dX6_draw_9 : decode cX6_draw 9 = .ok (.iload_n 1, 1) := by decide +kernel
theorem dX6_draw_10 : decode cX6_draw 10 = .ok (.i2l, 1) := by decide +kernel
theorem dX6_draw_11 : decode cX6_draw 11 = .ok (.lmul, 1) := by decide +kernel
theorem dX6_draw_12 : decode cX6_draw 12 = .ok (.ladd, 1) := by decide +kernel
theorem dX6_draw_13 : decode cX6_draw 13 = .ok (.lconst 1, 1) := by decide +kernel
theorem dX6_draw_14 : decode cX6_draw 14 = .ok (.ladd, 1) := by decide +kernel
theorem dX6_draw_15 : decode cX6_draw 15 = .ok (.lstore_n 2, 1) := by decide +kernel
theorem dX6_draw_16 : decode cX6_draw 16 = .ok (.lload_n 2, 1) := by decide +kernel
theorem dX6_draw_17 : decode cX6_draw 17 = .ok (.lload_n 2, 1) := by decide +kernel
theorem dX6_draw_18 : decode cX6_draw 18 = .ok (.lmul, 1) := by decide +kernel
theorem dX6_draw_19 : decode cX6_draw 19 = .ok (.ldc2_w 245, 3) := by decide +kernel
theorem dX6_draw_22 : decode cX6_draw 22 = .ok (.lrem, 1) := by decide +kernel
theorem dX6_draw_23 : decode cX6_draw 23 = .ok (.ldc2_w 247, 3) := by decide +kernel
theorem dX6_draw_26 : decode cX6_draw 26 = .ok (.ldiv, 1) := by decide +kernel
theorem dX6_draw_27 : decode cX6_draw 27 = .ok (.l2i, 1) := by decide +kernel
theorem dX6_draw_28 : decode cX6_draw 28 = .ok (.ireturn, 1) := by decide +kernel
theorem dJ6_bitCount_0f7a4_0 : decode cJ6_bitCount_0f7a4 0 = .ok (.iload_n 0, 1) := by decide +kernel
theorem dJ6_bitCount_0f7a4_1 : decode cJ6_bitCount_0f7a4 1 = .ok (.iload_n 0, 1) := by decide +kernel
theorem dJ6_bitCount_0f7a4_2 : decode cJ6_bitCount_0f7a4 2 = .ok (.iconst 1, 1) := by decide +kernel
theorem dJ6_bitCount_0f7a4_3 : decode cJ6_bitCount_0f7a4 3 = .ok (.iushr, 1) := by decide +kernel
theorem dJ6_bitCount_0f7a4_4 : decode cJ6_bitCount_0f7a4 4 = .ok (.ldc_w 265, 3) := by decide +kernel
theorem dJ6_bitCount_0f7a4_7 : decode cJ6_bitCount_0f7a4 7 = .ok (.iand, 1) := by decide +kernel
theorem dJ6_bitCount_0f7a4_8 : decode cJ6_bitCount_0f7a4 8 = .ok (.isub, 1) := by decide +kernel
theorem dJ6_bitCount_0f7a4_9 : decode cJ6_bitCount_0f7a4 9 = .ok (.istore_n 0, 1) := by decide +kernel
theorem dJ6_bitCount_0f7a4_10 : decode cJ6_bitCount_0f7a4 10 = .ok (.iload_n 0, 1) := by decide +kernel
theorem dJ6_bitCount_0f7a4_11 : decode cJ6_bitCount_0f7a4 11 = .ok (.ldc_w 266, 3) := by decide +kernel
theorem dJ6_bitCount_0f7a4_14 : decode cJ6_bitCount_0f7a4 14 = .ok (.iand, 1) := by decide +kernel
theorem dJ6_bitCount_0f7a4_15 : decode cJ6_bitCount_0f7a4 15 = .ok (.iload_n 0, 1) := by decide +kernel
theorem dJ6_bitCount_0f7a4_16 : decode cJ6_bitCount_0f7a4 16 = .ok (.iconst 2, 1) := by decide +kernel
theorem dJ6_bitCount_0f7a4_17 : decode cJ6_bitCount_0f7a4 17 = .ok (.iushr, 1) := by decide +kernel
theorem dJ6_bitCount_0f7a4_18 : decode cJ6_bitCount_0f7a4 18 = .ok (.ldc_w 266, 3) := by decide +kernel
theorem dJ6_bitCount_0f7a4_21 : decode cJ6_bitCount_0f7a4 21 = .ok (.iand, 1) := by decide +kernel
theorem dJ6_bitCount_0f7a4_22 : decode cJ6_bitCount_0f7a4 22 = .ok (.iadd, 1) := by decide +kernel
theorem dJ6_bitCount_0f7a4_23 : decode cJ6_bitCount_0f7a4 23 = .ok (.istore_n 0, 1) := by decide +kernel
theorem dJ6_bitCount_0f7a4_24 : decode cJ6_bitCount_0f7a4 24 = .ok (.iload_n 0, 1) := by decide +kernel
theorem dJ6_bitCount_0f7a4_25 : decode cJ6_bitCount_0f7a4 25 = .ok (.iload_n 0, 1) := by decide +kernel
theorem dJ6_bitCount_0f7a4_26 : decode cJ6_bitCount_0f7a4 26 = .ok (.iconst 4, 1) := by decide +kernel
theorem dJ6_bitCount_0f7a4_27 : decode cJ6_bitCount_0f7a4 27 = .ok (.iushr, 1) := by decide +kernel
theorem dJ6_bitCount_0f7a4_28 : decode cJ6_bitCount_0f7a4 28 = .ok (.iadd, 1) := by decide +kernel
theorem dJ6_bitCount_0f7a4_29 : decode cJ6_bitCount_0f7a4 29 = .ok (.ldc_w 267, 3) := by decide +kernel
theorem dJ6_bitCount_0f7a4_32 : decode cJ6_bitCount_0f7a4 32 = .ok (.iand, 1) := by decide +kernel
theorem dJ6_bitCount_0f7a4_33 : decode cJ6_bitCount_0f7a4 33 = .ok (.istore_n 0, 1) := by decide +kernel
theorem dJ6_bitCount_0f7a4_34 : decode cJ6_bitCount_0f7a4 34 = .ok (.iload_n 0, 1) := by decide +kernel
theorem dJ6_bitCount_0f7a4_35 : decode cJ6_bitCount_0f7a4 35 = .ok (.iload_n 0, 1) := by decide +kernel
theorem dJ6_bitCount_0f7a4_36 : decode cJ6_bitCount_0f7a4 36 = .ok (.bipush 8, 2) := by decide +kernel
theorem dJ6_bitCount_0f7a4_38 : decode cJ6_bitCount_0f7a4 38 = .ok (.iushr, 1) := by decide +kernel
theorem dJ6_bitCount_0f7a4_39 : decode cJ6_bitCount_0f7a4 39 = .ok (.iadd, 1) := by decide +kernel
theorem dJ6_bitCount_0f7a4_40 : decode cJ6_bitCount_0f7a4 40 = .ok (.istore_n 0, 1) := by decide +kernel
theorem dJ6_bitCount_0f7a4_41 : decode cJ6_bitCount_0f7a4 41 = .ok (.iload_n 0, 1) := by decide +kernel
theorem dJ6_bitCount_0f7a4_42 : decode cJ6_bitCount_0f7a4 42 = .ok (.iload_n 0, 1) := by decide +kernel
theorem dJ6_bitCount_0f7a4_43 : decode cJ6_bitCount_0f7a4 43 = .ok (.bipush 16, 2) := by decide +kernel
theorem dJ6_bitCount_0f7a4_45 : decode cJ6_bitCount_0f7a4 45 = .ok (.iushr, 1) := by decide +kernel
theorem dJ6_bitCount_0f7a4_46 : decode cJ6_bitCount_0f7a4 46 = .ok (.iadd, 1) := by decide +kernel
theorem dJ6_bitCount_0f7a4_47 : decode cJ6_bitCount_0f7a4 47 = .ok (.istore_n 0, 1) := by decide +kernel
theorem dJ6_bitCount_0f7a4_48 : decode cJ6_bitCount_0f7a4 48 = .ok (.iload_n 0, 1) := by decide +kernel
theorem dJ6_bitCount_0f7a4_49 : decode cJ6_bitCount_0f7a4 49 = .ok (.bipush 63, 2) := by decide +kernel
theorem dJ6_bitCount_0f7a4_51 : decode cJ6_bitCount_0f7a4 51 = .ok (.iand, 1) := by decide +kernel
theorem dJ6_bitCount_0f7a4_52 : decode cJ6_bitCount_0f7a4 52 = .ok (.ireturn, 1) := by decide +kernel
theorem dJ9_max_7cf53_0 : decode cJ9_max_7cf53 0 = .ok (.iload_n 0, 1) := by decide +kernel
theorem dJ9_max_7cf53_1 : decode cJ9_max_7cf53 1 = .ok (.iload_n 1, 1) := by decide +kernel
theorem dJ9_max_7cf53_2 : decode cJ9_max_7cf53 2 = .ok (.if_icmp .lt 7, 3) := by decide +kernel
theorem dJ9_max_7cf53_5 : decode cJ9_max_7cf53 5 = .ok (.iload_n 0, 1) := by decide +kernel
theorem dJ9_max_7cf53_6 : decode cJ9_max_7cf53 6 = .ok (.goto 4, 3) := by decide +kernel
theorem dJ9_max_7cf53_9 : decode cJ9_max_7cf53 9 = .ok (.iload_n 1, 1) := by decide +kernel
theorem dJ9_max_7cf53_10 : decode cJ9_max_7cf53 10 = .ok (.ireturn, 1) := by decide +kernel
theorem dJ9_min_7cf53_0 : decode cJ9_min_7cf53 0 = .ok (.iload_n 0, 1) := by decide +kernel
theorem dJ9_min_7cf53_1 : decode cJ9_min_7cf53 1 = .ok (.iload_n 1, 1) := by decide +kernel
theorem dJ9_min_7cf53_2 : decode cJ9_min_7cf53 2 = .ok (.if_icmp .gt 7, 3) := by decide +kernel
theorem dJ9_min_7cf53_5 : decode cJ9_min_7cf53 5 = .ok (.iload_n 0, 1) := by decide +kernel
theorem dJ9_min_7cf53_6 : decode cJ9_min_7cf53 6 = .ok (.goto 4, 3) := by decide +kernel
theorem dJ9_min_7cf53_9 : decode cJ9_min_7cf53 9 = .ok (.iload_n 1, 1) := by decide +kernel
theorem dJ9_min_7cf53_10 : decode cJ9_min_7cf53 10 = .ok (.ireturn, 1) := by decide +kernel
theorem dJ0_length_8abf5_0 : decode cJ0_length_8abf5 0 = .ok (.aload_n 0, 1) := by decide +kernel
theorem dJ0_length_8abf5_1 : decode cJ0_length_8abf5 1 = .ok (.getfield 9, 3) := by decide +kernel
theorem dJ0_length_8abf5_4 : decode cJ0_length_8abf5 4 = .ok (.arraylength, 1) := by decide +kernel
theorem dJ0_length_8abf5_5 : decode cJ0_length_8abf5 5 = .ok (.aload_n 0, 1) := by decide +kernel
theorem dJ0_length_8abf5_6 : decode cJ0_length_8abf5 6 = .ok (.invokevirtual 335, 3) := by decide +kernel
theorem dJ0_length_8abf5_9 : decode cJ0_length_8abf5 9 = .ok (.ishr, 1) := by decide +kernel
theorem dJ0_length_8abf5_10 : decode cJ0_length_8abf5 10 = .ok (.ireturn, 1) := by decide +kernel
theorem dJ0_charAt_5068e_0 : decode cJ0_charAt_5068e 0 = .ok (.aload_n 0, 1) := by decide +kernel
theorem dJ0_charAt_5068e_1 : decode cJ0_charAt_5068e 1 = .ok (.invokevirtual 492, 3) := by decide +kernel
theorem dJ0_charAt_5068e_4 : decode cJ0_charAt_5068e 4 = .ok (.ifCond .eq 12, 3) := by decide +kernel
theorem dJ0_charAt_5068e_7 : decode cJ0_charAt_5068e 7 = .ok (.aload_n 0, 1) := by decide +kernel
theorem dJ0_charAt_5068e_8 : decode cJ0_charAt_5068e 8 = .ok (.getfield 9, 3) := by decide +kernel
theorem dJ0_charAt_5068e_11 : decode cJ0_charAt_5068e 11 = .ok (.iload_n 1, 1) := by decide +kernel
theorem dJ0_charAt_5068e_12 : decode cJ0_charAt_5068e 12 = .ok (.invokestatic 495, 3) := by decide +kernel
theorem dJ0_charAt_5068e_15 : decode cJ0_charAt_5068e 15 = .ok (.ireturn, 1) := by decide +kernel
theorem dJ0_charAt_5068e_16 : decode cJ0_charAt_5068e 16 = .ok (.aload_n 0, 1) := by decide +kernel
theorem dJ0_charAt_5068e_17 : decode cJ0_charAt_5068e 17 = .ok (.getfield 9, 3) := by decide +kernel
theorem dJ0_charAt_5068e_20 : decode cJ0_charAt_5068e 20 = .ok (.iload_n 1, 1) := by decide +kernel
theorem dJ0_charAt_5068e_21 : decode cJ0_charAt_5068e 21 = .ok (.invokestatic 498, 3) := by decide +kernel
theorem dJ0_charAt_5068e_24 : decode cJ0_charAt_5068e 24 = .ok (.ireturn, 1) := by decide +kernel
theorem dJ0_coder_7d493_0 : decode cJ0_coder_7d493 0 = .ok (.getstatic 38, 3) := by decide +kernel
theorem dJ0_coder_7d493_3 : decode cJ0_coder_7d493 3 = .ok (.ifCond .eq 10, 3) := by decide +kernel
theorem dJ0_coder_7d493_6 : decode cJ0_coder_7d493 6 = .ok (.aload_n 0, 1) := by decide +kernel
theorem dJ0_coder_7d493_7 : decode cJ0_coder_7d493 7 = .ok (.getfield 15, 3) := by decide +kernel
theorem dJ0_coder_7d493_10 : decode cJ0_coder_7d493 10 = .ok (.goto 4, 3) := by decide +kernel
theorem dJ0_coder_7d493_13 : decode cJ0_coder_7d493 13 = .ok (.iconst 1, 1) := by decide +kernel
theorem dJ0_coder_7d493_14 : decode cJ0_coder_7d493 14 = .ok (.ireturn, 1) := by decide +kernel
theorem dJ0_isLatin1_aae02_0 : decode cJ0_isLatin1_aae02 0 = .ok (.getstatic 38, 3) := by decide +kernel
theorem dJ0_isLatin1_aae02_3 : decode cJ0_isLatin1_aae02 3 = .ok (.ifCond .eq 14, 3) := by decide +kernel
theorem dJ0_isLatin1_aae02_6 : decode cJ0_isLatin1_aae02 6 = .ok (.aload_n 0, 1) := by decide +kernel
theorem dJ0_isLatin1_aae02_7 : decode cJ0_isLatin1_aae02 7 = .ok (.getfield 15, 3) := by decide +kernel
theorem dJ0_isLatin1_aae02_10 : decode cJ0_isLatin1_aae02 10 = .ok (.ifCond .ne 7, 3) := by decide +kernel
theorem dJ0_isLatin1_aae02_13 : decode cJ0_isLatin1_aae02 13 = .ok (.iconst 1, 1) := by decide +kernel
theorem dJ0_isLatin1_aae02_14 : decode cJ0_isLatin1_aae02 14 = .ok (.goto 4, 3) := by decide +kernel
theorem dJ0_isLatin1_aae02_17 : decode cJ0_isLatin1_aae02 17 = .ok (.iconst 0, 1) := by decide +kernel
theorem dJ0_isLatin1_aae02_18 : decode cJ0_isLatin1_aae02 18 = .ok (.ireturn, 1) := by decide +kernel
theorem dJ0_checkIndex_df160_0 : decode cJ0_checkIndex_df160 0 = .ok (.iload_n 0, 1) := by decide +kernel
theorem dJ0_checkIndex_df160_1 : decode cJ0_checkIndex_df160 1 = .ok (.iload_n 1, 1) := by decide +kernel
theorem dJ0_checkIndex_df160_2 : decode cJ0_checkIndex_df160 2 = .ok (.getstatic 1053, 3) := by decide +kernel
theorem dJ0_checkIndex_df160_5 : decode cJ0_checkIndex_df160 5 = .ok (.invokestatic 1059, 3) := by decide +kernel
theorem dJ0_checkIndex_df160_8 : decode cJ0_checkIndex_df160 8 = .ok (.pop, 1) := by decide +kernel
theorem dJ0_checkIndex_df160_9 : decode cJ0_checkIndex_df160 9 = .ok (.return_, 1) := by decide +kernel
theorem dJ1_charAt_3b067_0 : decode cJ1_charAt_3b067 0 = .ok (.iload_n 1, 1) := by decide +kernel
theorem dJ1_charAt_3b067_1 : decode cJ1_charAt_3b067 1 = .ok (.aload_n 0, 1) := by decide +kernel
theorem dJ1_charAt_3b067_2 : decode cJ1_charAt_3b067 2 = .ok (.arraylength, 1) := by decide +kernel
theorem dJ1_charAt_3b067_3 : decode cJ1_charAt_3b067 3 = .ok (.invokestatic 9, 3) := by decide +kernel
theorem dJ1_charAt_3b067_6 : decode cJ1_charAt_3b067 6 = .ok (.aload_n 0, 1) := by decide +kernel
theorem dJ1_charAt_3b067_7 : decode cJ1_charAt_3b067 7 = .ok (.iload_n 1, 1) := by decide +kernel
theorem dJ1_charAt_3b067_8 : decode cJ1_charAt_3b067 8 = .ok (.baload, 1) := by decide +kernel
theorem dJ1_charAt_3b067_9 : decode cJ1_charAt_3b067 9 = .ok (.sipush 255, 3) := by decide +kernel
theorem dJ1_charAt_3b067_12 : decode cJ1_charAt_3b067 12 = .ok (.iand, 1) := by decide +kernel
theorem dJ1_charAt_3b067_13 : decode cJ1_charAt_3b067 13 = .ok (.i2c, 1) := by decide +kernel
theorem dJ1_charAt_3b067_14 : decode cJ1_charAt_3b067 14 = .ok (.ireturn, 1) := by decide +kernel
theorem dJ2_getChar_3b067_0 : decode cJ2_getChar_3b067 0 = .ok (.getstatic 44, 3) := by decide +kernel
theorem dJ2_getChar_3b067_3 : decode cJ2_getChar_3b067 3 = .ok (.ifCond .ne 25, 3) := by decide +kernel
theorem dJ2_getChar_3b067_6 : decode cJ2_getChar_3b067 6 = .ok (.iload_n 1, 1) := by decide +kernel
theorem dJ2_getChar_3b067_7 : decode cJ2_getChar_3b067 7 = .ok (.ifCond .lt 11, 3) := by decide +kernel
theorem dJ2_getChar_3b067_10 : decode cJ2_getChar_3b067 10 = .ok (.iload_n 1, 1) := by decide +kernel
theorem dJ2_getChar_3b067_11 : decode cJ2_getChar_3b067 11 = .ok (.aload_n 0, 1) := by decide +kernel
theorem dJ2_getChar_3b067_12 : decode cJ2_getChar_3b067 12 = .ok (.invokestatic 48, 3) := by decide +kernel
theorem dJ2_getChar_3b067_15 : decode cJ2_getChar_3b067 15 = .ok (.if_icmp .lt 13, 3) := by decide +kernel
theorem dJ2_getChar_3b067_18 : decode cJ2_getChar_3b067 18 = .ok (.new 52, 3) := by decide +kernel
theorem dJ2_getChar_3b067_21 : decode cJ2_getChar_3b067 21 = .ok (.dup, 1) := by decide +kernel
theorem dJ2_getChar_3b067_22 : decode cJ2_getChar_3b067 22 = .ok (.ldc 54, 2) := by decide +kernel
theorem dJ2_getChar_3b067_24 : decode cJ2_getChar_3b067 24 = .ok (.invokespecial 56, 3) := by decide +kernel
theorem dJ2_getChar_3b067_27 : decode cJ2_getChar_3b067 27 = .ok (.athrow, 1) := by decide +kernel
theorem dJ2_getChar_3b067_28 : decode cJ2_getChar_3b067 28 = .ok (.iload_n 1, 1) := by decide +kernel
theorem dJ2_getChar_3b067_29 : decode cJ2_getChar_3b067 29 = .ok (.iconst 1, 1) := by decide +kernel
theorem dJ2_getChar_3b067_30 : decode cJ2_getChar_3b067 30 = .ok (.ishl, 1) := by decide +kernel
theorem dJ2_getChar_3b067_31 : decode cJ2_getChar_3b067 31 = .ok (.istore_n 1, 1) := by decide +kernel
theorem dJ2_getChar_3b067_32 : decode cJ2_getChar_3b067 32 = .ok (.aload_n 0, 1) := by decide +kernel
theorem dJ2_getChar_3b067_33 : decode cJ2_getChar_3b067 33 = .ok (.iload_n 1, 1) := by decide +kernel
theorem dJ2_getChar_3b067_34 : decode cJ2_getChar_3b067 34 = .ok (.iinc 1 1, 3) := by decide +kernel
theorem dJ2_getChar_3b067_37 : decode cJ2_getChar_3b067 37 = .ok (.baload, 1) := by decide +kernel
theorem dJ2_getChar_3b067_38 : decode cJ2_getChar_3b067 38 = .ok (.sipush 255, 3) := by decide +kernel
theorem dJ2_getChar_3b067_41 : decode cJ2_getChar_3b067 41 = .ok (.iand, 1) := by decide +kernel
theorem dJ2_getChar_3b067_42 : decode cJ2_getChar_3b067 42 = .ok (.getstatic 59, 3) := by decide +kernel
theorem dJ2_getChar_3b067_45 : decode cJ2_getChar_3b067 45 = .ok (.ishl, 1) := by decide +kernel
theorem dJ2_getChar_3b067_46 : decode cJ2_getChar_3b067 46 = .ok (.aload_n 0, 1) := by decide +kernel
theorem dJ2_getChar_3b067_47 : decode cJ2_getChar_3b067 47 = .ok (.iload_n 1, 1) := by decide +kernel
theorem dJ2_getChar_3b067_48 : decode cJ2_getChar_3b067 48 = .ok (.baload, 1) := by decide +kernel
theorem dJ2_getChar_3b067_49 : decode cJ2_getChar_3b067 49 = .ok (.sipush 255, 3) := by decide +kernel
theorem dJ2_getChar_3b067_52 : decode cJ2_getChar_3b067 52 = .ok (.iand, 1) := by decide +kernel
theorem dJ2_getChar_3b067_53 : decode cJ2_getChar_3b067 53 = .ok (.getstatic 63, 3) := by decide +kernel
theorem dJ2_getChar_3b067_56 : decode cJ2_getChar_3b067 56 = .ok (.ishl, 1) := by decide +kernel
theorem dJ2_getChar_3b067_57 : decode cJ2_getChar_3b067 57 = .ok (.ior, 1) := by decide +kernel
theorem dJ2_getChar_3b067_58 : decode cJ2_getChar_3b067 58 = .ok (.i2c, 1) := by decide +kernel
theorem dJ2_getChar_3b067_59 : decode cJ2_getChar_3b067 59 = .ok (.ireturn, 1) := by decide +kernel
theorem dJ2_length_9d52b_0 : decode cJ2_length_9d52b 0 = .ok (.aload_n 0, 1) := by decide +kernel
theorem dJ2_length_9d52b_1 : decode cJ2_length_9d52b 1 = .ok (.arraylength, 1) := by decide +kernel
theorem dJ2_length_9d52b_2 : decode cJ2_length_9d52b 2 = .ok (.iconst 1, 1) := by decide +kernel
theorem dJ2_length_9d52b_3 : decode cJ2_length_9d52b 3 = .ok (.ishr, 1) := by decide +kernel
theorem dJ2_length_9d52b_4 : decode cJ2_length_9d52b 4 = .ok (.ireturn, 1) := by decide +kernel
theorem dJ2_charAt_3b067_0 : decode cJ2_charAt_3b067 0 = .ok (.iload_n 1, 1) := by decide +kernel
theorem dJ2_charAt_3b067_1 : decode cJ2_charAt_3b067 1 = .ok (.aload_n 0, 1) := by decide +kernel
theorem dJ2_charAt_3b067_2 : decode cJ2_charAt_3b067 2 = .ok (.invokestatic 67, 3) := by decide +kernel
theorem dJ2_charAt_3b067_5 : decode cJ2_charAt_3b067 5 = .ok (.aload_n 0, 1) := by decide +kernel
theorem dJ2_charAt_3b067_6 : decode cJ2_charAt_3b067 6 = .ok (.iload_n 1, 1) := by decide +kernel
theorem dJ2_charAt_3b067_7 : decode cJ2_charAt_3b067 7 = .ok (.invokestatic 71, 3) := by decide +kernel
theorem dJ2_charAt_3b067_10 : decode cJ2_charAt_3b067 10 = .ok (.ireturn, 1) := by decide +kernel
theorem dJ2_checkIndex_2214a_0 : decode cJ2_checkIndex_2214a 0 = .ok (.iload_n 0, 1) := by decide +kernel
theorem dJ2_checkIndex_2214a_1 : decode cJ2_checkIndex_2214a 1 = .ok (.aload_n 1, 1) := by decide +kernel
theorem dJ2_checkIndex_2214a_2 : decode cJ2_checkIndex_2214a 2 = .ok (.invokestatic 48, 3) := by decide +kernel
theorem dJ2_checkIndex_2214a_5 : decode cJ2_checkIndex_2214a 5 = .ok (.invokestatic 414, 3) := by decide +kernel
theorem dJ2_checkIndex_2214a_8 : decode cJ2_checkIndex_2214a 8 = .ok (.return_, 1) := by decide +kernel
theorem dJ3_checkIndex_8e157_0 : decode cJ3_checkIndex_8e157 0 = .ok (.iload_n 0, 1) := by decide +kernel
theorem dJ3_checkIndex_8e157_1 : decode cJ3_checkIndex_8e157 1 = .ok (.ifCond .lt 8, 3) := by decide +kernel
theorem dJ3_checkIndex_8e157_4 : decode cJ3_checkIndex_8e157 4 = .ok (.iload_n 0, 1) := by decide +kernel
theorem dJ3_checkIndex_8e157_5 : decode cJ3_checkIndex_8e157 5 = .ok (.iload_n 1, 1) := by decide +kernel
theorem dJ3_checkIndex_8e157_6 : decode cJ3_checkIndex_8e157 6 = .ok (.if_icmp .lt 10, 3) := by decide +kernel
theorem dJ3_checkIndex_8e157_9 : decode cJ3_checkIndex_8e157 9 = .ok (.aload_n 2, 1) := by decide +kernel
theorem dJ3_checkIndex_8e157_10 : decode cJ3_checkIndex_8e157 10 = .ok (.iload_n 0, 1) := by decide +kernel
theorem dJ3_checkIndex_8e157_11 : decode cJ3_checkIndex_8e157 11 = .ok (.iload_n 1, 1) := by decide +kernel
theorem dJ3_checkIndex_8e157_12 : decode cJ3_checkIndex_8e157 12 = .ok (.invokestatic 95, 3) := by decide +kernel
theorem dJ3_checkIndex_8e157_15 : decode cJ3_checkIndex_8e157 15 = .ok (.athrow, 1) := by decide +kernel
theorem dJ3_checkIndex_8e157_16 : decode cJ3_checkIndex_8e157 16 = .ok (.iload_n 0, 1) := by decide +kernel
theorem dJ3_checkIndex_8e157_17 : decode cJ3_checkIndex_8e157 17 = .ok (.ireturn, 1) := by decide +kernel
end
section
theorem dX7_in_0 : decode cX7_in 0 = .ok (.iload_n 0, 1) := by decide +kernel
theorem dX7_in_1 : decode cX7_in 1 = .ok (.iload_n 1, 1) := by decide +kernel
theorem dX7_in_2 : decode cX7_in 2 = .ok (.if_icmp .lt 12, 3) := by decide +kernel
theorem dX7_in_5 : decode cX7_in 5 = .ok (.iload_n 0, 1) := by decide +kernel
theorem dX7_in_6 : decode cX7_in 6 = .ok (.iload_n 2, 1) := by decide +kernel
theorem dX7_in_7 : decode cX7_in 7 = .ok (.if_icmp .gt 7, 3) := by decide +kernel
theorem dX7_in_10 : decode cX7_in 10 = .ok (.iconst 1, 1) := by decide +kernel
theorem dX7_in_11 : decode cX7_in 11 = .ok (.goto 4, 3) := by decide +kernel
theorem dX7_in_14 : decode cX7_in 14 = .ok (.iconst 0, 1) := by decide +kernel
theorem dX7_in_15 : decode cX7_in 15 = .ok (.ireturn, 1) := by decide +kernel
theorem dX7_has_0 : decode cX7_has 0 = .ok (.iload_n 0, 1) := by decide +kernel
theorem dX7_has_1 : decode cX7_has 1 = .ok (.iload_n 1, 1) := by decide +kernel
theorem dX7_has_2 : decode cX7_has 2 = .ok (.ishr, 1) := by decide +kernel
theorem dX7_has_3 : decode cX7_has 3 = .ok (.iconst 1, 1) := by decide +kernel
theorem dX7_has_4 : decode cX7_has 4 = .ok (.iand, 1) := by decide +kernel
theorem dX7_has_5 : decode cX7_has 5 = .ok (.iconst 1, 1) := by decide +kernel
theorem dX7_has_6 : decode cX7_has 6 = .ok (.if_icmp .ne 7, 3) := by decide +kernel
theorem dX7_has_9 : decode cX7_has 9 = .ok (.iconst 1, 1) := by decide +kernel
theorem dX7_has_10 : decode cX7_has 10 = .ok (.goto 4, 3) := by decide +kernel
theorem dX7_has_13 : decode cX7_has 13 = .ok (.iconst 0, 1) := by decide +kernel
theorem dX7_has_14 : decode cX7_has 14 = .ok (.ireturn, 1) := by decide +kernel
theorem dX7_bits_0 : decode cX7_bits 0 = .ok (.iconst 0, 1) := by decide +kernel
theorem dX7_bits_1 : decode cX7_bits 1 = .ok (.istore_n 1, 1) := by decide +kernel
theorem dX7_bits_2 : decode cX7_bits 2 = .ok (.iconst 0, 1) := by decide +kernel
theorem dX7_bits_3 : decode cX7_bits 3 = .ok (.istore_n 2, 1) := by decide +kernel
theorem dX7_bits_4 : decode cX7_bits 4 = .ok (.iload_n 2, 1) := by decide +kernel
theorem dX7_bits_5 : decode cX7_bits 5 = .ok (.bipush 6, 2) := by decide +kernel
theorem dX7_bits_7 : decode cX7_bits 7 = .ok (.if_icmp .ge 17, 3) := by decide +kernel
theorem dX7_bits_10 : decode cX7_bits 10 = .ok (.iload_n 1, 1) := by decide +kernel
theorem dX7_bits_11 : decode cX7_bits 11 = .ok (.iload_n 0, 1) := by decide +kernel
theorem dX7_bits_12 : decode cX7_bits 12 = .ok (.iload_n 2, 1) := by decide +kernel
theorem dX7_bits_13 : decode cX7_bits 13 = .ok (.ishr, 1) := by decide +kernel
theorem dX7_bits_14 : decode cX7_bits 14 = .ok (.iconst 1, 1) := by decide +kernel
theorem dX7_bits_15 : decode cX7_bits 15 = .ok (.iand, 1) := by decide +kernel
theorem dX7_bits_16 : decode cX7_bits 16 = .ok (.iadd, 1) := by decide +kernel
theorem dX7_bits_17 : decode cX7_bits 17 = .ok (.istore_n 1, 1) := by decide +kernel
theorem dX7_bits_18 : decode cX7_bits 18 = .ok (.iinc 2 1, 3) := by decide +kernel
theorem dX7_bits_21 : decode cX7_bits 21 = .ok (.goto (-17), 3) := by decide +kernel
theorem dX7_bits_24 : decode cX7_bits 24 = .ok (.iload_n 1, 1) := by decide +kernel
theorem dX7_bits_25 : decode cX7_bits 25 = .ok (.ireturn, 1) := by decide +kernel
theorem dX7_lesser_0 : decode cX7_lesser 0 = .ok (.iload_n 0, 1) := by decide +kernel
theorem dX7_lesser_1 : decode cX7_lesser 1 = .ok (.iload_n 1, 1) := by decide +kernel
theorem dX7_lesser_2 : decode cX7_lesser 2 = .ok (.if_icmp .ge 7, 3) := by decide +kernel
theorem dX7_lesser_5 : decode cX7_lesser 5 = .ok (.iload_n 0, 1) := by decide +kernel
theorem dX7_lesser_6 : decode cX7_lesser 6 = .ok (.goto 4, 3) := by decide +kernel
theorem dX7_lesser_9 : decode cX7_lesser 9 = .ok (.iload_n 1, 1) := by decide +kernel
theorem dX7_lesser_10 : decode cX7_lesser 10 = .ok (.ireturn, 1) := by decide +kernel
theorem dX7_init_0 : decode cX7_init 0 = .ok (.aload_n 0, 1) := by decide +kernel
theorem dX7_init_1 : decode cX7_init 1 = .ok (.invokespecial 3, 3) := by decide +kernel
theorem dX7_init_4 : decode cX7_init 4 = .ok (.aload_n 0, 1) := by decide +kernel
theorem dX7_init_5 : decode cX7_init 5 = .ok (.bipush 6, 2) := by decide +kernel
theorem dX7_init_7 : decode cX7_init 7 = .ok (.newarray .int, 2) := by decide +kernel
theorem dX7_init_9 : decode cX7_init 9 = .ok (.putfield 9, 3) := by decide +kernel
theorem dX7_init_12 : decode cX7_init 12 = .ok (.aload_n 0, 1) := by decide +kernel
theorem dX7_init_13 : decode cX7_init 13 = .ok (.bipush 6, 2) := by decide +kernel
theorem dX7_init_15 : decode cX7_init 15 = .ok (.newarray .int, 2) := by decide +kernel
theorem dX7_init_17 : decode cX7_init 17 = .ok (.putfield 13, 3) := by decide +kernel
theorem dX7_init_20 : decode cX7_init 20 = .ok (.aload_n 0, 1) := by decide +kernel
theorem dX7_init_21 : decode cX7_init 21 = .ok (.bipush 6, 2) := by decide +kernel
theorem dX7_init_23 : decode cX7_init 23 = .ok (.newarray .int, 2) := by decide +kernel
theorem dX7_init_25 : decode cX7_init 25 = .ok (.putfield 16, 3) := by decide +kernel
theorem dX7_init_28 : decode cX7_init 28 = .ok (.aload_n 0, 1) := by decide +kernel
theorem dX7_init_29 : decode cX7_init 29 = .ok (.bipush 6, 2) := by decide +kernel
theorem dX7_init_31 : decode cX7_init 31 = .ok (.newarray .int, 2) := by decide +kernel
theorem dX7_init_33 : decode cX7_init 33 = .ok (.putfield 19, 3) := by decide +kernel
theorem dX7_init_36 : decode cX7_init 36 = .ok (.aload_n 0, 1) := by decide +kernel
theorem dX7_init_37 : decode cX7_init 37 = .ok (.bipush 6, 2) := by decide +kernel
theorem dX7_init_39 : decode cX7_init 39 = .ok (.newarray .int, 2) := by decide +kernel
theorem dX7_init_41 : decode cX7_init 41 = .ok (.putfield 22, 3) := by decide +kernel
theorem dX7_init_44 : decode cX7_init 44 = .ok (.aload_n 0, 1) := by decide +kernel
theorem dX7_init_45 : decode cX7_init 45 = .ok (.bipush 6, 2) := by decide +kernel
theorem dX7_init_47 : decode cX7_init 47 = .ok (.newarray .int, 2) := by decide +kernel
theorem dX7_init_49 : decode cX7_init 49 = .ok (.putfield 25, 3) := by decide +kernel
theorem dX7_init_52 : decode cX7_init 52 = .ok (.aload_n 0, 1) := by decide +kernel
theorem dX7_init_53 : decode cX7_init 53 = .ok (.bipush 6, 2) := by decide +kernel
theorem dX7_init_55 : decode cX7_init 55 = .ok (.newarray .int, 2) := by decide +kernel
theorem dX7_init_57 : decode cX7_init 57 = .ok (.putfield 28, 3) := by decide +kernel
theorem dX7_init_60 : decode cX7_init 60 = .ok (.aload_n 0, 1) := by decide +kernel
theorem dX7_init_61 : decode cX7_init 61 = .ok (.bipush 6, 2) := by decide +kernel
theorem dX7_init_63 : decode cX7_init 63 = .ok (.newarray .int, 2) := by decide +kernel
theorem dX7_init_65 : decode cX7_init 65 = .ok (.putfield 31, 3) := by decide +kernel
theorem dX7_init_68 : decode cX7_init 68 = .ok (.aload_n 0, 1) := by decide +kernel
theorem dX7_init_69 : decode cX7_init 69 = .ok (.bipush 6, 2) := by decide +kernel
theorem dX7_init_71 : decode cX7_init 71 = .ok (.newarray .int, 2) := by decide +kernel
theorem dX7_init_73 : decode cX7_init 73 = .ok (.putfield 34, 3) := by decide +kernel
theorem dX7_init_76 : decode cX7_init 76 = .ok (.aload_n 0, 1) := by decide +kernel
theorem dX7_init_77 : decode cX7_init 77 = .ok (.bipush 6, 2) := by decide +kernel
theorem dX7_init_79 : decode cX7_init 79 = .ok (.newarray .int, 2) := by decide +kernel
theorem dX7_init_81 : decode cX7_init 81 = .ok (.putfield 37, 3) := by decide +kernel
theorem dX7_init_84 : decode cX7_init 84 = .ok (.aload_n 0, 1) := by decide +kernel
theorem dX7_init_85 : decode cX7_init 85 = .ok (.bipush 6, 2) := by decide +kernel
theorem dX7_init_87 : decode cX7_init 87 = .ok (.newarray .int, 2) := by decide +kernel
theorem dX7_init_89 : decode cX7_init 89 = .ok (.putfield 40, 3) := by decide +kernel
theorem dX7_init_92 : decode cX7_init 92 = .ok (.aload_n 0, 1) := by decide +kernel
theorem dX7_init_93 : decode cX7_init 93 = .ok (.bipush 6, 2) := by decide +kernel
theorem dX7_init_95 : decode cX7_init 95 = .ok (.newarray .int, 2) := by decide +kernel
theorem dX7_init_97 : decode cX7_init 97 = .ok (.putfield 43, 3) := by decide +kernel
theorem dX7_init_100 : decode cX7_init 100 = .ok (.aload_n 0, 1) := by decide +kernel
theorem dX7_init_101 : decode cX7_init 101 = .ok (.bipush 6, 2) := by decide +kernel
theorem dX7_init_103 : decode cX7_init 103 = .ok (.newarray .int, 2) := by decide +kernel
theorem dX7_init_105 : decode cX7_init 105 = .ok (.putfield 46, 3) := by decide +kernel
theorem dX7_init_108 : decode cX7_init 108 = .ok (.aload_n 0, 1) := by decide +kernel
theorem dX7_init_109 : decode cX7_init 109 = .ok (.bipush 6, 2) := by decide +kernel
theorem dX7_init_111 : decode cX7_init 111 = .ok (.newarray .int, 2) := by decide +kernel
theorem dX7_init_113 : decode cX7_init 113 = .ok (.putfield 49, 3) := by decide +kernel
theorem dX7_init_116 : decode cX7_init 116 = .ok (.aload_n 0, 1) := by decide +kernel
theorem dX7_init_117 : decode cX7_init 117 = .ok (.bipush 6, 2) := by decide +kernel
theorem dX7_init_119 : decode cX7_init 119 = .ok (.newarray .int, 2) := by decide +kernel
theorem dX7_init_121 : decode cX7_init 121 = .ok (.putfield 52, 3) := by decide +kernel
theorem dX7_init_124 : decode cX7_init 124 = .ok (.aload_n 0, 1) := by decide +kernel
theorem dX7_init_125 : decode cX7_init 125 = .ok (.sipush 200, 3) := by decide +kernel
theorem dX7_init_128 : decode cX7_init 128 = .ok (.newarray .int, 2) := by decide +kernel
theorem dX7_init_130 : decode cX7_init 130 = .ok (.putfield 55, 3) := by decide +kernel
theorem dX7_init_133 : decode cX7_init 133 = .ok (.aload_n 0, 1) := by decide +kernel
theorem dX7_init_134 : decode cX7_init 134 = .ok (.bipush 24, 2) := by decide +kernel
theorem dX7_init_136 : decode cX7_init 136 = .ok (.newarray .int, 2) := by decide +kernel
theorem dX7_init_138 : decode cX7_init 138 = .ok (.putfield 58, 3) := by decide +kernel
theorem dX7_init_141 : decode cX7_init 141 = .ok (.aload_n 0, 1) := by decide +kernel
theorem dX7_init_142 : decode cX7_init 142 = .ok (.sipush 416, 3) := by decide +kernel
theorem dX7_init_145 : decode cX7_init 145 = .ok (.newarray .int, 2) := by decide +kernel
theorem dX7_init_147 : decode cX7_init 147 = .ok (.putfield 61, 3) := by decide +kernel
theorem dX7_init_150 : decode cX7_init 150 = .ok (.aload_n 0, 1) := by decide +kernel
theorem dX7_init_151 : decode cX7_init 151 = .ok (.bipush 52, 2) := by decide +kernel
theorem dX7_init_153 : decode cX7_init 153 = .ok (.newarray .int, 2) := by decide +kernel
theorem dX7_init_155 : decode cX7_init 155 = .ok (.putfield 64, 3) := by decide +kernel
theorem dX7_init_158 : decode cX7_init 158 = .ok (.aload_n 0, 1) := by decide +kernel
theorem dX7_init_159 : decode cX7_init 159 = .ok (.bipush 6, 2) := by decide +kernel
theorem dX7_init_161 : decode cX7_init 161 = .ok (.newarray .int, 2) := by decide +kernel
theorem dX7_init_163 : decode cX7_init 163 = .ok (.putfield 67, 3) := by decide +kernel
theorem dX7_init_166 : decode cX7_init 166 = .ok (.aload_n 0, 1) := by decide +kernel
theorem dX7_init_167 : decode cX7_init 167 = .ok (.bipush 6, 2) := by decide +kernel
theorem dX7_init_169 : decode cX7_init 169 = .ok (.newarray .int, 2) := by decide +kernel
theorem dX7_init_171 : decode cX7_init 171 = .ok (.putfield 70, 3) := by decide +kernel
theorem dX7_init_174 : decode cX7_init 174 = .ok (.aload_n 0, 1) := by decide +kernel
theorem dX7_init_175 : decode cX7_init 175 = .ok (.bipush 104, 2) := by decide +kernel
theorem dX7_init_177 : decode cX7_init 177 = .ok (.newarray .int, 2) := by decide +kernel
theorem dX7_init_179 : decode cX7_init 179 = .ok (.putfield 73, 3) := by decide +kernel
theorem dX7_init_182 : decode cX7_init 182 = .ok (.aload_n 0, 1) := by decide +kernel
theorem dX7_init_183 : decode cX7_init 183 = .ok (.iconst 0, 1) := by decide +kernel
theorem dX7_init_184 : decode cX7_init 184 = .ok (.iconst 5, 1) := by decide +kernel
theorem dX7_init_185 : decode cX7_init 185 = .ok (.bipush 6, 2) := by decide +kernel
theorem dX7_init_187 : decode cX7_init 187 = .ok (.iconst 4, 1) := by decide +kernel
theorem dX7_init_188 : decode cX7_init 188 = .ok (.invokevirtual 76, 3) := by decide +kernel
theorem dX7_init_191 : decode cX7_init 191 = .ok (.aload_n 0, 1) := by decide +kernel
theorem dX7_init_192 : decode cX7_init 192 = .ok (.iconst 1, 1) := by decide +kernel
theorem dX7_init_193 : decode cX7_init 193 = .ok (.bipush 12, 2) := by decide +kernel
theorem dX7_init_195 : decode cX7_init 195 = .ok (.iconst 5, 1) := by decide +kernel
theorem dX7_init_196 : decode cX7_init 196 = .ok (.bipush 7, 2) := by decide +kernel
theorem dX7_init_198 : decode cX7_init 198 = .ok (.invokevirtual 76, 3) := by decide +kernel
theorem dX7_init_201 : decode cX7_init 201 = .ok (.aload_n 0, 1) := by decide +kernel
theorem dX7_init_202 : decode cX7_init 202 = .ok (.iconst 2, 1) := by decide +kernel
theorem dX7_init_203 : decode cX7_init 203 = .ok (.bipush 33, 2) := by decide +kernel
theorem dX7_init_205 : decode cX7_init 205 = .ok (.bipush 9, 2) := by decide +kernel
theorem dX7_init_207 : decode cX7_init 207 = .ok (.iconst 3, 1) := by decide +kernel
theorem dX7_init_208 : decode cX7_init 208 = .ok (.invokevirtual 76, 3) := by decide +kernel
theorem dX7_init_211 : decode cX7_init 211 = .ok (.aload_n 0, 1) := by decide +kernel
theorem dX7_init_212 : decode cX7_init 212 = .ok (.iconst 3, 1) := by decide +kernel
theorem dX7_init_213 : decode cX7_init 213 = .ok (.bipush 20, 2) := by decide +kernel
theorem dX7_init_215 : decode cX7_init 215 = .ok (.bipush 8, 2) := by decide +kernel
theorem dX7_init_217 : decode cX7_init 217 = .ok (.bipush 9, 2) := by decide +kernel
theorem dX7_init_219 : decode cX7_init 219 = .ok (.invokevirtual 76, 3) := by decide +kernel
theorem dX7_init_222 : decode cX7_init 222 = .ok (.aload_n 0, 1) := by decide +kernel
theorem dX7_init_223 : decode cX7_init 223 = .ok (.iconst 0, 1) := by decide +kernel
theorem dX7_init_224 : decode cX7_init 224 = .ok (.iconst 0, 1) := by decide +kernel
theorem dX7_init_225 : decode cX7_init 225 = .ok (.iconst 2, 1) := by decide +kernel
theorem dX7_init_226 : decode cX7_init 226 = .ok (.iconst 2, 1) := by decide +kernel
theorem dX7_init_227 : decode cX7_init 227 = .ok (.invokevirtual 76, 3) := by decide +kernel
theorem dX7_init_230 : decode cX7_init 230 = .ok (.aload_n 0, 1) := by decide +kernel
theorem dX7_init_231 : decode cX7_init 231 = .ok (.iconst 4, 1) := by decide +kernel
theorem dX7_init_232 : decode cX7_init 232 = .ok (.invokevirtual 80, 3) := by decide +kernel
theorem dX7_init_235 : decode cX7_init 235 = .ok (.return_, 1) := by decide +kernel
theorem dX7_firstOne_0 : decode cX7_firstOne 0 = .ok (.aload_n 0, 1) := by decide +kernel
theorem dX7_firstOne_1 : decode cX7_firstOne 1 = .ok (.getfield 9, 3) := by decide +kernel
theorem dX7_firstOne_4 : decode cX7_firstOne 4 = .ok (.aload_n 0, 1) := by decide +kernel
theorem dX7_firstOne_5 : decode cX7_firstOne 5 = .ok (.getfield 84, 3) := by decide +kernel
theorem dX7_firstOne_8 : decode cX7_firstOne 8 = .ok (.iload_n 1, 1) := by decide +kernel
theorem dX7_firstOne_9 : decode cX7_firstOne 9 = .ok (.iastore, 1) := by decide +kernel
theorem dX7_firstOne_10 : decode cX7_firstOne 10 = .ok (.aload_n 0, 1) := by decide +kernel
theorem dX7_firstOne_11 : decode cX7_firstOne 11 = .ok (.getfield 13, 3) := by decide +kernel
theorem dX7_firstOne_14 : decode cX7_firstOne 14 = .ok (.aload_n 0, 1) := by decide +kernel
theorem dX7_firstOne_15 : decode cX7_firstOne 15 = .ok (.getfield 84, 3) := by decide +kernel
theorem dX7_firstOne_18 : decode cX7_firstOne 18 = .ok (.iload_n 2, 1) := by decide +kernel
theorem dX7_firstOne_19 : decode cX7_firstOne 19 = .ok (.iastore, 1) := by decide +kernel
theorem dX7_firstOne_20 : decode cX7_firstOne 20 = .ok (.aload_n 0, 1) := by decide +kernel
theorem dX7_firstOne_21 : decode cX7_firstOne 21 = .ok (.getfield 16, 3) := by decide +kernel
theorem dX7_firstOne_24 : decode cX7_firstOne 24 = .ok (.aload_n 0, 1) := by decide +kernel
theorem dX7_firstOne_25 : decode cX7_firstOne 25 = .ok (.getfield 84, 3) := by decide +kernel
theorem dX7_firstOne_28 : decode cX7_firstOne 28 = .ok (.iload_n 3, 1) := by decide +kernel
theorem dX7_firstOne_29 : decode cX7_firstOne 29 = .ok (.iastore, 1) := by decide +kernel
theorem dX7_firstOne_30 : decode cX7_firstOne 30 = .ok (.aload_n 0, 1) := by decide +kernel
theorem dX7_firstOne_31 : decode cX7_firstOne 31 = .ok (.getfield 19, 3) := by decide +kernel
theorem dX7_firstOne_34 : decode cX7_firstOne 34 = .ok (.aload_n 0, 1) := by decide +kernel
theorem dX7_firstOne_35 : decode cX7_firstOne 35 = .ok (.getfield 84, 3) := by decide +kernel
theorem dX7_firstOne_38 : decode cX7_firstOne 38 = .ok (.iload 4, 2) := by decide +kernel
theorem dX7_firstOne_40 : decode cX7_firstOne 40 = .ok (.iastore, 1) := by decide +kernel
theorem dX7_firstOne_41 : decode cX7_firstOne 41 = .ok (.aload_n 0, 1) := by decide +kernel
theorem dX7_firstOne_42 : decode cX7_firstOne 42 = .ok (.dup, 1) := by decide +kernel
theorem dX7_firstOne_43 : decode cX7_firstOne 43 = .ok (.getfield 84, 3) := by decide +kernel
theorem dX7_firstOne_46 : decode cX7_firstOne 46 = .ok (.iconst 1, 1) := by decide +kernel
theorem dX7_firstOne_47 : decode cX7_firstOne 47 = .ok (.iadd, 1) := by decide +kernel
theorem dX7_firstOne_48 : decode cX7_firstOne 48 = .ok (.putfield 84, 3) := by decide +kernel
theorem dX7_firstOne_51 : decode cX7_firstOne 51 = .ok (.return_, 1) := by decide +kernel
theorem dX7_begin_0 : decode cX7_begin 0 = .ok (.aload_n 0, 1) := by decide +kernel
theorem dX7_begin_1 : decode cX7_begin 1 = .ok (.iconst 0, 1) := by decide +kernel
theorem dX7_begin_2 : decode cX7_begin 2 = .ok (.putfield 88, 3) := by decide +kernel
theorem dX7_begin_5 : decode cX7_begin 5 = .ok (.aload_n 0, 1) := by decide +kernel
theorem dX7_begin_6 : decode cX7_begin 6 = .ok (.iload_n 1, 1) := by decide +kernel
theorem dX7_begin_7 : decode cX7_begin 7 = .ok (.putfield 91, 3) := by decide +kernel
theorem dX7_begin_10 : decode cX7_begin 10 = .ok (.aload_n 0, 1) := by decide +kernel
theorem dX7_begin_11 : decode cX7_begin 11 = .ok (.iconst 0, 1) := by decide +kernel
theorem dX7_begin_12 : decode cX7_begin 12 = .ok (.putfield 94, 3) := by decide +kernel
theorem dX7_begin_15 : decode cX7_begin 15 = .ok (.aload_n 0, 1) := by decide +kernel
theorem dX7_begin_16 : decode cX7_begin 16 = .ok (.iconst 0, 1) := by decide +kernel
theorem dX7_begin_17 : decode cX7_begin 17 = .ok (.putfield 97, 3) := by decide +kernel
theorem dX7_begin_20 : decode cX7_begin 20 = .ok (.iconst 0, 1) := by decide +kernel
theorem dX7_begin_21 : decode cX7_begin 21 = .ok (.istore_n 2, 1) := by decide +kernel
theorem dX7_begin_22 : decode cX7_begin 22 = .ok (.iload_n 2, 1) := by decide +kernel
theorem dX7_begin_23 : decode cX7_begin 23 = .ok (.bipush 6, 2) := by decide +kernel
theorem dX7_begin_25 : decode cX7_begin 25 = .ok (.if_icmp .ge 67, 3) := by decide +kernel
theorem dX7_begin_28 : decode cX7_begin 28 = .ok (.aload_n 0, 1) := by decide +kernel
theorem dX7_begin_29 : decode cX7_begin 29 = .ok (.getfield 22, 3) := by decide +kernel
theorem dX7_begin_32 : decode cX7_begin 32 = .ok (.iload_n 2, 1) := by decide +kernel
theorem dX7_begin_33 : decode cX7_begin 33 = .ok (.iconst 0, 1) := by decide +kernel
theorem dX7_begin_34 : decode cX7_begin 34 = .ok (.iastore, 1) := by decide +kernel
theorem dX7_begin_35 : decode cX7_begin 35 = .ok (.aload_n 0, 1) := by decide +kernel
theorem dX7_begin_36 : decode cX7_begin 36 = .ok (.getfield 25, 3) := by decide +kernel
theorem dX7_begin_39 : decode cX7_begin 39 = .ok (.iload_n 2, 1) := by decide +kernel
theorem dX7_begin_40 : decode cX7_begin 40 = .ok (.bipush (-4), 2) := by decide +kernel
theorem dX7_begin_42 : decode cX7_begin 42 = .ok (.iastore, 1) := by decide +kernel
theorem dX7_begin_43 : decode cX7_begin 43 = .ok (.aload_n 0, 1) := by decide +kernel
theorem dX7_begin_44 : decode cX7_begin 44 = .ok (.getfield 28, 3) := by decide +kernel
theorem dX7_begin_47 : decode cX7_begin 47 = .ok (.iload_n 2, 1) := by decide +kernel
theorem dX7_begin_48 : decode cX7_begin 48 = .ok (.iconst 0, 1) := by decide +kernel
theorem dX7_begin_49 : decode cX7_begin 49 = .ok (.iastore, 1) := by decide +kernel
theorem dX7_begin_50 : decode cX7_begin 50 = .ok (.aload_n 0, 1) := by decide +kernel
theorem dX7_begin_51 : decode cX7_begin 51 = .ok (.getfield 31, 3) := by decide +kernel
theorem dX7_begin_54 : decode cX7_begin 54 = .ok (.iload_n 2, 1) := by decide +kernel
theorem dX7_begin_55 : decode cX7_begin 55 = .ok (.bipush (-4), 2) := by decide +kernel
theorem dX7_begin_57 : decode cX7_begin 57 = .ok (.iastore, 1) := by decide +kernel
theorem dX7_begin_58 : decode cX7_begin 58 = .ok (.aload_n 0, 1) := by decide +kernel
theorem dX7_begin_59 : decode cX7_begin 59 = .ok (.getfield 34, 3) := by decide +kernel
theorem dX7_begin_62 : decode cX7_begin 62 = .ok (.iload_n 2, 1) := by decide +kernel
theorem dX7_begin_63 : decode cX7_begin 63 = .ok (.iconst 0, 1) := by decide +kernel
theorem dX7_begin_64 : decode cX7_begin 64 = .ok (.iastore, 1) := by decide +kernel
theorem dX7_begin_65 : decode cX7_begin 65 = .ok (.aload_n 0, 1) := by decide +kernel
theorem dX7_begin_66 : decode cX7_begin 66 = .ok (.getfield 37, 3) := by decide +kernel
theorem dX7_begin_69 : decode cX7_begin 69 = .ok (.iload_n 2, 1) := by decide +kernel
theorem dX7_begin_70 : decode cX7_begin 70 = .ok (.iconst 0, 1) := by decide +kernel
theorem dX7_begin_71 : decode cX7_begin 71 = .ok (.iastore, 1) := by decide +kernel
theorem dX7_begin_72 : decode cX7_begin 72 = .ok (.aload_n 0, 1) := by decide +kernel
theorem dX7_begin_73 : decode cX7_begin 73 = .ok (.getfield 40, 3) := by decide +kernel
theorem dX7_begin_76 : decode cX7_begin 76 = .ok (.iload_n 2, 1) := by decide +kernel
theorem dX7_begin_77 : decode cX7_begin 77 = .ok (.iconst 0, 1) := by decide +kernel
theorem dX7_begin_78 : decode cX7_begin 78 = .ok (.iastore, 1) := by decide +kernel
theorem dX7_begin_79 : decode cX7_begin 79 = .ok (.aload_n 0, 1) := by decide +kernel
theorem dX7_begin_80 : decode cX7_begin 80 = .ok (.getfield 43, 3) := by decide +kernel
theorem dX7_begin_83 : decode cX7_begin 83 = .ok (.iload_n 2, 1) := by decide +kernel
theorem dX7_begin_84 : decode cX7_begin 84 = .ok (.iconst 0, 1) := by decide +kernel
theorem dX7_begin_85 : decode cX7_begin 85 = .ok (.iastore, 1) := by decide +kernel
theorem dX7_begin_86 : decode cX7_begin 86 = .ok (.iinc 2 1, 3) := by decide +kernel
theorem dX7_begin_89 : decode cX7_begin 89 = .ok (.goto (-67), 3) := by decide +kernel
theorem dX7_begin_92 : decode cX7_begin 92 = .ok (.return_, 1) := by decide +kernel
theorem dX7_isOne_0 : decode cX7_isOne 0 = .ok (.iload_n 1, 1) := by decide +kernel
theorem dX7_isOne_1 : decode cX7_isOne 1 = .ok (.iconst 0, 1) := by decide +kernel
theorem dX7_isOne_2 : decode cX7_isOne 2 = .ok (.aload_n 0, 1) := by decide +kernel
theorem dX7_isOne_3 : decode cX7_isOne 3 = .ok (.getfield 84, 3) := by decide +kernel
theorem dX7_isOne_6 : decode cX7_isOne 6 = .ok (.iconst 1, 1) := by decide +kernel
theorem dX7_isOne_7 : decode cX7_isOne 7 = .ok (.isub, 1) := by decide +kernel
theorem dX7_isOne_8 : decode cX7_isOne 8 = .ok (.invokestatic 100, 3) := by decide +kernel
theorem dX7_isOne_11 : decode cX7_isOne 11 = .ok (.ireturn, 1) := by decide +kernel
theorem dX7_write_0 : decode cX7_write 0 = .ok (.iload_n 1, 1) := by decide +kernel
theorem dX7_write_1 : decode cX7_write 1 = .ok (.bipush 32, 2) := by decide +kernel
theorem dX7_write_3 : decode cX7_write 3 = .ok (.bipush 126, 2) := by decide +kernel
theorem dX7_write_5 : decode cX7_write 5 = .ok (.invokestatic 100, 3) := by decide +kernel
theorem dX7_write_8 : decode cX7_write 8 = .ok (.ifCond .ne 5, 3) := by decide +kernel
theorem dX7_write_11 : decode cX7_write 11 = .ok (.iconst (-1), 1) := by decide +kernel
theorem dX7_write_12 : decode cX7_write 12 = .ok (.ireturn, 1) := by decide +kernel
theorem dX7_write_13 : decode cX7_write 13 = .ok (.aload_n 0, 1) := by decide +kernel
theorem dX7_write_14 : decode cX7_write 14 = .ok (.getfield 104, 3) := by decide +kernel
theorem dX7_write_17 : decode cX7_write 17 = .ok (.sipush 200, 3) := by decide +kernel
theorem dX7_write_20 : decode cX7_write 20 = .ok (.if_icmp .ne 6, 3) := by decide +kernel
theorem dX7_write_23 : decode cX7_write 23 = .ok (.bipush (-3), 2) := by decide +kernel
theorem dX7_write_25 : decode cX7_write 25 = .ok (.ireturn, 1) := by decide +kernel
theorem dX7_write_26 : decode cX7_write 26 = .ok (.aload_n 0, 1) := by decide +kernel
theorem dX7_write_27 : decode cX7_write 27 = .ok (.getfield 55, 3) := by decide +kernel
theorem dX7_write_30 : decode cX7_write 30 = .ok (.aload_n 0, 1) := by decide +kernel
theorem dX7_write_31 : decode cX7_write 31 = .ok (.getfield 104, 3) := by decide +kernel
theorem dX7_write_34 : decode cX7_write 34 = .ok (.iload_n 1, 1) := by decide +kernel
theorem dX7_write_35 : decode cX7_write 35 = .ok (.iastore, 1) := by decide +kernel
theorem dX7_write_36 : decode cX7_write 36 = .ok (.aload_n 0, 1) := by decide +kernel
theorem dX7_write_37 : decode cX7_write 37 = .ok (.dup, 1) := by decide +kernel
theorem dX7_write_38 : decode cX7_write 38 = .ok (.getfield 104, 3) := by decide +kernel
theorem dX7_write_41 : decode cX7_write 41 = .ok (.iconst 1, 1) := by decide +kernel
theorem dX7_write_42 : decode cX7_write 42 = .ok (.iadd, 1) := by decide +kernel
theorem dX7_write_43 : decode cX7_write 43 = .ok (.putfield 104, 3) := by decide +kernel
theorem dX7_write_46 : decode cX7_write 46 = .ok (.aload_n 0, 1) := by decide +kernel
theorem dX7_write_47 : decode cX7_write 47 = .ok (.getfield 104, 3) := by decide +kernel
theorem dX7_write_50 : decode cX7_write 50 = .ok (.ireturn, 1) := by decide +kernel
theorem dX7_wipe_0 : decode cX7_wipe 0 = .ok (.aload_n 0, 1) := by decide +kernel
theorem dX7_wipe_1 : decode cX7_wipe 1 = .ok (.getfield 104, 3) := by decide +kernel
theorem dX7_wipe_4 : decode cX7_wipe 4 = .ok (.istore_n 1, 1) := by decide +kernel
theorem dX7_wipe_5 : decode cX7_wipe 5 = .ok (.aload_n 0, 1) := by decide +kernel
theorem dX7_wipe_6 : decode cX7_wipe 6 = .ok (.iconst 0, 1) := by decide +kernel
theorem dX7_wipe_7 : decode cX7_wipe 7 = .ok (.putfield 104, 3) := by decide +kernel
theorem dX7_wipe_10 : decode cX7_wipe 10 = .ok (.iload_n 1, 1) := by decide +kernel
theorem dX7_wipe_11 : decode cX7_wipe 11 = .ok (.ireturn, 1) := by decide +kernel
theorem dX7_here_0 : decode cX7_here 0 = .ok (.aload_n 0, 1) := by decide +kernel
theorem dX7_here_1 : decode cX7_here 1 = .ok (.getfield 107, 3) := by decide +kernel
theorem dX7_here_4 : decode cX7_here 4 = .ok (.aload_n 0, 1) := by decide +kernel
theorem dX7_here_5 : decode cX7_here 5 = .ok (.getfield 104, 3) := by decide +kernel
theorem dX7_here_8 : decode cX7_here 8 = .ok (.if_icmp .ge 15, 3) := by decide +kernel
theorem dX7_here_11 : decode cX7_here 11 = .ok (.aload_n 0, 1) := by decide +kernel
theorem dX7_here_12 : decode cX7_here 12 = .ok (.getfield 55, 3) := by decide +kernel
theorem dX7_here_15 : decode cX7_here 15 = .ok (.aload_n 0, 1) := by decide +kernel
theorem dX7_here_16 : decode cX7_here 16 = .ok (.getfield 107, 3) := by decide +kernel
theorem dX7_here_19 : decode cX7_here 19 = .ok (.iaload, 1) := by decide +kernel
theorem dX7_here_20 : decode cX7_here 20 = .ok (.goto 4, 3) := by decide +kernel
theorem dX7_here_23 : decode cX7_here 23 = .ok (.iconst 0, 1) := by decide +kernel
theorem dX7_here_24 : decode cX7_here 24 = .ok (.ireturn, 1) := by decide +kernel
theorem dX7_isFigure_0 : decode cX7_isFigure 0 = .ok (.aload_n 0, 1) := by decide +kernel
theorem dX7_isFigure_1 : decode cX7_isFigure 1 = .ok (.invokevirtual 110, 3) := by decide +kernel
theorem dX7_isFigure_4 : decode cX7_isFigure 4 = .ok (.bipush 48, 2) := by decide +kernel
theorem dX7_isFigure_6 : decode cX7_isFigure 6 = .ok (.bipush 57, 2) := by decide +kernel
theorem dX7_isFigure_8 : decode cX7_isFigure 8 = .ok (.invokestatic 100, 3) := by decide +kernel
theorem dX7_isFigure_11 : decode cX7_isFigure 11 = .ok (.ireturn, 1) := by decide +kernel
theorem dX7_number_0 : decode cX7_number 0 = .ok (.aload_n 0, 1) := by decide +kernel
theorem dX7_number_1 : decode cX7_number 1 = .ok (.invokevirtual 114, 3) := by decide +kernel
theorem dX7_number_4 : decode cX7_number 4 = .ok (.ifCond .ne 5, 3) := by decide +kernel
theorem dX7_number_7 : decode cX7_number 7 = .ok (.iconst 0, 1) := by decide +kernel
theorem dX7_number_8 : decode cX7_number 8 = .ok (.ireturn, 1) := by decide +kernel
theorem dX7_number_9 : decode cX7_number 9 = .ok (.aload_n 0, 1) := by decide +kernel
theorem dX7_number_10 : decode cX7_number 10 = .ok (.invokevirtual 110, 3) := by decide +kernel
theorem dX7_number_13 : decode cX7_number 13 = .ok (.bipush 48, 2) := by decide +kernel
theorem dX7_number_15 : decode cX7_number 15 = .ok (.isub, 1) := by decide +kernel
theorem dX7_number_16 : decode cX7_number 16 = .ok (.istore 4, 2) := by decide +kernel
theorem dX7_number_18 : decode cX7_number 18 = .ok (.aload_n 0, 1) := by decide +kernel
theorem dX7_number_19 : decode cX7_number 19 = .ok (.dup, 1) := by decide +kernel
theorem dX7_number_20 : decode cX7_number 20 = .ok (.getfield 107, 3) := by decide +kernel
theorem dX7_number_23 : decode cX7_number 23 = .ok (.iconst 1, 1) := by decide +kernel
theorem dX7_number_24 : decode cX7_number 24 = .ok (.iadd, 1) := by decide +kernel
theorem dX7_number_25 : decode cX7_number 25 = .ok (.putfield 107, 3) := by decide +kernel
theorem dX7_number_28 : decode cX7_number 28 = .ok (.aload_n 0, 1) := by decide +kernel
theorem dX7_number_29 : decode cX7_number 29 = .ok (.invokevirtual 114, 3) := by decide +kernel
theorem dX7_number_32 : decode cX7_number 32 = .ok (.ifCond .eq 28, 3) := by decide +kernel
theorem dX7_number_35 : decode cX7_number 35 = .ok (.bipush 10, 2) := by decide +kernel
theorem dX7_number_37 : decode cX7_number 37 = .ok (.iload 4, 2) := by decide +kernel
theorem dX7_number_39 : decode cX7_number 39 = .ok (.imul, 1) := by decide +kernel
theorem dX7_number_40 : decode cX7_number 40 = .ok (.aload_n 0, 1) := by decide +kernel
theorem dX7_number_41 : decode cX7_number 41 = .ok (.invokevirtual 110, 3) := by decide +kernel
theorem dX7_number_44 : decode cX7_number 44 = .ok (.iadd, 1) := by decide +kernel
theorem dX7_number_45 : decode cX7_number 45 = .ok (.bipush 48, 2) := by decide +kernel
theorem dX7_number_47 : decode cX7_number 47 = .ok (.isub, 1) := by decide +kernel
theorem dX7_number_48 : decode cX7_number 48 = .ok (.istore 4, 2) := by decide +kernel
theorem dX7_number_50 : decode cX7_number 50 = .ok (.aload_n 0, 1) := by decide +kernel
theorem dX7_number_51 : decode cX7_number 51 = .ok (.dup, 1) := by decide +kernel
theorem dX7_number_52 : decode cX7_number 52 = .ok (.getfield 107, 3) := by decide +kernel
theorem dX7_number_55 : decode cX7_number 55 = .ok (.iconst 1, 1) := by decide +kernel
theorem dX7_number_56 : decode cX7_number 56 = .ok (.iadd, 1) := by decide +kernel
theorem dX7_number_57 : decode cX7_number 57 = .ok (.putfield 107, 3) := by decide +kernel
theorem dX7_number_60 : decode cX7_number 60 = .ok (.aload_n 0, 1) := by decide +kernel
theorem dX7_number_61 : decode cX7_number 61 = .ok (.iload 4, 2) := by decide +kernel
theorem dX7_number_63 : decode cX7_number 63 = .ok (.putfield 118, 3) := by decide +kernel
theorem dX7_number_66 : decode cX7_number 66 = .ok (.aload_n 0, 1) := by decide +kernel
theorem dX7_number_67 : decode cX7_number 67 = .ok (.invokevirtual 110, 3) := by decide +kernel
theorem dX7_number_70 : decode cX7_number 70 = .ok (.iload_n 3, 1) := by decide +kernel
theorem dX7_number_71 : decode cX7_number 71 = .ok (.if_icmp .ne 13, 3) := by decide +kernel
theorem dX7_number_74 : decode cX7_number 74 = .ok (.iload 4, 2) := by decide +kernel
theorem dX7_number_76 : decode cX7_number 76 = .ok (.iload_n 1, 1) := by decide +kernel
theorem dX7_number_77 : decode cX7_number 77 = .ok (.iload_n 2, 1) := by decide +kernel
theorem dX7_number_78 : decode cX7_number 78 = .ok (.invokestatic 100, 3) := by decide +kernel
theorem dX7_number_81 : decode cX7_number 81 = .ok (.ifCond .ne 5, 3) := by decide +kernel
theorem dX7_number_84 : decode cX7_number 84 = .ok (.iconst 0, 1) := by decide +kernel
theorem dX7_number_85 : decode cX7_number 85 = .ok (.ireturn, 1) := by decide +kernel
theorem dX7_number_86 : decode cX7_number 86 = .ok (.aload_n 0, 1) := by decide +kernel
theorem dX7_number_87 : decode cX7_number 87 = .ok (.dup, 1) := by decide +kernel
theorem dX7_number_88 : decode cX7_number 88 = .ok (.getfield 107, 3) := by decide +kernel
theorem dX7_number_91 : decode cX7_number 91 = .ok (.iconst 1, 1) := by decide +kernel
theorem dX7_number_92 : decode cX7_number 92 = .ok (.iadd, 1) := by decide +kernel
theorem dX7_number_93 : decode cX7_number 93 = .ok (.putfield 107, 3) := by decide +kernel
theorem dX7_number_96 : decode cX7_number 96 = .ok (.iconst 1, 1) := by decide +kernel
theorem dX7_number_97 : decode cX7_number 97 = .ok (.ireturn, 1) := by decide +kernel
theorem dX7_readsOne_0 : decode cX7_readsOne 0 = .ok (.aload_n 0, 1) := by decide +kernel
theorem dX7_readsOne_1 : decode cX7_readsOne 1 = .ok (.getfield 121, 3) := by decide +kernel
theorem dX7_readsOne_4 : decode cX7_readsOne 4 = .ok (.bipush 6, 2) := by decide +kernel
theorem dX7_readsOne_6 : decode cX7_readsOne 6 = .ok (.if_icmp .eq 14, 3) := by decide +kernel
theorem dX7_readsOne_9 : decode cX7_readsOne 9 = .ok (.aload_n 0, 1) := by decide +kernel
theorem dX7_readsOne_10 : decode cX7_readsOne 10 = .ok (.iconst 0, 1) := by decide +kernel
theorem dX7_readsOne_11 : decode cX7_readsOne 11 = .ok (.iconst 3, 1) := by decide +kernel
theorem dX7_readsOne_12 : decode cX7_readsOne 12 = .ok (.bipush 44, 2) := by decide +kernel
theorem dX7_readsOne_14 : decode cX7_readsOne 14 = .ok (.invokevirtual 124, 3) := by decide +kernel
theorem dX7_readsOne_17 : decode cX7_readsOne 17 = .ok (.ifCond .ne 5, 3) := by decide +kernel
theorem dX7_readsOne_20 : decode cX7_readsOne 20 = .ok (.iconst 0, 1) := by decide +kernel
theorem dX7_readsOne_21 : decode cX7_readsOne 21 = .ok (.ireturn, 1) := by decide +kernel
theorem dX7_readsOne_22 : decode cX7_readsOne 22 = .ok (.iconst 4, 1) := by decide +kernel
theorem dX7_readsOne_23 : decode cX7_readsOne 23 = .ok (.aload_n 0, 1) := by decide +kernel
theorem dX7_readsOne_24 : decode cX7_readsOne 24 = .ok (.getfield 121, 3) := by decide +kernel
theorem dX7_readsOne_27 : decode cX7_readsOne 27 = .ok (.imul, 1) := by decide +kernel
theorem dX7_readsOne_28 : decode cX7_readsOne 28 = .ok (.istore_n 1, 1) := by decide +kernel
theorem dX7_readsOne_29 : decode cX7_readsOne 29 = .ok (.aload_n 0, 1) := by decide +kernel
theorem dX7_readsOne_30 : decode cX7_readsOne 30 = .ok (.getfield 58, 3) := by decide +kernel
theorem dX7_readsOne_33 : decode cX7_readsOne 33 = .ok (.iload_n 1, 1) := by decide +kernel
theorem dX7_readsOne_34 : decode cX7_readsOne 34 = .ok (.aload_n 0, 1) := by decide +kernel
theorem dX7_readsOne_35 : decode cX7_readsOne 35 = .ok (.getfield 118, 3) := by decide +kernel
theorem dX7_readsOne_38 : decode cX7_readsOne 38 = .ok (.iastore, 1) := by decide +kernel
theorem dX7_readsOne_39 : decode cX7_readsOne 39 = .ok (.aload_n 0, 1) := by decide +kernel
theorem dX7_readsOne_40 : decode cX7_readsOne 40 = .ok (.iconst 0, 1) := by decide +kernel
theorem dX7_readsOne_41 : decode cX7_readsOne 41 = .ok (.bipush 40, 2) := by decide +kernel
theorem dX7_readsOne_43 : decode cX7_readsOne 43 = .ok (.bipush 44, 2) := by decide +kernel
theorem dX7_readsOne_45 : decode cX7_readsOne 45 = .ok (.invokevirtual 124, 3) := by decide +kernel
theorem dX7_readsOne_48 : decode cX7_readsOne 48 = .ok (.ifCond .ne 5, 3) := by decide +kernel
theorem dX7_readsOne_51 : decode cX7_readsOne 51 = .ok (.iconst 0, 1) := by decide +kernel
theorem dX7_readsOne_52 : decode cX7_readsOne 52 = .ok (.ireturn, 1) := by decide +kernel
theorem dX7_readsOne_53 : decode cX7_readsOne 53 = .ok (.aload_n 0, 1) := by decide +kernel
theorem dX7_readsOne_54 : decode cX7_readsOne 54 = .ok (.getfield 58, 3) := by decide +kernel
theorem dX7_readsOne_57 : decode cX7_readsOne 57 = .ok (.iload_n 1, 1) := by decide +kernel
theorem dX7_readsOne_58 : decode cX7_readsOne 58 = .ok (.iconst 1, 1) := by decide +kernel
theorem dX7_readsOne_59 : decode cX7_readsOne 59 = .ok (.iadd, 1) := by decide +kernel
theorem dX7_readsOne_60 : decode cX7_readsOne 60 = .ok (.aload_n 0, 1) := by decide +kernel
theorem dX7_readsOne_61 : decode cX7_readsOne 61 = .ok (.getfield 118, 3) := by decide +kernel
theorem dX7_readsOne_64 : decode cX7_readsOne 64 = .ok (.iastore, 1) := by decide +kernel
theorem dX7_readsOne_65 : decode cX7_readsOne 65 = .ok (.aload_n 0, 1) := by decide +kernel
theorem dX7_readsOne_66 : decode cX7_readsOne 66 = .ok (.iconst 0, 1) := by decide +kernel
theorem dX7_readsOne_67 : decode cX7_readsOne 67 = .ok (.bipush 40, 2) := by decide +kernel
theorem dX7_readsOne_69 : decode cX7_readsOne 69 = .ok (.bipush 44, 2) := by decide +kernel
theorem dX7_readsOne_71 : decode cX7_readsOne 71 = .ok (.invokevirtual 124, 3) := by decide +kernel
theorem dX7_readsOne_74 : decode cX7_readsOne 74 = .ok (.ifCond .ne 5, 3) := by decide +kernel
theorem dX7_readsOne_77 : decode cX7_readsOne 77 = .ok (.iconst 0, 1) := by decide +kernel
theorem dX7_readsOne_78 : decode cX7_readsOne 78 = .ok (.ireturn, 1) := by decide +kernel
theorem dX7_readsOne_79 : decode cX7_readsOne 79 = .ok (.aload_n 0, 1) := by decide +kernel
theorem dX7_readsOne_80 : decode cX7_readsOne 80 = .ok (.getfield 58, 3) := by decide +kernel
theorem dX7_readsOne_83 : decode cX7_readsOne 83 = .ok (.iload_n 1, 1) := by decide +kernel
theorem dX7_readsOne_84 : decode cX7_readsOne 84 = .ok (.iconst 2, 1) := by decide +kernel
theorem dX7_readsOne_85 : decode cX7_readsOne 85 = .ok (.iadd, 1) := by decide +kernel
theorem dX7_readsOne_86 : decode cX7_readsOne 86 = .ok (.aload_n 0, 1) := by decide +kernel
theorem dX7_readsOne_87 : decode cX7_readsOne 87 = .ok (.getfield 118, 3) := by decide +kernel
theorem dX7_readsOne_90 : decode cX7_readsOne 90 = .ok (.iastore, 1) := by decide +kernel
theorem dX7_readsOne_91 : decode cX7_readsOne 91 = .ok (.aload_n 0, 1) := by decide +kernel
theorem dX7_readsOne_92 : decode cX7_readsOne 92 = .ok (.iconst 1, 1) := by decide +kernel
theorem dX7_readsOne_93 : decode cX7_readsOne 93 = .ok (.bipush 9, 2) := by decide +kernel
theorem dX7_readsOne_95 : decode cX7_readsOne 95 = .ok (.bipush 59, 2) := by decide +kernel
theorem dX7_readsOne_97 : decode cX7_readsOne 97 = .ok (.invokevirtual 124, 3) := by decide +kernel
theorem dX7_readsOne_100 : decode cX7_readsOne 100 = .ok (.ifCond .ne 5, 3) := by decide +kernel
theorem dX7_readsOne_103 : decode cX7_readsOne 103 = .ok (.iconst 0, 1) := by decide +kernel
theorem dX7_readsOne_104 : decode cX7_readsOne 104 = .ok (.ireturn, 1) := by decide +kernel
theorem dX7_readsOne_105 : decode cX7_readsOne 105 = .ok (.aload_n 0, 1) := by decide +kernel
theorem dX7_readsOne_106 : decode cX7_readsOne 106 = .ok (.getfield 58, 3) := by decide +kernel
theorem dX7_readsOne_109 : decode cX7_readsOne 109 = .ok (.iload_n 1, 1) := by decide +kernel
theorem dX7_readsOne_110 : decode cX7_readsOne 110 = .ok (.iconst 3, 1) := by decide +kernel
theorem dX7_readsOne_111 : decode cX7_readsOne 111 = .ok (.iadd, 1) := by decide +kernel
theorem dX7_readsOne_112 : decode cX7_readsOne 112 = .ok (.aload_n 0, 1) := by decide +kernel
theorem dX7_readsOne_113 : decode cX7_readsOne 113 = .ok (.getfield 118, 3) := by decide +kernel
theorem dX7_readsOne_116 : decode cX7_readsOne 116 = .ok (.iastore, 1) := by decide +kernel
theorem dX7_readsOne_117 : decode cX7_readsOne 117 = .ok (.aload_n 0, 1) := by decide +kernel
theorem dX7_readsOne_118 : decode cX7_readsOne 118 = .ok (.dup, 1) := by decide +kernel
theorem dX7_readsOne_119 : decode cX7_readsOne 119 = .ok (.getfield 121, 3) := by decide +kernel
theorem dX7_readsOne_122 : decode cX7_readsOne 122 = .ok (.iconst 1, 1) := by decide +kernel
theorem dX7_readsOne_123 : decode cX7_readsOne 123 = .ok (.iadd, 1) := by decide +kernel
theorem dX7_readsOne_124 : decode cX7_readsOne 124 = .ok (.putfield 121, 3) := by decide +kernel
theorem dX7_readsOne_127 : decode cX7_readsOne 127 = .ok (.iconst 1, 1) := by decide +kernel
theorem dX7_readsOne_128 : decode cX7_readsOne 128 = .ok (.ireturn, 1) := by decide +kernel
theorem dX7_readsStock_0 : decode cX7_readsStock 0 = .ok (.aload_n 0, 1) := by decide +kernel
theorem dX7_readsStock_1 : decode cX7_readsStock 1 = .ok (.iconst 0, 1) := by decide +kernel
theorem dX7_readsStock_2 : decode cX7_readsStock 2 = .ok (.bipush 20, 2) := by decide +kernel
theorem dX7_readsStock_4 : decode cX7_readsStock 4 = .ok (.bipush 59, 2) := by decide +kernel
theorem dX7_readsStock_6 : decode cX7_readsStock 6 = .ok (.invokevirtual 124, 3) := by decide +kernel
theorem dX7_readsStock_9 : decode cX7_readsStock 9 = .ok (.ifCond .ne 5, 3) := by decide +kernel
theorem dX7_readsStock_12 : decode cX7_readsStock 12 = .ok (.iconst 0, 1) := by decide +kernel
theorem dX7_readsStock_13 : decode cX7_readsStock 13 = .ok (.ireturn, 1) := by decide +kernel
theorem dX7_readsStock_14 : decode cX7_readsStock 14 = .ok (.aload_n 0, 1) := by decide +kernel
theorem dX7_readsStock_15 : decode cX7_readsStock 15 = .ok (.aload_n 0, 1) := by decide +kernel
theorem dX7_readsStock_16 : decode cX7_readsStock 16 = .ok (.getfield 118, 3) := by decide +kernel
theorem dX7_readsStock_19 : decode cX7_readsStock 19 = .ok (.putfield 127, 3) := by decide +kernel
theorem dX7_readsStock_22 : decode cX7_readsStock 22 = .ok (.iconst 1, 1) := by decide +kernel
theorem dX7_readsStock_23 : decode cX7_readsStock 23 = .ok (.ireturn, 1) := by decide +kernel
theorem dX7_readsItem_0 : decode cX7_readsItem 0 = .ok (.aload_n 0, 1) := by decide +kernel
theorem dX7_readsItem_1 : decode cX7_readsItem 1 = .ok (.invokevirtual 110, 3) := by decide +kernel
theorem dX7_readsItem_4 : decode cX7_readsItem 4 = .ok (.istore_n 1, 1) := by decide +kernel
theorem dX7_readsItem_5 : decode cX7_readsItem 5 = .ok (.aload_n 0, 1) := by decide +kernel
theorem dX7_readsItem_6 : decode cX7_readsItem 6 = .ok (.dup, 1) := by decide +kernel
theorem dX7_readsItem_7 : decode cX7_readsItem 7 = .ok (.getfield 107, 3) := by decide +kernel
theorem dX7_readsItem_10 : decode cX7_readsItem 10 = .ok (.iconst 1, 1) := by decide +kernel
theorem dX7_readsItem_11 : decode cX7_readsItem 11 = .ok (.iadd, 1) := by decide +kernel
theorem dX7_readsItem_12 : decode cX7_readsItem 12 = .ok (.putfield 107, 3) := by decide +kernel
theorem dX7_readsItem_15 : decode cX7_readsItem 15 = .ok (.iload_n 1, 1) := by decide +kernel
theorem dX7_readsItem_16 : decode cX7_readsItem 16 = .ok (.bipush 112, 2) := by decide +kernel
theorem dX7_readsItem_18 : decode cX7_readsItem 18 = .ok (.if_icmp .ne 10, 3) := by decide +kernel
theorem dX7_readsItem_21 : decode cX7_readsItem 21 = .ok (.aload_n 0, 1) := by decide +kernel
theorem dX7_readsItem_22 : decode cX7_readsItem 22 = .ok (.invokevirtual 130, 3) := by decide +kernel
theorem dX7_readsItem_25 : decode cX7_readsItem 25 = .ok (.goto 21, 3) := by decide +kernel
theorem dX7_readsItem_28 : decode cX7_readsItem 28 = .ok (.iload_n 1, 1) := by decide +kernel
theorem dX7_readsItem_29 : decode cX7_readsItem 29 = .ok (.bipush 104, 2) := by decide +kernel
theorem dX7_readsItem_31 : decode cX7_readsItem 31 = .ok (.if_icmp .ne 14, 3) := by decide +kernel
theorem dX7_readsItem_34 : decode cX7_readsItem 34 = .ok (.aload_n 0, 1) := by decide +kernel
theorem dX7_readsItem_35 : decode cX7_readsItem 35 = .ok (.invokevirtual 133, 3) := by decide +kernel
theorem dX7_readsItem_38 : decode cX7_readsItem 38 = .ok (.ifCond .eq 7, 3) := by decide +kernel
theorem dX7_readsItem_41 : decode cX7_readsItem 41 = .ok (.iconst 1, 1) := by decide +kernel
theorem dX7_readsItem_42 : decode cX7_readsItem 42 = .ok (.goto 4, 3) := by decide +kernel
theorem dX7_readsItem_45 : decode cX7_readsItem 45 = .ok (.iconst 0, 1) := by decide +kernel
theorem dX7_readsItem_46 : decode cX7_readsItem 46 = .ok (.ireturn, 1) := by decide +kernel
theorem dX7_fault_0 : decode cX7_fault 0 = .ok (.aload_n 0, 1) := by decide +kernel
theorem dX7_fault_1 : decode cX7_fault 1 = .ok (.iconst 0, 1) := by decide +kernel
theorem dX7_fault_2 : decode cX7_fault 2 = .ok (.putfield 107, 3) := by decide +kernel
theorem dX7_fault_5 : decode cX7_fault 5 = .ok (.aload_n 0, 1) := by decide +kernel
theorem dX7_fault_6 : decode cX7_fault 6 = .ok (.iconst 0, 1) := by decide +kernel
theorem dX7_fault_7 : decode cX7_fault 7 = .ok (.putfield 121, 3) := by decide +kernel
theorem dX7_fault_10 : decode cX7_fault 10 = .ok (.aload_n 0, 1) := by decide +kernel
theorem dX7_fault_11 : decode cX7_fault 11 = .ok (.iconst 3, 1) := by decide +kernel
theorem dX7_fault_12 : decode cX7_fault 12 = .ok (.putfield 127, 3) := by decide +kernel
theorem dX7_fault_15 : decode cX7_fault 15 = .ok (.aload_n 0, 1) := by decide +kernel
theorem dX7_fault_16 : decode cX7_fault 16 = .ok (.getfield 107, 3) := by decide +kernel
theorem dX7_fault_19 : decode cX7_fault 19 = .ok (.aload_n 0, 1) := by decide +kernel
theorem dX7_fault_20 : decode cX7_fault 20 = .ok (.getfield 104, 3) := by decide +kernel
theorem dX7_fault_23 : decode cX7_fault 23 = .ok (.if_icmp .ge 20, 3) := by decide +kernel
theorem dX7_fault_26 : decode cX7_fault 26 = .ok (.aload_n 0, 1) := by decide +kernel
theorem dX7_fault_27 : decode cX7_fault 27 = .ok (.getfield 107, 3) := by decide +kernel
theorem dX7_fault_30 : decode cX7_fault 30 = .ok (.istore_n 1, 1) := by decide +kernel
theorem dX7_fault_31 : decode cX7_fault 31 = .ok (.aload_n 0, 1) := by decide +kernel
theorem dX7_fault_32 : decode cX7_fault 32 = .ok (.invokevirtual 136, 3) := by decide +kernel
theorem dX7_fault_35 : decode cX7_fault 35 = .ok (.ifCond .ne 5, 3) := by decide +kernel
theorem dX7_fault_38 : decode cX7_fault 38 = .ok (.iload_n 1, 1) := by decide +kernel
theorem dX7_fault_39 : decode cX7_fault 39 = .ok (.ireturn, 1) := by decide +kernel
theorem dX7_fault_40 : decode cX7_fault 40 = .ok (.goto (-25), 3) := by decide +kernel
theorem dX7_fault_43 : decode cX7_fault 43 = .ok (.bipush (-4), 2) := by decide +kernel
theorem dX7_fault_45 : decode cX7_fault 45 = .ok (.ireturn, 1) := by decide +kernel
theorem dX7_lay_0 : decode cX7_lay 0 = .ok (.aload_n 0, 1) := by decide +kernel
theorem dX7_lay_1 : decode cX7_lay 1 = .ok (.invokevirtual 139, 3) := by decide +kernel
theorem dX7_lay_4 : decode cX7_lay 4 = .ok (.bipush (-4), 2) := by decide +kernel
theorem dX7_lay_6 : decode cX7_lay 6 = .ok (.if_icmp .ne 10, 3) := by decide +kernel
theorem dX7_lay_9 : decode cX7_lay 9 = .ok (.aload_n 0, 1) := by decide +kernel
theorem dX7_lay_10 : decode cX7_lay 10 = .ok (.getfield 121, 3) := by decide +kernel
theorem dX7_lay_13 : decode cX7_lay 13 = .ok (.ifCond .ne 6, 3) := by decide +kernel
theorem dX7_lay_16 : decode cX7_lay 16 = .ok (.bipush (-2), 2) := by decide +kernel
theorem dX7_lay_18 : decode cX7_lay 18 = .ok (.ireturn, 1) := by decide +kernel
theorem dX7_lay_19 : decode cX7_lay 19 = .ok (.aload_n 0, 1) := by decide +kernel
theorem dX7_lay_20 : decode cX7_lay 20 = .ok (.iconst 0, 1) := by decide +kernel
theorem dX7_lay_21 : decode cX7_lay 21 = .ok (.putfield 84, 3) := by decide +kernel
theorem dX7_lay_24 : decode cX7_lay 24 = .ok (.iconst 0, 1) := by decide +kernel
theorem dX7_lay_25 : decode cX7_lay 25 = .ok (.istore_n 1, 1) := by decide +kernel
theorem dX7_lay_26 : decode cX7_lay 26 = .ok (.iload_n 1, 1) := by decide +kernel
theorem dX7_lay_27 : decode cX7_lay 27 = .ok (.aload_n 0, 1) := by decide +kernel
theorem dX7_lay_28 : decode cX7_lay 28 = .ok (.getfield 121, 3) := by decide +kernel
theorem dX7_lay_31 : decode cX7_lay 31 = .ok (.if_icmp .ge 51, 3) := by decide +kernel
theorem dX7_lay_34 : decode cX7_lay 34 = .ok (.aload_n 0, 1) := by decide +kernel
theorem dX7_lay_35 : decode cX7_lay 35 = .ok (.aload_n 0, 1) := by decide +kernel
theorem dX7_lay_36 : decode cX7_lay 36 = .ok (.getfield 58, 3) := by decide +kernel
theorem dX7_lay_39 : decode cX7_lay 39 = .ok (.iconst 4, 1) := by decide +kernel
theorem dX7_lay_40 : decode cX7_lay 40 = .ok (.iload_n 1, 1) := by decide +kernel
theorem dX7_lay_41 : decode cX7_lay 41 = .ok (.imul, 1) := by decide +kernel
theorem dX7_lay_42 : decode cX7_lay 42 = .ok (.iaload, 1) := by decide +kernel
theorem dX7_lay_43 : decode cX7_lay 43 = .ok (.aload_n 0, 1) := by decide +kernel
theorem dX7_lay_44 : decode cX7_lay 44 = .ok (.getfield 58, 3) := by decide +kernel
theorem dX7_lay_47 : decode cX7_lay 47 = .ok (.iconst 4, 1) := by decide +kernel
theorem dX7_lay_48 : decode cX7_lay 48 = .ok (.iload_n 1, 1) := by decide +kernel
theorem dX7_lay_49 : decode cX7_lay 49 = .ok (.imul, 1) := by decide +kernel
theorem dX7_lay_50 : decode cX7_lay 50 = .ok (.iconst 1, 1) := by decide +kernel
theorem dX7_lay_51 : decode cX7_lay 51 = .ok (.iadd, 1) := by decide +kernel
theorem dX7_lay_52 : decode cX7_lay 52 = .ok (.iaload, 1) := by decide +kernel
theorem dX7_lay_53 : decode cX7_lay 53 = .ok (.aload_n 0, 1) := by decide +kernel
theorem dX7_lay_54 : decode cX7_lay 54 = .ok (.getfield 58, 3) := by decide +kernel
theorem dX7_lay_57 : decode cX7_lay 57 = .ok (.iconst 4, 1) := by decide +kernel
theorem dX7_lay_58 : decode cX7_lay 58 = .ok (.iload_n 1, 1) := by decide +kernel
theorem dX7_lay_59 : decode cX7_lay 59 = .ok (.imul, 1) := by decide +kernel
theorem dX7_lay_60 : decode cX7_lay 60 = .ok (.iconst 2, 1) := by decide +kernel
theorem dX7_lay_61 : decode cX7_lay 61 = .ok (.iadd, 1) := by decide +kernel
theorem dX7_lay_62 : decode cX7_lay 62 = .ok (.iaload, 1) := by decide +kernel
theorem dX7_lay_63 : decode cX7_lay 63 = .ok (.aload_n 0, 1) := by decide +kernel
theorem dX7_lay_64 : decode cX7_lay 64 = .ok (.getfield 58, 3) := by decide +kernel
theorem dX7_lay_67 : decode cX7_lay 67 = .ok (.iconst 4, 1) := by decide +kernel
theorem dX7_lay_68 : decode cX7_lay 68 = .ok (.iload_n 1, 1) := by decide +kernel
theorem dX7_lay_69 : decode cX7_lay 69 = .ok (.imul, 1) := by decide +kernel
theorem dX7_lay_70 : decode cX7_lay 70 = .ok (.iconst 3, 1) := by decide +kernel
theorem dX7_lay_71 : decode cX7_lay 71 = .ok (.iadd, 1) := by decide +kernel
theorem dX7_lay_72 : decode cX7_lay 72 = .ok (.iaload, 1) := by decide +kernel
theorem dX7_lay_73 : decode cX7_lay 73 = .ok (.invokevirtual 76, 3) := by decide +kernel
theorem dX7_lay_76 : decode cX7_lay 76 = .ok (.iinc 1 1, 3) := by decide +kernel
theorem dX7_lay_79 : decode cX7_lay 79 = .ok (.goto (-53), 3) := by decide +kernel
theorem dX7_lay_82 : decode cX7_lay 82 = .ok (.aload_n 0, 1) := by decide +kernel
theorem dX7_lay_83 : decode cX7_lay 83 = .ok (.aload_n 0, 1) := by decide +kernel
theorem dX7_lay_84 : decode cX7_lay 84 = .ok (.getfield 127, 3) := by decide +kernel
theorem dX7_lay_87 : decode cX7_lay 87 = .ok (.invokevirtual 80, 3) := by decide +kernel
theorem dX7_lay_90 : decode cX7_lay 90 = .ok (.aload_n 0, 1) := by decide +kernel
theorem dX7_lay_91 : decode cX7_lay 91 = .ok (.iconst 0, 1) := by decide +kernel
theorem dX7_lay_92 : decode cX7_lay 92 = .ok (.putfield 142, 3) := by decide +kernel
theorem dX7_lay_95 : decode cX7_lay 95 = .ok (.aload_n 0, 1) := by decide +kernel
theorem dX7_lay_96 : decode cX7_lay 96 = .ok (.iconst 0, 1) := by decide +kernel
theorem dX7_lay_97 : decode cX7_lay 97 = .ok (.putfield 145, 3) := by decide +kernel
theorem dX7_lay_100 : decode cX7_lay 100 = .ok (.aload_n 0, 1) := by decide +kernel
theorem dX7_lay_101 : decode cX7_lay 101 = .ok (.iconst 0, 1) := by decide +kernel
theorem dX7_lay_102 : decode cX7_lay 102 = .ok (.putfield 148, 3) := by decide +kernel
theorem dX7_lay_105 : decode cX7_lay 105 = .ok (.aload_n 0, 1) := by decide +kernel
theorem dX7_lay_106 : decode cX7_lay 106 = .ok (.getfield 84, 3) := by decide +kernel
theorem dX7_lay_109 : decode cX7_lay 109 = .ok (.ireturn, 1) := by decide +kernel
theorem dX7_eatsBy_0 : decode cX7_eatsBy 0 = .ok (.iload_n 0, 1) := by decide +kernel
theorem dX7_eatsBy_1 : decode cX7_eatsBy 1 = .ok (.iconst 1, 1) := by decide +kernel
theorem dX7_eatsBy_2 : decode cX7_eatsBy 2 = .ok (.if_icmp .ne 11, 3) := by decide +kernel
theorem dX7_eatsBy_5 : decode cX7_eatsBy 5 = .ok (.iconst 2, 1) := by decide +kernel
theorem dX7_eatsBy_6 : decode cX7_eatsBy 6 = .ok (.iload_n 1, 1) := by decide +kernel
theorem dX7_eatsBy_7 : decode cX7_eatsBy 7 = .ok (.imul, 1) := by decide +kernel
theorem dX7_eatsBy_8 : decode cX7_eatsBy 8 = .ok (.iconst 2, 1) := by decide +kernel
theorem dX7_eatsBy_9 : decode cX7_eatsBy 9 = .ok (.iadd, 1) := by decide +kernel
theorem dX7_eatsBy_10 : decode cX7_eatsBy 10 = .ok (.goto 15, 3) := by decide +kernel
theorem dX7_eatsBy_13 : decode cX7_eatsBy 13 = .ok (.iload_n 0, 1) := by decide +kernel
theorem dX7_eatsBy_14 : decode cX7_eatsBy 14 = .ok (.iconst 2, 1) := by decide +kernel
theorem dX7_eatsBy_15 : decode cX7_eatsBy 15 = .ok (.if_icmp .ne 7, 3) := by decide +kernel
theorem dX7_eatsBy_18 : decode cX7_eatsBy 18 = .ok (.iload_n 1, 1) := by decide +kernel
theorem dX7_eatsBy_19 : decode cX7_eatsBy 19 = .ok (.goto 6, 3) := by decide +kernel
theorem dX7_eatsBy_22 : decode cX7_eatsBy 22 = .ok (.iconst 2, 1) := by decide +kernel
theorem dX7_eatsBy_23 : decode cX7_eatsBy 23 = .ok (.iload_n 1, 1) := by decide +kernel
theorem dX7_eatsBy_24 : decode cX7_eatsBy 24 = .ok (.imul, 1) := by decide +kernel
theorem dX7_eatsBy_25 : decode cX7_eatsBy 25 = .ok (.ireturn, 1) := by decide +kernel
theorem dX7_comesIn_0 : decode cX7_comesIn 0 = .ok (.aload_n 0, 1) := by decide +kernel
theorem dX7_comesIn_1 : decode cX7_comesIn 1 = .ok (.getfield 9, 3) := by decide +kernel
theorem dX7_comesIn_4 : decode cX7_comesIn 4 = .ok (.iload_n 1, 1) := by decide +kernel
theorem dX7_comesIn_5 : decode cX7_comesIn 5 = .ok (.iaload, 1) := by decide +kernel
theorem dX7_comesIn_6 : decode cX7_comesIn 6 = .ok (.iconst 3, 1) := by decide +kernel
theorem dX7_comesIn_7 : decode cX7_comesIn 7 = .ok (.if_icmp .ne 79, 3) := by decide +kernel
theorem dX7_comesIn_10 : decode cX7_comesIn 10 = .ok (.aload_n 0, 1) := by decide +kernel
theorem dX7_comesIn_11 : decode cX7_comesIn 11 = .ok (.getfield 40, 3) := by decide +kernel
theorem dX7_comesIn_14 : decode cX7_comesIn 14 = .ok (.iload_n 1, 1) := by decide +kernel
theorem dX7_comesIn_15 : decode cX7_comesIn 15 = .ok (.iaload, 1) := by decide +kernel
theorem dX7_comesIn_16 : decode cX7_comesIn 16 = .ok (.ifCond .ne 70, 3) := by decide +kernel
theorem dX7_comesIn_19 : decode cX7_comesIn 19 = .ok (.aload_n 0, 1) := by decide +kernel
theorem dX7_comesIn_20 : decode cX7_comesIn 20 = .ok (.getfield 40, 3) := by decide +kernel
theorem dX7_comesIn_23 : decode cX7_comesIn 23 = .ok (.iload_n 1, 1) := by decide +kernel
theorem dX7_comesIn_24 : decode cX7_comesIn 24 = .ok (.iconst 1, 1) := by decide +kernel
theorem dX7_comesIn_25 : decode cX7_comesIn 25 = .ok (.iastore, 1) := by decide +kernel
theorem dX7_comesIn_26 : decode cX7_comesIn 26 = .ok (.aload_n 0, 1) := by decide +kernel
theorem dX7_comesIn_27 : decode cX7_comesIn 27 = .ok (.dup, 1) := by decide +kernel
theorem dX7_comesIn_28 : decode cX7_comesIn 28 = .ok (.getfield 97, 3) := by decide +kernel
theorem dX7_comesIn_31 : decode cX7_comesIn 31 = .ok (.iconst 1, 1) := by decide +kernel
theorem dX7_comesIn_32 : decode cX7_comesIn 32 = .ok (.iadd, 1) := by decide +kernel
theorem dX7_comesIn_33 : decode cX7_comesIn 33 = .ok (.putfield 97, 3) := by decide +kernel
theorem dX7_comesIn_36 : decode cX7_comesIn 36 = .ok (.aload_n 0, 1) := by decide +kernel
theorem dX7_comesIn_37 : decode cX7_comesIn 37 = .ok (.getfield 25, 3) := by decide +kernel
theorem dX7_comesIn_40 : decode cX7_comesIn 40 = .ok (.iload_n 1, 1) := by decide +kernel
theorem dX7_comesIn_41 : decode cX7_comesIn 41 = .ok (.aload_n 0, 1) := by decide +kernel
theorem dX7_comesIn_42 : decode cX7_comesIn 42 = .ok (.getfield 88, 3) := by decide +kernel
theorem dX7_comesIn_45 : decode cX7_comesIn 45 = .ok (.iconst 1, 1) := by decide +kernel
theorem dX7_comesIn_46 : decode cX7_comesIn 46 = .ok (.iadd, 1) := by decide +kernel
theorem dX7_comesIn_47 : decode cX7_comesIn 47 = .ok (.iastore, 1) := by decide +kernel
theorem dX7_comesIn_48 : decode cX7_comesIn 48 = .ok (.aload_n 0, 1) := by decide +kernel
theorem dX7_comesIn_49 : decode cX7_comesIn 49 = .ok (.getfield 22, 3) := by decide +kernel
theorem dX7_comesIn_52 : decode cX7_comesIn 52 = .ok (.iload_n 1, 1) := by decide +kernel
theorem dX7_comesIn_53 : decode cX7_comesIn 53 = .ok (.aload_n 0, 1) := by decide +kernel
theorem dX7_comesIn_54 : decode cX7_comesIn 54 = .ok (.getfield 91, 3) := by decide +kernel
theorem dX7_comesIn_57 : decode cX7_comesIn 57 = .ok (.ifCond .le 7, 3) := by decide +kernel
theorem dX7_comesIn_60 : decode cX7_comesIn 60 = .ok (.iconst 2, 1) := by decide +kernel
theorem dX7_comesIn_61 : decode cX7_comesIn 61 = .ok (.goto 4, 3) := by decide +kernel
theorem dX7_comesIn_64 : decode cX7_comesIn 64 = .ok (.iconst 1, 1) := by decide +kernel
theorem dX7_comesIn_65 : decode cX7_comesIn 65 = .ok (.iastore, 1) := by decide +kernel
theorem dX7_comesIn_66 : decode cX7_comesIn 66 = .ok (.aload_n 0, 1) := by decide +kernel
theorem dX7_comesIn_67 : decode cX7_comesIn 67 = .ok (.dup, 1) := by decide +kernel
theorem dX7_comesIn_68 : decode cX7_comesIn 68 = .ok (.getfield 91, 3) := by decide +kernel
theorem dX7_comesIn_71 : decode cX7_comesIn 71 = .ok (.aload_n 0, 1) := by decide +kernel
theorem dX7_comesIn_72 : decode cX7_comesIn 72 = .ok (.getfield 22, 3) := by decide +kernel
theorem dX7_comesIn_75 : decode cX7_comesIn 75 = .ok (.iload_n 1, 1) := by decide +kernel
theorem dX7_comesIn_76 : decode cX7_comesIn 76 = .ok (.iaload, 1) := by decide +kernel
theorem dX7_comesIn_77 : decode cX7_comesIn 77 = .ok (.iconst 1, 1) := by decide +kernel
theorem dX7_comesIn_78 : decode cX7_comesIn 78 = .ok (.isub, 1) := by decide +kernel
theorem dX7_comesIn_79 : decode cX7_comesIn 79 = .ok (.isub, 1) := by decide +kernel
theorem dX7_comesIn_80 : decode cX7_comesIn 80 = .ok (.putfield 91, 3) := by decide +kernel
theorem dX7_comesIn_83 : decode cX7_comesIn 83 = .ok (.goto 46, 3) := by decide +kernel
theorem dX7_comesIn_86 : decode cX7_comesIn 86 = .ok (.aload_n 0, 1) := by decide +kernel
theorem dX7_comesIn_87 : decode cX7_comesIn 87 = .ok (.getfield 37, 3) := by decide +kernel
theorem dX7_comesIn_90 : decode cX7_comesIn 90 = .ok (.iload_n 1, 1) := by decide +kernel
theorem dX7_comesIn_91 : decode cX7_comesIn 91 = .ok (.iconst 1, 1) := by decide +kernel
theorem dX7_comesIn_92 : decode cX7_comesIn 92 = .ok (.iastore, 1) := by decide +kernel
theorem dX7_comesIn_93 : decode cX7_comesIn 93 = .ok (.aload_n 0, 1) := by decide +kernel
theorem dX7_comesIn_94 : decode cX7_comesIn 94 = .ok (.getfield 28, 3) := by decide +kernel
theorem dX7_comesIn_97 : decode cX7_comesIn 97 = .ok (.iload_n 1, 1) := by decide +kernel
theorem dX7_comesIn_98 : decode cX7_comesIn 98 = .ok (.aload_n 0, 1) := by decide +kernel
theorem dX7_comesIn_99 : decode cX7_comesIn 99 = .ok (.getfield 9, 3) := by decide +kernel
theorem dX7_comesIn_102 : decode cX7_comesIn 102 = .ok (.iload_n 1, 1) := by decide +kernel
theorem dX7_comesIn_103 : decode cX7_comesIn 103 = .ok (.iaload, 1) := by decide +kernel
theorem dX7_comesIn_104 : decode cX7_comesIn 104 = .ok (.aload_n 0, 1) := by decide +kernel
theorem dX7_comesIn_105 : decode cX7_comesIn 105 = .ok (.getfield 22, 3) := by decide +kernel
theorem dX7_comesIn_108 : decode cX7_comesIn 108 = .ok (.iload_n 1, 1) := by decide +kernel
theorem dX7_comesIn_109 : decode cX7_comesIn 109 = .ok (.iaload, 1) := by decide +kernel
theorem dX7_comesIn_110 : decode cX7_comesIn 110 = .ok (.invokestatic 151, 3) := by decide +kernel
theorem dX7_comesIn_113 : decode cX7_comesIn 113 = .ok (.iastore, 1) := by decide +kernel
theorem dX7_comesIn_114 : decode cX7_comesIn 114 = .ok (.aload_n 0, 1) := by decide +kernel
theorem dX7_comesIn_115 : decode cX7_comesIn 115 = .ok (.getfield 22, 3) := by decide +kernel
theorem dX7_comesIn_118 : decode cX7_comesIn 118 = .ok (.iload_n 1, 1) := by decide +kernel
theorem dX7_comesIn_119 : decode cX7_comesIn 119 = .ok (.iconst 0, 1) := by decide +kernel
theorem dX7_comesIn_120 : decode cX7_comesIn 120 = .ok (.iastore, 1) := by decide +kernel
theorem dX7_comesIn_121 : decode cX7_comesIn 121 = .ok (.aload_n 0, 1) := by decide +kernel
theorem dX7_comesIn_122 : decode cX7_comesIn 122 = .ok (.getfield 25, 3) := by decide +kernel
theorem dX7_comesIn_125 : decode cX7_comesIn 125 = .ok (.iload_n 1, 1) := by decide +kernel
theorem dX7_comesIn_126 : decode cX7_comesIn 126 = .ok (.bipush (-4), 2) := by decide +kernel
theorem dX7_comesIn_128 : decode cX7_comesIn 128 = .ok (.iastore, 1) := by decide +kernel
theorem dX7_comesIn_129 : decode cX7_comesIn 129 = .ok (.return_, 1) := by decide +kernel
theorem dX7_passes_0 : decode cX7_passes 0 = .ok (.iconst 0, 1) := by decide +kernel
theorem dX7_passes_1 : decode cX7_passes 1 = .ok (.istore_n 2, 1) := by decide +kernel
theorem dX7_passes_2 : decode cX7_passes 2 = .ok (.iconst 0, 1) := by decide +kernel
theorem dX7_passes_3 : decode cX7_passes 3 = .ok (.istore_n 3, 1) := by decide +kernel
theorem dX7_passes_4 : decode cX7_passes 4 = .ok (.iload_n 3, 1) := by decide +kernel
theorem dX7_passes_5 : decode cX7_passes 5 = .ok (.aload_n 0, 1) := by decide +kernel
theorem dX7_passes_6 : decode cX7_passes 6 = .ok (.getfield 84, 3) := by decide +kernel
theorem dX7_passes_9 : decode cX7_passes 9 = .ok (.if_icmp .ge 40, 3) := by decide +kernel
theorem dX7_passes_12 : decode cX7_passes 12 = .ok (.iload_n 1, 1) := by decide +kernel
theorem dX7_passes_13 : decode cX7_passes 13 = .ok (.ifCond .ne 30, 3) := by decide +kernel
theorem dX7_passes_16 : decode cX7_passes 16 = .ok (.aload_n 0, 1) := by decide +kernel
theorem dX7_passes_17 : decode cX7_passes 17 = .ok (.getfield 22, 3) := by decide +kernel
theorem dX7_passes_20 : decode cX7_passes 20 = .ok (.iload_n 3, 1) := by decide +kernel
theorem dX7_passes_21 : decode cX7_passes 21 = .ok (.iaload, 1) := by decide +kernel
theorem dX7_passes_22 : decode cX7_passes 22 = .ok (.ifCond .le 21, 3) := by decide +kernel
theorem dX7_passes_25 : decode cX7_passes 25 = .ok (.aload_n 0, 1) := by decide +kernel
theorem dX7_passes_26 : decode cX7_passes 26 = .ok (.getfield 25, 3) := by decide +kernel
theorem dX7_passes_29 : decode cX7_passes 29 = .ok (.iload_n 3, 1) := by decide +kernel
theorem dX7_passes_30 : decode cX7_passes 30 = .ok (.iaload, 1) := by decide +kernel
theorem dX7_passes_31 : decode cX7_passes 31 = .ok (.aload_n 0, 1) := by decide +kernel
theorem dX7_passes_32 : decode cX7_passes 32 = .ok (.getfield 88, 3) := by decide +kernel
theorem dX7_passes_35 : decode cX7_passes 35 = .ok (.if_icmp .gt 8, 3) := by decide +kernel
theorem dX7_passes_38 : decode cX7_passes 38 = .ok (.aload_n 0, 1) := by decide +kernel
theorem dX7_passes_39 : decode cX7_passes 39 = .ok (.iload_n 3, 1) := by decide +kernel
theorem dX7_passes_40 : decode cX7_passes 40 = .ok (.invokevirtual 155, 3) := by decide +kernel
theorem dX7_passes_43 : decode cX7_passes 43 = .ok (.iinc 3 1, 3) := by decide +kernel
theorem dX7_passes_46 : decode cX7_passes 46 = .ok (.goto (-42), 3) := by decide +kernel
theorem dX7_passes_49 : decode cX7_passes 49 = .ok (.iconst 0, 1) := by decide +kernel
theorem dX7_passes_50 : decode cX7_passes 50 = .ok (.istore_n 3, 1) := by decide +kernel
theorem dX7_passes_51 : decode cX7_passes 51 = .ok (.iload_n 3, 1) := by decide +kernel
theorem dX7_passes_52 : decode cX7_passes 52 = .ok (.aload_n 0, 1) := by decide +kernel
theorem dX7_passes_53 : decode cX7_passes 53 = .ok (.getfield 84, 3) := by decide +kernel
theorem dX7_passes_56 : decode cX7_passes 56 = .ok (.if_icmp .ge 90, 3) := by decide +kernel
theorem dX7_passes_59 : decode cX7_passes 59 = .ok (.aload_n 0, 1) := by decide +kernel
theorem dX7_passes_60 : decode cX7_passes 60 = .ok (.getfield 16, 3) := by decide +kernel
theorem dX7_passes_63 : decode cX7_passes 63 = .ok (.iload_n 3, 1) := by decide +kernel
theorem dX7_passes_64 : decode cX7_passes 64 = .ok (.iaload, 1) := by decide +kernel
theorem dX7_passes_65 : decode cX7_passes 65 = .ok (.aload_n 0, 1) := by decide +kernel
theorem dX7_passes_66 : decode cX7_passes 66 = .ok (.getfield 88, 3) := by decide +kernel
theorem dX7_passes_69 : decode cX7_passes 69 = .ok (.if_icmp .gt 48, 3) := by decide +kernel
theorem dX7_passes_72 : decode cX7_passes 72 = .ok (.aload_n 0, 1) := by decide +kernel
theorem dX7_passes_73 : decode cX7_passes 73 = .ok (.getfield 31, 3) := by decide +kernel
theorem dX7_passes_76 : decode cX7_passes 76 = .ok (.iload_n 3, 1) := by decide +kernel
theorem dX7_passes_77 : decode cX7_passes 77 = .ok (.iaload, 1) := by decide +kernel
theorem dX7_passes_78 : decode cX7_passes 78 = .ok (.bipush (-4), 2) := by decide +kernel
theorem dX7_passes_80 : decode cX7_passes 80 = .ok (.if_icmp .ne 37, 3) := by decide +kernel
theorem dX7_passes_83 : decode cX7_passes 83 = .ok (.aload_n 0, 1) := by decide +kernel
theorem dX7_passes_84 : decode cX7_passes 84 = .ok (.getfield 28, 3) := by decide +kernel
theorem dX7_passes_87 : decode cX7_passes 87 = .ok (.iload_n 3, 1) := by decide +kernel
theorem dX7_passes_88 : decode cX7_passes 88 = .ok (.iaload, 1) := by decide +kernel
theorem dX7_passes_89 : decode cX7_passes 89 = .ok (.ifCond .ne 28, 3) := by decide +kernel
theorem dX7_passes_92 : decode cX7_passes 92 = .ok (.aload_n 0, 1) := by decide +kernel
theorem dX7_passes_93 : decode cX7_passes 93 = .ok (.getfield 31, 3) := by decide +kernel
theorem dX7_passes_96 : decode cX7_passes 96 = .ok (.iload_n 3, 1) := by decide +kernel
theorem dX7_passes_97 : decode cX7_passes 97 = .ok (.aload_n 0, 1) := by decide +kernel
theorem dX7_passes_98 : decode cX7_passes 98 = .ok (.getfield 88, 3) := by decide +kernel
theorem dX7_passes_101 : decode cX7_passes 101 = .ok (.iastore, 1) := by decide +kernel
theorem dX7_passes_102 : decode cX7_passes 102 = .ok (.aload_n 0, 1) := by decide +kernel
theorem dX7_passes_103 : decode cX7_passes 103 = .ok (.getfield 34, 3) := by decide +kernel
theorem dX7_passes_106 : decode cX7_passes 106 = .ok (.iload_n 3, 1) := by decide +kernel
theorem dX7_passes_107 : decode cX7_passes 107 = .ok (.aload_n 0, 1) := by decide +kernel
theorem dX7_passes_108 : decode cX7_passes 108 = .ok (.getfield 37, 3) := by decide +kernel
theorem dX7_passes_111 : decode cX7_passes 111 = .ok (.iload_n 3, 1) := by decide +kernel
theorem dX7_passes_112 : decode cX7_passes 112 = .ok (.iaload, 1) := by decide +kernel
theorem dX7_passes_113 : decode cX7_passes 113 = .ok (.iastore, 1) := by decide +kernel
theorem dX7_passes_114 : decode cX7_passes 114 = .ok (.iinc 2 1, 3) := by decide +kernel
theorem dX7_passes_117 : decode cX7_passes 117 = .ok (.aload_n 0, 1) := by decide +kernel
theorem dX7_passes_118 : decode cX7_passes 118 = .ok (.getfield 28, 3) := by decide +kernel
theorem dX7_passes_121 : decode cX7_passes 121 = .ok (.iload_n 3, 1) := by decide +kernel
theorem dX7_passes_122 : decode cX7_passes 122 = .ok (.dup2, 1) := by decide +kernel
theorem dX7_passes_123 : decode cX7_passes 123 = .ok (.iaload, 1) := by decide +kernel
theorem dX7_passes_124 : decode cX7_passes 124 = .ok (.aload_n 0, 1) := by decide +kernel
theorem dX7_passes_125 : decode cX7_passes 125 = .ok (.getfield 28, 3) := by decide +kernel
theorem dX7_passes_128 : decode cX7_passes 128 = .ok (.iload_n 3, 1) := by decide +kernel
theorem dX7_passes_129 : decode cX7_passes 129 = .ok (.iaload, 1) := by decide +kernel
theorem dX7_passes_130 : decode cX7_passes 130 = .ok (.ifCond .le 7, 3) := by decide +kernel
theorem dX7_passes_133 : decode cX7_passes 133 = .ok (.iconst 1, 1) := by decide +kernel
theorem dX7_passes_134 : decode cX7_passes 134 = .ok (.goto 4, 3) := by decide +kernel
theorem dX7_passes_137 : decode cX7_passes 137 = .ok (.iconst 0, 1) := by decide +kernel
theorem dX7_passes_138 : decode cX7_passes 138 = .ok (.isub, 1) := by decide +kernel
theorem dX7_passes_139 : decode cX7_passes 139 = .ok (.iastore, 1) := by decide +kernel
theorem dX7_passes_140 : decode cX7_passes 140 = .ok (.iinc 3 1, 3) := by decide +kernel
theorem dX7_passes_143 : decode cX7_passes 143 = .ok (.goto (-92), 3) := by decide +kernel
theorem dX7_passes_146 : decode cX7_passes 146 = .ok (.aload_n 0, 1) := by decide +kernel
theorem dX7_passes_147 : decode cX7_passes 147 = .ok (.dup, 1) := by decide +kernel
theorem dX7_passes_148 : decode cX7_passes 148 = .ok (.getfield 88, 3) := by decide +kernel
theorem dX7_passes_151 : decode cX7_passes 151 = .ok (.iconst 1, 1) := by decide +kernel
theorem dX7_passes_152 : decode cX7_passes 152 = .ok (.iadd, 1) := by decide +kernel
theorem dX7_passes_153 : decode cX7_passes 153 = .ok (.putfield 88, 3) := by decide +kernel
theorem dX7_passes_156 : decode cX7_passes 156 = .ok (.aload_n 0, 1) := by decide +kernel
theorem dX7_passes_157 : decode cX7_passes 157 = .ok (.iconst 0, 1) := by decide +kernel
theorem dX7_passes_158 : decode cX7_passes 158 = .ok (.putfield 94, 3) := by decide +kernel
theorem dX7_passes_161 : decode cX7_passes 161 = .ok (.iload_n 2, 1) := by decide +kernel
theorem dX7_passes_162 : decode cX7_passes 162 = .ok (.ireturn, 1) := by decide +kernel
theorem dX7_goesOn_0 : decode cX7_goesOn 0 = .ok (.iconst 0, 1) := by decide +kernel
theorem dX7_goesOn_1 : decode cX7_goesOn 1 = .ok (.istore_n 2, 1) := by decide +kernel
theorem dX7_goesOn_2 : decode cX7_goesOn 2 = .ok (.iconst 0, 1) := by decide +kernel
theorem dX7_goesOn_3 : decode cX7_goesOn 3 = .ok (.istore_n 3, 1) := by decide +kernel
theorem dX7_goesOn_4 : decode cX7_goesOn 4 = .ok (.iload_n 3, 1) := by decide +kernel
theorem dX7_goesOn_5 : decode cX7_goesOn 5 = .ok (.iload_n 1, 1) := by decide +kernel
theorem dX7_goesOn_6 : decode cX7_goesOn 6 = .ok (.if_icmp .ge 17, 3) := by decide +kernel
theorem dX7_goesOn_9 : decode cX7_goesOn 9 = .ok (.iload_n 2, 1) := by decide +kernel
theorem dX7_goesOn_10 : decode cX7_goesOn 10 = .ok (.aload_n 0, 1) := by decide +kernel
theorem dX7_goesOn_11 : decode cX7_goesOn 11 = .ok (.iconst 0, 1) := by decide +kernel
theorem dX7_goesOn_12 : decode cX7_goesOn 12 = .ok (.invokevirtual 158, 3) := by decide +kernel
theorem dX7_goesOn_15 : decode cX7_goesOn 15 = .ok (.iadd, 1) := by decide +kernel
theorem dX7_goesOn_16 : decode cX7_goesOn 16 = .ok (.istore_n 2, 1) := by decide +kernel
theorem dX7_goesOn_17 : decode cX7_goesOn 17 = .ok (.iinc 3 1, 3) := by decide +kernel
theorem dX7_goesOn_20 : decode cX7_goesOn 20 = .ok (.goto (-16), 3) := by decide +kernel
theorem dX7_goesOn_23 : decode cX7_goesOn 23 = .ok (.iload_n 2, 1) := by decide +kernel
theorem dX7_goesOn_24 : decode cX7_goesOn 24 = .ok (.ireturn, 1) := by decide +kernel
theorem dX7_eatSet_0 : decode cX7_eatSet 0 = .ok (.iconst 0, 1) := by decide +kernel
theorem dX7_eatSet_1 : decode cX7_eatSet 1 = .ok (.istore_n 1, 1) := by decide +kernel
theorem dX7_eatSet_2 : decode cX7_eatSet 2 = .ok (.iconst 0, 1) := by decide +kernel
theorem dX7_eatSet_3 : decode cX7_eatSet 3 = .ok (.istore_n 2, 1) := by decide +kernel
theorem dX7_eatSet_4 : decode cX7_eatSet 4 = .ok (.iload_n 2, 1) := by decide +kernel
theorem dX7_eatSet_5 : decode cX7_eatSet 5 = .ok (.aload_n 0, 1) := by decide +kernel
theorem dX7_eatSet_6 : decode cX7_eatSet 6 = .ok (.getfield 84, 3) := by decide +kernel
theorem dX7_eatSet_9 : decode cX7_eatSet 9 = .ok (.if_icmp .ge 28, 3) := by decide +kernel
theorem dX7_eatSet_12 : decode cX7_eatSet 12 = .ok (.iload_n 1, 1) := by decide +kernel
theorem dX7_eatSet_13 : decode cX7_eatSet 13 = .ok (.aload_n 0, 1) := by decide +kernel
theorem dX7_eatSet_14 : decode cX7_eatSet 14 = .ok (.getfield 28, 3) := by decide +kernel
theorem dX7_eatSet_17 : decode cX7_eatSet 17 = .ok (.iload_n 2, 1) := by decide +kernel
theorem dX7_eatSet_18 : decode cX7_eatSet 18 = .ok (.iaload, 1) := by decide +kernel
theorem dX7_eatSet_19 : decode cX7_eatSet 19 = .ok (.ifCond .le 9, 3) := by decide +kernel
theorem dX7_eatSet_22 : decode cX7_eatSet 22 = .ok (.iconst 1, 1) := by decide +kernel
theorem dX7_eatSet_23 : decode cX7_eatSet 23 = .ok (.iload_n 2, 1) := by decide +kernel
theorem dX7_eatSet_24 : decode cX7_eatSet 24 = .ok (.ishl, 1) := by decide +kernel
theorem dX7_eatSet_25 : decode cX7_eatSet 25 = .ok (.goto 4, 3) := by decide +kernel
theorem dX7_eatSet_28 : decode cX7_eatSet 28 = .ok (.iconst 0, 1) := by decide +kernel
theorem dX7_eatSet_29 : decode cX7_eatSet 29 = .ok (.ior, 1) := by decide +kernel
theorem dX7_eatSet_30 : decode cX7_eatSet 30 = .ok (.istore_n 1, 1) := by decide +kernel
theorem dX7_eatSet_31 : decode cX7_eatSet 31 = .ok (.iinc 2 1, 3) := by decide +kernel
theorem dX7_eatSet_34 : decode cX7_eatSet 34 = .ok (.goto (-30), 3) := by decide +kernel
theorem dX7_eatSet_37 : decode cX7_eatSet 37 = .ok (.iload_n 1, 1) := by decide +kernel
theorem dX7_eatSet_38 : decode cX7_eatSet 38 = .ok (.ireturn, 1) := by decide +kernel
theorem dX7_toldSet_0 : decode cX7_toldSet 0 = .ok (.iconst 0, 1) := by decide +kernel
theorem dX7_toldSet_1 : decode cX7_toldSet 1 = .ok (.istore_n 1, 1) := by decide +kernel
theorem dX7_toldSet_2 : decode cX7_toldSet 2 = .ok (.iconst 0, 1) := by decide +kernel
theorem dX7_toldSet_3 : decode cX7_toldSet 3 = .ok (.istore_n 2, 1) := by decide +kernel
theorem dX7_toldSet_4 : decode cX7_toldSet 4 = .ok (.iload_n 2, 1) := by decide +kernel
theorem dX7_toldSet_5 : decode cX7_toldSet 5 = .ok (.aload_n 0, 1) := by decide +kernel
theorem dX7_toldSet_6 : decode cX7_toldSet 6 = .ok (.getfield 84, 3) := by decide +kernel
theorem dX7_toldSet_9 : decode cX7_toldSet 9 = .ok (.if_icmp .ge 30, 3) := by decide +kernel
theorem dX7_toldSet_12 : decode cX7_toldSet 12 = .ok (.iload_n 1, 1) := by decide +kernel
theorem dX7_toldSet_13 : decode cX7_toldSet 13 = .ok (.aload_n 0, 1) := by decide +kernel
theorem dX7_toldSet_14 : decode cX7_toldSet 14 = .ok (.getfield 31, 3) := by decide +kernel
theorem dX7_toldSet_17 : decode cX7_toldSet 17 = .ok (.iload_n 2, 1) := by decide +kernel
theorem dX7_toldSet_18 : decode cX7_toldSet 18 = .ok (.iaload, 1) := by decide +kernel
theorem dX7_toldSet_19 : decode cX7_toldSet 19 = .ok (.bipush (-4), 2) := by decide +kernel
theorem dX7_toldSet_21 : decode cX7_toldSet 21 = .ok (.if_icmp .ne 7, 3) := by decide +kernel
theorem dX7_toldSet_24 : decode cX7_toldSet 24 = .ok (.iconst 0, 1) := by decide +kernel
theorem dX7_toldSet_25 : decode cX7_toldSet 25 = .ok (.goto 6, 3) := by decide +kernel
theorem dX7_toldSet_28 : decode cX7_toldSet 28 = .ok (.iconst 1, 1) := by decide +kernel
theorem dX7_toldSet_29 : decode cX7_toldSet 29 = .ok (.iload_n 2, 1) := by decide +kernel
theorem dX7_toldSet_30 : decode cX7_toldSet 30 = .ok (.ishl, 1) := by decide +kernel
theorem dX7_toldSet_31 : decode cX7_toldSet 31 = .ok (.ior, 1) := by decide +kernel
theorem dX7_toldSet_32 : decode cX7_toldSet 32 = .ok (.istore_n 1, 1) := by decide +kernel
theorem dX7_toldSet_33 : decode cX7_toldSet 33 = .ok (.iinc 2 1, 3) := by decide +kernel
theorem dX7_toldSet_36 : decode cX7_toldSet 36 = .ok (.goto (-32), 3) := by decide +kernel
theorem dX7_toldSet_39 : decode cX7_toldSet 39 = .ok (.iload_n 1, 1) := by decide +kernel
theorem dX7_toldSet_40 : decode cX7_toldSet 40 = .ok (.ireturn, 1) := by decide +kernel
theorem dX7_softSet_0 : decode cX7_softSet 0 = .ok (.iconst 0, 1) := by decide +kernel
theorem dX7_softSet_1 : decode cX7_softSet 1 = .ok (.istore_n 1, 1) := by decide +kernel
theorem dX7_softSet_2 : decode cX7_softSet 2 = .ok (.iconst 0, 1) := by decide +kernel
theorem dX7_softSet_3 : decode cX7_softSet 3 = .ok (.istore_n 2, 1) := by decide +kernel
theorem dX7_softSet_4 : decode cX7_softSet 4 = .ok (.iload_n 2, 1) := by decide +kernel
theorem dX7_softSet_5 : decode cX7_softSet 5 = .ok (.aload_n 0, 1) := by decide +kernel
theorem dX7_softSet_6 : decode cX7_softSet 6 = .ok (.getfield 84, 3) := by decide +kernel
theorem dX7_softSet_9 : decode cX7_softSet 9 = .ok (.if_icmp .ge 20, 3) := by decide +kernel
theorem dX7_softSet_12 : decode cX7_softSet 12 = .ok (.iload_n 1, 1) := by decide +kernel
theorem dX7_softSet_13 : decode cX7_softSet 13 = .ok (.aload_n 0, 1) := by decide +kernel
theorem dX7_softSet_14 : decode cX7_softSet 14 = .ok (.getfield 34, 3) := by decide +kernel
theorem dX7_softSet_17 : decode cX7_softSet 17 = .ok (.iload_n 2, 1) := by decide +kernel
theorem dX7_softSet_18 : decode cX7_softSet 18 = .ok (.iaload, 1) := by decide +kernel
theorem dX7_softSet_19 : decode cX7_softSet 19 = .ok (.iload_n 2, 1) := by decide +kernel
theorem dX7_softSet_20 : decode cX7_softSet 20 = .ok (.ishl, 1) := by decide +kernel
theorem dX7_softSet_21 : decode cX7_softSet 21 = .ok (.ior, 1) := by decide +kernel
theorem dX7_softSet_22 : decode cX7_softSet 22 = .ok (.istore_n 1, 1) := by decide +kernel
theorem dX7_softSet_23 : decode cX7_softSet 23 = .ok (.iinc 2 1, 3) := by decide +kernel
theorem dX7_softSet_26 : decode cX7_softSet 26 = .ok (.goto (-22), 3) := by decide +kernel
theorem dX7_softSet_29 : decode cX7_softSet 29 = .ok (.iload_n 1, 1) := by decide +kernel
theorem dX7_softSet_30 : decode cX7_softSet 30 = .ok (.ireturn, 1) := by decide +kernel
theorem dX7_softWeight_0 : decode cX7_softWeight 0 = .ok (.iconst 0, 1) := by decide +kernel
theorem dX7_softWeight_1 : decode cX7_softWeight 1 = .ok (.istore_n 1, 1) := by decide +kernel
theorem dX7_softWeight_2 : decode cX7_softWeight 2 = .ok (.iconst 0, 1) := by decide +kernel
theorem dX7_softWeight_3 : decode cX7_softWeight 3 = .ok (.istore_n 2, 1) := by decide +kernel
theorem dX7_softWeight_4 : decode cX7_softWeight 4 = .ok (.iload_n 2, 1) := by decide +kernel
theorem dX7_softWeight_5 : decode cX7_softWeight 5 = .ok (.aload_n 0, 1) := by decide +kernel
theorem dX7_softWeight_6 : decode cX7_softWeight 6 = .ok (.getfield 84, 3) := by decide +kernel
theorem dX7_softWeight_9 : decode cX7_softWeight 9 = .ok (.if_icmp .ge 32, 3) := by decide +kernel
theorem dX7_softWeight_12 : decode cX7_softWeight 12 = .ok (.iload_n 1, 1) := by decide +kernel
theorem dX7_softWeight_13 : decode cX7_softWeight 13 = .ok (.aload_n 0, 1) := by decide +kernel
theorem dX7_softWeight_14 : decode cX7_softWeight 14 = .ok (.getfield 34, 3) := by decide +kernel
theorem dX7_softWeight_17 : decode cX7_softWeight 17 = .ok (.iload_n 2, 1) := by decide +kernel
theorem dX7_softWeight_18 : decode cX7_softWeight 18 = .ok (.iaload, 1) := by decide +kernel
theorem dX7_softWeight_19 : decode cX7_softWeight 19 = .ok (.iconst 1, 1) := by decide +kernel
theorem dX7_softWeight_20 : decode cX7_softWeight 20 = .ok (.if_icmp .ne 12, 3) := by decide +kernel
theorem dX7_softWeight_23 : decode cX7_softWeight 23 = .ok (.aload_n 0, 1) := by decide +kernel
theorem dX7_softWeight_24 : decode cX7_softWeight 24 = .ok (.getfield 19, 3) := by decide +kernel
theorem dX7_softWeight_27 : decode cX7_softWeight 27 = .ok (.iload_n 2, 1) := by decide +kernel
theorem dX7_softWeight_28 : decode cX7_softWeight 28 = .ok (.iaload, 1) := by decide +kernel
theorem dX7_softWeight_29 : decode cX7_softWeight 29 = .ok (.goto 4, 3) := by decide +kernel
theorem dX7_softWeight_32 : decode cX7_softWeight 32 = .ok (.iconst 0, 1) := by decide +kernel
theorem dX7_softWeight_33 : decode cX7_softWeight 33 = .ok (.iadd, 1) := by decide +kernel
theorem dX7_softWeight_34 : decode cX7_softWeight 34 = .ok (.istore_n 1, 1) := by decide +kernel
theorem dX7_softWeight_35 : decode cX7_softWeight 35 = .ok (.iinc 2 1, 3) := by decide +kernel
theorem dX7_softWeight_38 : decode cX7_softWeight 38 = .ok (.goto (-34), 3) := by decide +kernel
theorem dX7_softWeight_41 : decode cX7_softWeight 41 = .ok (.iload_n 1, 1) := by decide +kernel
theorem dX7_softWeight_42 : decode cX7_softWeight 42 = .ok (.ireturn, 1) := by decide +kernel
theorem dX7_personTells_0 : decode cX7_personTells 0 = .ok (.iload_n 2, 1) := by decide +kernel
theorem dX7_personTells_1 : decode cX7_personTells 1 = .ok (.tableswitch 125 0 9 #[55, 62, 69, 76, 83, 90, 97, 104, 111, 118], 55) := by decide +kernel
theorem dX7_personTells_56 : decode cX7_personTells 56 = .ok (.aload_n 0, 1) := by decide +kernel
theorem dX7_personTells_57 : decode cX7_personTells 57 = .ok (.getfield 9, 3) := by decide +kernel
theorem dX7_personTells_60 : decode cX7_personTells 60 = .ok (.iload_n 1, 1) := by decide +kernel
theorem dX7_personTells_61 : decode cX7_personTells 61 = .ok (.iaload, 1) := by decide +kernel
theorem dX7_personTells_62 : decode cX7_personTells 62 = .ok (.ireturn, 1) := by decide +kernel
theorem dX7_personTells_63 : decode cX7_personTells 63 = .ok (.aload_n 0, 1) := by decide +kernel
theorem dX7_personTells_64 : decode cX7_personTells 64 = .ok (.getfield 13, 3) := by decide +kernel
theorem dX7_personTells_67 : decode cX7_personTells 67 = .ok (.iload_n 1, 1) := by decide +kernel
theorem dX7_personTells_68 : decode cX7_personTells 68 = .ok (.iaload, 1) := by decide +kernel
theorem dX7_personTells_69 : decode cX7_personTells 69 = .ok (.ireturn, 1) := by decide +kernel
theorem dX7_personTells_70 : decode cX7_personTells 70 = .ok (.aload_n 0, 1) := by decide +kernel
theorem dX7_personTells_71 : decode cX7_personTells 71 = .ok (.getfield 16, 3) := by decide +kernel
theorem dX7_personTells_74 : decode cX7_personTells 74 = .ok (.iload_n 1, 1) := by decide +kernel
theorem dX7_personTells_75 : decode cX7_personTells 75 = .ok (.iaload, 1) := by decide +kernel
theorem dX7_personTells_76 : decode cX7_personTells 76 = .ok (.ireturn, 1) := by decide +kernel
theorem dX7_personTells_77 : decode cX7_personTells 77 = .ok (.aload_n 0, 1) := by decide +kernel
theorem dX7_personTells_78 : decode cX7_personTells 78 = .ok (.getfield 19, 3) := by decide +kernel
theorem dX7_personTells_81 : decode cX7_personTells 81 = .ok (.iload_n 1, 1) := by decide +kernel
theorem dX7_personTells_82 : decode cX7_personTells 82 = .ok (.iaload, 1) := by decide +kernel
theorem dX7_personTells_83 : decode cX7_personTells 83 = .ok (.ireturn, 1) := by decide +kernel
theorem dX7_personTells_84 : decode cX7_personTells 84 = .ok (.aload_n 0, 1) := by decide +kernel
theorem dX7_personTells_85 : decode cX7_personTells 85 = .ok (.getfield 22, 3) := by decide +kernel
theorem dX7_personTells_88 : decode cX7_personTells 88 = .ok (.iload_n 1, 1) := by decide +kernel
theorem dX7_personTells_89 : decode cX7_personTells 89 = .ok (.iaload, 1) := by decide +kernel
theorem dX7_personTells_90 : decode cX7_personTells 90 = .ok (.ireturn, 1) := by decide +kernel
theorem dX7_personTells_91 : decode cX7_personTells 91 = .ok (.aload_n 0, 1) := by decide +kernel
theorem dX7_personTells_92 : decode cX7_personTells 92 = .ok (.getfield 25, 3) := by decide +kernel
theorem dX7_personTells_95 : decode cX7_personTells 95 = .ok (.iload_n 1, 1) := by decide +kernel
theorem dX7_personTells_96 : decode cX7_personTells 96 = .ok (.iaload, 1) := by decide +kernel
theorem dX7_personTells_97 : decode cX7_personTells 97 = .ok (.ireturn, 1) := by decide +kernel
theorem dX7_personTells_98 : decode cX7_personTells 98 = .ok (.aload_n 0, 1) := by decide +kernel
theorem dX7_personTells_99 : decode cX7_personTells 99 = .ok (.getfield 28, 3) := by decide +kernel
theorem dX7_personTells_102 : decode cX7_personTells 102 = .ok (.iload_n 1, 1) := by decide +kernel
theorem dX7_personTells_103 : decode cX7_personTells 103 = .ok (.iaload, 1) := by decide +kernel
theorem dX7_personTells_104 : decode cX7_personTells 104 = .ok (.ireturn, 1) := by decide +kernel
theorem dX7_personTells_105 : decode cX7_personTells 105 = .ok (.aload_n 0, 1) := by decide +kernel
theorem dX7_personTells_106 : decode cX7_personTells 106 = .ok (.getfield 31, 3) := by decide +kernel
theorem dX7_personTells_109 : decode cX7_personTells 109 = .ok (.iload_n 1, 1) := by decide +kernel
theorem dX7_personTells_110 : decode cX7_personTells 110 = .ok (.iaload, 1) := by decide +kernel
theorem dX7_personTells_111 : decode cX7_personTells 111 = .ok (.ireturn, 1) := by decide +kernel
theorem dX7_personTells_112 : decode cX7_personTells 112 = .ok (.aload_n 0, 1) := by decide +kernel
theorem dX7_personTells_113 : decode cX7_personTells 113 = .ok (.getfield 34, 3) := by decide +kernel
theorem dX7_personTells_116 : decode cX7_personTells 116 = .ok (.iload_n 1, 1) := by decide +kernel
theorem dX7_personTells_117 : decode cX7_personTells 117 = .ok (.iaload, 1) := by decide +kernel
theorem dX7_personTells_118 : decode cX7_personTells 118 = .ok (.ireturn, 1) := by decide +kernel
theorem dX7_personTells_119 : decode cX7_personTells 119 = .ok (.aload_n 0, 1) := by decide +kernel
theorem dX7_personTells_120 : decode cX7_personTells 120 = .ok (.getfield 37, 3) := by decide +kernel
theorem dX7_personTells_123 : decode cX7_personTells 123 = .ok (.iload_n 1, 1) := by decide +kernel
theorem dX7_personTells_124 : decode cX7_personTells 124 = .ok (.iaload, 1) := by decide +kernel
theorem dX7_personTells_125 : decode cX7_personTells 125 = .ok (.ireturn, 1) := by decide +kernel
theorem dX7_personTells_126 : decode cX7_personTells 126 = .ok (.aload_n 0, 1) := by decide +kernel
theorem dX7_personTells_127 : decode cX7_personTells 127 = .ok (.getfield 40, 3) := by decide +kernel
theorem dX7_personTells_130 : decode cX7_personTells 130 = .ok (.iload_n 1, 1) := by decide +kernel
theorem dX7_personTells_131 : decode cX7_personTells 131 = .ok (.iaload, 1) := by decide +kernel
theorem dX7_personTells_132 : decode cX7_personTells 132 = .ok (.ireturn, 1) := by decide +kernel
theorem dX7_person_0 : decode cX7_person 0 = .ok (.aload_n 0, 1) := by decide +kernel
theorem dX7_person_1 : decode cX7_person 1 = .ok (.iload_n 1, 1) := by decide +kernel
theorem dX7_person_2 : decode cX7_person 2 = .ok (.invokevirtual 162, 3) := by decide +kernel
theorem dX7_person_5 : decode cX7_person 5 = .ok (.ifCond .eq 22, 3) := by decide +kernel
theorem dX7_person_8 : decode cX7_person 8 = .ok (.iload_n 2, 1) := by decide +kernel
theorem dX7_person_9 : decode cX7_person 9 = .ok (.iconst 0, 1) := by decide +kernel
theorem dX7_person_10 : decode cX7_person 10 = .ok (.bipush 10, 2) := by decide +kernel
theorem dX7_person_12 : decode cX7_person 12 = .ok (.invokestatic 100, 3) := by decide +kernel
theorem dX7_person_15 : decode cX7_person 15 = .ok (.ifCond .eq 12, 3) := by decide +kernel
theorem dX7_person_18 : decode cX7_person 18 = .ok (.aload_n 0, 1) := by decide +kernel
theorem dX7_person_19 : decode cX7_person 19 = .ok (.iload_n 1, 1) := by decide +kernel
theorem dX7_person_20 : decode cX7_person 20 = .ok (.iload_n 2, 1) := by decide +kernel
theorem dX7_person_21 : decode cX7_person 21 = .ok (.invokevirtual 166, 3) := by decide +kernel
theorem dX7_person_24 : decode cX7_person 24 = .ok (.goto 4, 3) := by decide +kernel
theorem dX7_person_27 : decode cX7_person 27 = .ok (.iconst (-1), 1) := by decide +kernel
theorem dX7_person_28 : decode cX7_person 28 = .ok (.ireturn, 1) := by decide +kernel
theorem dX7_lays_0 : decode cX7_lays 0 = .ok (.aload_n 1, 1) := by decide +kernel
theorem dX7_lays_1 : decode cX7_lays 1 = .ok (.iload_n 2, 1) := by decide +kernel
theorem dX7_lays_2 : decode cX7_lays 2 = .ok (.aload_n 0, 1) := by decide +kernel
theorem dX7_lays_3 : decode cX7_lays 3 = .ok (.getfield 88, 3) := by decide +kernel
theorem dX7_lays_6 : decode cX7_lays 6 = .ok (.iastore, 1) := by decide +kernel
theorem dX7_lays_7 : decode cX7_lays 7 = .ok (.aload_n 1, 1) := by decide +kernel
theorem dX7_lays_8 : decode cX7_lays 8 = .ok (.iload_n 2, 1) := by decide +kernel
theorem dX7_lays_9 : decode cX7_lays 9 = .ok (.iconst 1, 1) := by decide +kernel
theorem dX7_lays_10 : decode cX7_lays 10 = .ok (.iadd, 1) := by decide +kernel
theorem dX7_lays_11 : decode cX7_lays 11 = .ok (.aload_n 0, 1) := by decide +kernel
theorem dX7_lays_12 : decode cX7_lays 12 = .ok (.getfield 91, 3) := by decide +kernel
theorem dX7_lays_15 : decode cX7_lays 15 = .ok (.iastore, 1) := by decide +kernel
theorem dX7_lays_16 : decode cX7_lays 16 = .ok (.aload_n 1, 1) := by decide +kernel
theorem dX7_lays_17 : decode cX7_lays 17 = .ok (.iload_n 2, 1) := by decide +kernel
theorem dX7_lays_18 : decode cX7_lays 18 = .ok (.iconst 2, 1) := by decide +kernel
theorem dX7_lays_19 : decode cX7_lays 19 = .ok (.iadd, 1) := by decide +kernel
theorem dX7_lays_20 : decode cX7_lays 20 = .ok (.aload_n 0, 1) := by decide +kernel
theorem dX7_lays_21 : decode cX7_lays 21 = .ok (.getfield 94, 3) := by decide +kernel
theorem dX7_lays_24 : decode cX7_lays 24 = .ok (.iastore, 1) := by decide +kernel
theorem dX7_lays_25 : decode cX7_lays 25 = .ok (.aload_n 1, 1) := by decide +kernel
theorem dX7_lays_26 : decode cX7_lays 26 = .ok (.iload_n 2, 1) := by decide +kernel
theorem dX7_lays_27 : decode cX7_lays 27 = .ok (.bipush 51, 2) := by decide +kernel
theorem dX7_lays_29 : decode cX7_lays 29 = .ok (.iadd, 1) := by decide +kernel
theorem dX7_lays_30 : decode cX7_lays 30 = .ok (.aload_n 0, 1) := by decide +kernel
theorem dX7_lays_31 : decode cX7_lays 31 = .ok (.getfield 97, 3) := by decide +kernel
theorem dX7_lays_34 : decode cX7_lays 34 = .ok (.iastore, 1) := by decide +kernel
theorem dX7_lays_35 : decode cX7_lays 35 = .ok (.iconst 0, 1) := by decide +kernel
theorem dX7_lays_36 : decode cX7_lays 36 = .ok (.istore_n 3, 1) := by decide +kernel
theorem dX7_lays_37 : decode cX7_lays 37 = .ok (.iload_n 3, 1) := by decide +kernel
theorem dX7_lays_38 : decode cX7_lays 38 = .ok (.bipush 6, 2) := by decide +kernel
theorem dX7_lays_40 : decode cX7_lays 40 = .ok (.if_icmp .ge 120, 3) := by decide +kernel
theorem dX7_lays_43 : decode cX7_lays 43 = .ok (.aload_n 1, 1) := by decide +kernel
theorem dX7_lays_44 : decode cX7_lays 44 = .ok (.iload_n 2, 1) := by decide +kernel
theorem dX7_lays_45 : decode cX7_lays 45 = .ok (.iconst 3, 1) := by decide +kernel
theorem dX7_lays_46 : decode cX7_lays 46 = .ok (.iadd, 1) := by decide +kernel
theorem dX7_lays_47 : decode cX7_lays 47 = .ok (.iload_n 3, 1) := by decide +kernel
theorem dX7_lays_48 : decode cX7_lays 48 = .ok (.iadd, 1) := by decide +kernel
theorem dX7_lays_49 : decode cX7_lays 49 = .ok (.aload_n 0, 1) := by decide +kernel
theorem dX7_lays_50 : decode cX7_lays 50 = .ok (.getfield 22, 3) := by decide +kernel
theorem dX7_lays_53 : decode cX7_lays 53 = .ok (.iload_n 3, 1) := by decide +kernel
theorem dX7_lays_54 : decode cX7_lays 54 = .ok (.iaload, 1) := by decide +kernel
theorem dX7_lays_55 : decode cX7_lays 55 = .ok (.iastore, 1) := by decide +kernel
theorem dX7_lays_56 : decode cX7_lays 56 = .ok (.aload_n 1, 1) := by decide +kernel
theorem dX7_lays_57 : decode cX7_lays 57 = .ok (.iload_n 2, 1) := by decide +kernel
theorem dX7_lays_58 : decode cX7_lays 58 = .ok (.bipush 9, 2) := by decide +kernel
theorem dX7_lays_60 : decode cX7_lays 60 = .ok (.iadd, 1) := by decide +kernel
theorem dX7_lays_61 : decode cX7_lays 61 = .ok (.iload_n 3, 1) := by decide +kernel
theorem dX7_lays_62 : decode cX7_lays 62 = .ok (.iadd, 1) := by decide +kernel
theorem dX7_lays_63 : decode cX7_lays 63 = .ok (.aload_n 0, 1) := by decide +kernel
theorem dX7_lays_64 : decode cX7_lays 64 = .ok (.getfield 25, 3) := by decide +kernel
theorem dX7_lays_67 : decode cX7_lays 67 = .ok (.iload_n 3, 1) := by decide +kernel
theorem dX7_lays_68 : decode cX7_lays 68 = .ok (.iaload, 1) := by decide +kernel
theorem dX7_lays_69 : decode cX7_lays 69 = .ok (.iastore, 1) := by decide +kernel
theorem dX7_lays_70 : decode cX7_lays 70 = .ok (.aload_n 1, 1) := by decide +kernel
theorem dX7_lays_71 : decode cX7_lays 71 = .ok (.iload_n 2, 1) := by decide +kernel
theorem dX7_lays_72 : decode cX7_lays 72 = .ok (.bipush 15, 2) := by decide +kernel
theorem dX7_lays_74 : decode cX7_lays 74 = .ok (.iadd, 1) := by decide +kernel
theorem dX7_lays_75 : decode cX7_lays 75 = .ok (.iload_n 3, 1) := by decide +kernel
theorem dX7_lays_76 : decode cX7_lays 76 = .ok (.iadd, 1) := by decide +kernel
theorem dX7_lays_77 : decode cX7_lays 77 = .ok (.aload_n 0, 1) := by decide +kernel
theorem dX7_lays_78 : decode cX7_lays 78 = .ok (.getfield 28, 3) := by decide +kernel
theorem dX7_lays_81 : decode cX7_lays 81 = .ok (.iload_n 3, 1) := by decide +kernel
theorem dX7_lays_82 : decode cX7_lays 82 = .ok (.iaload, 1) := by decide +kernel
theorem dX7_lays_83 : decode cX7_lays 83 = .ok (.iastore, 1) := by decide +kernel
theorem dX7_lays_84 : decode cX7_lays 84 = .ok (.aload_n 1, 1) := by decide +kernel
theorem dX7_lays_85 : decode cX7_lays 85 = .ok (.iload_n 2, 1) := by decide +kernel
theorem dX7_lays_86 : decode cX7_lays 86 = .ok (.bipush 21, 2) := by decide +kernel
theorem dX7_lays_88 : decode cX7_lays 88 = .ok (.iadd, 1) := by decide +kernel
theorem dX7_lays_89 : decode cX7_lays 89 = .ok (.iload_n 3, 1) := by decide +kernel
theorem dX7_lays_90 : decode cX7_lays 90 = .ok (.iadd, 1) := by decide +kernel
theorem dX7_lays_91 : decode cX7_lays 91 = .ok (.aload_n 0, 1) := by decide +kernel
theorem dX7_lays_92 : decode cX7_lays 92 = .ok (.getfield 31, 3) := by decide +kernel
theorem dX7_lays_95 : decode cX7_lays 95 = .ok (.iload_n 3, 1) := by decide +kernel
theorem dX7_lays_96 : decode cX7_lays 96 = .ok (.iaload, 1) := by decide +kernel
theorem dX7_lays_97 : decode cX7_lays 97 = .ok (.iastore, 1) := by decide +kernel
theorem dX7_lays_98 : decode cX7_lays 98 = .ok (.aload_n 1, 1) := by decide +kernel
theorem dX7_lays_99 : decode cX7_lays 99 = .ok (.iload_n 2, 1) := by decide +kernel
theorem dX7_lays_100 : decode cX7_lays 100 = .ok (.bipush 27, 2) := by decide +kernel
theorem dX7_lays_102 : decode cX7_lays 102 = .ok (.iadd, 1) := by decide +kernel
theorem dX7_lays_103 : decode cX7_lays 103 = .ok (.iload_n 3, 1) := by decide +kernel
theorem dX7_lays_104 : decode cX7_lays 104 = .ok (.iadd, 1) := by decide +kernel
theorem dX7_lays_105 : decode cX7_lays 105 = .ok (.aload_n 0, 1) := by decide +kernel
theorem dX7_lays_106 : decode cX7_lays 106 = .ok (.getfield 34, 3) := by decide +kernel
theorem dX7_lays_109 : decode cX7_lays 109 = .ok (.iload_n 3, 1) := by decide +kernel
theorem dX7_lays_110 : decode cX7_lays 110 = .ok (.iaload, 1) := by decide +kernel
theorem dX7_lays_111 : decode cX7_lays 111 = .ok (.iastore, 1) := by decide +kernel
theorem dX7_lays_112 : decode cX7_lays 112 = .ok (.aload_n 1, 1) := by decide +kernel
theorem dX7_lays_113 : decode cX7_lays 113 = .ok (.iload_n 2, 1) := by decide +kernel
theorem dX7_lays_114 : decode cX7_lays 114 = .ok (.bipush 33, 2) := by decide +kernel
theorem dX7_lays_116 : decode cX7_lays 116 = .ok (.iadd, 1) := by decide +kernel
theorem dX7_lays_117 : decode cX7_lays 117 = .ok (.iload_n 3, 1) := by decide +kernel
theorem dX7_lays_118 : decode cX7_lays 118 = .ok (.iadd, 1) := by decide +kernel
theorem dX7_lays_119 : decode cX7_lays 119 = .ok (.aload_n 0, 1) := by decide +kernel
theorem dX7_lays_120 : decode cX7_lays 120 = .ok (.getfield 37, 3) := by decide +kernel
theorem dX7_lays_123 : decode cX7_lays 123 = .ok (.iload_n 3, 1) := by decide +kernel
theorem dX7_lays_124 : decode cX7_lays 124 = .ok (.iaload, 1) := by decide +kernel
theorem dX7_lays_125 : decode cX7_lays 125 = .ok (.iastore, 1) := by decide +kernel
theorem dX7_lays_126 : decode cX7_lays 126 = .ok (.aload_n 1, 1) := by decide +kernel
theorem dX7_lays_127 : decode cX7_lays 127 = .ok (.iload_n 2, 1) := by decide +kernel
theorem dX7_lays_128 : decode cX7_lays 128 = .ok (.bipush 39, 2) := by decide +kernel
theorem dX7_lays_130 : decode cX7_lays 130 = .ok (.iadd, 1) := by decide +kernel
theorem dX7_lays_131 : decode cX7_lays 131 = .ok (.iload_n 3, 1) := by decide +kernel
theorem dX7_lays_132 : decode cX7_lays 132 = .ok (.iadd, 1) := by decide +kernel
theorem dX7_lays_133 : decode cX7_lays 133 = .ok (.aload_n 0, 1) := by decide +kernel
theorem dX7_lays_134 : decode cX7_lays 134 = .ok (.getfield 40, 3) := by decide +kernel
theorem dX7_lays_137 : decode cX7_lays 137 = .ok (.iload_n 3, 1) := by decide +kernel
theorem dX7_lays_138 : decode cX7_lays 138 = .ok (.iaload, 1) := by decide +kernel
theorem dX7_lays_139 : decode cX7_lays 139 = .ok (.iastore, 1) := by decide +kernel
theorem dX7_lays_140 : decode cX7_lays 140 = .ok (.aload_n 1, 1) := by decide +kernel
theorem dX7_lays_141 : decode cX7_lays 141 = .ok (.iload_n 2, 1) := by decide +kernel
theorem dX7_lays_142 : decode cX7_lays 142 = .ok (.bipush 45, 2) := by decide +kernel
theorem dX7_lays_144 : decode cX7_lays 144 = .ok (.iadd, 1) := by decide +kernel
theorem dX7_lays_145 : decode cX7_lays 145 = .ok (.iload_n 3, 1) := by decide +kernel
theorem dX7_lays_146 : decode cX7_lays 146 = .ok (.iadd, 1) := by decide +kernel
theorem dX7_lays_147 : decode cX7_lays 147 = .ok (.aload_n 0, 1) := by decide +kernel
theorem dX7_lays_148 : decode cX7_lays 148 = .ok (.getfield 43, 3) := by decide +kernel
theorem dX7_lays_151 : decode cX7_lays 151 = .ok (.iload_n 3, 1) := by decide +kernel
theorem dX7_lays_152 : decode cX7_lays 152 = .ok (.iaload, 1) := by decide +kernel
theorem dX7_lays_153 : decode cX7_lays 153 = .ok (.iastore, 1) := by decide +kernel
theorem dX7_lays_154 : decode cX7_lays 154 = .ok (.iinc 3 1, 3) := by decide +kernel
theorem dX7_lays_157 : decode cX7_lays 157 = .ok (.goto (-120), 3) := by decide +kernel
theorem dX7_lays_160 : decode cX7_lays 160 = .ok (.return_, 1) := by decide +kernel
theorem dX7_takes_0 : decode cX7_takes 0 = .ok (.aload_n 0, 1) := by decide +kernel
theorem dX7_takes_1 : decode cX7_takes 1 = .ok (.aload_n 1, 1) := by decide +kernel
theorem dX7_takes_2 : decode cX7_takes 2 = .ok (.iload_n 2, 1) := by decide +kernel
theorem dX7_takes_3 : decode cX7_takes 3 = .ok (.iaload, 1) := by decide +kernel
theorem dX7_takes_4 : decode cX7_takes 4 = .ok (.putfield 88, 3) := by decide +kernel
theorem dX7_takes_7 : decode cX7_takes 7 = .ok (.aload_n 0, 1) := by decide +kernel
theorem dX7_takes_8 : decode cX7_takes 8 = .ok (.aload_n 1, 1) := by decide +kernel
theorem dX7_takes_9 : decode cX7_takes 9 = .ok (.iload_n 2, 1) := by decide +kernel
theorem dX7_takes_10 : decode cX7_takes 10 = .ok (.iconst 1, 1) := by decide +kernel
theorem dX7_takes_11 : decode cX7_takes 11 = .ok (.iadd, 1) := by decide +kernel
theorem dX7_takes_12 : decode cX7_takes 12 = .ok (.iaload, 1) := by decide +kernel
theorem dX7_takes_13 : decode cX7_takes 13 = .ok (.putfield 91, 3) := by decide +kernel
theorem dX7_takes_16 : decode cX7_takes 16 = .ok (.aload_n 0, 1) := by decide +kernel
theorem dX7_takes_17 : decode cX7_takes 17 = .ok (.aload_n 1, 1) := by decide +kernel
theorem dX7_takes_18 : decode cX7_takes 18 = .ok (.iload_n 2, 1) := by decide +kernel
theorem dX7_takes_19 : decode cX7_takes 19 = .ok (.iconst 2, 1) := by decide +kernel
theorem dX7_takes_20 : decode cX7_takes 20 = .ok (.iadd, 1) := by decide +kernel
theorem dX7_takes_21 : decode cX7_takes 21 = .ok (.iaload, 1) := by decide +kernel
theorem dX7_takes_22 : decode cX7_takes 22 = .ok (.putfield 94, 3) := by decide +kernel
theorem dX7_takes_25 : decode cX7_takes 25 = .ok (.aload_n 0, 1) := by decide +kernel
theorem dX7_takes_26 : decode cX7_takes 26 = .ok (.aload_n 1, 1) := by decide +kernel
theorem dX7_takes_27 : decode cX7_takes 27 = .ok (.iload_n 2, 1) := by decide +kernel
theorem dX7_takes_28 : decode cX7_takes 28 = .ok (.bipush 51, 2) := by decide +kernel
theorem dX7_takes_30 : decode cX7_takes 30 = .ok (.iadd, 1) := by decide +kernel
theorem dX7_takes_31 : decode cX7_takes 31 = .ok (.iaload, 1) := by decide +kernel
theorem dX7_takes_32 : decode cX7_takes 32 = .ok (.putfield 97, 3) := by decide +kernel
theorem dX7_takes_35 : decode cX7_takes 35 = .ok (.iconst 0, 1) := by decide +kernel
theorem dX7_takes_36 : decode cX7_takes 36 = .ok (.istore_n 3, 1) := by decide +kernel
theorem dX7_takes_37 : decode cX7_takes 37 = .ok (.iload_n 3, 1) := by decide +kernel
theorem dX7_takes_38 : decode cX7_takes 38 = .ok (.bipush 6, 2) := by decide +kernel
theorem dX7_takes_40 : decode cX7_takes 40 = .ok (.if_icmp .ge 120, 3) := by decide +kernel
theorem dX7_takes_43 : decode cX7_takes 43 = .ok (.aload_n 0, 1) := by decide +kernel
theorem dX7_takes_44 : decode cX7_takes 44 = .ok (.getfield 22, 3) := by decide +kernel
theorem dX7_takes_47 : decode cX7_takes 47 = .ok (.iload_n 3, 1) := by decide +kernel
theorem dX7_takes_48 : decode cX7_takes 48 = .ok (.aload_n 1, 1) := by decide +kernel
theorem dX7_takes_49 : decode cX7_takes 49 = .ok (.iload_n 2, 1) := by decide +kernel
theorem dX7_takes_50 : decode cX7_takes 50 = .ok (.iconst 3, 1) := by decide +kernel
theorem dX7_takes_51 : decode cX7_takes 51 = .ok (.iadd, 1) := by decide +kernel
theorem dX7_takes_52 : decode cX7_takes 52 = .ok (.iload_n 3, 1) := by decide +kernel
theorem dX7_takes_53 : decode cX7_takes 53 = .ok (.iadd, 1) := by decide +kernel
theorem dX7_takes_54 : decode cX7_takes 54 = .ok (.iaload, 1) := by decide +kernel
theorem dX7_takes_55 : decode cX7_takes 55 = .ok (.iastore, 1) := by decide +kernel
theorem dX7_takes_56 : decode cX7_takes 56 = .ok (.aload_n 0, 1) := by decide +kernel
theorem dX7_takes_57 : decode cX7_takes 57 = .ok (.getfield 25, 3) := by decide +kernel
theorem dX7_takes_60 : decode cX7_takes 60 = .ok (.iload_n 3, 1) := by decide +kernel
theorem dX7_takes_61 : decode cX7_takes 61 = .ok (.aload_n 1, 1) := by decide +kernel
theorem dX7_takes_62 : decode cX7_takes 62 = .ok (.iload_n 2, 1) := by decide +kernel
theorem dX7_takes_63 : decode cX7_takes 63 = .ok (.bipush 9, 2) := by decide +kernel
theorem dX7_takes_65 : decode cX7_takes 65 = .ok (.iadd, 1) := by decide +kernel
theorem dX7_takes_66 : decode cX7_takes 66 = .ok (.iload_n 3, 1) := by decide +kernel
theorem dX7_takes_67 : decode cX7_takes 67 = .ok (.iadd, 1) := by decide +kernel
theorem dX7_takes_68 : decode cX7_takes 68 = .ok (.iaload, 1) := by decide +kernel
theorem dX7_takes_69 : decode cX7_takes 69 = .ok (.iastore, 1) := by decide +kernel
theorem dX7_takes_70 : decode cX7_takes 70 = .ok (.aload_n 0, 1) := by decide +kernel
theorem dX7_takes_71 : decode cX7_takes 71 = .ok (.getfield 28, 3) := by decide +kernel
theorem dX7_takes_74 : decode cX7_takes 74 = .ok (.iload_n 3, 1) := by decide +kernel
theorem dX7_takes_75 : decode cX7_takes 75 = .ok (.aload_n 1, 1) := by decide +kernel
theorem dX7_takes_76 : decode cX7_takes 76 = .ok (.iload_n 2, 1) := by decide +kernel
theorem dX7_takes_77 : decode cX7_takes 77 = .ok (.bipush 15, 2) := by decide +kernel
theorem dX7_takes_79 : decode cX7_takes 79 = .ok (.iadd, 1) := by decide +kernel
theorem dX7_takes_80 : decode cX7_takes 80 = .ok (.iload_n 3, 1) := by decide +kernel
theorem dX7_takes_81 : decode cX7_takes 81 = .ok (.iadd, 1) := by decide +kernel
theorem dX7_takes_82 : decode cX7_takes 82 = .ok (.iaload, 1) := by decide +kernel
theorem dX7_takes_83 : decode cX7_takes 83 = .ok (.iastore, 1) := by decide +kernel
theorem dX7_takes_84 : decode cX7_takes 84 = .ok (.aload_n 0, 1) := by decide +kernel
theorem dX7_takes_85 : decode cX7_takes 85 = .ok (.getfield 31, 3) := by decide +kernel
theorem dX7_takes_88 : decode cX7_takes 88 = .ok (.iload_n 3, 1) := by decide +kernel
theorem dX7_takes_89 : decode cX7_takes 89 = .ok (.aload_n 1, 1) := by decide +kernel
theorem dX7_takes_90 : decode cX7_takes 90 = .ok (.iload_n 2, 1) := by decide +kernel
theorem dX7_takes_91 : decode cX7_takes 91 = .ok (.bipush 21, 2) := by decide +kernel
theorem dX7_takes_93 : decode cX7_takes 93 = .ok (.iadd, 1) := by decide +kernel
theorem dX7_takes_94 : decode cX7_takes 94 = .ok (.iload_n 3, 1) := by decide +kernel
theorem dX7_takes_95 : decode cX7_takes 95 = .ok (.iadd, 1) := by decide +kernel
theorem dX7_takes_96 : decode cX7_takes 96 = .ok (.iaload, 1) := by decide +kernel
theorem dX7_takes_97 : decode cX7_takes 97 = .ok (.iastore, 1) := by decide +kernel
theorem dX7_takes_98 : decode cX7_takes 98 = .ok (.aload_n 0, 1) := by decide +kernel
theorem dX7_takes_99 : decode cX7_takes 99 = .ok (.getfield 34, 3) := by decide +kernel
theorem dX7_takes_102 : decode cX7_takes 102 = .ok (.iload_n 3, 1) := by decide +kernel
theorem dX7_takes_103 : decode cX7_takes 103 = .ok (.aload_n 1, 1) := by decide +kernel
theorem dX7_takes_104 : decode cX7_takes 104 = .ok (.iload_n 2, 1) := by decide +kernel
theorem dX7_takes_105 : decode cX7_takes 105 = .ok (.bipush 27, 2) := by decide +kernel
theorem dX7_takes_107 : decode cX7_takes 107 = .ok (.iadd, 1) := by decide +kernel
theorem dX7_takes_108 : decode cX7_takes 108 = .ok (.iload_n 3, 1) := by decide +kernel
theorem dX7_takes_109 : decode cX7_takes 109 = .ok (.iadd, 1) := by decide +kernel
theorem dX7_takes_110 : decode cX7_takes 110 = .ok (.iaload, 1) := by decide +kernel
theorem dX7_takes_111 : decode cX7_takes 111 = .ok (.iastore, 1) := by decide +kernel
theorem dX7_takes_112 : decode cX7_takes 112 = .ok (.aload_n 0, 1) := by decide +kernel
theorem dX7_takes_113 : decode cX7_takes 113 = .ok (.getfield 37, 3) := by decide +kernel
theorem dX7_takes_116 : decode cX7_takes 116 = .ok (.iload_n 3, 1) := by decide +kernel
theorem dX7_takes_117 : decode cX7_takes 117 = .ok (.aload_n 1, 1) := by decide +kernel
theorem dX7_takes_118 : decode cX7_takes 118 = .ok (.iload_n 2, 1) := by decide +kernel
theorem dX7_takes_119 : decode cX7_takes 119 = .ok (.bipush 33, 2) := by decide +kernel
theorem dX7_takes_121 : decode cX7_takes 121 = .ok (.iadd, 1) := by decide +kernel
theorem dX7_takes_122 : decode cX7_takes 122 = .ok (.iload_n 3, 1) := by decide +kernel
theorem dX7_takes_123 : decode cX7_takes 123 = .ok (.iadd, 1) := by decide +kernel
theorem dX7_takes_124 : decode cX7_takes 124 = .ok (.iaload, 1) := by decide +kernel
theorem dX7_takes_125 : decode cX7_takes 125 = .ok (.iastore, 1) := by decide +kernel
theorem dX7_takes_126 : decode cX7_takes 126 = .ok (.aload_n 0, 1) := by decide +kernel
theorem dX7_takes_127 : decode cX7_takes 127 = .ok (.getfield 40, 3) := by decide +kernel
theorem dX7_takes_130 : decode cX7_takes 130 = .ok (.iload_n 3, 1) := by decide +kernel
theorem dX7_takes_131 : decode cX7_takes 131 = .ok (.aload_n 1, 1) := by decide +kernel
theorem dX7_takes_132 : decode cX7_takes 132 = .ok (.iload_n 2, 1) := by decide +kernel
theorem dX7_takes_133 : decode cX7_takes 133 = .ok (.bipush 39, 2) := by decide +kernel
theorem dX7_takes_135 : decode cX7_takes 135 = .ok (.iadd, 1) := by decide +kernel
theorem dX7_takes_136 : decode cX7_takes 136 = .ok (.iload_n 3, 1) := by decide +kernel
theorem dX7_takes_137 : decode cX7_takes 137 = .ok (.iadd, 1) := by decide +kernel
theorem dX7_takes_138 : decode cX7_takes 138 = .ok (.iaload, 1) := by decide +kernel
theorem dX7_takes_139 : decode cX7_takes 139 = .ok (.iastore, 1) := by decide +kernel
theorem dX7_takes_140 : decode cX7_takes 140 = .ok (.aload_n 0, 1) := by decide +kernel
theorem dX7_takes_141 : decode cX7_takes 141 = .ok (.getfield 43, 3) := by decide +kernel
theorem dX7_takes_144 : decode cX7_takes 144 = .ok (.iload_n 3, 1) := by decide +kernel
theorem dX7_takes_145 : decode cX7_takes 145 = .ok (.aload_n 1, 1) := by decide +kernel
theorem dX7_takes_146 : decode cX7_takes 146 = .ok (.iload_n 2, 1) := by decide +kernel
theorem dX7_takes_147 : decode cX7_takes 147 = .ok (.bipush 45, 2) := by decide +kernel
theorem dX7_takes_149 : decode cX7_takes 149 = .ok (.iadd, 1) := by decide +kernel
theorem dX7_takes_150 : decode cX7_takes 150 = .ok (.iload_n 3, 1) := by decide +kernel
theorem dX7_takes_151 : decode cX7_takes 151 = .ok (.iadd, 1) := by decide +kernel
theorem dX7_takes_152 : decode cX7_takes 152 = .ok (.iaload, 1) := by decide +kernel
theorem dX7_takes_153 : decode cX7_takes 153 = .ok (.iastore, 1) := by decide +kernel
theorem dX7_takes_154 : decode cX7_takes 154 = .ok (.iinc 3 1, 3) := by decide +kernel
theorem dX7_takes_157 : decode cX7_takes 157 = .ok (.goto (-120), 3) := by decide +kernel
theorem dX7_takes_160 : decode cX7_takes 160 = .ok (.return_, 1) := by decide +kernel
theorem dX7_notes_0 : decode cX7_notes 0 = .ok (.aload_n 0, 1) := by decide +kernel
theorem dX7_notes_1 : decode cX7_notes 1 = .ok (.getfield 145, 3) := by decide +kernel
theorem dX7_notes_4 : decode cX7_notes 4 = .ok (.bipush 8, 2) := by decide +kernel
theorem dX7_notes_6 : decode cX7_notes 6 = .ok (.if_icmp .ne 43, 3) := by decide +kernel
theorem dX7_notes_9 : decode cX7_notes 9 = .ok (.iconst 0, 1) := by decide +kernel
theorem dX7_notes_10 : decode cX7_notes 10 = .ok (.istore_n 1, 1) := by decide +kernel
theorem dX7_notes_11 : decode cX7_notes 11 = .ok (.iload_n 1, 1) := by decide +kernel
theorem dX7_notes_12 : decode cX7_notes 12 = .ok (.sipush 364, 3) := by decide +kernel
theorem dX7_notes_15 : decode cX7_notes 15 = .ok (.if_icmp .ge 24, 3) := by decide +kernel
theorem dX7_notes_18 : decode cX7_notes 18 = .ok (.aload_n 0, 1) := by decide +kernel
theorem dX7_notes_19 : decode cX7_notes 19 = .ok (.getfield 61, 3) := by decide +kernel
theorem dX7_notes_22 : decode cX7_notes 22 = .ok (.iload_n 1, 1) := by decide +kernel
theorem dX7_notes_23 : decode cX7_notes 23 = .ok (.aload_n 0, 1) := by decide +kernel
end
section
theorem dX7_notes_24 : decode cX7_notes 24 = .ok (.getfield 61, 3) := by decide +kernel
theorem dX7_notes_27 : decode cX7_notes 27 = .ok (.iload_n 1, 1) := by decide +kernel
theorem dX7_notes_28 : decode cX7_notes 28 = .ok (.bipush 52, 2) := by decide +kernel
theorem dX7_notes_30 : decode cX7_notes 30 = .ok (.iadd, 1) := by decide +kernel
theorem dX7_notes_31 : decode cX7_notes 31 = .ok (.iaload, 1) := by decide +kernel
theorem dX7_notes_32 : decode cX7_notes 32 = .ok (.iastore, 1) := by decide +kernel
theorem dX7_notes_33 : decode cX7_notes 33 = .ok (.iinc 1 1, 3) := by decide +kernel
theorem dX7_notes_36 : decode cX7_notes 36 = .ok (.goto (-25), 3) := by decide +kernel
theorem dX7_notes_39 : decode cX7_notes 39 = .ok (.aload_n 0, 1) := by decide +kernel
theorem dX7_notes_40 : decode cX7_notes 40 = .ok (.dup, 1) := by decide +kernel
theorem dX7_notes_41 : decode cX7_notes 41 = .ok (.getfield 145, 3) := by decide +kernel
theorem dX7_notes_44 : decode cX7_notes 44 = .ok (.iconst 1, 1) := by decide +kernel
theorem dX7_notes_45 : decode cX7_notes 45 = .ok (.isub, 1) := by decide +kernel
theorem dX7_notes_46 : decode cX7_notes 46 = .ok (.putfield 145, 3) := by decide +kernel
theorem dX7_notes_49 : decode cX7_notes 49 = .ok (.aload_n 0, 1) := by decide +kernel
theorem dX7_notes_50 : decode cX7_notes 50 = .ok (.aload_n 0, 1) := by decide +kernel
theorem dX7_notes_51 : decode cX7_notes 51 = .ok (.getfield 61, 3) := by decide +kernel
theorem dX7_notes_54 : decode cX7_notes 54 = .ok (.bipush 52, 2) := by decide +kernel
theorem dX7_notes_56 : decode cX7_notes 56 = .ok (.aload_n 0, 1) := by decide +kernel
theorem dX7_notes_57 : decode cX7_notes 57 = .ok (.getfield 145, 3) := by decide +kernel
theorem dX7_notes_60 : decode cX7_notes 60 = .ok (.imul, 1) := by decide +kernel
theorem dX7_notes_61 : decode cX7_notes 61 = .ok (.invokevirtual 169, 3) := by decide +kernel
theorem dX7_notes_64 : decode cX7_notes 64 = .ok (.aload_n 0, 1) := by decide +kernel
theorem dX7_notes_65 : decode cX7_notes 65 = .ok (.dup, 1) := by decide +kernel
theorem dX7_notes_66 : decode cX7_notes 66 = .ok (.getfield 145, 3) := by decide +kernel
theorem dX7_notes_69 : decode cX7_notes 69 = .ok (.iconst 1, 1) := by decide +kernel
theorem dX7_notes_70 : decode cX7_notes 70 = .ok (.iadd, 1) := by decide +kernel
theorem dX7_notes_71 : decode cX7_notes 71 = .ok (.putfield 145, 3) := by decide +kernel
theorem dX7_notes_74 : decode cX7_notes 74 = .ok (.return_, 1) := by decide +kernel
theorem dX7_isOpen_0 : decode cX7_isOpen 0 = .ok (.aload_n 0, 1) := by decide +kernel
theorem dX7_isOpen_1 : decode cX7_isOpen 1 = .ok (.getfield 43, 3) := by decide +kernel
theorem dX7_isOpen_4 : decode cX7_isOpen 4 = .ok (.iload_n 1, 1) := by decide +kernel
theorem dX7_isOpen_5 : decode cX7_isOpen 5 = .ok (.iaload, 1) := by decide +kernel
theorem dX7_isOpen_6 : decode cX7_isOpen 6 = .ok (.ifCond .ne 18, 3) := by decide +kernel
theorem dX7_isOpen_9 : decode cX7_isOpen 9 = .ok (.aload_n 0, 1) := by decide +kernel
theorem dX7_isOpen_10 : decode cX7_isOpen 10 = .ok (.getfield 31, 3) := by decide +kernel
theorem dX7_isOpen_13 : decode cX7_isOpen 13 = .ok (.iload_n 1, 1) := by decide +kernel
theorem dX7_isOpen_14 : decode cX7_isOpen 14 = .ok (.iaload, 1) := by decide +kernel
theorem dX7_isOpen_15 : decode cX7_isOpen 15 = .ok (.bipush (-4), 2) := by decide +kernel
theorem dX7_isOpen_17 : decode cX7_isOpen 17 = .ok (.if_icmp .ne 7, 3) := by decide +kernel
theorem dX7_isOpen_20 : decode cX7_isOpen 20 = .ok (.iconst 1, 1) := by decide +kernel
theorem dX7_isOpen_21 : decode cX7_isOpen 21 = .ok (.goto 4, 3) := by decide +kernel
theorem dX7_isOpen_24 : decode cX7_isOpen 24 = .ok (.iconst 0, 1) := by decide +kernel
theorem dX7_isOpen_25 : decode cX7_isOpen 25 = .ok (.ireturn, 1) := by decide +kernel
theorem dX7_maySend_0 : decode cX7_maySend 0 = .ok (.aload_n 0, 1) := by decide +kernel
theorem dX7_maySend_1 : decode cX7_maySend 1 = .ok (.iload_n 1, 1) := by decide +kernel
theorem dX7_maySend_2 : decode cX7_maySend 2 = .ok (.invokevirtual 173, 3) := by decide +kernel
theorem dX7_maySend_5 : decode cX7_maySend 5 = .ok (.ifCond .eq 21, 3) := by decide +kernel
theorem dX7_maySend_8 : decode cX7_maySend 8 = .ok (.aload_n 0, 1) := by decide +kernel
theorem dX7_maySend_9 : decode cX7_maySend 9 = .ok (.getfield 91, 3) := by decide +kernel
theorem dX7_maySend_12 : decode cX7_maySend 12 = .ok (.ifCond .le 14, 3) := by decide +kernel
theorem dX7_maySend_15 : decode cX7_maySend 15 = .ok (.aload_n 0, 1) := by decide +kernel
theorem dX7_maySend_16 : decode cX7_maySend 16 = .ok (.getfield 94, 3) := by decide +kernel
theorem dX7_maySend_19 : decode cX7_maySend 19 = .ok (.ifCond .ne 7, 3) := by decide +kernel
theorem dX7_maySend_22 : decode cX7_maySend 22 = .ok (.iconst 1, 1) := by decide +kernel
theorem dX7_maySend_23 : decode cX7_maySend 23 = .ok (.goto 4, 3) := by decide +kernel
theorem dX7_maySend_26 : decode cX7_maySend 26 = .ok (.iconst 0, 1) := by decide +kernel
theorem dX7_maySend_27 : decode cX7_maySend 27 = .ok (.ireturn, 1) := by decide +kernel
theorem dX7_goesOut_0 : decode cX7_goesOut 0 = .ok (.aload_n 0, 1) := by decide +kernel
theorem dX7_goesOut_1 : decode cX7_goesOut 1 = .ok (.getfield 43, 3) := by decide +kernel
theorem dX7_goesOut_4 : decode cX7_goesOut 4 = .ok (.iload_n 1, 1) := by decide +kernel
theorem dX7_goesOut_5 : decode cX7_goesOut 5 = .ok (.iconst 1, 1) := by decide +kernel
theorem dX7_goesOut_6 : decode cX7_goesOut 6 = .ok (.iastore, 1) := by decide +kernel
theorem dX7_goesOut_7 : decode cX7_goesOut 7 = .ok (.aload_n 0, 1) := by decide +kernel
theorem dX7_goesOut_8 : decode cX7_goesOut 8 = .ok (.getfield 22, 3) := by decide +kernel
theorem dX7_goesOut_11 : decode cX7_goesOut 11 = .ok (.iload_n 1, 1) := by decide +kernel
theorem dX7_goesOut_12 : decode cX7_goesOut 12 = .ok (.iconst 1, 1) := by decide +kernel
theorem dX7_goesOut_13 : decode cX7_goesOut 13 = .ok (.iastore, 1) := by decide +kernel
theorem dX7_goesOut_14 : decode cX7_goesOut 14 = .ok (.aload_n 0, 1) := by decide +kernel
theorem dX7_goesOut_15 : decode cX7_goesOut 15 = .ok (.getfield 25, 3) := by decide +kernel
theorem dX7_goesOut_18 : decode cX7_goesOut 18 = .ok (.iload_n 1, 1) := by decide +kernel
theorem dX7_goesOut_19 : decode cX7_goesOut 19 = .ok (.aload_n 0, 1) := by decide +kernel
theorem dX7_goesOut_20 : decode cX7_goesOut 20 = .ok (.getfield 88, 3) := by decide +kernel
theorem dX7_goesOut_23 : decode cX7_goesOut 23 = .ok (.aload_n 0, 1) := by decide +kernel
theorem dX7_goesOut_24 : decode cX7_goesOut 24 = .ok (.getfield 13, 3) := by decide +kernel
theorem dX7_goesOut_27 : decode cX7_goesOut 27 = .ok (.iload_n 1, 1) := by decide +kernel
theorem dX7_goesOut_28 : decode cX7_goesOut 28 = .ok (.iaload, 1) := by decide +kernel
theorem dX7_goesOut_29 : decode cX7_goesOut 29 = .ok (.bipush 10, 2) := by decide +kernel
theorem dX7_goesOut_31 : decode cX7_goesOut 31 = .ok (.idiv, 1) := by decide +kernel
theorem dX7_goesOut_32 : decode cX7_goesOut 32 = .ok (.iadd, 1) := by decide +kernel
theorem dX7_goesOut_33 : decode cX7_goesOut 33 = .ok (.iconst 1, 1) := by decide +kernel
theorem dX7_goesOut_34 : decode cX7_goesOut 34 = .ok (.iadd, 1) := by decide +kernel
theorem dX7_goesOut_35 : decode cX7_goesOut 35 = .ok (.iastore, 1) := by decide +kernel
theorem dX7_goesOut_36 : decode cX7_goesOut 36 = .ok (.return_, 1) := by decide +kernel
theorem dX7_sends_0 : decode cX7_sends 0 = .ok (.aload_n 0, 1) := by decide +kernel
theorem dX7_sends_1 : decode cX7_sends 1 = .ok (.iload_n 1, 1) := by decide +kernel
theorem dX7_sends_2 : decode cX7_sends 2 = .ok (.invokevirtual 176, 3) := by decide +kernel
theorem dX7_sends_5 : decode cX7_sends 5 = .ok (.aload_n 0, 1) := by decide +kernel
theorem dX7_sends_6 : decode cX7_sends 6 = .ok (.dup, 1) := by decide +kernel
theorem dX7_sends_7 : decode cX7_sends 7 = .ok (.getfield 91, 3) := by decide +kernel
theorem dX7_sends_10 : decode cX7_sends 10 = .ok (.iconst 1, 1) := by decide +kernel
theorem dX7_sends_11 : decode cX7_sends 11 = .ok (.isub, 1) := by decide +kernel
theorem dX7_sends_12 : decode cX7_sends 12 = .ok (.putfield 91, 3) := by decide +kernel
theorem dX7_sends_15 : decode cX7_sends 15 = .ok (.aload_n 0, 1) := by decide +kernel
theorem dX7_sends_16 : decode cX7_sends 16 = .ok (.iconst 1, 1) := by decide +kernel
theorem dX7_sends_17 : decode cX7_sends 17 = .ok (.putfield 94, 3) := by decide +kernel
theorem dX7_sends_20 : decode cX7_sends 20 = .ok (.return_, 1) := by decide +kernel
theorem dX7_calls_0 : decode cX7_calls 0 = .ok (.aload_n 0, 1) := by decide +kernel
theorem dX7_calls_1 : decode cX7_calls 1 = .ok (.bipush 20, 2) := by decide +kernel
theorem dX7_calls_3 : decode cX7_calls 3 = .ok (.aload_n 0, 1) := by decide +kernel
theorem dX7_calls_4 : decode cX7_calls 4 = .ok (.getfield 91, 3) := by decide +kernel
theorem dX7_calls_7 : decode cX7_calls 7 = .ok (.aload_n 0, 1) := by decide +kernel
theorem dX7_calls_8 : decode cX7_calls 8 = .ok (.getfield 22, 3) := by decide +kernel
theorem dX7_calls_11 : decode cX7_calls 11 = .ok (.iload_n 1, 1) := by decide +kernel
theorem dX7_calls_12 : decode cX7_calls 12 = .ok (.iaload, 1) := by decide +kernel
theorem dX7_calls_13 : decode cX7_calls 13 = .ok (.iadd, 1) := by decide +kernel
theorem dX7_calls_14 : decode cX7_calls 14 = .ok (.invokestatic 179, 3) := by decide +kernel
theorem dX7_calls_17 : decode cX7_calls 17 = .ok (.putfield 91, 3) := by decide +kernel
theorem dX7_calls_20 : decode cX7_calls 20 = .ok (.aload_n 0, 1) := by decide +kernel
theorem dX7_calls_21 : decode cX7_calls 21 = .ok (.getfield 22, 3) := by decide +kernel
theorem dX7_calls_24 : decode cX7_calls 24 = .ok (.iload_n 1, 1) := by decide +kernel
theorem dX7_calls_25 : decode cX7_calls 25 = .ok (.iconst 0, 1) := by decide +kernel
theorem dX7_calls_26 : decode cX7_calls 26 = .ok (.iastore, 1) := by decide +kernel
theorem dX7_calls_27 : decode cX7_calls 27 = .ok (.aload_n 0, 1) := by decide +kernel
theorem dX7_calls_28 : decode cX7_calls 28 = .ok (.getfield 25, 3) := by decide +kernel
theorem dX7_calls_31 : decode cX7_calls 31 = .ok (.iload_n 1, 1) := by decide +kernel
theorem dX7_calls_32 : decode cX7_calls 32 = .ok (.bipush (-4), 2) := by decide +kernel
theorem dX7_calls_34 : decode cX7_calls 34 = .ok (.iastore, 1) := by decide +kernel
theorem dX7_calls_35 : decode cX7_calls 35 = .ok (.aload_n 0, 1) := by decide +kernel
theorem dX7_calls_36 : decode cX7_calls 36 = .ok (.getfield 43, 3) := by decide +kernel
theorem dX7_calls_39 : decode cX7_calls 39 = .ok (.iload_n 1, 1) := by decide +kernel
theorem dX7_calls_40 : decode cX7_calls 40 = .ok (.iconst 0, 1) := by decide +kernel
theorem dX7_calls_41 : decode cX7_calls 41 = .ok (.iastore, 1) := by decide +kernel
theorem dX7_calls_42 : decode cX7_calls 42 = .ok (.aload_n 0, 1) := by decide +kernel
theorem dX7_calls_43 : decode cX7_calls 43 = .ok (.getfield 40, 3) := by decide +kernel
theorem dX7_calls_46 : decode cX7_calls 46 = .ok (.iload_n 1, 1) := by decide +kernel
theorem dX7_calls_47 : decode cX7_calls 47 = .ok (.iconst 0, 1) := by decide +kernel
theorem dX7_calls_48 : decode cX7_calls 48 = .ok (.iastore, 1) := by decide +kernel
theorem dX7_calls_49 : decode cX7_calls 49 = .ok (.return_, 1) := by decide +kernel
theorem dX7_send_0 : decode cX7_send 0 = .ok (.aload_n 0, 1) := by decide +kernel
theorem dX7_send_1 : decode cX7_send 1 = .ok (.iload_n 1, 1) := by decide +kernel
theorem dX7_send_2 : decode cX7_send 2 = .ok (.invokevirtual 162, 3) := by decide +kernel
theorem dX7_send_5 : decode cX7_send 5 = .ok (.ifCond .ne 5, 3) := by decide +kernel
theorem dX7_send_8 : decode cX7_send 8 = .ok (.iconst (-1), 1) := by decide +kernel
theorem dX7_send_9 : decode cX7_send 9 = .ok (.ireturn, 1) := by decide +kernel
theorem dX7_send_10 : decode cX7_send 10 = .ok (.aload_n 0, 1) := by decide +kernel
theorem dX7_send_11 : decode cX7_send 11 = .ok (.iload_n 1, 1) := by decide +kernel
theorem dX7_send_12 : decode cX7_send 12 = .ok (.invokevirtual 182, 3) := by decide +kernel
theorem dX7_send_15 : decode cX7_send 15 = .ok (.ifCond .ne 6, 3) := by decide +kernel
theorem dX7_send_18 : decode cX7_send 18 = .ok (.bipush (-2), 2) := by decide +kernel
theorem dX7_send_20 : decode cX7_send 20 = .ok (.ireturn, 1) := by decide +kernel
theorem dX7_send_21 : decode cX7_send 21 = .ok (.aload_n 0, 1) := by decide +kernel
theorem dX7_send_22 : decode cX7_send 22 = .ok (.invokevirtual 185, 3) := by decide +kernel
theorem dX7_send_25 : decode cX7_send 25 = .ok (.aload_n 0, 1) := by decide +kernel
theorem dX7_send_26 : decode cX7_send 26 = .ok (.iload_n 1, 1) := by decide +kernel
theorem dX7_send_27 : decode cX7_send 27 = .ok (.invokevirtual 188, 3) := by decide +kernel
theorem dX7_send_30 : decode cX7_send 30 = .ok (.aload_n 0, 1) := by decide +kernel
theorem dX7_send_31 : decode cX7_send 31 = .ok (.getfield 25, 3) := by decide +kernel
theorem dX7_send_34 : decode cX7_send 34 = .ok (.iload_n 1, 1) := by decide +kernel
theorem dX7_send_35 : decode cX7_send 35 = .ok (.iaload, 1) := by decide +kernel
theorem dX7_send_36 : decode cX7_send 36 = .ok (.ireturn, 1) := by decide +kernel
theorem dX7_call_0 : decode cX7_call 0 = .ok (.aload_n 0, 1) := by decide +kernel
theorem dX7_call_1 : decode cX7_call 1 = .ok (.iload_n 1, 1) := by decide +kernel
theorem dX7_call_2 : decode cX7_call 2 = .ok (.invokevirtual 162, 3) := by decide +kernel
theorem dX7_call_5 : decode cX7_call 5 = .ok (.ifCond .ne 5, 3) := by decide +kernel
theorem dX7_call_8 : decode cX7_call 8 = .ok (.iconst (-1), 1) := by decide +kernel
theorem dX7_call_9 : decode cX7_call 9 = .ok (.ireturn, 1) := by decide +kernel
theorem dX7_call_10 : decode cX7_call 10 = .ok (.aload_n 0, 1) := by decide +kernel
theorem dX7_call_11 : decode cX7_call 11 = .ok (.getfield 22, 3) := by decide +kernel
theorem dX7_call_14 : decode cX7_call 14 = .ok (.iload_n 1, 1) := by decide +kernel
theorem dX7_call_15 : decode cX7_call 15 = .ok (.iaload, 1) := by decide +kernel
theorem dX7_call_16 : decode cX7_call 16 = .ok (.ifCond .ne 6, 3) := by decide +kernel
theorem dX7_call_19 : decode cX7_call 19 = .ok (.bipush (-2), 2) := by decide +kernel
theorem dX7_call_21 : decode cX7_call 21 = .ok (.ireturn, 1) := by decide +kernel
theorem dX7_call_22 : decode cX7_call 22 = .ok (.aload_n 0, 1) := by decide +kernel
theorem dX7_call_23 : decode cX7_call 23 = .ok (.invokevirtual 185, 3) := by decide +kernel
theorem dX7_call_26 : decode cX7_call 26 = .ok (.aload_n 0, 1) := by decide +kernel
theorem dX7_call_27 : decode cX7_call 27 = .ok (.iload_n 1, 1) := by decide +kernel
theorem dX7_call_28 : decode cX7_call 28 = .ok (.invokevirtual 191, 3) := by decide +kernel
theorem dX7_call_31 : decode cX7_call 31 = .ok (.aload_n 0, 1) := by decide +kernel
theorem dX7_call_32 : decode cX7_call 32 = .ok (.getfield 91, 3) := by decide +kernel
theorem dX7_call_35 : decode cX7_call 35 = .ok (.ireturn, 1) := by decide +kernel
theorem dX7_buy_0 : decode cX7_buy 0 = .ok (.aload_n 0, 1) := by decide +kernel
theorem dX7_buy_1 : decode cX7_buy 1 = .ok (.getfield 91, 3) := by decide +kernel
theorem dX7_buy_4 : decode cX7_buy 4 = .ok (.bipush 20, 2) := by decide +kernel
theorem dX7_buy_6 : decode cX7_buy 6 = .ok (.if_icmp .ne 6, 3) := by decide +kernel
theorem dX7_buy_9 : decode cX7_buy 9 = .ok (.bipush (-3), 2) := by decide +kernel
theorem dX7_buy_11 : decode cX7_buy 11 = .ok (.ireturn, 1) := by decide +kernel
theorem dX7_buy_12 : decode cX7_buy 12 = .ok (.aload_n 0, 1) := by decide +kernel
theorem dX7_buy_13 : decode cX7_buy 13 = .ok (.invokevirtual 185, 3) := by decide +kernel
theorem dX7_buy_16 : decode cX7_buy 16 = .ok (.aload_n 0, 1) := by decide +kernel
theorem dX7_buy_17 : decode cX7_buy 17 = .ok (.dup, 1) := by decide +kernel
theorem dX7_buy_18 : decode cX7_buy 18 = .ok (.getfield 91, 3) := by decide +kernel
theorem dX7_buy_21 : decode cX7_buy 21 = .ok (.iconst 1, 1) := by decide +kernel
theorem dX7_buy_22 : decode cX7_buy 22 = .ok (.iadd, 1) := by decide +kernel
theorem dX7_buy_23 : decode cX7_buy 23 = .ok (.putfield 91, 3) := by decide +kernel
theorem dX7_buy_26 : decode cX7_buy 26 = .ok (.aload_n 0, 1) := by decide +kernel
theorem dX7_buy_27 : decode cX7_buy 27 = .ok (.getfield 91, 3) := by decide +kernel
theorem dX7_buy_30 : decode cX7_buy 30 = .ok (.ireturn, 1) := by decide +kernel
theorem dX7_pass_0 : decode cX7_pass 0 = .ok (.iload_n 1, 1) := by decide +kernel
theorem dX7_pass_1 : decode cX7_pass 1 = .ok (.iconst 1, 1) := by decide +kernel
theorem dX7_pass_2 : decode cX7_pass 2 = .ok (.bipush 20, 2) := by decide +kernel
theorem dX7_pass_4 : decode cX7_pass 4 = .ok (.invokestatic 100, 3) := by decide +kernel
theorem dX7_pass_7 : decode cX7_pass 7 = .ok (.ifCond .ne 5, 3) := by decide +kernel
theorem dX7_pass_10 : decode cX7_pass 10 = .ok (.iconst (-1), 1) := by decide +kernel
theorem dX7_pass_11 : decode cX7_pass 11 = .ok (.ireturn, 1) := by decide +kernel
theorem dX7_pass_12 : decode cX7_pass 12 = .ok (.aload_n 0, 1) := by decide +kernel
theorem dX7_pass_13 : decode cX7_pass 13 = .ok (.getfield 88, 3) := by decide +kernel
theorem dX7_pass_16 : decode cX7_pass 16 = .ok (.iload_n 1, 1) := by decide +kernel
theorem dX7_pass_17 : decode cX7_pass 17 = .ok (.iadd, 1) := by decide +kernel
theorem dX7_pass_18 : decode cX7_pass 18 = .ok (.sipush 999, 3) := by decide +kernel
theorem dX7_pass_21 : decode cX7_pass 21 = .ok (.if_icmp .le 6, 3) := by decide +kernel
theorem dX7_pass_24 : decode cX7_pass 24 = .ok (.bipush (-2), 2) := by decide +kernel
theorem dX7_pass_26 : decode cX7_pass 26 = .ok (.ireturn, 1) := by decide +kernel
theorem dX7_pass_27 : decode cX7_pass 27 = .ok (.aload_n 0, 1) := by decide +kernel
theorem dX7_pass_28 : decode cX7_pass 28 = .ok (.invokevirtual 185, 3) := by decide +kernel
theorem dX7_pass_31 : decode cX7_pass 31 = .ok (.aload_n 0, 1) := by decide +kernel
theorem dX7_pass_32 : decode cX7_pass 32 = .ok (.iload_n 1, 1) := by decide +kernel
theorem dX7_pass_33 : decode cX7_pass 33 = .ok (.invokevirtual 194, 3) := by decide +kernel
theorem dX7_pass_36 : decode cX7_pass 36 = .ok (.ireturn, 1) := by decide +kernel
theorem dX7_undo_0 : decode cX7_undo 0 = .ok (.aload_n 0, 1) := by decide +kernel
theorem dX7_undo_1 : decode cX7_undo 1 = .ok (.getfield 145, 3) := by decide +kernel
theorem dX7_undo_4 : decode cX7_undo 4 = .ok (.ifCond .ne 6, 3) := by decide +kernel
theorem dX7_undo_7 : decode cX7_undo 7 = .ok (.bipush (-2), 2) := by decide +kernel
theorem dX7_undo_9 : decode cX7_undo 9 = .ok (.ireturn, 1) := by decide +kernel
theorem dX7_undo_10 : decode cX7_undo 10 = .ok (.aload_n 0, 1) := by decide +kernel
theorem dX7_undo_11 : decode cX7_undo 11 = .ok (.dup, 1) := by decide +kernel
theorem dX7_undo_12 : decode cX7_undo 12 = .ok (.getfield 145, 3) := by decide +kernel
theorem dX7_undo_15 : decode cX7_undo 15 = .ok (.iconst 1, 1) := by decide +kernel
theorem dX7_undo_16 : decode cX7_undo 16 = .ok (.isub, 1) := by decide +kernel
theorem dX7_undo_17 : decode cX7_undo 17 = .ok (.putfield 145, 3) := by decide +kernel
theorem dX7_undo_20 : decode cX7_undo 20 = .ok (.aload_n 0, 1) := by decide +kernel
theorem dX7_undo_21 : decode cX7_undo 21 = .ok (.aload_n 0, 1) := by decide +kernel
theorem dX7_undo_22 : decode cX7_undo 22 = .ok (.getfield 61, 3) := by decide +kernel
theorem dX7_undo_25 : decode cX7_undo 25 = .ok (.bipush 52, 2) := by decide +kernel
theorem dX7_undo_27 : decode cX7_undo 27 = .ok (.aload_n 0, 1) := by decide +kernel
theorem dX7_undo_28 : decode cX7_undo 28 = .ok (.getfield 145, 3) := by decide +kernel
theorem dX7_undo_31 : decode cX7_undo 31 = .ok (.imul, 1) := by decide +kernel
theorem dX7_undo_32 : decode cX7_undo 32 = .ok (.invokevirtual 198, 3) := by decide +kernel
theorem dX7_undo_35 : decode cX7_undo 35 = .ok (.aload_n 0, 1) := by decide +kernel
theorem dX7_undo_36 : decode cX7_undo 36 = .ok (.getfield 145, 3) := by decide +kernel
theorem dX7_undo_39 : decode cX7_undo 39 = .ok (.ireturn, 1) := by decide +kernel
theorem dX7_start_0 : decode cX7_start 0 = .ok (.aload_n 0, 1) := by decide +kernel
theorem dX7_start_1 : decode cX7_start 1 = .ok (.aload_n 0, 1) := by decide +kernel
theorem dX7_start_2 : decode cX7_start 2 = .ok (.getfield 64, 3) := by decide +kernel
theorem dX7_start_5 : decode cX7_start 5 = .ok (.iconst 0, 1) := by decide +kernel
theorem dX7_start_6 : decode cX7_start 6 = .ok (.invokevirtual 169, 3) := by decide +kernel
theorem dX7_start_9 : decode cX7_start 9 = .ok (.return_, 1) := by decide +kernel
theorem dX7_putBack_0 : decode cX7_putBack 0 = .ok (.aload_n 0, 1) := by decide +kernel
theorem dX7_putBack_1 : decode cX7_putBack 1 = .ok (.aload_n 0, 1) := by decide +kernel
theorem dX7_putBack_2 : decode cX7_putBack 2 = .ok (.getfield 64, 3) := by decide +kernel
theorem dX7_putBack_5 : decode cX7_putBack 5 = .ok (.iconst 0, 1) := by decide +kernel
theorem dX7_putBack_6 : decode cX7_putBack 6 = .ok (.invokevirtual 198, 3) := by decide +kernel
theorem dX7_putBack_9 : decode cX7_putBack 9 = .ok (.return_, 1) := by decide +kernel
theorem dX7_behind_0 : decode cX7_behind 0 = .ok (.iload_n 1, 1) := by decide +kernel
theorem dX7_behind_1 : decode cX7_behind 1 = .ok (.iconst 0, 1) := by decide +kernel
theorem dX7_behind_2 : decode cX7_behind 2 = .ok (.bipush 60, 2) := by decide +kernel
theorem dX7_behind_4 : decode cX7_behind 4 = .ok (.invokestatic 100, 3) := by decide +kernel
theorem dX7_behind_7 : decode cX7_behind 7 = .ok (.ifCond .eq 12, 3) := by decide +kernel
theorem dX7_behind_10 : decode cX7_behind 10 = .ok (.iload_n 2, 1) := by decide +kernel
theorem dX7_behind_11 : decode cX7_behind 11 = .ok (.iconst 0, 1) := by decide +kernel
theorem dX7_behind_12 : decode cX7_behind 12 = .ok (.iconst 2, 1) := by decide +kernel
theorem dX7_behind_13 : decode cX7_behind 13 = .ok (.invokestatic 100, 3) := by decide +kernel
theorem dX7_behind_16 : decode cX7_behind 16 = .ok (.ifCond .ne 5, 3) := by decide +kernel
theorem dX7_behind_19 : decode cX7_behind 19 = .ok (.iconst (-1), 1) := by decide +kernel
theorem dX7_behind_20 : decode cX7_behind 20 = .ok (.ireturn, 1) := by decide +kernel
theorem dX7_behind_21 : decode cX7_behind 21 = .ok (.aload_n 0, 1) := by decide +kernel
theorem dX7_behind_22 : decode cX7_behind 22 = .ok (.invokevirtual 201, 3) := by decide +kernel
theorem dX7_behind_25 : decode cX7_behind 25 = .ok (.aload_n 0, 1) := by decide +kernel
theorem dX7_behind_26 : decode cX7_behind 26 = .ok (.iload_n 1, 1) := by decide +kernel
theorem dX7_behind_27 : decode cX7_behind 27 = .ok (.invokevirtual 194, 3) := by decide +kernel
theorem dX7_behind_30 : decode cX7_behind 30 = .ok (.pop, 1) := by decide +kernel
theorem dX7_behind_31 : decode cX7_behind 31 = .ok (.iload_n 2, 1) := by decide +kernel
theorem dX7_behind_32 : decode cX7_behind 32 = .ok (.ifCond .ne 10, 3) := by decide +kernel
theorem dX7_behind_35 : decode cX7_behind 35 = .ok (.aload_n 0, 1) := by decide +kernel
theorem dX7_behind_36 : decode cX7_behind 36 = .ok (.invokevirtual 204, 3) := by decide +kernel
theorem dX7_behind_39 : decode cX7_behind 39 = .ok (.goto 19, 3) := by decide +kernel
theorem dX7_behind_42 : decode cX7_behind 42 = .ok (.iload_n 2, 1) := by decide +kernel
theorem dX7_behind_43 : decode cX7_behind 43 = .ok (.iconst 1, 1) := by decide +kernel
theorem dX7_behind_44 : decode cX7_behind 44 = .ok (.if_icmp .ne 10, 3) := by decide +kernel
theorem dX7_behind_47 : decode cX7_behind 47 = .ok (.aload_n 0, 1) := by decide +kernel
theorem dX7_behind_48 : decode cX7_behind 48 = .ok (.invokevirtual 207, 3) := by decide +kernel
theorem dX7_behind_51 : decode cX7_behind 51 = .ok (.goto 7, 3) := by decide +kernel
theorem dX7_behind_54 : decode cX7_behind 54 = .ok (.aload_n 0, 1) := by decide +kernel
theorem dX7_behind_55 : decode cX7_behind 55 = .ok (.invokevirtual 210, 3) := by decide +kernel
theorem dX7_behind_58 : decode cX7_behind 58 = .ok (.istore_n 3, 1) := by decide +kernel
theorem dX7_behind_59 : decode cX7_behind 59 = .ok (.aload_n 0, 1) := by decide +kernel
theorem dX7_behind_60 : decode cX7_behind 60 = .ok (.invokevirtual 213, 3) := by decide +kernel
theorem dX7_behind_63 : decode cX7_behind 63 = .ok (.iload_n 3, 1) := by decide +kernel
theorem dX7_behind_64 : decode cX7_behind 64 = .ok (.ireturn, 1) := by decide +kernel
theorem dX7_when_0 : decode cX7_when 0 = .ok (.aload_n 0, 1) := by decide +kernel
theorem dX7_when_1 : decode cX7_when 1 = .ok (.iload_n 1, 1) := by decide +kernel
theorem dX7_when_2 : decode cX7_when 2 = .ok (.invokevirtual 162, 3) := by decide +kernel
theorem dX7_when_5 : decode cX7_when 5 = .ok (.ifCond .ne 5, 3) := by decide +kernel
theorem dX7_when_8 : decode cX7_when 8 = .ok (.iconst (-1), 1) := by decide +kernel
theorem dX7_when_9 : decode cX7_when 9 = .ok (.ireturn, 1) := by decide +kernel
theorem dX7_when_10 : decode cX7_when 10 = .ok (.aload_n 0, 1) := by decide +kernel
theorem dX7_when_11 : decode cX7_when 11 = .ok (.invokevirtual 201, 3) := by decide +kernel
theorem dX7_when_14 : decode cX7_when 14 = .ok (.iconst 0, 1) := by decide +kernel
theorem dX7_when_15 : decode cX7_when 15 = .ok (.istore_n 2, 1) := by decide +kernel
theorem dX7_when_16 : decode cX7_when 16 = .ok (.iload_n 2, 1) := by decide +kernel
theorem dX7_when_17 : decode cX7_when 17 = .ok (.bipush 60, 2) := by decide +kernel
theorem dX7_when_19 : decode cX7_when 19 = .ok (.if_icmp .ge 26, 3) := by decide +kernel
theorem dX7_when_22 : decode cX7_when 22 = .ok (.aload_n 0, 1) := by decide +kernel
theorem dX7_when_23 : decode cX7_when 23 = .ok (.getfield 31, 3) := by decide +kernel
theorem dX7_when_26 : decode cX7_when 26 = .ok (.iload_n 1, 1) := by decide +kernel
theorem dX7_when_27 : decode cX7_when 27 = .ok (.iaload, 1) := by decide +kernel
theorem dX7_when_28 : decode cX7_when 28 = .ok (.bipush (-4), 2) := by decide +kernel
theorem dX7_when_30 : decode cX7_when 30 = .ok (.if_icmp .ne 15, 3) := by decide +kernel
theorem dX7_when_33 : decode cX7_when 33 = .ok (.aload_n 0, 1) := by decide +kernel
theorem dX7_when_34 : decode cX7_when 34 = .ok (.iconst 0, 1) := by decide +kernel
theorem dX7_when_35 : decode cX7_when 35 = .ok (.invokevirtual 158, 3) := by decide +kernel
theorem dX7_when_38 : decode cX7_when 38 = .ok (.pop, 1) := by decide +kernel
theorem dX7_when_39 : decode cX7_when 39 = .ok (.iinc 2 1, 3) := by decide +kernel
theorem dX7_when_42 : decode cX7_when 42 = .ok (.goto (-26), 3) := by decide +kernel
theorem dX7_when_45 : decode cX7_when 45 = .ok (.aload_n 0, 1) := by decide +kernel
theorem dX7_when_46 : decode cX7_when 46 = .ok (.getfield 31, 3) := by decide +kernel
theorem dX7_when_49 : decode cX7_when 49 = .ok (.iload_n 1, 1) := by decide +kernel
theorem dX7_when_50 : decode cX7_when 50 = .ok (.iaload, 1) := by decide +kernel
theorem dX7_when_51 : decode cX7_when 51 = .ok (.bipush (-4), 2) := by decide +kernel
theorem dX7_when_53 : decode cX7_when 53 = .ok (.if_icmp .eq 7, 3) := by decide +kernel
theorem dX7_when_56 : decode cX7_when 56 = .ok (.iconst 1, 1) := by decide +kernel
theorem dX7_when_57 : decode cX7_when 57 = .ok (.goto 4, 3) := by decide +kernel
theorem dX7_when_60 : decode cX7_when 60 = .ok (.iconst 0, 1) := by decide +kernel
theorem dX7_when_61 : decode cX7_when 61 = .ok (.istore_n 3, 1) := by decide +kernel
theorem dX7_when_62 : decode cX7_when 62 = .ok (.aload_n 0, 1) := by decide +kernel
theorem dX7_when_63 : decode cX7_when 63 = .ok (.invokevirtual 213, 3) := by decide +kernel
theorem dX7_when_66 : decode cX7_when 66 = .ok (.iload_n 3, 1) := by decide +kernel
theorem dX7_when_67 : decode cX7_when 67 = .ok (.ifCond .eq 7, 3) := by decide +kernel
theorem dX7_when_70 : decode cX7_when 70 = .ok (.iload_n 2, 1) := by decide +kernel
theorem dX7_when_71 : decode cX7_when 71 = .ok (.goto 5, 3) := by decide +kernel
theorem dX7_when_74 : decode cX7_when 74 = .ok (.bipush (-4), 2) := by decide +kernel
theorem dX7_when_76 : decode cX7_when 76 = .ok (.ireturn, 1) := by decide +kernel
theorem dX7_gentle_0 : decode cX7_gentle 0 = .ok (.aload_n 0, 1) := by decide +kernel
theorem dX7_gentle_1 : decode cX7_gentle 1 = .ok (.invokevirtual 201, 3) := by decide +kernel
theorem dX7_gentle_4 : decode cX7_gentle 4 = .ok (.aload_n 0, 1) := by decide +kernel
theorem dX7_gentle_5 : decode cX7_gentle 5 = .ok (.bipush 60, 2) := by decide +kernel
theorem dX7_gentle_7 : decode cX7_gentle 7 = .ok (.invokevirtual 194, 3) := by decide +kernel
theorem dX7_gentle_10 : decode cX7_gentle 10 = .ok (.pop, 1) := by decide +kernel
theorem dX7_gentle_11 : decode cX7_gentle 11 = .ok (.aload_n 0, 1) := by decide +kernel
theorem dX7_gentle_12 : decode cX7_gentle 12 = .ok (.invokevirtual 216, 3) := by decide +kernel
theorem dX7_gentle_15 : decode cX7_gentle 15 = .ok (.istore_n 1, 1) := by decide +kernel
theorem dX7_gentle_16 : decode cX7_gentle 16 = .ok (.aload_n 0, 1) := by decide +kernel
theorem dX7_gentle_17 : decode cX7_gentle 17 = .ok (.invokevirtual 213, 3) := by decide +kernel
theorem dX7_gentle_20 : decode cX7_gentle 20 = .ok (.iload_n 1, 1) := by decide +kernel
theorem dX7_gentle_21 : decode cX7_gentle 21 = .ok (.ireturn, 1) := by decide +kernel
theorem dX7_isSoftBy_0 : decode cX7_isSoftBy 0 = .ok (.aload_n 0, 1) := by decide +kernel
theorem dX7_isSoftBy_1 : decode cX7_isSoftBy 1 = .ok (.invokevirtual 201, 3) := by decide +kernel
theorem dX7_isSoftBy_4 : decode cX7_isSoftBy 4 = .ok (.aload_n 0, 1) := by decide +kernel
theorem dX7_isSoftBy_5 : decode cX7_isSoftBy 5 = .ok (.iload_n 2, 1) := by decide +kernel
theorem dX7_isSoftBy_6 : decode cX7_isSoftBy 6 = .ok (.invokevirtual 194, 3) := by decide +kernel
theorem dX7_isSoftBy_9 : decode cX7_isSoftBy 9 = .ok (.pop, 1) := by decide +kernel
theorem dX7_isSoftBy_10 : decode cX7_isSoftBy 10 = .ok (.aload_n 0, 1) := by decide +kernel
theorem dX7_isSoftBy_11 : decode cX7_isSoftBy 11 = .ok (.getfield 31, 3) := by decide +kernel
theorem dX7_isSoftBy_14 : decode cX7_isSoftBy 14 = .ok (.iload_n 1, 1) := by decide +kernel
theorem dX7_isSoftBy_15 : decode cX7_isSoftBy 15 = .ok (.iaload, 1) := by decide +kernel
theorem dX7_isSoftBy_16 : decode cX7_isSoftBy 16 = .ok (.bipush (-4), 2) := by decide +kernel
theorem dX7_isSoftBy_18 : decode cX7_isSoftBy 18 = .ok (.if_icmp .ne 7, 3) := by decide +kernel
theorem dX7_isSoftBy_21 : decode cX7_isSoftBy 21 = .ok (.iconst 1, 1) := by decide +kernel
theorem dX7_isSoftBy_22 : decode cX7_isSoftBy 22 = .ok (.goto 4, 3) := by decide +kernel
theorem dX7_isSoftBy_25 : decode cX7_isSoftBy 25 = .ok (.iconst 0, 1) := by decide +kernel
theorem dX7_isSoftBy_26 : decode cX7_isSoftBy 26 = .ok (.istore_n 3, 1) := by decide +kernel
theorem dX7_isSoftBy_27 : decode cX7_isSoftBy 27 = .ok (.iload_n 3, 1) := by decide +kernel
theorem dX7_isSoftBy_28 : decode cX7_isSoftBy 28 = .ok (.ifCond .eq 33, 3) := by decide +kernel
theorem dX7_isSoftBy_31 : decode cX7_isSoftBy 31 = .ok (.aload_n 0, 1) := by decide +kernel
theorem dX7_isSoftBy_32 : decode cX7_isSoftBy 32 = .ok (.iload_n 1, 1) := by decide +kernel
theorem dX7_isSoftBy_33 : decode cX7_isSoftBy 33 = .ok (.invokevirtual 176, 3) := by decide +kernel
theorem dX7_isSoftBy_36 : decode cX7_isSoftBy 36 = .ok (.aload_n 0, 1) := by decide +kernel
theorem dX7_isSoftBy_37 : decode cX7_isSoftBy 37 = .ok (.bipush 60, 2) := by decide +kernel
theorem dX7_isSoftBy_39 : decode cX7_isSoftBy 39 = .ok (.iload_n 2, 1) := by decide +kernel
theorem dX7_isSoftBy_40 : decode cX7_isSoftBy 40 = .ok (.isub, 1) := by decide +kernel
theorem dX7_isSoftBy_41 : decode cX7_isSoftBy 41 = .ok (.invokevirtual 194, 3) := by decide +kernel
theorem dX7_isSoftBy_44 : decode cX7_isSoftBy 44 = .ok (.pop, 1) := by decide +kernel
theorem dX7_isSoftBy_45 : decode cX7_isSoftBy 45 = .ok (.aload_n 0, 1) := by decide +kernel
theorem dX7_isSoftBy_46 : decode cX7_isSoftBy 46 = .ok (.getfield 34, 3) := by decide +kernel
theorem dX7_isSoftBy_49 : decode cX7_isSoftBy 49 = .ok (.iload_n 1, 1) := by decide +kernel
theorem dX7_isSoftBy_50 : decode cX7_isSoftBy 50 = .ok (.iaload, 1) := by decide +kernel
theorem dX7_isSoftBy_51 : decode cX7_isSoftBy 51 = .ok (.iconst 1, 1) := by decide +kernel
theorem dX7_isSoftBy_52 : decode cX7_isSoftBy 52 = .ok (.if_icmp .ne 7, 3) := by decide +kernel
theorem dX7_isSoftBy_55 : decode cX7_isSoftBy 55 = .ok (.iconst 1, 1) := by decide +kernel
theorem dX7_isSoftBy_56 : decode cX7_isSoftBy 56 = .ok (.goto 4, 3) := by decide +kernel
theorem dX7_isSoftBy_59 : decode cX7_isSoftBy 59 = .ok (.iconst 0, 1) := by decide +kernel
theorem dX7_isSoftBy_60 : decode cX7_isSoftBy 60 = .ok (.istore_n 3, 1) := by decide +kernel
theorem dX7_isSoftBy_61 : decode cX7_isSoftBy 61 = .ok (.aload_n 0, 1) := by decide +kernel
theorem dX7_isSoftBy_62 : decode cX7_isSoftBy 62 = .ok (.invokevirtual 213, 3) := by decide +kernel
theorem dX7_isSoftBy_65 : decode cX7_isSoftBy 65 = .ok (.iload_n 3, 1) := by decide +kernel
theorem dX7_isSoftBy_66 : decode cX7_isSoftBy 66 = .ok (.ireturn, 1) := by decide +kernel
theorem dX7_latest_0 : decode cX7_latest 0 = .ok (.aload_n 0, 1) := by decide +kernel
theorem dX7_latest_1 : decode cX7_latest 1 = .ok (.iload_n 1, 1) := by decide +kernel
theorem dX7_latest_2 : decode cX7_latest 2 = .ok (.invokevirtual 162, 3) := by decide +kernel
theorem dX7_latest_5 : decode cX7_latest 5 = .ok (.ifCond .ne 5, 3) := by decide +kernel
theorem dX7_latest_8 : decode cX7_latest 8 = .ok (.iconst (-1), 1) := by decide +kernel
theorem dX7_latest_9 : decode cX7_latest 9 = .ok (.ireturn, 1) := by decide +kernel
theorem dX7_latest_10 : decode cX7_latest 10 = .ok (.aload_n 0, 1) := by decide +kernel
theorem dX7_latest_11 : decode cX7_latest 11 = .ok (.iload_n 1, 1) := by decide +kernel
theorem dX7_latest_12 : decode cX7_latest 12 = .ok (.invokevirtual 173, 3) := by decide +kernel
theorem dX7_latest_15 : decode cX7_latest 15 = .ok (.ifCond .ne 6, 3) := by decide +kernel
theorem dX7_latest_18 : decode cX7_latest 18 = .ok (.bipush (-2), 2) := by decide +kernel
theorem dX7_latest_20 : decode cX7_latest 20 = .ok (.ireturn, 1) := by decide +kernel
theorem dX7_latest_21 : decode cX7_latest 21 = .ok (.bipush 40, 2) := by decide +kernel
theorem dX7_latest_23 : decode cX7_latest 23 = .ok (.istore_n 2, 1) := by decide +kernel
theorem dX7_latest_24 : decode cX7_latest 24 = .ok (.iload_n 2, 1) := by decide +kernel
theorem dX7_latest_25 : decode cX7_latest 25 = .ok (.ifCond .lt 18, 3) := by decide +kernel
theorem dX7_latest_28 : decode cX7_latest 28 = .ok (.aload_n 0, 1) := by decide +kernel
theorem dX7_latest_29 : decode cX7_latest 29 = .ok (.iload_n 1, 1) := by decide +kernel
theorem dX7_latest_30 : decode cX7_latest 30 = .ok (.iload_n 2, 1) := by decide +kernel
theorem dX7_latest_31 : decode cX7_latest 31 = .ok (.invokevirtual 219, 3) := by decide +kernel
theorem dX7_latest_34 : decode cX7_latest 34 = .ok (.ifCond .ne 9, 3) := by decide +kernel
theorem dX7_latest_37 : decode cX7_latest 37 = .ok (.iinc 2 (-1), 3) := by decide +kernel
theorem dX7_latest_40 : decode cX7_latest 40 = .ok (.goto (-16), 3) := by decide +kernel
theorem dX7_latest_43 : decode cX7_latest 43 = .ok (.iload_n 2, 1) := by decide +kernel
theorem dX7_latest_44 : decode cX7_latest 44 = .ok (.ifCond .ge 8, 3) := by decide +kernel
theorem dX7_latest_47 : decode cX7_latest 47 = .ok (.bipush (-4), 2) := by decide +kernel
theorem dX7_latest_49 : decode cX7_latest 49 = .ok (.goto 4, 3) := by decide +kernel
theorem dX7_latest_52 : decode cX7_latest 52 = .ok (.iload_n 2, 1) := by decide +kernel
theorem dX7_latest_53 : decode cX7_latest 53 = .ok (.ireturn, 1) := by decide +kernel
theorem dX7_firstRow_0 : decode cX7_firstRow 0 = .ok (.aload_n 0, 1) := by decide +kernel
theorem dX7_firstRow_1 : decode cX7_firstRow 1 = .ok (.iconst 0, 1) := by decide +kernel
theorem dX7_firstRow_2 : decode cX7_firstRow 2 = .ok (.putfield 223, 3) := by decide +kernel
theorem dX7_firstRow_5 : decode cX7_firstRow 5 = .ok (.iconst 0, 1) := by decide +kernel
theorem dX7_firstRow_6 : decode cX7_firstRow 6 = .ok (.istore_n 1, 1) := by decide +kernel
theorem dX7_firstRow_7 : decode cX7_firstRow 7 = .ok (.iload_n 1, 1) := by decide +kernel
theorem dX7_firstRow_8 : decode cX7_firstRow 8 = .ok (.aload_n 0, 1) := by decide +kernel
theorem dX7_firstRow_9 : decode cX7_firstRow 9 = .ok (.getfield 84, 3) := by decide +kernel
theorem dX7_firstRow_12 : decode cX7_firstRow 12 = .ok (.if_icmp .ge 37, 3) := by decide +kernel
theorem dX7_firstRow_15 : decode cX7_firstRow 15 = .ok (.aload_n 0, 1) := by decide +kernel
theorem dX7_firstRow_16 : decode cX7_firstRow 16 = .ok (.iload_n 1, 1) := by decide +kernel
theorem dX7_firstRow_17 : decode cX7_firstRow 17 = .ok (.invokevirtual 173, 3) := by decide +kernel
theorem dX7_firstRow_20 : decode cX7_firstRow 20 = .ok (.ifCond .eq 23, 3) := by decide +kernel
theorem dX7_firstRow_23 : decode cX7_firstRow 23 = .ok (.aload_n 0, 1) := by decide +kernel
theorem dX7_firstRow_24 : decode cX7_firstRow 24 = .ok (.getfield 67, 3) := by decide +kernel
theorem dX7_firstRow_27 : decode cX7_firstRow 27 = .ok (.aload_n 0, 1) := by decide +kernel
theorem dX7_firstRow_28 : decode cX7_firstRow 28 = .ok (.getfield 223, 3) := by decide +kernel
theorem dX7_firstRow_31 : decode cX7_firstRow 31 = .ok (.iload_n 1, 1) := by decide +kernel
theorem dX7_firstRow_32 : decode cX7_firstRow 32 = .ok (.iastore, 1) := by decide +kernel
theorem dX7_firstRow_33 : decode cX7_firstRow 33 = .ok (.aload_n 0, 1) := by decide +kernel
theorem dX7_firstRow_34 : decode cX7_firstRow 34 = .ok (.dup, 1) := by decide +kernel
theorem dX7_firstRow_35 : decode cX7_firstRow 35 = .ok (.getfield 223, 3) := by decide +kernel
theorem dX7_firstRow_38 : decode cX7_firstRow 38 = .ok (.iconst 1, 1) := by decide +kernel
theorem dX7_firstRow_39 : decode cX7_firstRow 39 = .ok (.iadd, 1) := by decide +kernel
theorem dX7_firstRow_40 : decode cX7_firstRow 40 = .ok (.putfield 223, 3) := by decide +kernel
theorem dX7_firstRow_43 : decode cX7_firstRow 43 = .ok (.iinc 1 1, 3) := by decide +kernel
theorem dX7_firstRow_46 : decode cX7_firstRow 46 = .ok (.goto (-39), 3) := by decide +kernel
theorem dX7_firstRow_49 : decode cX7_firstRow 49 = .ok (.return_, 1) := by decide +kernel
theorem dX7_nextRow_0 : decode cX7_nextRow 0 = .ok (.aload_n 0, 1) := by decide +kernel
theorem dX7_nextRow_1 : decode cX7_nextRow 1 = .ok (.getfield 223, 3) := by decide +kernel
theorem dX7_nextRow_4 : decode cX7_nextRow 4 = .ok (.iconst 2, 1) := by decide +kernel
theorem dX7_nextRow_5 : decode cX7_nextRow 5 = .ok (.isub, 1) := by decide +kernel
theorem dX7_nextRow_6 : decode cX7_nextRow 6 = .ok (.istore_n 1, 1) := by decide +kernel
theorem dX7_nextRow_7 : decode cX7_nextRow 7 = .ok (.iload_n 1, 1) := by decide +kernel
theorem dX7_nextRow_8 : decode cX7_nextRow 8 = .ok (.ifCond .lt 26, 3) := by decide +kernel
theorem dX7_nextRow_11 : decode cX7_nextRow 11 = .ok (.aload_n 0, 1) := by decide +kernel
theorem dX7_nextRow_12 : decode cX7_nextRow 12 = .ok (.getfield 67, 3) := by decide +kernel
theorem dX7_nextRow_15 : decode cX7_nextRow 15 = .ok (.iload_n 1, 1) := by decide +kernel
theorem dX7_nextRow_16 : decode cX7_nextRow 16 = .ok (.iaload, 1) := by decide +kernel
theorem dX7_nextRow_17 : decode cX7_nextRow 17 = .ok (.aload_n 0, 1) := by decide +kernel
theorem dX7_nextRow_18 : decode cX7_nextRow 18 = .ok (.getfield 67, 3) := by decide +kernel
theorem dX7_nextRow_21 : decode cX7_nextRow 21 = .ok (.iload_n 1, 1) := by decide +kernel
theorem dX7_nextRow_22 : decode cX7_nextRow 22 = .ok (.iconst 1, 1) := by decide +kernel
theorem dX7_nextRow_23 : decode cX7_nextRow 23 = .ok (.iadd, 1) := by decide +kernel
theorem dX7_nextRow_24 : decode cX7_nextRow 24 = .ok (.iaload, 1) := by decide +kernel
theorem dX7_nextRow_25 : decode cX7_nextRow 25 = .ok (.if_icmp .le 9, 3) := by decide +kernel
theorem dX7_nextRow_28 : decode cX7_nextRow 28 = .ok (.iinc 1 (-1), 3) := by decide +kernel
theorem dX7_nextRow_31 : decode cX7_nextRow 31 = .ok (.goto (-24), 3) := by decide +kernel
theorem dX7_nextRow_34 : decode cX7_nextRow 34 = .ok (.iload_n 1, 1) := by decide +kernel
theorem dX7_nextRow_35 : decode cX7_nextRow 35 = .ok (.ifCond .ge 5, 3) := by decide +kernel
theorem dX7_nextRow_38 : decode cX7_nextRow 38 = .ok (.iconst 0, 1) := by decide +kernel
theorem dX7_nextRow_39 : decode cX7_nextRow 39 = .ok (.ireturn, 1) := by decide +kernel
theorem dX7_nextRow_40 : decode cX7_nextRow 40 = .ok (.aload_n 0, 1) := by decide +kernel
theorem dX7_nextRow_41 : decode cX7_nextRow 41 = .ok (.getfield 223, 3) := by decide +kernel
theorem dX7_nextRow_44 : decode cX7_nextRow 44 = .ok (.iconst 1, 1) := by decide +kernel
theorem dX7_nextRow_45 : decode cX7_nextRow 45 = .ok (.isub, 1) := by decide +kernel
theorem dX7_nextRow_46 : decode cX7_nextRow 46 = .ok (.istore_n 2, 1) := by decide +kernel
theorem dX7_nextRow_47 : decode cX7_nextRow 47 = .ok (.aload_n 0, 1) := by decide +kernel
theorem dX7_nextRow_48 : decode cX7_nextRow 48 = .ok (.getfield 67, 3) := by decide +kernel
theorem dX7_nextRow_51 : decode cX7_nextRow 51 = .ok (.iload_n 2, 1) := by decide +kernel
theorem dX7_nextRow_52 : decode cX7_nextRow 52 = .ok (.iaload, 1) := by decide +kernel
theorem dX7_nextRow_53 : decode cX7_nextRow 53 = .ok (.aload_n 0, 1) := by decide +kernel
theorem dX7_nextRow_54 : decode cX7_nextRow 54 = .ok (.getfield 67, 3) := by decide +kernel
theorem dX7_nextRow_57 : decode cX7_nextRow 57 = .ok (.iload_n 1, 1) := by decide +kernel
theorem dX7_nextRow_58 : decode cX7_nextRow 58 = .ok (.iaload, 1) := by decide +kernel
theorem dX7_nextRow_59 : decode cX7_nextRow 59 = .ok (.if_icmp .ge 9, 3) := by decide +kernel
theorem dX7_nextRow_62 : decode cX7_nextRow 62 = .ok (.iinc 2 (-1), 3) := by decide +kernel
theorem dX7_nextRow_65 : decode cX7_nextRow 65 = .ok (.goto (-18), 3) := by decide +kernel
theorem dX7_nextRow_68 : decode cX7_nextRow 68 = .ok (.aload_n 0, 1) := by decide +kernel
theorem dX7_nextRow_69 : decode cX7_nextRow 69 = .ok (.getfield 67, 3) := by decide +kernel
theorem dX7_nextRow_72 : decode cX7_nextRow 72 = .ok (.iload_n 1, 1) := by decide +kernel
theorem dX7_nextRow_73 : decode cX7_nextRow 73 = .ok (.iaload, 1) := by decide +kernel
theorem dX7_nextRow_74 : decode cX7_nextRow 74 = .ok (.istore_n 3, 1) := by decide +kernel
theorem dX7_nextRow_75 : decode cX7_nextRow 75 = .ok (.aload_n 0, 1) := by decide +kernel
theorem dX7_nextRow_76 : decode cX7_nextRow 76 = .ok (.getfield 67, 3) := by decide +kernel
theorem dX7_nextRow_79 : decode cX7_nextRow 79 = .ok (.iload_n 1, 1) := by decide +kernel
theorem dX7_nextRow_80 : decode cX7_nextRow 80 = .ok (.aload_n 0, 1) := by decide +kernel
theorem dX7_nextRow_81 : decode cX7_nextRow 81 = .ok (.getfield 67, 3) := by decide +kernel
theorem dX7_nextRow_84 : decode cX7_nextRow 84 = .ok (.iload_n 2, 1) := by decide +kernel
theorem dX7_nextRow_85 : decode cX7_nextRow 85 = .ok (.iaload, 1) := by decide +kernel
theorem dX7_nextRow_86 : decode cX7_nextRow 86 = .ok (.iastore, 1) := by decide +kernel
theorem dX7_nextRow_87 : decode cX7_nextRow 87 = .ok (.aload_n 0, 1) := by decide +kernel
theorem dX7_nextRow_88 : decode cX7_nextRow 88 = .ok (.getfield 67, 3) := by decide +kernel
theorem dX7_nextRow_91 : decode cX7_nextRow 91 = .ok (.iload_n 2, 1) := by decide +kernel
theorem dX7_nextRow_92 : decode cX7_nextRow 92 = .ok (.iload_n 3, 1) := by decide +kernel
theorem dX7_nextRow_93 : decode cX7_nextRow 93 = .ok (.iastore, 1) := by decide +kernel
theorem dX7_nextRow_94 : decode cX7_nextRow 94 = .ok (.aload_n 0, 1) := by decide +kernel
theorem dX7_nextRow_95 : decode cX7_nextRow 95 = .ok (.getfield 223, 3) := by decide +kernel
theorem dX7_nextRow_98 : decode cX7_nextRow 98 = .ok (.iconst 1, 1) := by decide +kernel
theorem dX7_nextRow_99 : decode cX7_nextRow 99 = .ok (.isub, 1) := by decide +kernel
theorem dX7_nextRow_100 : decode cX7_nextRow 100 = .ok (.istore 4, 2) := by decide +kernel
theorem dX7_nextRow_102 : decode cX7_nextRow 102 = .ok (.iload_n 1, 1) := by decide +kernel
theorem dX7_nextRow_103 : decode cX7_nextRow 103 = .ok (.iconst 1, 1) := by decide +kernel
theorem dX7_nextRow_104 : decode cX7_nextRow 104 = .ok (.iadd, 1) := by decide +kernel
theorem dX7_nextRow_105 : decode cX7_nextRow 105 = .ok (.istore 5, 2) := by decide +kernel
theorem dX7_nextRow_107 : decode cX7_nextRow 107 = .ok (.iload 5, 2) := by decide +kernel
theorem dX7_nextRow_109 : decode cX7_nextRow 109 = .ok (.iload 4, 2) := by decide +kernel
theorem dX7_nextRow_111 : decode cX7_nextRow 111 = .ok (.if_icmp .ge 44, 3) := by decide +kernel
theorem dX7_nextRow_114 : decode cX7_nextRow 114 = .ok (.aload_n 0, 1) := by decide +kernel
theorem dX7_nextRow_115 : decode cX7_nextRow 115 = .ok (.getfield 67, 3) := by decide +kernel
theorem dX7_nextRow_118 : decode cX7_nextRow 118 = .ok (.iload 5, 2) := by decide +kernel
theorem dX7_nextRow_120 : decode cX7_nextRow 120 = .ok (.iaload, 1) := by decide +kernel
theorem dX7_nextRow_121 : decode cX7_nextRow 121 = .ok (.istore 6, 2) := by decide +kernel
theorem dX7_nextRow_123 : decode cX7_nextRow 123 = .ok (.aload_n 0, 1) := by decide +kernel
theorem dX7_nextRow_124 : decode cX7_nextRow 124 = .ok (.getfield 67, 3) := by decide +kernel
theorem dX7_nextRow_127 : decode cX7_nextRow 127 = .ok (.iload 5, 2) := by decide +kernel
theorem dX7_nextRow_129 : decode cX7_nextRow 129 = .ok (.aload_n 0, 1) := by decide +kernel
theorem dX7_nextRow_130 : decode cX7_nextRow 130 = .ok (.getfield 67, 3) := by decide +kernel
theorem dX7_nextRow_133 : decode cX7_nextRow 133 = .ok (.iload 4, 2) := by decide +kernel
theorem dX7_nextRow_135 : decode cX7_nextRow 135 = .ok (.iaload, 1) := by decide +kernel
theorem dX7_nextRow_136 : decode cX7_nextRow 136 = .ok (.iastore, 1) := by decide +kernel
theorem dX7_nextRow_137 : decode cX7_nextRow 137 = .ok (.aload_n 0, 1) := by decide +kernel
theorem dX7_nextRow_138 : decode cX7_nextRow 138 = .ok (.getfield 67, 3) := by decide +kernel
theorem dX7_nextRow_141 : decode cX7_nextRow 141 = .ok (.iload 4, 2) := by decide +kernel
theorem dX7_nextRow_143 : decode cX7_nextRow 143 = .ok (.iload 6, 2) := by decide +kernel
theorem dX7_nextRow_145 : decode cX7_nextRow 145 = .ok (.iastore, 1) := by decide +kernel
theorem dX7_nextRow_146 : decode cX7_nextRow 146 = .ok (.iinc 4 (-1), 3) := by decide +kernel
theorem dX7_nextRow_149 : decode cX7_nextRow 149 = .ok (.iinc 5 1, 3) := by decide +kernel
theorem dX7_nextRow_152 : decode cX7_nextRow 152 = .ok (.goto (-45), 3) := by decide +kernel
theorem dX7_nextRow_155 : decode cX7_nextRow 155 = .ok (.iconst 1, 1) := by decide +kernel
theorem dX7_nextRow_156 : decode cX7_nextRow 156 = .ok (.ireturn, 1) := by decide +kernel
theorem dX7_gentleBy_0 : decode cX7_gentleBy 0 = .ok (.aload_n 0, 1) := by decide +kernel
theorem dX7_gentleBy_1 : decode cX7_gentleBy 1 = .ok (.invokevirtual 201, 3) := by decide +kernel
theorem dX7_gentleBy_4 : decode cX7_gentleBy 4 = .ok (.aload_n 0, 1) := by decide +kernel
theorem dX7_gentleBy_5 : decode cX7_gentleBy 5 = .ok (.iload_n 1, 1) := by decide +kernel
theorem dX7_gentleBy_6 : decode cX7_gentleBy 6 = .ok (.putfield 91, 3) := by decide +kernel
theorem dX7_gentleBy_9 : decode cX7_gentleBy 9 = .ok (.iconst 0, 1) := by decide +kernel
theorem dX7_gentleBy_10 : decode cX7_gentleBy 10 = .ok (.istore_n 2, 1) := by decide +kernel
theorem dX7_gentleBy_11 : decode cX7_gentleBy 11 = .ok (.iload_n 2, 1) := by decide +kernel
theorem dX7_gentleBy_12 : decode cX7_gentleBy 12 = .ok (.bipush 60, 2) := by decide +kernel
theorem dX7_gentleBy_14 : decode cX7_gentleBy 14 = .ok (.if_icmp .ge 46, 3) := by decide +kernel
theorem dX7_gentleBy_17 : decode cX7_gentleBy 17 = .ok (.iload_n 2, 1) := by decide +kernel
theorem dX7_gentleBy_18 : decode cX7_gentleBy 18 = .ok (.aload_n 0, 1) := by decide +kernel
theorem dX7_gentleBy_19 : decode cX7_gentleBy 19 = .ok (.getfield 223, 3) := by decide +kernel
theorem dX7_gentleBy_22 : decode cX7_gentleBy 22 = .ok (.if_icmp .ge 26, 3) := by decide +kernel
theorem dX7_gentleBy_25 : decode cX7_gentleBy 25 = .ok (.aload_n 0, 1) := by decide +kernel
theorem dX7_gentleBy_26 : decode cX7_gentleBy 26 = .ok (.aload_n 0, 1) := by decide +kernel
theorem dX7_gentleBy_27 : decode cX7_gentleBy 27 = .ok (.getfield 67, 3) := by decide +kernel
theorem dX7_gentleBy_30 : decode cX7_gentleBy 30 = .ok (.iload_n 2, 1) := by decide +kernel
theorem dX7_gentleBy_31 : decode cX7_gentleBy 31 = .ok (.iaload, 1) := by decide +kernel
theorem dX7_gentleBy_32 : decode cX7_gentleBy 32 = .ok (.invokevirtual 182, 3) := by decide +kernel
theorem dX7_gentleBy_35 : decode cX7_gentleBy 35 = .ok (.ifCond .eq 13, 3) := by decide +kernel
theorem dX7_gentleBy_38 : decode cX7_gentleBy 38 = .ok (.aload_n 0, 1) := by decide +kernel
theorem dX7_gentleBy_39 : decode cX7_gentleBy 39 = .ok (.aload_n 0, 1) := by decide +kernel
theorem dX7_gentleBy_40 : decode cX7_gentleBy 40 = .ok (.getfield 67, 3) := by decide +kernel
theorem dX7_gentleBy_43 : decode cX7_gentleBy 43 = .ok (.iload_n 2, 1) := by decide +kernel
theorem dX7_gentleBy_44 : decode cX7_gentleBy 44 = .ok (.iaload, 1) := by decide +kernel
theorem dX7_gentleBy_45 : decode cX7_gentleBy 45 = .ok (.invokevirtual 188, 3) := by decide +kernel
theorem dX7_gentleBy_48 : decode cX7_gentleBy 48 = .ok (.aload_n 0, 1) := by decide +kernel
theorem dX7_gentleBy_49 : decode cX7_gentleBy 49 = .ok (.iconst 0, 1) := by decide +kernel
theorem dX7_gentleBy_50 : decode cX7_gentleBy 50 = .ok (.invokevirtual 158, 3) := by decide +kernel
theorem dX7_gentleBy_53 : decode cX7_gentleBy 53 = .ok (.pop, 1) := by decide +kernel
theorem dX7_gentleBy_54 : decode cX7_gentleBy 54 = .ok (.iinc 2 1, 3) := by decide +kernel
theorem dX7_gentleBy_57 : decode cX7_gentleBy 57 = .ok (.goto (-46), 3) := by decide +kernel
theorem dX7_gentleBy_60 : decode cX7_gentleBy 60 = .ok (.aload_n 0, 1) := by decide +kernel
theorem dX7_gentleBy_61 : decode cX7_gentleBy 61 = .ok (.invokevirtual 216, 3) := by decide +kernel
theorem dX7_gentleBy_64 : decode cX7_gentleBy 64 = .ok (.istore_n 2, 1) := by decide +kernel
theorem dX7_gentleBy_65 : decode cX7_gentleBy 65 = .ok (.aload_n 0, 1) := by decide +kernel
theorem dX7_gentleBy_66 : decode cX7_gentleBy 66 = .ok (.invokevirtual 213, 3) := by decide +kernel
theorem dX7_gentleBy_69 : decode cX7_gentleBy 69 = .ok (.iload_n 2, 1) := by decide +kernel
theorem dX7_gentleBy_70 : decode cX7_gentleBy 70 = .ok (.ireturn, 1) := by decide +kernel
theorem dX7_mostBy_0 : decode cX7_mostBy 0 = .ok (.bipush (-4), 2) := by decide +kernel
theorem dX7_mostBy_2 : decode cX7_mostBy 2 = .ok (.istore_n 2, 1) := by decide +kernel
theorem dX7_mostBy_3 : decode cX7_mostBy 3 = .ok (.aload_n 0, 1) := by decide +kernel
theorem dX7_mostBy_4 : decode cX7_mostBy 4 = .ok (.invokevirtual 226, 3) := by decide +kernel
theorem dX7_mostBy_7 : decode cX7_mostBy 7 = .ok (.iconst 1, 1) := by decide +kernel
theorem dX7_mostBy_8 : decode cX7_mostBy 8 = .ok (.istore_n 3, 1) := by decide +kernel
theorem dX7_mostBy_9 : decode cX7_mostBy 9 = .ok (.iload_n 3, 1) := by decide +kernel
theorem dX7_mostBy_10 : decode cX7_mostBy 10 = .ok (.ifCond .eq 59, 3) := by decide +kernel
theorem dX7_mostBy_13 : decode cX7_mostBy 13 = .ok (.aload_n 0, 1) := by decide +kernel
theorem dX7_mostBy_14 : decode cX7_mostBy 14 = .ok (.iload_n 1, 1) := by decide +kernel
theorem dX7_mostBy_15 : decode cX7_mostBy 15 = .ok (.invokevirtual 229, 3) := by decide +kernel
theorem dX7_mostBy_18 : decode cX7_mostBy 18 = .ok (.istore 4, 2) := by decide +kernel
theorem dX7_mostBy_20 : decode cX7_mostBy 20 = .ok (.iload 4, 2) := by decide +kernel
theorem dX7_mostBy_22 : decode cX7_mostBy 22 = .ok (.iload_n 2, 1) := by decide +kernel
theorem dX7_mostBy_23 : decode cX7_mostBy 23 = .ok (.if_icmp .le 38, 3) := by decide +kernel
theorem dX7_mostBy_26 : decode cX7_mostBy 26 = .ok (.iload 4, 2) := by decide +kernel
theorem dX7_mostBy_28 : decode cX7_mostBy 28 = .ok (.istore_n 2, 1) := by decide +kernel
theorem dX7_mostBy_29 : decode cX7_mostBy 29 = .ok (.iconst 0, 1) := by decide +kernel
theorem dX7_mostBy_30 : decode cX7_mostBy 30 = .ok (.istore 5, 2) := by decide +kernel
theorem dX7_mostBy_32 : decode cX7_mostBy 32 = .ok (.iload 5, 2) := by decide +kernel
theorem dX7_mostBy_34 : decode cX7_mostBy 34 = .ok (.aload_n 0, 1) := by decide +kernel
theorem dX7_mostBy_35 : decode cX7_mostBy 35 = .ok (.getfield 223, 3) := by decide +kernel
theorem dX7_mostBy_38 : decode cX7_mostBy 38 = .ok (.if_icmp .ge 23, 3) := by decide +kernel
theorem dX7_mostBy_41 : decode cX7_mostBy 41 = .ok (.aload_n 0, 1) := by decide +kernel
theorem dX7_mostBy_42 : decode cX7_mostBy 42 = .ok (.getfield 70, 3) := by decide +kernel
theorem dX7_mostBy_45 : decode cX7_mostBy 45 = .ok (.iload 5, 2) := by decide +kernel
theorem dX7_mostBy_47 : decode cX7_mostBy 47 = .ok (.aload_n 0, 1) := by decide +kernel
theorem dX7_mostBy_48 : decode cX7_mostBy 48 = .ok (.getfield 67, 3) := by decide +kernel
theorem dX7_mostBy_51 : decode cX7_mostBy 51 = .ok (.iload 5, 2) := by decide +kernel
theorem dX7_mostBy_53 : decode cX7_mostBy 53 = .ok (.iaload, 1) := by decide +kernel
theorem dX7_mostBy_54 : decode cX7_mostBy 54 = .ok (.iastore, 1) := by decide +kernel
theorem dX7_mostBy_55 : decode cX7_mostBy 55 = .ok (.iinc 5 1, 3) := by decide +kernel
theorem dX7_mostBy_58 : decode cX7_mostBy 58 = .ok (.goto (-26), 3) := by decide +kernel
theorem dX7_mostBy_61 : decode cX7_mostBy 61 = .ok (.aload_n 0, 1) := by decide +kernel
theorem dX7_mostBy_62 : decode cX7_mostBy 62 = .ok (.invokevirtual 232, 3) := by decide +kernel
theorem dX7_mostBy_65 : decode cX7_mostBy 65 = .ok (.istore_n 3, 1) := by decide +kernel
theorem dX7_mostBy_66 : decode cX7_mostBy 66 = .ok (.goto (-57), 3) := by decide +kernel
theorem dX7_mostBy_69 : decode cX7_mostBy 69 = .ok (.iload_n 2, 1) := by decide +kernel
theorem dX7_mostBy_70 : decode cX7_mostBy 70 = .ok (.ireturn, 1) := by decide +kernel
theorem dX7_order_0 : decode cX7_order 0 = .ok (.iload_n 1, 1) := by decide +kernel
theorem dX7_order_1 : decode cX7_order 1 = .ok (.iconst (-1), 1) := by decide +kernel
theorem dX7_order_2 : decode cX7_order 2 = .ok (.iconst 5, 1) := by decide +kernel
theorem dX7_order_3 : decode cX7_order 3 = .ok (.invokestatic 100, 3) := by decide +kernel
theorem dX7_order_6 : decode cX7_order 6 = .ok (.ifCond .ne 5, 3) := by decide +kernel
theorem dX7_order_9 : decode cX7_order 9 = .ok (.iconst (-1), 1) := by decide +kernel
theorem dX7_order_10 : decode cX7_order 10 = .ok (.ireturn, 1) := by decide +kernel
theorem dX7_order_11 : decode cX7_order 11 = .ok (.aload_n 0, 1) := by decide +kernel
theorem dX7_order_12 : decode cX7_order 12 = .ok (.aload_n 0, 1) := by decide +kernel
theorem dX7_order_13 : decode cX7_order 13 = .ok (.getfield 91, 3) := by decide +kernel
theorem dX7_order_16 : decode cX7_order 16 = .ok (.invokevirtual 235, 3) := by decide +kernel
theorem dX7_order_19 : decode cX7_order 19 = .ok (.istore_n 2, 1) := by decide +kernel
theorem dX7_order_20 : decode cX7_order 20 = .ok (.iload_n 1, 1) := by decide +kernel
theorem dX7_order_21 : decode cX7_order 21 = .ok (.ifCond .ge 7, 3) := by decide +kernel
theorem dX7_order_24 : decode cX7_order 24 = .ok (.iload_n 2, 1) := by decide +kernel
theorem dX7_order_25 : decode cX7_order 25 = .ok (.goto 22, 3) := by decide +kernel
theorem dX7_order_28 : decode cX7_order 28 = .ok (.iload_n 1, 1) := by decide +kernel
theorem dX7_order_29 : decode cX7_order 29 = .ok (.aload_n 0, 1) := by decide +kernel
theorem dX7_order_30 : decode cX7_order 30 = .ok (.getfield 223, 3) := by decide +kernel
theorem dX7_order_33 : decode cX7_order 33 = .ok (.if_icmp .ge 12, 3) := by decide +kernel
theorem dX7_order_36 : decode cX7_order 36 = .ok (.aload_n 0, 1) := by decide +kernel
theorem dX7_order_37 : decode cX7_order 37 = .ok (.getfield 70, 3) := by decide +kernel
theorem dX7_order_40 : decode cX7_order 40 = .ok (.iload_n 1, 1) := by decide +kernel
theorem dX7_order_41 : decode cX7_order 41 = .ok (.iaload, 1) := by decide +kernel
theorem dX7_order_42 : decode cX7_order 42 = .ok (.goto 5, 3) := by decide +kernel
theorem dX7_order_45 : decode cX7_order 45 = .ok (.bipush (-4), 2) := by decide +kernel
theorem dX7_order_47 : decode cX7_order 47 = .ok (.ireturn, 1) := by decide +kernel
theorem dX7_need_0 : decode cX7_need 0 = .ok (.aload_n 0, 1) := by decide +kernel
theorem dX7_need_1 : decode cX7_need 1 = .ok (.bipush 20, 2) := by decide +kernel
theorem dX7_need_3 : decode cX7_need 3 = .ok (.invokevirtual 235, 3) := by decide +kernel
theorem dX7_need_6 : decode cX7_need 6 = .ok (.istore_n 1, 1) := by decide +kernel
theorem dX7_need_7 : decode cX7_need 7 = .ok (.iconst 0, 1) := by decide +kernel
theorem dX7_need_8 : decode cX7_need 8 = .ok (.istore_n 2, 1) := by decide +kernel
theorem dX7_need_9 : decode cX7_need 9 = .ok (.aload_n 0, 1) := by decide +kernel
theorem dX7_need_10 : decode cX7_need 10 = .ok (.iload_n 2, 1) := by decide +kernel
theorem dX7_need_11 : decode cX7_need 11 = .ok (.invokevirtual 235, 3) := by decide +kernel
theorem dX7_need_14 : decode cX7_need 14 = .ok (.iload_n 1, 1) := by decide +kernel
theorem dX7_need_15 : decode cX7_need 15 = .ok (.if_icmp .ge 9, 3) := by decide +kernel
theorem dX7_need_18 : decode cX7_need 18 = .ok (.iinc 2 1, 3) := by decide +kernel
theorem dX7_need_21 : decode cX7_need 21 = .ok (.goto (-12), 3) := by decide +kernel
theorem dX7_need_24 : decode cX7_need 24 = .ok (.iload_n 2, 1) := by decide +kernel
theorem dX7_need_25 : decode cX7_need 25 = .ok (.ireturn, 1) := by decide +kernel
theorem dX7_seen_0 : decode cX7_seen 0 = .ok (.iload_n 1, 1) := by decide +kernel
theorem dX7_seen_1 : decode cX7_seen 1 = .ok (.iconst 0, 1) := by decide +kernel
theorem dX7_seen_2 : decode cX7_seen 2 = .ok (.bipush 40, 2) := by decide +kernel
theorem dX7_seen_4 : decode cX7_seen 4 = .ok (.invokestatic 100, 3) := by decide +kernel
theorem dX7_seen_7 : decode cX7_seen 7 = .ok (.ifCond .eq 20, 3) := by decide +kernel
theorem dX7_seen_10 : decode cX7_seen 10 = .ok (.aload_n 0, 1) := by decide +kernel
theorem dX7_seen_11 : decode cX7_seen 11 = .ok (.iload_n 2, 1) := by decide +kernel
theorem dX7_seen_12 : decode cX7_seen 12 = .ok (.invokevirtual 162, 3) := by decide +kernel
theorem dX7_seen_15 : decode cX7_seen 15 = .ok (.ifCond .eq 12, 3) := by decide +kernel
theorem dX7_seen_18 : decode cX7_seen 18 = .ok (.iload_n 3, 1) := by decide +kernel
theorem dX7_seen_19 : decode cX7_seen 19 = .ok (.iconst 0, 1) := by decide +kernel
theorem dX7_seen_20 : decode cX7_seen 20 = .ok (.iconst 1, 1) := by decide +kernel
theorem dX7_seen_21 : decode cX7_seen 21 = .ok (.invokestatic 100, 3) := by decide +kernel
theorem dX7_seen_24 : decode cX7_seen 24 = .ok (.ifCond .ne 5, 3) := by decide +kernel
theorem dX7_seen_27 : decode cX7_seen 27 = .ok (.iconst (-1), 1) := by decide +kernel
theorem dX7_seen_28 : decode cX7_seen 28 = .ok (.ireturn, 1) := by decide +kernel
theorem dX7_seen_29 : decode cX7_seen 29 = .ok (.aload_n 0, 1) := by decide +kernel
theorem dX7_seen_30 : decode cX7_seen 30 = .ok (.getfield 142, 3) := by decide +kernel
theorem dX7_seen_33 : decode cX7_seen 33 = .ok (.bipush 6, 2) := by decide +kernel
theorem dX7_seen_35 : decode cX7_seen 35 = .ok (.if_icmp .ne 6, 3) := by decide +kernel
theorem dX7_seen_38 : decode cX7_seen 38 = .ok (.bipush (-3), 2) := by decide +kernel
theorem dX7_seen_40 : decode cX7_seen 40 = .ok (.ireturn, 1) := by decide +kernel
theorem dX7_seen_41 : decode cX7_seen 41 = .ok (.aload_n 0, 1) := by decide +kernel
theorem dX7_seen_42 : decode cX7_seen 42 = .ok (.getfield 46, 3) := by decide +kernel
theorem dX7_seen_45 : decode cX7_seen 45 = .ok (.aload_n 0, 1) := by decide +kernel
theorem dX7_seen_46 : decode cX7_seen 46 = .ok (.getfield 142, 3) := by decide +kernel
theorem dX7_seen_49 : decode cX7_seen 49 = .ok (.iload_n 1, 1) := by decide +kernel
theorem dX7_seen_50 : decode cX7_seen 50 = .ok (.iastore, 1) := by decide +kernel
theorem dX7_seen_51 : decode cX7_seen 51 = .ok (.aload_n 0, 1) := by decide +kernel
theorem dX7_seen_52 : decode cX7_seen 52 = .ok (.getfield 49, 3) := by decide +kernel
theorem dX7_seen_55 : decode cX7_seen 55 = .ok (.aload_n 0, 1) := by decide +kernel
theorem dX7_seen_56 : decode cX7_seen 56 = .ok (.getfield 142, 3) := by decide +kernel
theorem dX7_seen_59 : decode cX7_seen 59 = .ok (.iload_n 2, 1) := by decide +kernel
theorem dX7_seen_60 : decode cX7_seen 60 = .ok (.iastore, 1) := by decide +kernel
theorem dX7_seen_61 : decode cX7_seen 61 = .ok (.aload_n 0, 1) := by decide +kernel
theorem dX7_seen_62 : decode cX7_seen 62 = .ok (.getfield 52, 3) := by decide +kernel
theorem dX7_seen_65 : decode cX7_seen 65 = .ok (.aload_n 0, 1) := by decide +kernel
theorem dX7_seen_66 : decode cX7_seen 66 = .ok (.getfield 142, 3) := by decide +kernel
theorem dX7_seen_69 : decode cX7_seen 69 = .ok (.iload_n 3, 1) := by decide +kernel
theorem dX7_seen_70 : decode cX7_seen 70 = .ok (.iastore, 1) := by decide +kernel
theorem dX7_seen_71 : decode cX7_seen 71 = .ok (.aload_n 0, 1) := by decide +kernel
theorem dX7_seen_72 : decode cX7_seen 72 = .ok (.dup, 1) := by decide +kernel
theorem dX7_seen_73 : decode cX7_seen 73 = .ok (.getfield 142, 3) := by decide +kernel
theorem dX7_seen_76 : decode cX7_seen 76 = .ok (.iconst 1, 1) := by decide +kernel
theorem dX7_seen_77 : decode cX7_seen 77 = .ok (.iadd, 1) := by decide +kernel
theorem dX7_seen_78 : decode cX7_seen 78 = .ok (.putfield 142, 3) := by decide +kernel
theorem dX7_seen_81 : decode cX7_seen 81 = .ok (.aload_n 0, 1) := by decide +kernel
theorem dX7_seen_82 : decode cX7_seen 82 = .ok (.getfield 142, 3) := by decide +kernel
theorem dX7_seen_85 : decode cX7_seen 85 = .ok (.ireturn, 1) := by decide +kernel
theorem dX7_forget_0 : decode cX7_forget 0 = .ok (.aload_n 0, 1) := by decide +kernel
theorem dX7_forget_1 : decode cX7_forget 1 = .ok (.getfield 142, 3) := by decide +kernel
theorem dX7_forget_4 : decode cX7_forget 4 = .ok (.istore_n 1, 1) := by decide +kernel
theorem dX7_forget_5 : decode cX7_forget 5 = .ok (.aload_n 0, 1) := by decide +kernel
theorem dX7_forget_6 : decode cX7_forget 6 = .ok (.iconst 0, 1) := by decide +kernel
theorem dX7_forget_7 : decode cX7_forget 7 = .ok (.putfield 142, 3) := by decide +kernel
theorem dX7_forget_10 : decode cX7_forget 10 = .ok (.iload_n 1, 1) := by decide +kernel
theorem dX7_forget_11 : decode cX7_forget 11 = .ok (.ireturn, 1) := by decide +kernel
theorem dX7_isSo_0 : decode cX7_isSo 0 = .ok (.aload_n 0, 1) := by decide +kernel
theorem dX7_isSo_1 : decode cX7_isSo 1 = .ok (.invokevirtual 201, 3) := by decide +kernel
theorem dX7_isSo_4 : decode cX7_isSo 4 = .ok (.iconst 1, 1) := by decide +kernel
theorem dX7_isSo_5 : decode cX7_isSo 5 = .ok (.istore_n 1, 1) := by decide +kernel
theorem dX7_isSo_6 : decode cX7_isSo 6 = .ok (.iconst 0, 1) := by decide +kernel
theorem dX7_isSo_7 : decode cX7_isSo 7 = .ok (.istore_n 2, 1) := by decide +kernel
theorem dX7_isSo_8 : decode cX7_isSo 8 = .ok (.iload_n 2, 1) := by decide +kernel
theorem dX7_isSo_9 : decode cX7_isSo 9 = .ok (.bipush 40, 2) := by decide +kernel
theorem dX7_isSo_11 : decode cX7_isSo 11 = .ok (.if_icmp .gt 94, 3) := by decide +kernel
theorem dX7_isSo_14 : decode cX7_isSo 14 = .ok (.iconst 0, 1) := by decide +kernel
theorem dX7_isSo_15 : decode cX7_isSo 15 = .ok (.istore_n 3, 1) := by decide +kernel
theorem dX7_isSo_16 : decode cX7_isSo 16 = .ok (.iload_n 3, 1) := by decide +kernel
theorem dX7_isSo_17 : decode cX7_isSo 17 = .ok (.aload_n 0, 1) := by decide +kernel
theorem dX7_isSo_18 : decode cX7_isSo 18 = .ok (.getfield 142, 3) := by decide +kernel
theorem dX7_isSo_21 : decode cX7_isSo 21 = .ok (.if_icmp .ge 72, 3) := by decide +kernel
theorem dX7_isSo_24 : decode cX7_isSo 24 = .ok (.aload_n 0, 1) := by decide +kernel
theorem dX7_isSo_25 : decode cX7_isSo 25 = .ok (.getfield 31, 3) := by decide +kernel
theorem dX7_isSo_28 : decode cX7_isSo 28 = .ok (.aload_n 0, 1) := by decide +kernel
theorem dX7_isSo_29 : decode cX7_isSo 29 = .ok (.getfield 49, 3) := by decide +kernel
theorem dX7_isSo_32 : decode cX7_isSo 32 = .ok (.iload_n 3, 1) := by decide +kernel
theorem dX7_isSo_33 : decode cX7_isSo 33 = .ok (.iaload, 1) := by decide +kernel
theorem dX7_isSo_34 : decode cX7_isSo 34 = .ok (.iaload, 1) := by decide +kernel
theorem dX7_isSo_35 : decode cX7_isSo 35 = .ok (.bipush (-4), 2) := by decide +kernel
theorem dX7_isSo_37 : decode cX7_isSo 37 = .ok (.if_icmp .eq 7, 3) := by decide +kernel
theorem dX7_isSo_40 : decode cX7_isSo 40 = .ok (.iconst 1, 1) := by decide +kernel
theorem dX7_isSo_41 : decode cX7_isSo 41 = .ok (.goto 4, 3) := by decide +kernel
theorem dX7_isSo_44 : decode cX7_isSo 44 = .ok (.iconst 0, 1) := by decide +kernel
theorem dX7_isSo_45 : decode cX7_isSo 45 = .ok (.istore 4, 2) := by decide +kernel
theorem dX7_isSo_47 : decode cX7_isSo 47 = .ok (.iload_n 1, 1) := by decide +kernel
theorem dX7_isSo_48 : decode cX7_isSo 48 = .ok (.ifCond .eq 37, 3) := by decide +kernel
theorem dX7_isSo_51 : decode cX7_isSo 51 = .ok (.aload_n 0, 1) := by decide +kernel
theorem dX7_isSo_52 : decode cX7_isSo 52 = .ok (.getfield 46, 3) := by decide +kernel
theorem dX7_isSo_55 : decode cX7_isSo 55 = .ok (.iload_n 3, 1) := by decide +kernel
theorem dX7_isSo_56 : decode cX7_isSo 56 = .ok (.iaload, 1) := by decide +kernel
theorem dX7_isSo_57 : decode cX7_isSo 57 = .ok (.iload_n 2, 1) := by decide +kernel
theorem dX7_isSo_58 : decode cX7_isSo 58 = .ok (.if_icmp .ne 23, 3) := by decide +kernel
theorem dX7_isSo_61 : decode cX7_isSo 61 = .ok (.iload 4, 2) := by decide +kernel
theorem dX7_isSo_63 : decode cX7_isSo 63 = .ok (.aload_n 0, 1) := by decide +kernel
theorem dX7_isSo_64 : decode cX7_isSo 64 = .ok (.getfield 52, 3) := by decide +kernel
theorem dX7_isSo_67 : decode cX7_isSo 67 = .ok (.iload_n 3, 1) := by decide +kernel
theorem dX7_isSo_68 : decode cX7_isSo 68 = .ok (.iaload, 1) := by decide +kernel
theorem dX7_isSo_69 : decode cX7_isSo 69 = .ok (.iconst 1, 1) := by decide +kernel
theorem dX7_isSo_70 : decode cX7_isSo 70 = .ok (.if_icmp .ne 7, 3) := by decide +kernel
theorem dX7_isSo_73 : decode cX7_isSo 73 = .ok (.iconst 1, 1) := by decide +kernel
theorem dX7_isSo_74 : decode cX7_isSo 74 = .ok (.goto 4, 3) := by decide +kernel
theorem dX7_isSo_77 : decode cX7_isSo 77 = .ok (.iconst 0, 1) := by decide +kernel
theorem dX7_isSo_78 : decode cX7_isSo 78 = .ok (.if_icmp .ne 7, 3) := by decide +kernel
theorem dX7_isSo_81 : decode cX7_isSo 81 = .ok (.iconst 1, 1) := by decide +kernel
theorem dX7_isSo_82 : decode cX7_isSo 82 = .ok (.goto 4, 3) := by decide +kernel
theorem dX7_isSo_85 : decode cX7_isSo 85 = .ok (.iconst 0, 1) := by decide +kernel
theorem dX7_isSo_86 : decode cX7_isSo 86 = .ok (.istore_n 1, 1) := by decide +kernel
theorem dX7_isSo_87 : decode cX7_isSo 87 = .ok (.iinc 3 1, 3) := by decide +kernel
theorem dX7_isSo_90 : decode cX7_isSo 90 = .ok (.goto (-74), 3) := by decide +kernel
theorem dX7_isSo_93 : decode cX7_isSo 93 = .ok (.aload_n 0, 1) := by decide +kernel
theorem dX7_isSo_94 : decode cX7_isSo 94 = .ok (.iconst 0, 1) := by decide +kernel
theorem dX7_isSo_95 : decode cX7_isSo 95 = .ok (.invokevirtual 158, 3) := by decide +kernel
theorem dX7_isSo_98 : decode cX7_isSo 98 = .ok (.pop, 1) := by decide +kernel
theorem dX7_isSo_99 : decode cX7_isSo 99 = .ok (.iinc 2 1, 3) := by decide +kernel
theorem dX7_isSo_102 : decode cX7_isSo 102 = .ok (.goto (-94), 3) := by decide +kernel
theorem dX7_isSo_105 : decode cX7_isSo 105 = .ok (.aload_n 0, 1) := by decide +kernel
theorem dX7_isSo_106 : decode cX7_isSo 106 = .ok (.invokevirtual 213, 3) := by decide +kernel
theorem dX7_isSo_109 : decode cX7_isSo 109 = .ok (.iload_n 1, 1) := by decide +kernel
theorem dX7_isSo_110 : decode cX7_isSo 110 = .ok (.ireturn, 1) := by decide +kernel
theorem dX7_kinds_0 : decode cX7_kinds 0 = .ok (.aload_n 0, 1) := by decide +kernel
theorem dX7_kinds_1 : decode cX7_kinds 1 = .ok (.iload_n 1, 1) := by decide +kernel
theorem dX7_kinds_2 : decode cX7_kinds 2 = .ok (.invokevirtual 162, 3) := by decide +kernel
theorem dX7_kinds_5 : decode cX7_kinds 5 = .ok (.ifCond .ne 5, 3) := by decide +kernel
theorem dX7_kinds_8 : decode cX7_kinds 8 = .ok (.iconst (-1), 1) := by decide +kernel
theorem dX7_kinds_9 : decode cX7_kinds 9 = .ok (.ireturn, 1) := by decide +kernel
theorem dX7_kinds_10 : decode cX7_kinds 10 = .ok (.aload_n 0, 1) := by decide +kernel
theorem dX7_kinds_11 : decode cX7_kinds 11 = .ok (.getfield 9, 3) := by decide +kernel
theorem dX7_kinds_14 : decode cX7_kinds 14 = .ok (.iload_n 1, 1) := by decide +kernel
theorem dX7_kinds_15 : decode cX7_kinds 15 = .ok (.iaload, 1) := by decide +kernel
theorem dX7_kinds_16 : decode cX7_kinds 16 = .ok (.istore_n 2, 1) := by decide +kernel
theorem dX7_kinds_17 : decode cX7_kinds 17 = .ok (.iconst 0, 1) := by decide +kernel
theorem dX7_kinds_18 : decode cX7_kinds 18 = .ok (.istore_n 3, 1) := by decide +kernel
theorem dX7_kinds_19 : decode cX7_kinds 19 = .ok (.iconst 0, 1) := by decide +kernel
theorem dX7_kinds_20 : decode cX7_kinds 20 = .ok (.istore 4, 2) := by decide +kernel
theorem dX7_kinds_22 : decode cX7_kinds 22 = .ok (.iload 4, 2) := by decide +kernel
theorem dX7_kinds_24 : decode cX7_kinds 24 = .ok (.iconst 3, 1) := by decide +kernel
theorem dX7_kinds_25 : decode cX7_kinds 25 = .ok (.if_icmp .gt 35, 3) := by decide +kernel
theorem dX7_kinds_28 : decode cX7_kinds 28 = .ok (.aload_n 0, 1) := by decide +kernel
theorem dX7_kinds_29 : decode cX7_kinds 29 = .ok (.getfield 9, 3) := by decide +kernel
theorem dX7_kinds_32 : decode cX7_kinds 32 = .ok (.iload_n 1, 1) := by decide +kernel
theorem dX7_kinds_33 : decode cX7_kinds 33 = .ok (.iload 4, 2) := by decide +kernel
theorem dX7_kinds_35 : decode cX7_kinds 35 = .ok (.iastore, 1) := by decide +kernel
theorem dX7_kinds_36 : decode cX7_kinds 36 = .ok (.iload_n 3, 1) := by decide +kernel
theorem dX7_kinds_37 : decode cX7_kinds 37 = .ok (.aload_n 0, 1) := by decide +kernel
theorem dX7_kinds_38 : decode cX7_kinds 38 = .ok (.invokevirtual 238, 3) := by decide +kernel
theorem dX7_kinds_41 : decode cX7_kinds 41 = .ok (.ifCond .eq 10, 3) := by decide +kernel
theorem dX7_kinds_44 : decode cX7_kinds 44 = .ok (.iconst 1, 1) := by decide +kernel
theorem dX7_kinds_45 : decode cX7_kinds 45 = .ok (.iload 4, 2) := by decide +kernel
theorem dX7_kinds_47 : decode cX7_kinds 47 = .ok (.ishl, 1) := by decide +kernel
theorem dX7_kinds_48 : decode cX7_kinds 48 = .ok (.goto 4, 3) := by decide +kernel
theorem dX7_kinds_51 : decode cX7_kinds 51 = .ok (.iconst 0, 1) := by decide +kernel
theorem dX7_kinds_52 : decode cX7_kinds 52 = .ok (.ior, 1) := by decide +kernel
theorem dX7_kinds_53 : decode cX7_kinds 53 = .ok (.istore_n 3, 1) := by decide +kernel
theorem dX7_kinds_54 : decode cX7_kinds 54 = .ok (.iinc 4 1, 3) := by decide +kernel
theorem dX7_kinds_57 : decode cX7_kinds 57 = .ok (.goto (-35), 3) := by decide +kernel
theorem dX7_kinds_60 : decode cX7_kinds 60 = .ok (.aload_n 0, 1) := by decide +kernel
theorem dX7_kinds_61 : decode cX7_kinds 61 = .ok (.getfield 9, 3) := by decide +kernel
theorem dX7_kinds_64 : decode cX7_kinds 64 = .ok (.iload_n 1, 1) := by decide +kernel
theorem dX7_kinds_65 : decode cX7_kinds 65 = .ok (.iload_n 2, 1) := by decide +kernel
theorem dX7_kinds_66 : decode cX7_kinds 66 = .ok (.iastore, 1) := by decide +kernel
theorem dX7_kinds_67 : decode cX7_kinds 67 = .ok (.iload_n 3, 1) := by decide +kernel
theorem dX7_kinds_68 : decode cX7_kinds 68 = .ok (.ireturn, 1) := by decide +kernel
theorem dX7_days_0 : decode cX7_days 0 = .ok (.aload_n 0, 1) := by decide +kernel
theorem dX7_days_1 : decode cX7_days 1 = .ok (.iload_n 1, 1) := by decide +kernel
theorem dX7_days_2 : decode cX7_days 2 = .ok (.invokevirtual 162, 3) := by decide +kernel
theorem dX7_days_5 : decode cX7_days 5 = .ok (.ifCond .eq 12, 3) := by decide +kernel
theorem dX7_days_8 : decode cX7_days 8 = .ok (.iload_n 2, 1) := by decide +kernel
theorem dX7_days_9 : decode cX7_days 9 = .ok (.iconst 0, 1) := by decide +kernel
theorem dX7_days_10 : decode cX7_days 10 = .ok (.iconst 1, 1) := by decide +kernel
theorem dX7_days_11 : decode cX7_days 11 = .ok (.invokestatic 100, 3) := by decide +kernel
theorem dX7_days_14 : decode cX7_days 14 = .ok (.ifCond .ne 5, 3) := by decide +kernel
theorem dX7_days_17 : decode cX7_days 17 = .ok (.iconst (-1), 1) := by decide +kernel
theorem dX7_days_18 : decode cX7_days 18 = .ok (.ireturn, 1) := by decide +kernel
theorem dX7_days_19 : decode cX7_days 19 = .ok (.aload_n 0, 1) := by decide +kernel
theorem dX7_days_20 : decode cX7_days 20 = .ok (.getfield 16, 3) := by decide +kernel
theorem dX7_days_23 : decode cX7_days 23 = .ok (.iload_n 1, 1) := by decide +kernel
theorem dX7_days_24 : decode cX7_days 24 = .ok (.iaload, 1) := by decide +kernel
theorem dX7_days_25 : decode cX7_days 25 = .ok (.istore_n 3, 1) := by decide +kernel
theorem dX7_days_26 : decode cX7_days 26 = .ok (.iconst 0, 1) := by decide +kernel
theorem dX7_days_27 : decode cX7_days 27 = .ok (.istore 4, 2) := by decide +kernel
theorem dX7_days_29 : decode cX7_days 29 = .ok (.bipush (-4), 2) := by decide +kernel
theorem dX7_days_31 : decode cX7_days 31 = .ok (.istore 5, 2) := by decide +kernel
theorem dX7_days_33 : decode cX7_days 33 = .ok (.bipush 40, 2) := by decide +kernel
theorem dX7_days_35 : decode cX7_days 35 = .ok (.istore 6, 2) := by decide +kernel
theorem dX7_days_37 : decode cX7_days 37 = .ok (.iload 6, 2) := by decide +kernel
theorem dX7_days_39 : decode cX7_days 39 = .ok (.ifCond .lt 52, 3) := by decide +kernel
theorem dX7_days_42 : decode cX7_days 42 = .ok (.aload_n 0, 1) := by decide +kernel
theorem dX7_days_43 : decode cX7_days 43 = .ok (.getfield 16, 3) := by decide +kernel
theorem dX7_days_46 : decode cX7_days 46 = .ok (.iload_n 1, 1) := by decide +kernel
theorem dX7_days_47 : decode cX7_days 47 = .ok (.iload 6, 2) := by decide +kernel
theorem dX7_days_49 : decode cX7_days 49 = .ok (.iastore, 1) := by decide +kernel
theorem dX7_days_50 : decode cX7_days 50 = .ok (.aload_n 0, 1) := by decide +kernel
theorem dX7_days_51 : decode cX7_days 51 = .ok (.invokevirtual 238, 3) := by decide +kernel
theorem dX7_days_54 : decode cX7_days 54 = .ok (.istore 7, 2) := by decide +kernel
theorem dX7_days_56 : decode cX7_days 56 = .ok (.iload 4, 2) := by decide +kernel
theorem dX7_days_58 : decode cX7_days 58 = .ok (.iload 7, 2) := by decide +kernel
theorem dX7_days_60 : decode cX7_days 60 = .ok (.ifCond .eq 7, 3) := by decide +kernel
theorem dX7_days_63 : decode cX7_days 63 = .ok (.iconst 1, 1) := by decide +kernel
theorem dX7_days_64 : decode cX7_days 64 = .ok (.goto 4, 3) := by decide +kernel
theorem dX7_days_67 : decode cX7_days 67 = .ok (.iconst 0, 1) := by decide +kernel
theorem dX7_days_68 : decode cX7_days 68 = .ok (.iadd, 1) := by decide +kernel
theorem dX7_days_69 : decode cX7_days 69 = .ok (.istore 4, 2) := by decide +kernel
theorem dX7_days_71 : decode cX7_days 71 = .ok (.iload 7, 2) := by decide +kernel
theorem dX7_days_73 : decode cX7_days 73 = .ok (.ifCond .eq 8, 3) := by decide +kernel
theorem dX7_days_76 : decode cX7_days 76 = .ok (.iload 6, 2) := by decide +kernel
theorem dX7_days_78 : decode cX7_days 78 = .ok (.goto 5, 3) := by decide +kernel
theorem dX7_days_81 : decode cX7_days 81 = .ok (.iload 5, 2) := by decide +kernel
theorem dX7_days_83 : decode cX7_days 83 = .ok (.istore 5, 2) := by decide +kernel
theorem dX7_days_85 : decode cX7_days 85 = .ok (.iinc 6 (-1), 3) := by decide +kernel
theorem dX7_days_88 : decode cX7_days 88 = .ok (.goto (-51), 3) := by decide +kernel
theorem dX7_days_91 : decode cX7_days 91 = .ok (.aload_n 0, 1) := by decide +kernel
theorem dX7_days_92 : decode cX7_days 92 = .ok (.getfield 16, 3) := by decide +kernel
theorem dX7_days_95 : decode cX7_days 95 = .ok (.iload_n 1, 1) := by decide +kernel
theorem dX7_days_96 : decode cX7_days 96 = .ok (.iload_n 3, 1) := by decide +kernel
theorem dX7_days_97 : decode cX7_days 97 = .ok (.iastore, 1) := by decide +kernel
theorem dX7_days_98 : decode cX7_days 98 = .ok (.iload_n 2, 1) := by decide +kernel
theorem dX7_days_99 : decode cX7_days 99 = .ok (.ifCond .ne 8, 3) := by decide +kernel
theorem dX7_days_102 : decode cX7_days 102 = .ok (.iload 4, 2) := by decide +kernel
theorem dX7_days_104 : decode cX7_days 104 = .ok (.goto 5, 3) := by decide +kernel
theorem dX7_days_107 : decode cX7_days 107 = .ok (.iload 5, 2) := by decide +kernel
theorem dX7_days_109 : decode cX7_days 109 = .ok (.ireturn, 1) := by decide +kernel
theorem dX7_common_0 : decode cX7_common 0 = .ok (.lload_n 0, 1) := by decide +kernel
theorem dX7_common_1 : decode cX7_common 1 = .ok (.lstore 4, 2) := by decide +kernel
theorem dX7_common_3 : decode cX7_common 3 = .ok (.lload_n 2, 1) := by decide +kernel
theorem dX7_common_4 : decode cX7_common 4 = .ok (.lstore 6, 2) := by decide +kernel
theorem dX7_common_6 : decode cX7_common 6 = .ok (.lload 6, 2) := by decide +kernel
theorem dX7_common_8 : decode cX7_common 8 = .ok (.lconst 0, 1) := by decide +kernel
theorem dX7_common_9 : decode cX7_common 9 = .ok (.lcmp, 1) := by decide +kernel
theorem dX7_common_10 : decode cX7_common 10 = .ok (.ifCond .eq 21, 3) := by decide +kernel
theorem dX7_common_13 : decode cX7_common 13 = .ok (.lload 4, 2) := by decide +kernel
theorem dX7_common_15 : decode cX7_common 15 = .ok (.lload 6, 2) := by decide +kernel
theorem dX7_common_17 : decode cX7_common 17 = .ok (.lrem, 1) := by decide +kernel
theorem dX7_common_18 : decode cX7_common 18 = .ok (.lstore 8, 2) := by decide +kernel
theorem dX7_common_20 : decode cX7_common 20 = .ok (.lload 6, 2) := by decide +kernel
theorem dX7_common_22 : decode cX7_common 22 = .ok (.lstore 4, 2) := by decide +kernel
theorem dX7_common_24 : decode cX7_common 24 = .ok (.lload 8, 2) := by decide +kernel
theorem dX7_common_26 : decode cX7_common 26 = .ok (.lstore 6, 2) := by decide +kernel
theorem dX7_common_28 : decode cX7_common 28 = .ok (.goto (-22), 3) := by decide +kernel
theorem dX7_common_31 : decode cX7_common 31 = .ok (.lload 4, 2) := by decide +kernel
theorem dX7_common_33 : decode cX7_common 33 = .ok (.lreturn, 1) := by decide +kernel
theorem dX7_likely_0 : decode cX7_likely 0 = .ok (.aload_n 0, 1) := by decide +kernel
theorem dX7_likely_1 : decode cX7_likely 1 = .ok (.iload_n 1, 1) := by decide +kernel
theorem dX7_likely_2 : decode cX7_likely 2 = .ok (.invokevirtual 162, 3) := by decide +kernel
theorem dX7_likely_5 : decode cX7_likely 5 = .ok (.ifCond .eq 33, 3) := by decide +kernel
theorem dX7_likely_8 : decode cX7_likely 8 = .ok (.iload_n 2, 1) := by decide +kernel
theorem dX7_likely_9 : decode cX7_likely 9 = .ok (.iconst 0, 1) := by decide +kernel
theorem dX7_likely_10 : decode cX7_likely 10 = .ok (.bipush 7, 2) := by decide +kernel
theorem dX7_likely_12 : decode cX7_likely 12 = .ok (.invokestatic 100, 3) := by decide +kernel
theorem dX7_likely_15 : decode cX7_likely 15 = .ok (.ifCond .eq 23, 3) := by decide +kernel
theorem dX7_likely_18 : decode cX7_likely 18 = .ok (.iload_n 3, 1) := by decide +kernel
theorem dX7_likely_19 : decode cX7_likely 19 = .ok (.iconst 0, 1) := by decide +kernel
theorem dX7_likely_20 : decode cX7_likely 20 = .ok (.bipush 10, 2) := by decide +kernel
theorem dX7_likely_22 : decode cX7_likely 22 = .ok (.invokestatic 100, 3) := by decide +kernel
theorem dX7_likely_25 : decode cX7_likely 25 = .ok (.ifCond .eq 13, 3) := by decide +kernel
theorem dX7_likely_28 : decode cX7_likely 28 = .ok (.iload 4, 2) := by decide +kernel
theorem dX7_likely_30 : decode cX7_likely 30 = .ok (.iconst 0, 1) := by decide +kernel
theorem dX7_likely_31 : decode cX7_likely 31 = .ok (.iconst 1, 1) := by decide +kernel
theorem dX7_likely_32 : decode cX7_likely 32 = .ok (.invokestatic 100, 3) := by decide +kernel
theorem dX7_likely_35 : decode cX7_likely 35 = .ok (.ifCond .ne 5, 3) := by decide +kernel
theorem dX7_likely_38 : decode cX7_likely 38 = .ok (.iconst (-1), 1) := by decide +kernel
theorem dX7_likely_39 : decode cX7_likely 39 = .ok (.ireturn, 1) := by decide +kernel
theorem dX7_likely_40 : decode cX7_likely 40 = .ok (.lconst 0, 1) := by decide +kernel
theorem dX7_likely_41 : decode cX7_likely 41 = .ok (.lstore 5, 2) := by decide +kernel
theorem dX7_likely_43 : decode cX7_likely 43 = .ok (.lconst 1, 1) := by decide +kernel
theorem dX7_likely_44 : decode cX7_likely 44 = .ok (.lstore 7, 2) := by decide +kernel
theorem dX7_likely_46 : decode cX7_likely 46 = .ok (.iconst 0, 1) := by decide +kernel
theorem dX7_likely_47 : decode cX7_likely 47 = .ok (.istore 9, 2) := by decide +kernel
theorem dX7_likely_49 : decode cX7_likely 49 = .ok (.iload 9, 2) := by decide +kernel
theorem dX7_likely_51 : decode cX7_likely 51 = .ok (.iload_n 2, 1) := by decide +kernel
theorem dX7_likely_52 : decode cX7_likely 52 = .ok (.if_icmp .ge 17, 3) := by decide +kernel
theorem dX7_likely_55 : decode cX7_likely 55 = .ok (.lload 7, 2) := by decide +kernel
theorem dX7_likely_57 : decode cX7_likely 57 = .ok (.ldc2_w 241, 3) := by decide +kernel
theorem dX7_likely_60 : decode cX7_likely 60 = .ok (.lmul, 1) := by decide +kernel
theorem dX7_likely_61 : decode cX7_likely 61 = .ok (.lstore 7, 2) := by decide +kernel
theorem dX7_likely_63 : decode cX7_likely 63 = .ok (.iinc 9 1, 3) := by decide +kernel
theorem dX7_likely_66 : decode cX7_likely 66 = .ok (.goto (-17), 3) := by decide +kernel
theorem dX7_likely_69 : decode cX7_likely 69 = .ok (.iconst 0, 1) := by decide +kernel
theorem dX7_likely_70 : decode cX7_likely 70 = .ok (.istore 9, 2) := by decide +kernel
theorem dX7_likely_72 : decode cX7_likely 72 = .ok (.iload 9, 2) := by decide +kernel
theorem dX7_likely_74 : decode cX7_likely 74 = .ok (.iconst 1, 1) := by decide +kernel
theorem dX7_likely_75 : decode cX7_likely 75 = .ok (.iload_n 2, 1) := by decide +kernel
theorem dX7_likely_76 : decode cX7_likely 76 = .ok (.ishl, 1) := by decide +kernel
theorem dX7_likely_77 : decode cX7_likely 77 = .ok (.if_icmp .ge 102, 3) := by decide +kernel
theorem dX7_likely_80 : decode cX7_likely 80 = .ok (.lconst 1, 1) := by decide +kernel
theorem dX7_likely_81 : decode cX7_likely 81 = .ok (.lstore 10, 2) := by decide +kernel
theorem dX7_likely_83 : decode cX7_likely 83 = .ok (.aload_n 0, 1) := by decide +kernel
theorem dX7_likely_84 : decode cX7_likely 84 = .ok (.invokevirtual 201, 3) := by decide +kernel
theorem dX7_likely_87 : decode cX7_likely 87 = .ok (.iconst 0, 1) := by decide +kernel
theorem dX7_likely_88 : decode cX7_likely 88 = .ok (.istore 12, 2) := by decide +kernel
theorem dX7_likely_90 : decode cX7_likely 90 = .ok (.iload 12, 2) := by decide +kernel
theorem dX7_likely_92 : decode cX7_likely 92 = .ok (.iload_n 2, 1) := by decide +kernel
theorem dX7_likely_93 : decode cX7_likely 93 = .ok (.if_icmp .ge 46, 3) := by decide +kernel
theorem dX7_likely_96 : decode cX7_likely 96 = .ok (.lload 10, 2) := by decide +kernel
theorem dX7_likely_98 : decode cX7_likely 98 = .ok (.iload 9, 2) := by decide +kernel
theorem dX7_likely_100 : decode cX7_likely 100 = .ok (.iload 12, 2) := by decide +kernel
theorem dX7_likely_102 : decode cX7_likely 102 = .ok (.invokestatic 243, 3) := by decide +kernel
theorem dX7_likely_105 : decode cX7_likely 105 = .ok (.ifCond .eq 8, 3) := by decide +kernel
theorem dX7_likely_108 : decode cX7_likely 108 = .ok (.iload_n 3, 1) := by decide +kernel
theorem dX7_likely_109 : decode cX7_likely 109 = .ok (.i2l, 1) := by decide +kernel
theorem dX7_likely_110 : decode cX7_likely 110 = .ok (.goto 8, 3) := by decide +kernel
theorem dX7_likely_113 : decode cX7_likely 113 = .ok (.bipush 10, 2) := by decide +kernel
theorem dX7_likely_115 : decode cX7_likely 115 = .ok (.iload_n 3, 1) := by decide +kernel
theorem dX7_likely_116 : decode cX7_likely 116 = .ok (.isub, 1) := by decide +kernel
theorem dX7_likely_117 : decode cX7_likely 117 = .ok (.i2l, 1) := by decide +kernel
theorem dX7_likely_118 : decode cX7_likely 118 = .ok (.lmul, 1) := by decide +kernel
theorem dX7_likely_119 : decode cX7_likely 119 = .ok (.lstore 10, 2) := by decide +kernel
theorem dX7_likely_121 : decode cX7_likely 121 = .ok (.aload_n 0, 1) := by decide +kernel
theorem dX7_likely_122 : decode cX7_likely 122 = .ok (.iload 9, 2) := by decide +kernel
theorem dX7_likely_124 : decode cX7_likely 124 = .ok (.iload 12, 2) := by decide +kernel
theorem dX7_likely_126 : decode cX7_likely 126 = .ok (.invokestatic 243, 3) := by decide +kernel
theorem dX7_likely_129 : decode cX7_likely 129 = .ok (.invokevirtual 158, 3) := by decide +kernel
theorem dX7_likely_132 : decode cX7_likely 132 = .ok (.pop, 1) := by decide +kernel
theorem dX7_likely_133 : decode cX7_likely 133 = .ok (.iinc 12 1, 3) := by decide +kernel
theorem dX7_likely_136 : decode cX7_likely 136 = .ok (.goto (-46), 3) := by decide +kernel
theorem dX7_likely_139 : decode cX7_likely 139 = .ok (.aload_n 0, 1) := by decide +kernel
theorem dX7_likely_140 : decode cX7_likely 140 = .ok (.bipush 60, 2) := by decide +kernel
theorem dX7_likely_142 : decode cX7_likely 142 = .ok (.iload_n 2, 1) := by decide +kernel
theorem dX7_likely_143 : decode cX7_likely 143 = .ok (.isub, 1) := by decide +kernel
theorem dX7_likely_144 : decode cX7_likely 144 = .ok (.invokevirtual 194, 3) := by decide +kernel
theorem dX7_likely_147 : decode cX7_likely 147 = .ok (.pop, 1) := by decide +kernel
theorem dX7_likely_148 : decode cX7_likely 148 = .ok (.lload 5, 2) := by decide +kernel
theorem dX7_likely_150 : decode cX7_likely 150 = .ok (.aload_n 0, 1) := by decide +kernel
theorem dX7_likely_151 : decode cX7_likely 151 = .ok (.getfield 34, 3) := by decide +kernel
theorem dX7_likely_154 : decode cX7_likely 154 = .ok (.iload_n 1, 1) := by decide +kernel
theorem dX7_likely_155 : decode cX7_likely 155 = .ok (.iaload, 1) := by decide +kernel
theorem dX7_likely_156 : decode cX7_likely 156 = .ok (.iconst 1, 1) := by decide +kernel
theorem dX7_likely_157 : decode cX7_likely 157 = .ok (.if_icmp .ne 8, 3) := by decide +kernel
theorem dX7_likely_160 : decode cX7_likely 160 = .ok (.lload 10, 2) := by decide +kernel
theorem dX7_likely_162 : decode cX7_likely 162 = .ok (.goto 4, 3) := by decide +kernel
theorem dX7_likely_165 : decode cX7_likely 165 = .ok (.lconst 0, 1) := by decide +kernel
theorem dX7_likely_166 : decode cX7_likely 166 = .ok (.ladd, 1) := by decide +kernel
theorem dX7_likely_167 : decode cX7_likely 167 = .ok (.lstore 5, 2) := by decide +kernel
theorem dX7_likely_169 : decode cX7_likely 169 = .ok (.aload_n 0, 1) := by decide +kernel
theorem dX7_likely_170 : decode cX7_likely 170 = .ok (.invokevirtual 213, 3) := by decide +kernel
theorem dX7_likely_173 : decode cX7_likely 173 = .ok (.iinc 9 1, 3) := by decide +kernel
theorem dX7_likely_176 : decode cX7_likely 176 = .ok (.goto (-104), 3) := by decide +kernel
theorem dX7_likely_179 : decode cX7_likely 179 = .ok (.lload 5, 2) := by decide +kernel
theorem dX7_likely_181 : decode cX7_likely 181 = .ok (.lload 7, 2) := by decide +kernel
theorem dX7_likely_183 : decode cX7_likely 183 = .ok (.invokestatic 246, 3) := by decide +kernel
theorem dX7_likely_186 : decode cX7_likely 186 = .ok (.lstore 9, 2) := by decide +kernel
theorem dX7_likely_188 : decode cX7_likely 188 = .ok (.iload 4, 2) := by decide +kernel
theorem dX7_likely_190 : decode cX7_likely 190 = .ok (.ifCond .ne 11, 3) := by decide +kernel
theorem dX7_likely_193 : decode cX7_likely 193 = .ok (.lload 5, 2) := by decide +kernel
theorem dX7_likely_195 : decode cX7_likely 195 = .ok (.lload 9, 2) := by decide +kernel
theorem dX7_likely_197 : decode cX7_likely 197 = .ok (.ldiv, 1) := by decide +kernel
theorem dX7_likely_198 : decode cX7_likely 198 = .ok (.goto 8, 3) := by decide +kernel
theorem dX7_likely_201 : decode cX7_likely 201 = .ok (.lload 7, 2) := by decide +kernel
theorem dX7_likely_203 : decode cX7_likely 203 = .ok (.lload 9, 2) := by decide +kernel
theorem dX7_likely_205 : decode cX7_likely 205 = .ok (.ldiv, 1) := by decide +kernel
theorem dX7_likely_206 : decode cX7_likely 206 = .ok (.l2i, 1) := by decide +kernel
theorem dX7_likely_207 : decode cX7_likely 207 = .ok (.ireturn, 1) := by decide +kernel
theorem dX7_year_0 : decode cX7_year 0 = .ok (.iload_n 1, 1) := by decide +kernel
theorem dX7_year_1 : decode cX7_year 1 = .ok (.iconst 0, 1) := by decide +kernel
theorem dX7_year_2 : decode cX7_year 2 = .ok (.sipush 9999, 3) := by decide +kernel
theorem dX7_year_5 : decode cX7_year 5 = .ok (.invokestatic 100, 3) := by decide +kernel
theorem dX7_year_8 : decode cX7_year 8 = .ok (.ifCond .eq 22, 3) := by decide +kernel
theorem dX7_year_11 : decode cX7_year 11 = .ok (.iload_n 2, 1) := by decide +kernel
theorem dX7_year_12 : decode cX7_year 12 = .ok (.iconst 1, 1) := by decide +kernel
theorem dX7_year_13 : decode cX7_year 13 = .ok (.bipush 60, 2) := by decide +kernel
theorem dX7_year_15 : decode cX7_year 15 = .ok (.invokestatic 100, 3) := by decide +kernel
theorem dX7_year_18 : decode cX7_year 18 = .ok (.ifCond .eq 12, 3) := by decide +kernel
theorem dX7_year_21 : decode cX7_year 21 = .ok (.iload_n 3, 1) := by decide +kernel
theorem dX7_year_22 : decode cX7_year 22 = .ok (.iconst 0, 1) := by decide +kernel
theorem dX7_year_23 : decode cX7_year 23 = .ok (.iconst 2, 1) := by decide +kernel
theorem dX7_year_24 : decode cX7_year 24 = .ok (.invokestatic 100, 3) := by decide +kernel
theorem dX7_year_27 : decode cX7_year 27 = .ok (.ifCond .ne 5, 3) := by decide +kernel
theorem dX7_year_30 : decode cX7_year 30 = .ok (.iconst (-1), 1) := by decide +kernel
theorem dX7_year_31 : decode cX7_year 31 = .ok (.ireturn, 1) := by decide +kernel
theorem dX7_year_32 : decode cX7_year 32 = .ok (.aload_n 0, 1) := by decide +kernel
theorem dX7_year_33 : decode cX7_year 33 = .ok (.invokevirtual 201, 3) := by decide +kernel
theorem dX7_year_36 : decode cX7_year 36 = .ok (.iconst 0, 1) := by decide +kernel
theorem dX7_year_37 : decode cX7_year 37 = .ok (.istore 4, 2) := by decide +kernel
theorem dX7_year_39 : decode cX7_year 39 = .ok (.iload 4, 2) := by decide +kernel
theorem dX7_year_41 : decode cX7_year 41 = .ok (.iload_n 2, 1) := by decide +kernel
theorem dX7_year_42 : decode cX7_year 42 = .ok (.if_icmp .ge 137, 3) := by decide +kernel
theorem dX7_year_45 : decode cX7_year 45 = .ok (.ldc2_w 250, 3) := by decide +kernel
theorem dX7_year_48 : decode cX7_year 48 = .ok (.iload_n 1, 1) := by decide +kernel
theorem dX7_year_49 : decode cX7_year 49 = .ok (.i2l, 1) := by decide +kernel
theorem dX7_year_50 : decode cX7_year 50 = .ok (.lmul, 1) := by decide +kernel
theorem dX7_year_51 : decode cX7_year 51 = .ok (.ldc2_w 252, 3) := by decide +kernel
theorem dX7_year_54 : decode cX7_year 54 = .ok (.iload 4, 2) := by decide +kernel
theorem dX7_year_56 : decode cX7_year 56 = .ok (.i2l, 1) := by decide +kernel
theorem dX7_year_57 : decode cX7_year 57 = .ok (.lmul, 1) := by decide +kernel
theorem dX7_year_58 : decode cX7_year 58 = .ok (.ladd, 1) := by decide +kernel
theorem dX7_year_59 : decode cX7_year 59 = .ok (.lconst 1, 1) := by decide +kernel
theorem dX7_year_60 : decode cX7_year 60 = .ok (.ladd, 1) := by decide +kernel
theorem dX7_year_61 : decode cX7_year 61 = .ok (.lstore 5, 2) := by decide +kernel
theorem dX7_year_63 : decode cX7_year 63 = .ok (.lload 5, 2) := by decide +kernel
theorem dX7_year_65 : decode cX7_year 65 = .ok (.lload 5, 2) := by decide +kernel
theorem dX7_year_67 : decode cX7_year 67 = .ok (.lmul, 1) := by decide +kernel
theorem dX7_year_68 : decode cX7_year 68 = .ok (.ldc2_w 254, 3) := by decide +kernel
theorem dX7_year_71 : decode cX7_year 71 = .ok (.lrem, 1) := by decide +kernel
theorem dX7_year_72 : decode cX7_year 72 = .ok (.ldc2_w 256, 3) := by decide +kernel
theorem dX7_year_75 : decode cX7_year 75 = .ok (.ldiv, 1) := by decide +kernel
theorem dX7_year_76 : decode cX7_year 76 = .ok (.l2i, 1) := by decide +kernel
theorem dX7_year_77 : decode cX7_year 77 = .ok (.istore 7, 2) := by decide +kernel
theorem dX7_year_79 : decode cX7_year 79 = .ok (.iload 7, 2) := by decide +kernel
theorem dX7_year_81 : decode cX7_year 81 = .ok (.aload_n 0, 1) := by decide +kernel
theorem dX7_year_82 : decode cX7_year 82 = .ok (.getfield 84, 3) := by decide +kernel
theorem dX7_year_85 : decode cX7_year 85 = .ok (.irem, 1) := by decide +kernel
theorem dX7_year_86 : decode cX7_year 86 = .ok (.istore 8, 2) := by decide +kernel
theorem dX7_year_88 : decode cX7_year 88 = .ok (.iload 7, 2) := by decide +kernel
theorem dX7_year_90 : decode cX7_year 90 = .ok (.bipush 8, 2) := by decide +kernel
theorem dX7_year_92 : decode cX7_year 92 = .ok (.idiv, 1) := by decide +kernel
theorem dX7_year_93 : decode cX7_year 93 = .ok (.iconst 4, 1) := by decide +kernel
theorem dX7_year_94 : decode cX7_year 94 = .ok (.irem, 1) := by decide +kernel
theorem dX7_year_95 : decode cX7_year 95 = .ok (.istore 9, 2) := by decide +kernel
theorem dX7_year_97 : decode cX7_year 97 = .ok (.iload 9, 2) := by decide +kernel
theorem dX7_year_99 : decode cX7_year 99 = .ok (.iconst 2, 1) := by decide +kernel
theorem dX7_year_100 : decode cX7_year 100 = .ok (.if_icmp .ge 21, 3) := by decide +kernel
theorem dX7_year_103 : decode cX7_year 103 = .ok (.aload_n 0, 1) := by decide +kernel
theorem dX7_year_104 : decode cX7_year 104 = .ok (.iload 8, 2) := by decide +kernel
theorem dX7_year_106 : decode cX7_year 106 = .ok (.invokevirtual 182, 3) := by decide +kernel
theorem dX7_year_109 : decode cX7_year 109 = .ok (.ifCond .eq 12, 3) := by decide +kernel
theorem dX7_year_112 : decode cX7_year 112 = .ok (.aload_n 0, 1) := by decide +kernel
theorem dX7_year_113 : decode cX7_year 113 = .ok (.iload 8, 2) := by decide +kernel
theorem dX7_year_115 : decode cX7_year 115 = .ok (.invokevirtual 188, 3) := by decide +kernel
theorem dX7_year_118 : decode cX7_year 118 = .ok (.goto 49, 3) := by decide +kernel
theorem dX7_year_121 : decode cX7_year 121 = .ok (.iload 9, 2) := by decide +kernel
theorem dX7_year_123 : decode cX7_year 123 = .ok (.iconst 2, 1) := by decide +kernel
theorem dX7_year_124 : decode cX7_year 124 = .ok (.if_icmp .ne 22, 3) := by decide +kernel
theorem dX7_year_127 : decode cX7_year 127 = .ok (.aload_n 0, 1) := by decide +kernel
theorem dX7_year_128 : decode cX7_year 128 = .ok (.getfield 22, 3) := by decide +kernel
theorem dX7_year_131 : decode cX7_year 131 = .ok (.iload 8, 2) := by decide +kernel
theorem dX7_year_133 : decode cX7_year 133 = .ok (.iaload, 1) := by decide +kernel
theorem dX7_year_134 : decode cX7_year 134 = .ok (.ifCond .le 12, 3) := by decide +kernel
theorem dX7_year_137 : decode cX7_year 137 = .ok (.aload_n 0, 1) := by decide +kernel
theorem dX7_year_138 : decode cX7_year 138 = .ok (.iload 8, 2) := by decide +kernel
theorem dX7_year_140 : decode cX7_year 140 = .ok (.invokevirtual 191, 3) := by decide +kernel
theorem dX7_year_143 : decode cX7_year 143 = .ok (.goto 24, 3) := by decide +kernel
theorem dX7_year_146 : decode cX7_year 146 = .ok (.iload 9, 2) := by decide +kernel
theorem dX7_year_148 : decode cX7_year 148 = .ok (.iconst 3, 1) := by decide +kernel
theorem dX7_year_149 : decode cX7_year 149 = .ok (.if_icmp .ne 18, 3) := by decide +kernel
theorem dX7_year_152 : decode cX7_year 152 = .ok (.aload_n 0, 1) := by decide +kernel
theorem dX7_year_153 : decode cX7_year 153 = .ok (.bipush 20, 2) := by decide +kernel
theorem dX7_year_155 : decode cX7_year 155 = .ok (.aload_n 0, 1) := by decide +kernel
theorem dX7_year_156 : decode cX7_year 156 = .ok (.getfield 91, 3) := by decide +kernel
theorem dX7_year_159 : decode cX7_year 159 = .ok (.iconst 1, 1) := by decide +kernel
theorem dX7_year_160 : decode cX7_year 160 = .ok (.iadd, 1) := by decide +kernel
theorem dX7_year_161 : decode cX7_year 161 = .ok (.invokestatic 179, 3) := by decide +kernel
theorem dX7_year_164 : decode cX7_year 164 = .ok (.putfield 91, 3) := by decide +kernel
theorem dX7_year_167 : decode cX7_year 167 = .ok (.aload_n 0, 1) := by decide +kernel
theorem dX7_year_168 : decode cX7_year 168 = .ok (.iconst 0, 1) := by decide +kernel
theorem dX7_year_169 : decode cX7_year 169 = .ok (.invokevirtual 158, 3) := by decide +kernel
theorem dX7_year_172 : decode cX7_year 172 = .ok (.pop, 1) := by decide +kernel
theorem dX7_year_173 : decode cX7_year 173 = .ok (.iinc 4 1, 3) := by decide +kernel
theorem dX7_year_176 : decode cX7_year 176 = .ok (.goto (-137), 3) := by decide +kernel
theorem dX7_year_179 : decode cX7_year 179 = .ok (.iload_n 3, 1) := by decide +kernel
theorem dX7_year_180 : decode cX7_year 180 = .ok (.ifCond .ne 10, 3) := by decide +kernel
theorem dX7_year_183 : decode cX7_year 183 = .ok (.aload_n 0, 1) := by decide +kernel
theorem dX7_year_184 : decode cX7_year 184 = .ok (.invokevirtual 216, 3) := by decide +kernel
theorem dX7_year_187 : decode cX7_year 187 = .ok (.goto 22, 3) := by decide +kernel
theorem dX7_year_190 : decode cX7_year 190 = .ok (.iload_n 3, 1) := by decide +kernel
theorem dX7_year_191 : decode cX7_year 191 = .ok (.iconst 1, 1) := by decide +kernel
theorem dX7_year_192 : decode cX7_year 192 = .ok (.if_icmp .ne 13, 3) := by decide +kernel
theorem dX7_year_195 : decode cX7_year 195 = .ok (.aload_n 0, 1) := by decide +kernel
theorem dX7_year_196 : decode cX7_year 196 = .ok (.invokevirtual 207, 3) := by decide +kernel
theorem dX7_year_199 : decode cX7_year 199 = .ok (.invokestatic 258, 3) := by decide +kernel
theorem dX7_year_202 : decode cX7_year 202 = .ok (.goto 7, 3) := by decide +kernel
theorem dX7_year_205 : decode cX7_year 205 = .ok (.aload_n 0, 1) := by decide +kernel
theorem dX7_year_206 : decode cX7_year 206 = .ok (.getfield 91, 3) := by decide +kernel
theorem dX7_year_209 : decode cX7_year 209 = .ok (.istore 4, 2) := by decide +kernel
theorem dX7_year_211 : decode cX7_year 211 = .ok (.aload_n 0, 1) := by decide +kernel
theorem dX7_year_212 : decode cX7_year 212 = .ok (.invokevirtual 213, 3) := by decide +kernel
theorem dX7_year_215 : decode cX7_year 215 = .ok (.iload 4, 2) := by decide +kernel
theorem dX7_year_217 : decode cX7_year 217 = .ok (.ireturn, 1) := by decide +kernel
theorem dX7_keep_0 : decode cX7_keep 0 = .ok (.aload_n 0, 1) := by decide +kernel
theorem dX7_keep_1 : decode cX7_keep 1 = .ok (.getfield 148, 3) := by decide +kernel
theorem dX7_keep_4 : decode cX7_keep 4 = .ok (.iconst 2, 1) := by decide +kernel
theorem dX7_keep_5 : decode cX7_keep 5 = .ok (.if_icmp .ne 6, 3) := by decide +kernel
theorem dX7_keep_8 : decode cX7_keep 8 = .ok (.bipush (-3), 2) := by decide +kernel
theorem dX7_keep_10 : decode cX7_keep 10 = .ok (.ireturn, 1) := by decide +kernel
theorem dX7_keep_11 : decode cX7_keep 11 = .ok (.aload_n 0, 1) := by decide +kernel
theorem dX7_keep_12 : decode cX7_keep 12 = .ok (.aload_n 0, 1) := by decide +kernel
theorem dX7_keep_13 : decode cX7_keep 13 = .ok (.getfield 73, 3) := by decide +kernel
theorem dX7_keep_16 : decode cX7_keep 16 = .ok (.bipush 52, 2) := by decide +kernel
theorem dX7_keep_18 : decode cX7_keep 18 = .ok (.aload_n 0, 1) := by decide +kernel
theorem dX7_keep_19 : decode cX7_keep 19 = .ok (.getfield 148, 3) := by decide +kernel
theorem dX7_keep_22 : decode cX7_keep 22 = .ok (.imul, 1) := by decide +kernel
theorem dX7_keep_23 : decode cX7_keep 23 = .ok (.invokevirtual 169, 3) := by decide +kernel
theorem dX7_keep_26 : decode cX7_keep 26 = .ok (.aload_n 0, 1) := by decide +kernel
theorem dX7_keep_27 : decode cX7_keep 27 = .ok (.dup, 1) := by decide +kernel
theorem dX7_keep_28 : decode cX7_keep 28 = .ok (.getfield 148, 3) := by decide +kernel
theorem dX7_keep_31 : decode cX7_keep 31 = .ok (.iconst 1, 1) := by decide +kernel
theorem dX7_keep_32 : decode cX7_keep 32 = .ok (.iadd, 1) := by decide +kernel
theorem dX7_keep_33 : decode cX7_keep 33 = .ok (.putfield 148, 3) := by decide +kernel
theorem dX7_keep_36 : decode cX7_keep 36 = .ok (.aload_n 0, 1) := by decide +kernel
theorem dX7_keep_37 : decode cX7_keep 37 = .ok (.getfield 148, 3) := by decide +kernel
theorem dX7_keep_40 : decode cX7_keep 40 = .ok (.ireturn, 1) := by decide +kernel
theorem dX7_back_0 : decode cX7_back 0 = .ok (.aload_n 0, 1) := by decide +kernel
theorem dX7_back_1 : decode cX7_back 1 = .ok (.getfield 148, 3) := by decide +kernel
theorem dX7_back_4 : decode cX7_back 4 = .ok (.ifCond .ne 6, 3) := by decide +kernel
theorem dX7_back_7 : decode cX7_back 7 = .ok (.bipush (-2), 2) := by decide +kernel
theorem dX7_back_9 : decode cX7_back 9 = .ok (.ireturn, 1) := by decide +kernel
theorem dX7_back_10 : decode cX7_back 10 = .ok (.aload_n 0, 1) := by decide +kernel
theorem dX7_back_11 : decode cX7_back 11 = .ok (.dup, 1) := by decide +kernel
theorem dX7_back_12 : decode cX7_back 12 = .ok (.getfield 148, 3) := by decide +kernel
theorem dX7_back_15 : decode cX7_back 15 = .ok (.iconst 1, 1) := by decide +kernel
theorem dX7_back_16 : decode cX7_back 16 = .ok (.isub, 1) := by decide +kernel
theorem dX7_back_17 : decode cX7_back 17 = .ok (.putfield 148, 3) := by decide +kernel
theorem dX7_back_20 : decode cX7_back 20 = .ok (.aload_n 0, 1) := by decide +kernel
theorem dX7_back_21 : decode cX7_back 21 = .ok (.aload_n 0, 1) := by decide +kernel
theorem dX7_back_22 : decode cX7_back 22 = .ok (.getfield 73, 3) := by decide +kernel
theorem dX7_back_25 : decode cX7_back 25 = .ok (.bipush 52, 2) := by decide +kernel
theorem dX7_back_27 : decode cX7_back 27 = .ok (.aload_n 0, 1) := by decide +kernel
theorem dX7_back_28 : decode cX7_back 28 = .ok (.getfield 148, 3) := by decide +kernel
theorem dX7_back_31 : decode cX7_back 31 = .ok (.imul, 1) := by decide +kernel
theorem dX7_back_32 : decode cX7_back 32 = .ok (.invokevirtual 198, 3) := by decide +kernel
theorem dX7_back_35 : decode cX7_back 35 = .ok (.aload_n 0, 1) := by decide +kernel
theorem dX7_back_36 : decode cX7_back 36 = .ok (.iconst 0, 1) := by decide +kernel
theorem dX7_back_37 : decode cX7_back 37 = .ok (.putfield 145, 3) := by decide +kernel
theorem dX7_back_40 : decode cX7_back 40 = .ok (.aload_n 0, 1) := by decide +kernel
theorem dX7_back_41 : decode cX7_back 41 = .ok (.getfield 148, 3) := by decide +kernel
theorem dX7_back_44 : decode cX7_back 44 = .ok (.ireturn, 1) := by decide +kernel
theorem dX7_sumOf_0 : decode cX7_sumOf 0 = .ok (.iconst 0, 1) := by decide +kernel
theorem dX7_sumOf_1 : decode cX7_sumOf 1 = .ok (.istore_n 2, 1) := by decide +kernel
theorem dX7_sumOf_2 : decode cX7_sumOf 2 = .ok (.iconst 0, 1) := by decide +kernel
theorem dX7_sumOf_3 : decode cX7_sumOf 3 = .ok (.istore_n 3, 1) := by decide +kernel
theorem dX7_sumOf_4 : decode cX7_sumOf 4 = .ok (.iload_n 3, 1) := by decide +kernel
theorem dX7_sumOf_5 : decode cX7_sumOf 5 = .ok (.aload_n 0, 1) := by decide +kernel
theorem dX7_sumOf_6 : decode cX7_sumOf 6 = .ok (.getfield 84, 3) := by decide +kernel
theorem dX7_sumOf_9 : decode cX7_sumOf 9 = .ok (.if_icmp .ge 15, 3) := by decide +kernel
theorem dX7_sumOf_12 : decode cX7_sumOf 12 = .ok (.iload_n 2, 1) := by decide +kernel
theorem dX7_sumOf_13 : decode cX7_sumOf 13 = .ok (.aload_n 1, 1) := by decide +kernel
theorem dX7_sumOf_14 : decode cX7_sumOf 14 = .ok (.iload_n 3, 1) := by decide +kernel
theorem dX7_sumOf_15 : decode cX7_sumOf 15 = .ok (.iaload, 1) := by decide +kernel
theorem dX7_sumOf_16 : decode cX7_sumOf 16 = .ok (.iadd, 1) := by decide +kernel
theorem dX7_sumOf_17 : decode cX7_sumOf 17 = .ok (.istore_n 2, 1) := by decide +kernel
theorem dX7_sumOf_18 : decode cX7_sumOf 18 = .ok (.iinc 3 1, 3) := by decide +kernel
theorem dX7_sumOf_21 : decode cX7_sumOf 21 = .ok (.goto (-17), 3) := by decide +kernel
theorem dX7_sumOf_24 : decode cX7_sumOf 24 = .ok (.iload_n 2, 1) := by decide +kernel
theorem dX7_sumOf_25 : decode cX7_sumOf 25 = .ok (.ireturn, 1) := by decide +kernel
theorem dX7_count_0 : decode cX7_count 0 = .ok (.iload_n 1, 1) := by decide +kernel
theorem dX7_count_1 : decode cX7_count 1 = .ok (.iconst 0, 1) := by decide +kernel
theorem dX7_count_2 : decode cX7_count 2 = .ok (.bipush 11, 2) := by decide +kernel
theorem dX7_count_4 : decode cX7_count 4 = .ok (.invokestatic 100, 3) := by decide +kernel
theorem dX7_count_7 : decode cX7_count 7 = .ok (.ifCond .ne 5, 3) := by decide +kernel
theorem dX7_count_10 : decode cX7_count 10 = .ok (.iconst (-1), 1) := by decide +kernel
theorem dX7_count_11 : decode cX7_count 11 = .ok (.ireturn, 1) := by decide +kernel
theorem dX7_count_12 : decode cX7_count 12 = .ok (.iload_n 1, 1) := by decide +kernel
theorem dX7_count_13 : decode cX7_count 13 = .ok (.tableswitch 127 0 10 #[59, 64, 69, 74, 83, 91, 99, 107, 112, 117, 122], 59) := by decide +kernel
theorem dX7_count_72 : decode cX7_count 72 = .ok (.aload_n 0, 1) := by decide +kernel
theorem dX7_count_73 : decode cX7_count 73 = .ok (.getfield 84, 3) := by decide +kernel
theorem dX7_count_76 : decode cX7_count 76 = .ok (.ireturn, 1) := by decide +kernel
theorem dX7_count_77 : decode cX7_count 77 = .ok (.aload_n 0, 1) := by decide +kernel
theorem dX7_count_78 : decode cX7_count 78 = .ok (.getfield 88, 3) := by decide +kernel
theorem dX7_count_81 : decode cX7_count 81 = .ok (.ireturn, 1) := by decide +kernel
theorem dX7_count_82 : decode cX7_count 82 = .ok (.aload_n 0, 1) := by decide +kernel
theorem dX7_count_83 : decode cX7_count 83 = .ok (.getfield 91, 3) := by decide +kernel
theorem dX7_count_86 : decode cX7_count 86 = .ok (.ireturn, 1) := by decide +kernel
theorem dX7_count_87 : decode cX7_count 87 = .ok (.aload_n 0, 1) := by decide +kernel
theorem dX7_count_88 : decode cX7_count 88 = .ok (.aload_n 0, 1) := by decide +kernel
theorem dX7_count_89 : decode cX7_count 89 = .ok (.getfield 22, 3) := by decide +kernel
theorem dX7_count_92 : decode cX7_count 92 = .ok (.invokevirtual 261, 3) := by decide +kernel
theorem dX7_count_95 : decode cX7_count 95 = .ok (.ireturn, 1) := by decide +kernel
theorem dX7_count_96 : decode cX7_count 96 = .ok (.aload_n 0, 1) := by decide +kernel
theorem dX7_count_97 : decode cX7_count 97 = .ok (.invokevirtual 204, 3) := by decide +kernel
theorem dX7_count_100 : decode cX7_count 100 = .ok (.invokestatic 258, 3) := by decide +kernel
theorem dX7_count_103 : decode cX7_count 103 = .ok (.ireturn, 1) := by decide +kernel
theorem dX7_count_104 : decode cX7_count 104 = .ok (.aload_n 0, 1) := by decide +kernel
theorem dX7_count_105 : decode cX7_count 105 = .ok (.invokevirtual 207, 3) := by decide +kernel
theorem dX7_count_108 : decode cX7_count 108 = .ok (.invokestatic 258, 3) := by decide +kernel
theorem dX7_count_111 : decode cX7_count 111 = .ok (.ireturn, 1) := by decide +kernel
theorem dX7_count_112 : decode cX7_count 112 = .ok (.aload_n 0, 1) := by decide +kernel
theorem dX7_count_113 : decode cX7_count 113 = .ok (.invokevirtual 210, 3) := by decide +kernel
theorem dX7_count_116 : decode cX7_count 116 = .ok (.invokestatic 258, 3) := by decide +kernel
theorem dX7_count_119 : decode cX7_count 119 = .ok (.ireturn, 1) := by decide +kernel
theorem dX7_count_120 : decode cX7_count 120 = .ok (.aload_n 0, 1) := by decide +kernel
theorem dX7_count_121 : decode cX7_count 121 = .ok (.getfield 97, 3) := by decide +kernel
theorem dX7_count_124 : decode cX7_count 124 = .ok (.ireturn, 1) := by decide +kernel
theorem dX7_count_125 : decode cX7_count 125 = .ok (.aload_n 0, 1) := by decide +kernel
theorem dX7_count_126 : decode cX7_count 126 = .ok (.getfield 142, 3) := by decide +kernel
theorem dX7_count_129 : decode cX7_count 129 = .ok (.ireturn, 1) := by decide +kernel
theorem dX7_count_130 : decode cX7_count 130 = .ok (.aload_n 0, 1) := by decide +kernel
theorem dX7_count_131 : decode cX7_count 131 = .ok (.getfield 145, 3) := by decide +kernel
theorem dX7_count_134 : decode cX7_count 134 = .ok (.ireturn, 1) := by decide +kernel
theorem dX7_count_135 : decode cX7_count 135 = .ok (.aload_n 0, 1) := by decide +kernel
theorem dX7_count_136 : decode cX7_count 136 = .ok (.getfield 148, 3) := by decide +kernel
theorem dX7_count_139 : decode cX7_count 139 = .ok (.ireturn, 1) := by decide +kernel
theorem dX7_count_140 : decode cX7_count 140 = .ok (.aload_n 0, 1) := by decide +kernel
theorem dX7_count_141 : decode cX7_count 141 = .ok (.getfield 104, 3) := by decide +kernel
theorem dX7_count_144 : decode cX7_count 144 = .ok (.ireturn, 1) := by decide +kernel
theorem dL_law_0 : decode cL_law 0 = .ok (.new 7, 3) := by decide +kernel
theorem dL_law_3 : decode cL_law 3 = .ok (.dup, 1) := by decide +kernel
theorem dL_law_4 : decode cL_law 4 = .ok (.invokespecial 9, 3) := by decide +kernel
theorem dL_law_7 : decode cL_law 7 = .ok (.astore_n 1, 1) := by decide +kernel
theorem dL_law_8 : decode cL_law 8 = .ok (.new 10, 3) := by decide +kernel
theorem dL_law_11 : decode cL_law 11 = .ok (.dup, 1) := by decide +kernel
theorem dL_law_12 : decode cL_law 12 = .ok (.invokespecial 12, 3) := by decide +kernel
theorem dL_law_15 : decode cL_law 15 = .ok (.astore_n 2, 1) := by decide +kernel
theorem dL_law_16 : decode cL_law 16 = .ok (.iconst 0, 1) := by decide +kernel
theorem dL_law_17 : decode cL_law 17 = .ok (.istore_n 3, 1) := by decide +kernel
theorem dL_law_18 : decode cL_law 18 = .ok (.iload_n 3, 1) := by decide +kernel
theorem dL_law_19 : decode cL_law 19 = .ok (.aload_n 0, 1) := by decide +kernel
theorem dL_law_20 : decode cL_law 20 = .ok (.arraylength, 1) := by decide +kernel
theorem dL_law_21 : decode cL_law 21 = .ok (.iconst 5, 1) := by decide +kernel
theorem dL_law_22 : decode cL_law 22 = .ok (.isub, 1) := by decide +kernel
theorem dL_law_23 : decode cL_law 23 = .ok (.if_icmp .gt 706, 3) := by decide +kernel
theorem dL_law_26 : decode cL_law 26 = .ok (.aload_n 0, 1) := by decide +kernel
theorem dL_law_27 : decode cL_law 27 = .ok (.iload_n 3, 1) := by decide +kernel
theorem dL_law_28 : decode cL_law 28 = .ok (.iaload, 1) := by decide +kernel
theorem dL_law_29 : decode cL_law 29 = .ok (.bipush 31, 2) := by decide +kernel
theorem dL_law_31 : decode cL_law 31 = .ok (.iand, 1) := by decide +kernel
theorem dL_law_32 : decode cL_law 32 = .ok (.tableswitch 691 0 24 #[116, 139, 152, 165, 178, 211, 234, 257, 270, 293, 306, 339, 362, 375, 398, 421, 434, 477, 490, 513, 546, 599, 642, 655, 668], 116) := by decide +kernel
theorem dL_law_148 : decode cL_law 148 = .ok (.aload_n 1, 1) := by decide +kernel
theorem dL_law_149 : decode cL_law 149 = .ok (.aload_n 0, 1) := by decide +kernel
theorem dL_law_150 : decode cL_law 150 = .ok (.iload_n 3, 1) := by decide +kernel
theorem dL_law_151 : decode cL_law 151 = .ok (.iconst 1, 1) := by decide +kernel
theorem dL_law_152 : decode cL_law 152 = .ok (.iadd, 1) := by decide +kernel
theorem dL_law_153 : decode cL_law 153 = .ok (.iaload, 1) := by decide +kernel
theorem dL_law_154 : decode cL_law 154 = .ok (.invokevirtual 13, 3) := by decide +kernel
theorem dL_law_157 : decode cL_law 157 = .ok (.aload_n 2, 1) := by decide +kernel
theorem dL_law_158 : decode cL_law 158 = .ok (.aload_n 0, 1) := by decide +kernel
theorem dL_law_159 : decode cL_law 159 = .ok (.iload_n 3, 1) := by decide +kernel
theorem dL_law_160 : decode cL_law 160 = .ok (.iconst 1, 1) := by decide +kernel
theorem dL_law_161 : decode cL_law 161 = .ok (.iadd, 1) := by decide +kernel
theorem dL_law_162 : decode cL_law 162 = .ok (.iaload, 1) := by decide +kernel
theorem dL_law_163 : decode cL_law 163 = .ok (.invokevirtual 17, 3) := by decide +kernel
theorem dL_law_166 : decode cL_law 166 = .ok (.if_icmp .eq 557, 3) := by decide +kernel
theorem dL_law_169 : decode cL_law 169 = .ok (.iconst 0, 1) := by decide +kernel
theorem dL_law_170 : decode cL_law 170 = .ok (.ireturn, 1) := by decide +kernel
theorem dL_law_171 : decode cL_law 171 = .ok (.aload_n 1, 1) := by decide +kernel
theorem dL_law_172 : decode cL_law 172 = .ok (.invokevirtual 18, 3) := by decide +kernel
theorem dL_law_175 : decode cL_law 175 = .ok (.aload_n 2, 1) := by decide +kernel
theorem dL_law_176 : decode cL_law 176 = .ok (.invokevirtual 22, 3) := by decide +kernel
theorem dL_law_179 : decode cL_law 179 = .ok (.if_icmp .eq 544, 3) := by decide +kernel
theorem dL_law_182 : decode cL_law 182 = .ok (.iconst 0, 1) := by decide +kernel
theorem dL_law_183 : decode cL_law 183 = .ok (.ireturn, 1) := by decide +kernel
theorem dL_law_184 : decode cL_law 184 = .ok (.aload_n 1, 1) := by decide +kernel
theorem dL_law_185 : decode cL_law 185 = .ok (.invokevirtual 23, 3) := by decide +kernel
theorem dL_law_188 : decode cL_law 188 = .ok (.aload_n 2, 1) := by decide +kernel
theorem dL_law_189 : decode cL_law 189 = .ok (.invokevirtual 26, 3) := by decide +kernel
theorem dL_law_192 : decode cL_law 192 = .ok (.if_icmp .eq 531, 3) := by decide +kernel
theorem dL_law_195 : decode cL_law 195 = .ok (.iconst 0, 1) := by decide +kernel
theorem dL_law_196 : decode cL_law 196 = .ok (.ireturn, 1) := by decide +kernel
theorem dL_law_197 : decode cL_law 197 = .ok (.aload_n 1, 1) := by decide +kernel
theorem dL_law_198 : decode cL_law 198 = .ok (.invokevirtual 27, 3) := by decide +kernel
theorem dL_law_201 : decode cL_law 201 = .ok (.aload_n 2, 1) := by decide +kernel
theorem dL_law_202 : decode cL_law 202 = .ok (.invokevirtual 30, 3) := by decide +kernel
theorem dL_law_205 : decode cL_law 205 = .ok (.if_icmp .eq 518, 3) := by decide +kernel
theorem dL_law_208 : decode cL_law 208 = .ok (.iconst 0, 1) := by decide +kernel
theorem dL_law_209 : decode cL_law 209 = .ok (.ireturn, 1) := by decide +kernel
theorem dL_law_210 : decode cL_law 210 = .ok (.aload_n 1, 1) := by decide +kernel
theorem dL_law_211 : decode cL_law 211 = .ok (.aload_n 0, 1) := by decide +kernel
theorem dL_law_212 : decode cL_law 212 = .ok (.iload_n 3, 1) := by decide +kernel
theorem dL_law_213 : decode cL_law 213 = .ok (.iconst 1, 1) := by decide +kernel
theorem dL_law_214 : decode cL_law 214 = .ok (.iadd, 1) := by decide +kernel
theorem dL_law_215 : decode cL_law 215 = .ok (.iaload, 1) := by decide +kernel
theorem dL_law_216 : decode cL_law 216 = .ok (.aload_n 0, 1) := by decide +kernel
theorem dL_law_217 : decode cL_law 217 = .ok (.iload_n 3, 1) := by decide +kernel
theorem dL_law_218 : decode cL_law 218 = .ok (.iconst 2, 1) := by decide +kernel
theorem dL_law_219 : decode cL_law 219 = .ok (.iadd, 1) := by decide +kernel
theorem dL_law_220 : decode cL_law 220 = .ok (.iaload, 1) := by decide +kernel
theorem dL_law_221 : decode cL_law 221 = .ok (.invokevirtual 31, 3) := by decide +kernel
theorem dL_law_224 : decode cL_law 224 = .ok (.aload_n 2, 1) := by decide +kernel
theorem dL_law_225 : decode cL_law 225 = .ok (.aload_n 0, 1) := by decide +kernel
theorem dL_law_226 : decode cL_law 226 = .ok (.iload_n 3, 1) := by decide +kernel
theorem dL_law_227 : decode cL_law 227 = .ok (.iconst 1, 1) := by decide +kernel
theorem dL_law_228 : decode cL_law 228 = .ok (.iadd, 1) := by decide +kernel
theorem dL_law_229 : decode cL_law 229 = .ok (.iaload, 1) := by decide +kernel
theorem dL_law_230 : decode cL_law 230 = .ok (.aload_n 0, 1) := by decide +kernel
theorem dL_law_231 : decode cL_law 231 = .ok (.iload_n 3, 1) := by decide +kernel
theorem dL_law_232 : decode cL_law 232 = .ok (.iconst 2, 1) := by decide +kernel
theorem dL_law_233 : decode cL_law 233 = .ok (.iadd, 1) := by decide +kernel
theorem dL_law_234 : decode cL_law 234 = .ok (.iaload, 1) := by decide +kernel
theorem dL_law_235 : decode cL_law 235 = .ok (.invokevirtual 35, 3) := by decide +kernel
theorem dL_law_238 : decode cL_law 238 = .ok (.if_icmp .eq 485, 3) := by decide +kernel
theorem dL_law_241 : decode cL_law 241 = .ok (.iconst 0, 1) := by decide +kernel
theorem dL_law_242 : decode cL_law 242 = .ok (.ireturn, 1) := by decide +kernel
theorem dL_law_243 : decode cL_law 243 = .ok (.aload_n 1, 1) := by decide +kernel
theorem dL_law_244 : decode cL_law 244 = .ok (.aload_n 0, 1) := by decide +kernel
theorem dL_law_245 : decode cL_law 245 = .ok (.iload_n 3, 1) := by decide +kernel
theorem dL_law_246 : decode cL_law 246 = .ok (.iconst 1, 1) := by decide +kernel
theorem dL_law_247 : decode cL_law 247 = .ok (.iadd, 1) := by decide +kernel
theorem dL_law_248 : decode cL_law 248 = .ok (.iaload, 1) := by decide +kernel
theorem dL_law_249 : decode cL_law 249 = .ok (.invokevirtual 36, 3) := by decide +kernel
theorem dL_law_252 : decode cL_law 252 = .ok (.aload_n 2, 1) := by decide +kernel
theorem dL_law_253 : decode cL_law 253 = .ok (.aload_n 0, 1) := by decide +kernel
theorem dL_law_254 : decode cL_law 254 = .ok (.iload_n 3, 1) := by decide +kernel
theorem dL_law_255 : decode cL_law 255 = .ok (.iconst 1, 1) := by decide +kernel
theorem dL_law_256 : decode cL_law 256 = .ok (.iadd, 1) := by decide +kernel
theorem dL_law_257 : decode cL_law 257 = .ok (.iaload, 1) := by decide +kernel
theorem dL_law_258 : decode cL_law 258 = .ok (.invokevirtual 39, 3) := by decide +kernel
theorem dL_law_261 : decode cL_law 261 = .ok (.if_icmp .eq 462, 3) := by decide +kernel
theorem dL_law_264 : decode cL_law 264 = .ok (.iconst 0, 1) := by decide +kernel
theorem dL_law_265 : decode cL_law 265 = .ok (.ireturn, 1) := by decide +kernel
theorem dL_law_266 : decode cL_law 266 = .ok (.aload_n 1, 1) := by decide +kernel
theorem dL_law_267 : decode cL_law 267 = .ok (.aload_n 0, 1) := by decide +kernel
theorem dL_law_268 : decode cL_law 268 = .ok (.iload_n 3, 1) := by decide +kernel
theorem dL_law_269 : decode cL_law 269 = .ok (.iconst 1, 1) := by decide +kernel
theorem dL_law_270 : decode cL_law 270 = .ok (.iadd, 1) := by decide +kernel
theorem dL_law_271 : decode cL_law 271 = .ok (.iaload, 1) := by decide +kernel
theorem dL_law_272 : decode cL_law 272 = .ok (.invokevirtual 40, 3) := by decide +kernel
theorem dL_law_275 : decode cL_law 275 = .ok (.aload_n 2, 1) := by decide +kernel
theorem dL_law_276 : decode cL_law 276 = .ok (.aload_n 0, 1) := by decide +kernel
theorem dL_law_277 : decode cL_law 277 = .ok (.iload_n 3, 1) := by decide +kernel
theorem dL_law_278 : decode cL_law 278 = .ok (.iconst 1, 1) := by decide +kernel
theorem dL_law_279 : decode cL_law 279 = .ok (.iadd, 1) := by decide +kernel
theorem dL_law_280 : decode cL_law 280 = .ok (.iaload, 1) := by decide +kernel
theorem dL_law_281 : decode cL_law 281 = .ok (.invokevirtual 43, 3) := by decide +kernel
theorem dL_law_284 : decode cL_law 284 = .ok (.if_icmp .eq 439, 3) := by decide +kernel
theorem dL_law_287 : decode cL_law 287 = .ok (.iconst 0, 1) := by decide +kernel
theorem dL_law_288 : decode cL_law 288 = .ok (.ireturn, 1) := by decide +kernel
theorem dL_law_289 : decode cL_law 289 = .ok (.aload_n 1, 1) := by decide +kernel
theorem dL_law_290 : decode cL_law 290 = .ok (.invokevirtual 44, 3) := by decide +kernel
theorem dL_law_293 : decode cL_law 293 = .ok (.aload_n 2, 1) := by decide +kernel
theorem dL_law_294 : decode cL_law 294 = .ok (.invokevirtual 47, 3) := by decide +kernel
theorem dL_law_297 : decode cL_law 297 = .ok (.if_icmp .eq 426, 3) := by decide +kernel
theorem dL_law_300 : decode cL_law 300 = .ok (.iconst 0, 1) := by decide +kernel
theorem dL_law_301 : decode cL_law 301 = .ok (.ireturn, 1) := by decide +kernel
theorem dL_law_302 : decode cL_law 302 = .ok (.aload_n 1, 1) := by decide +kernel
theorem dL_law_303 : decode cL_law 303 = .ok (.aload_n 0, 1) := by decide +kernel
theorem dL_law_304 : decode cL_law 304 = .ok (.iload_n 3, 1) := by decide +kernel
theorem dL_law_305 : decode cL_law 305 = .ok (.iconst 1, 1) := by decide +kernel
theorem dL_law_306 : decode cL_law 306 = .ok (.iadd, 1) := by decide +kernel
theorem dL_law_307 : decode cL_law 307 = .ok (.iaload, 1) := by decide +kernel
theorem dL_law_308 : decode cL_law 308 = .ok (.invokevirtual 48, 3) := by decide +kernel
theorem dL_law_311 : decode cL_law 311 = .ok (.aload_n 2, 1) := by decide +kernel
theorem dL_law_312 : decode cL_law 312 = .ok (.aload_n 0, 1) := by decide +kernel
theorem dL_law_313 : decode cL_law 313 = .ok (.iload_n 3, 1) := by decide +kernel
theorem dL_law_314 : decode cL_law 314 = .ok (.iconst 1, 1) := by decide +kernel
theorem dL_law_315 : decode cL_law 315 = .ok (.iadd, 1) := by decide +kernel
theorem dL_law_316 : decode cL_law 316 = .ok (.iaload, 1) := by decide +kernel
theorem dL_law_317 : decode cL_law 317 = .ok (.invokevirtual 51, 3) := by decide +kernel
theorem dL_law_320 : decode cL_law 320 = .ok (.if_icmp .eq 403, 3) := by decide +kernel
theorem dL_law_323 : decode cL_law 323 = .ok (.iconst 0, 1) := by decide +kernel
theorem dL_law_324 : decode cL_law 324 = .ok (.ireturn, 1) := by decide +kernel
theorem dL_law_325 : decode cL_law 325 = .ok (.aload_n 1, 1) := by decide +kernel
theorem dL_law_326 : decode cL_law 326 = .ok (.invokevirtual 52, 3) := by decide +kernel
theorem dL_law_329 : decode cL_law 329 = .ok (.aload_n 2, 1) := by decide +kernel
theorem dL_law_330 : decode cL_law 330 = .ok (.invokevirtual 55, 3) := by decide +kernel
theorem dL_law_333 : decode cL_law 333 = .ok (.if_icmp .eq 390, 3) := by decide +kernel
theorem dL_law_336 : decode cL_law 336 = .ok (.iconst 0, 1) := by decide +kernel
theorem dL_law_337 : decode cL_law 337 = .ok (.ireturn, 1) := by decide +kernel
theorem dL_law_338 : decode cL_law 338 = .ok (.aload_n 1, 1) := by decide +kernel
theorem dL_law_339 : decode cL_law 339 = .ok (.aload_n 0, 1) := by decide +kernel
theorem dL_law_340 : decode cL_law 340 = .ok (.iload_n 3, 1) := by decide +kernel
theorem dL_law_341 : decode cL_law 341 = .ok (.iconst 1, 1) := by decide +kernel
theorem dL_law_342 : decode cL_law 342 = .ok (.iadd, 1) := by decide +kernel
theorem dL_law_343 : decode cL_law 343 = .ok (.iaload, 1) := by decide +kernel
theorem dL_law_344 : decode cL_law 344 = .ok (.aload_n 0, 1) := by decide +kernel
theorem dL_law_345 : decode cL_law 345 = .ok (.iload_n 3, 1) := by decide +kernel
theorem dL_law_346 : decode cL_law 346 = .ok (.iconst 2, 1) := by decide +kernel
theorem dL_law_347 : decode cL_law 347 = .ok (.iadd, 1) := by decide +kernel
theorem dL_law_348 : decode cL_law 348 = .ok (.iaload, 1) := by decide +kernel
theorem dL_law_349 : decode cL_law 349 = .ok (.invokevirtual 56, 3) := by decide +kernel
theorem dL_law_352 : decode cL_law 352 = .ok (.aload_n 2, 1) := by decide +kernel
theorem dL_law_353 : decode cL_law 353 = .ok (.aload_n 0, 1) := by decide +kernel
theorem dL_law_354 : decode cL_law 354 = .ok (.iload_n 3, 1) := by decide +kernel
theorem dL_law_355 : decode cL_law 355 = .ok (.iconst 1, 1) := by decide +kernel
theorem dL_law_356 : decode cL_law 356 = .ok (.iadd, 1) := by decide +kernel
theorem dL_law_357 : decode cL_law 357 = .ok (.iaload, 1) := by decide +kernel
theorem dL_law_358 : decode cL_law 358 = .ok (.aload_n 0, 1) := by decide +kernel
theorem dL_law_359 : decode cL_law 359 = .ok (.iload_n 3, 1) := by decide +kernel
theorem dL_law_360 : decode cL_law 360 = .ok (.iconst 2, 1) := by decide +kernel
theorem dL_law_361 : decode cL_law 361 = .ok (.iadd, 1) := by decide +kernel
theorem dL_law_362 : decode cL_law 362 = .ok (.iaload, 1) := by decide +kernel
theorem dL_law_363 : decode cL_law 363 = .ok (.invokevirtual 59, 3) := by decide +kernel
theorem dL_law_366 : decode cL_law 366 = .ok (.if_icmp .eq 357, 3) := by decide +kernel
theorem dL_law_369 : decode cL_law 369 = .ok (.iconst 0, 1) := by decide +kernel
theorem dL_law_370 : decode cL_law 370 = .ok (.ireturn, 1) := by decide +kernel
theorem dL_law_371 : decode cL_law 371 = .ok (.aload_n 1, 1) := by decide +kernel
theorem dL_law_372 : decode cL_law 372 = .ok (.aload_n 0, 1) := by decide +kernel
theorem dL_law_373 : decode cL_law 373 = .ok (.iload_n 3, 1) := by decide +kernel
theorem dL_law_374 : decode cL_law 374 = .ok (.iconst 1, 1) := by decide +kernel
theorem dL_law_375 : decode cL_law 375 = .ok (.iadd, 1) := by decide +kernel
theorem dL_law_376 : decode cL_law 376 = .ok (.iaload, 1) := by decide +kernel
theorem dL_law_377 : decode cL_law 377 = .ok (.invokevirtual 60, 3) := by decide +kernel
theorem dL_law_380 : decode cL_law 380 = .ok (.aload_n 2, 1) := by decide +kernel
theorem dL_law_381 : decode cL_law 381 = .ok (.aload_n 0, 1) := by decide +kernel
theorem dL_law_382 : decode cL_law 382 = .ok (.iload_n 3, 1) := by decide +kernel
theorem dL_law_383 : decode cL_law 383 = .ok (.iconst 1, 1) := by decide +kernel
theorem dL_law_384 : decode cL_law 384 = .ok (.iadd, 1) := by decide +kernel
theorem dL_law_385 : decode cL_law 385 = .ok (.iaload, 1) := by decide +kernel
theorem dL_law_386 : decode cL_law 386 = .ok (.invokevirtual 63, 3) := by decide +kernel
theorem dL_law_389 : decode cL_law 389 = .ok (.if_icmp .eq 334, 3) := by decide +kernel
theorem dL_law_392 : decode cL_law 392 = .ok (.iconst 0, 1) := by decide +kernel
theorem dL_law_393 : decode cL_law 393 = .ok (.ireturn, 1) := by decide +kernel
theorem dL_law_394 : decode cL_law 394 = .ok (.aload_n 1, 1) := by decide +kernel
theorem dL_law_395 : decode cL_law 395 = .ok (.invokevirtual 64, 3) := by decide +kernel
theorem dL_law_398 : decode cL_law 398 = .ok (.aload_n 2, 1) := by decide +kernel
theorem dL_law_399 : decode cL_law 399 = .ok (.invokevirtual 67, 3) := by decide +kernel
theorem dL_law_402 : decode cL_law 402 = .ok (.if_icmp .eq 321, 3) := by decide +kernel
theorem dL_law_405 : decode cL_law 405 = .ok (.iconst 0, 1) := by decide +kernel
theorem dL_law_406 : decode cL_law 406 = .ok (.ireturn, 1) := by decide +kernel
theorem dL_law_407 : decode cL_law 407 = .ok (.aload_n 1, 1) := by decide +kernel
theorem dL_law_408 : decode cL_law 408 = .ok (.aload_n 0, 1) := by decide +kernel
theorem dL_law_409 : decode cL_law 409 = .ok (.iload_n 3, 1) := by decide +kernel
theorem dL_law_410 : decode cL_law 410 = .ok (.iconst 1, 1) := by decide +kernel
theorem dL_law_411 : decode cL_law 411 = .ok (.iadd, 1) := by decide +kernel
theorem dL_law_412 : decode cL_law 412 = .ok (.iaload, 1) := by decide +kernel
theorem dL_law_413 : decode cL_law 413 = .ok (.invokevirtual 68, 3) := by decide +kernel
theorem dL_law_416 : decode cL_law 416 = .ok (.aload_n 2, 1) := by decide +kernel
theorem dL_law_417 : decode cL_law 417 = .ok (.aload_n 0, 1) := by decide +kernel
theorem dL_law_418 : decode cL_law 418 = .ok (.iload_n 3, 1) := by decide +kernel
theorem dL_law_419 : decode cL_law 419 = .ok (.iconst 1, 1) := by decide +kernel
theorem dL_law_420 : decode cL_law 420 = .ok (.iadd, 1) := by decide +kernel
theorem dL_law_421 : decode cL_law 421 = .ok (.iaload, 1) := by decide +kernel
theorem dL_law_422 : decode cL_law 422 = .ok (.invokevirtual 71, 3) := by decide +kernel
theorem dL_law_425 : decode cL_law 425 = .ok (.if_icmp .eq 298, 3) := by decide +kernel
theorem dL_law_428 : decode cL_law 428 = .ok (.iconst 0, 1) := by decide +kernel
theorem dL_law_429 : decode cL_law 429 = .ok (.ireturn, 1) := by decide +kernel
theorem dL_law_430 : decode cL_law 430 = .ok (.aload_n 1, 1) := by decide +kernel
theorem dL_law_431 : decode cL_law 431 = .ok (.aload_n 0, 1) := by decide +kernel
theorem dL_law_432 : decode cL_law 432 = .ok (.iload_n 3, 1) := by decide +kernel
theorem dL_law_433 : decode cL_law 433 = .ok (.iconst 1, 1) := by decide +kernel
theorem dL_law_434 : decode cL_law 434 = .ok (.iadd, 1) := by decide +kernel
theorem dL_law_435 : decode cL_law 435 = .ok (.iaload, 1) := by decide +kernel
theorem dL_law_436 : decode cL_law 436 = .ok (.invokevirtual 72, 3) := by decide +kernel
theorem dL_law_439 : decode cL_law 439 = .ok (.aload_n 2, 1) := by decide +kernel
theorem dL_law_440 : decode cL_law 440 = .ok (.aload_n 0, 1) := by decide +kernel
theorem dL_law_441 : decode cL_law 441 = .ok (.iload_n 3, 1) := by decide +kernel
theorem dL_law_442 : decode cL_law 442 = .ok (.iconst 1, 1) := by decide +kernel
theorem dL_law_443 : decode cL_law 443 = .ok (.iadd, 1) := by decide +kernel
theorem dL_law_444 : decode cL_law 444 = .ok (.iaload, 1) := by decide +kernel
theorem dL_law_445 : decode cL_law 445 = .ok (.invokevirtual 75, 3) := by decide +kernel
theorem dL_law_448 : decode cL_law 448 = .ok (.if_icmp .eq 275, 3) := by decide +kernel
theorem dL_law_451 : decode cL_law 451 = .ok (.iconst 0, 1) := by decide +kernel
theorem dL_law_452 : decode cL_law 452 = .ok (.ireturn, 1) := by decide +kernel
theorem dL_law_453 : decode cL_law 453 = .ok (.aload_n 1, 1) := by decide +kernel
theorem dL_law_454 : decode cL_law 454 = .ok (.invokevirtual 76, 3) := by decide +kernel
theorem dL_law_457 : decode cL_law 457 = .ok (.aload_n 2, 1) := by decide +kernel
theorem dL_law_458 : decode cL_law 458 = .ok (.invokevirtual 79, 3) := by decide +kernel
theorem dL_law_461 : decode cL_law 461 = .ok (.if_icmp .eq 262, 3) := by decide +kernel
theorem dL_law_464 : decode cL_law 464 = .ok (.iconst 0, 1) := by decide +kernel
theorem dL_law_465 : decode cL_law 465 = .ok (.ireturn, 1) := by decide +kernel
theorem dL_law_466 : decode cL_law 466 = .ok (.aload_n 1, 1) := by decide +kernel
theorem dL_law_467 : decode cL_law 467 = .ok (.aload_n 0, 1) := by decide +kernel
theorem dL_law_468 : decode cL_law 468 = .ok (.iload_n 3, 1) := by decide +kernel
theorem dL_law_469 : decode cL_law 469 = .ok (.iconst 1, 1) := by decide +kernel
theorem dL_law_470 : decode cL_law 470 = .ok (.iadd, 1) := by decide +kernel
theorem dL_law_471 : decode cL_law 471 = .ok (.iaload, 1) := by decide +kernel
theorem dL_law_472 : decode cL_law 472 = .ok (.aload_n 0, 1) := by decide +kernel
theorem dL_law_473 : decode cL_law 473 = .ok (.iload_n 3, 1) := by decide +kernel
theorem dL_law_474 : decode cL_law 474 = .ok (.iconst 2, 1) := by decide +kernel
theorem dL_law_475 : decode cL_law 475 = .ok (.iadd, 1) := by decide +kernel
theorem dL_law_476 : decode cL_law 476 = .ok (.iaload, 1) := by decide +kernel
theorem dL_law_477 : decode cL_law 477 = .ok (.aload_n 0, 1) := by decide +kernel
theorem dL_law_478 : decode cL_law 478 = .ok (.iload_n 3, 1) := by decide +kernel
theorem dL_law_479 : decode cL_law 479 = .ok (.iconst 3, 1) := by decide +kernel
theorem dL_law_480 : decode cL_law 480 = .ok (.iadd, 1) := by decide +kernel
theorem dL_law_481 : decode cL_law 481 = .ok (.iaload, 1) := by decide +kernel
theorem dL_law_482 : decode cL_law 482 = .ok (.invokevirtual 80, 3) := by decide +kernel
theorem dL_law_485 : decode cL_law 485 = .ok (.aload_n 2, 1) := by decide +kernel
theorem dL_law_486 : decode cL_law 486 = .ok (.aload_n 0, 1) := by decide +kernel
theorem dL_law_487 : decode cL_law 487 = .ok (.iload_n 3, 1) := by decide +kernel
theorem dL_law_488 : decode cL_law 488 = .ok (.iconst 1, 1) := by decide +kernel
theorem dL_law_489 : decode cL_law 489 = .ok (.iadd, 1) := by decide +kernel
theorem dL_law_490 : decode cL_law 490 = .ok (.iaload, 1) := by decide +kernel
theorem dL_law_491 : decode cL_law 491 = .ok (.aload_n 0, 1) := by decide +kernel
theorem dL_law_492 : decode cL_law 492 = .ok (.iload_n 3, 1) := by decide +kernel
theorem dL_law_493 : decode cL_law 493 = .ok (.iconst 2, 1) := by decide +kernel
theorem dL_law_494 : decode cL_law 494 = .ok (.iadd, 1) := by decide +kernel
theorem dL_law_495 : decode cL_law 495 = .ok (.iaload, 1) := by decide +kernel
theorem dL_law_496 : decode cL_law 496 = .ok (.aload_n 0, 1) := by decide +kernel
theorem dL_law_497 : decode cL_law 497 = .ok (.iload_n 3, 1) := by decide +kernel
theorem dL_law_498 : decode cL_law 498 = .ok (.iconst 3, 1) := by decide +kernel
theorem dL_law_499 : decode cL_law 499 = .ok (.iadd, 1) := by decide +kernel
theorem dL_law_500 : decode cL_law 500 = .ok (.iaload, 1) := by decide +kernel
theorem dL_law_501 : decode cL_law 501 = .ok (.invokevirtual 84, 3) := by decide +kernel
theorem dL_law_504 : decode cL_law 504 = .ok (.if_icmp .eq 219, 3) := by decide +kernel
theorem dL_law_507 : decode cL_law 507 = .ok (.iconst 0, 1) := by decide +kernel
theorem dL_law_508 : decode cL_law 508 = .ok (.ireturn, 1) := by decide +kernel
theorem dL_law_509 : decode cL_law 509 = .ok (.aload_n 1, 1) := by decide +kernel
theorem dL_law_510 : decode cL_law 510 = .ok (.invokevirtual 85, 3) := by decide +kernel
theorem dL_law_513 : decode cL_law 513 = .ok (.aload_n 2, 1) := by decide +kernel
theorem dL_law_514 : decode cL_law 514 = .ok (.invokevirtual 88, 3) := by decide +kernel
theorem dL_law_517 : decode cL_law 517 = .ok (.if_icmp .eq 206, 3) := by decide +kernel
theorem dL_law_520 : decode cL_law 520 = .ok (.iconst 0, 1) := by decide +kernel
theorem dL_law_521 : decode cL_law 521 = .ok (.ireturn, 1) := by decide +kernel
theorem dL_law_522 : decode cL_law 522 = .ok (.aload_n 1, 1) := by decide +kernel
theorem dL_law_523 : decode cL_law 523 = .ok (.aload_n 0, 1) := by decide +kernel
theorem dL_law_524 : decode cL_law 524 = .ok (.iload_n 3, 1) := by decide +kernel
theorem dL_law_525 : decode cL_law 525 = .ok (.iconst 1, 1) := by decide +kernel
theorem dL_law_526 : decode cL_law 526 = .ok (.iadd, 1) := by decide +kernel
theorem dL_law_527 : decode cL_law 527 = .ok (.iaload, 1) := by decide +kernel
theorem dL_law_528 : decode cL_law 528 = .ok (.invokevirtual 89, 3) := by decide +kernel
theorem dL_law_531 : decode cL_law 531 = .ok (.aload_n 2, 1) := by decide +kernel
theorem dL_law_532 : decode cL_law 532 = .ok (.aload_n 0, 1) := by decide +kernel
theorem dL_law_533 : decode cL_law 533 = .ok (.iload_n 3, 1) := by decide +kernel
theorem dL_law_534 : decode cL_law 534 = .ok (.iconst 1, 1) := by decide +kernel
theorem dL_law_535 : decode cL_law 535 = .ok (.iadd, 1) := by decide +kernel
theorem dL_law_536 : decode cL_law 536 = .ok (.iaload, 1) := by decide +kernel
theorem dL_law_537 : decode cL_law 537 = .ok (.invokevirtual 92, 3) := by decide +kernel
theorem dL_law_540 : decode cL_law 540 = .ok (.if_icmp .eq 183, 3) := by decide +kernel
theorem dL_law_543 : decode cL_law 543 = .ok (.iconst 0, 1) := by decide +kernel
theorem dL_law_544 : decode cL_law 544 = .ok (.ireturn, 1) := by decide +kernel
theorem dL_law_545 : decode cL_law 545 = .ok (.aload_n 1, 1) := by decide +kernel
theorem dL_law_546 : decode cL_law 546 = .ok (.aload_n 0, 1) := by decide +kernel
theorem dL_law_547 : decode cL_law 547 = .ok (.iload_n 3, 1) := by decide +kernel
theorem dL_law_548 : decode cL_law 548 = .ok (.iconst 1, 1) := by decide +kernel
theorem dL_law_549 : decode cL_law 549 = .ok (.iadd, 1) := by decide +kernel
theorem dL_law_550 : decode cL_law 550 = .ok (.iaload, 1) := by decide +kernel
theorem dL_law_551 : decode cL_law 551 = .ok (.aload_n 0, 1) := by decide +kernel
theorem dL_law_552 : decode cL_law 552 = .ok (.iload_n 3, 1) := by decide +kernel
theorem dL_law_553 : decode cL_law 553 = .ok (.iconst 2, 1) := by decide +kernel
theorem dL_law_554 : decode cL_law 554 = .ok (.iadd, 1) := by decide +kernel
theorem dL_law_555 : decode cL_law 555 = .ok (.iaload, 1) := by decide +kernel
theorem dL_law_556 : decode cL_law 556 = .ok (.invokevirtual 93, 3) := by decide +kernel
theorem dL_law_559 : decode cL_law 559 = .ok (.aload_n 2, 1) := by decide +kernel
theorem dL_law_560 : decode cL_law 560 = .ok (.aload_n 0, 1) := by decide +kernel
theorem dL_law_561 : decode cL_law 561 = .ok (.iload_n 3, 1) := by decide +kernel
theorem dL_law_562 : decode cL_law 562 = .ok (.iconst 1, 1) := by decide +kernel
theorem dL_law_563 : decode cL_law 563 = .ok (.iadd, 1) := by decide +kernel
theorem dL_law_564 : decode cL_law 564 = .ok (.iaload, 1) := by decide +kernel
theorem dL_law_565 : decode cL_law 565 = .ok (.aload_n 0, 1) := by decide +kernel
theorem dL_law_566 : decode cL_law 566 = .ok (.iload_n 3, 1) := by decide +kernel
theorem dL_law_567 : decode cL_law 567 = .ok (.iconst 2, 1) := by decide +kernel
theorem dL_law_568 : decode cL_law 568 = .ok (.iadd, 1) := by decide +kernel
theorem dL_law_569 : decode cL_law 569 = .ok (.iaload, 1) := by decide +kernel
theorem dL_law_570 : decode cL_law 570 = .ok (.invokevirtual 96, 3) := by decide +kernel
theorem dL_law_573 : decode cL_law 573 = .ok (.if_icmp .eq 150, 3) := by decide +kernel
theorem dL_law_576 : decode cL_law 576 = .ok (.iconst 0, 1) := by decide +kernel
theorem dL_law_577 : decode cL_law 577 = .ok (.ireturn, 1) := by decide +kernel
theorem dL_law_578 : decode cL_law 578 = .ok (.aload_n 1, 1) := by decide +kernel
theorem dL_law_579 : decode cL_law 579 = .ok (.aload_n 0, 1) := by decide +kernel
theorem dL_law_580 : decode cL_law 580 = .ok (.iload_n 3, 1) := by decide +kernel
theorem dL_law_581 : decode cL_law 581 = .ok (.iconst 1, 1) := by decide +kernel
theorem dL_law_582 : decode cL_law 582 = .ok (.iadd, 1) := by decide +kernel
theorem dL_law_583 : decode cL_law 583 = .ok (.iaload, 1) := by decide +kernel
theorem dL_law_584 : decode cL_law 584 = .ok (.aload_n 0, 1) := by decide +kernel
theorem dL_law_585 : decode cL_law 585 = .ok (.iload_n 3, 1) := by decide +kernel
theorem dL_law_586 : decode cL_law 586 = .ok (.iconst 2, 1) := by decide +kernel
theorem dL_law_587 : decode cL_law 587 = .ok (.iadd, 1) := by decide +kernel
theorem dL_law_588 : decode cL_law 588 = .ok (.iaload, 1) := by decide +kernel
theorem dL_law_589 : decode cL_law 589 = .ok (.aload_n 0, 1) := by decide +kernel
theorem dL_law_590 : decode cL_law 590 = .ok (.iload_n 3, 1) := by decide +kernel
theorem dL_law_591 : decode cL_law 591 = .ok (.iconst 3, 1) := by decide +kernel
theorem dL_law_592 : decode cL_law 592 = .ok (.iadd, 1) := by decide +kernel
theorem dL_law_593 : decode cL_law 593 = .ok (.iaload, 1) := by decide +kernel
theorem dL_law_594 : decode cL_law 594 = .ok (.aload_n 0, 1) := by decide +kernel
theorem dL_law_595 : decode cL_law 595 = .ok (.iload_n 3, 1) := by decide +kernel
theorem dL_law_596 : decode cL_law 596 = .ok (.iconst 4, 1) := by decide +kernel
theorem dL_law_597 : decode cL_law 597 = .ok (.iadd, 1) := by decide +kernel
theorem dL_law_598 : decode cL_law 598 = .ok (.iaload, 1) := by decide +kernel
theorem dL_law_599 : decode cL_law 599 = .ok (.invokevirtual 97, 3) := by decide +kernel
theorem dL_law_602 : decode cL_law 602 = .ok (.aload_n 2, 1) := by decide +kernel
theorem dL_law_603 : decode cL_law 603 = .ok (.aload_n 0, 1) := by decide +kernel
theorem dL_law_604 : decode cL_law 604 = .ok (.iload_n 3, 1) := by decide +kernel
theorem dL_law_605 : decode cL_law 605 = .ok (.iconst 1, 1) := by decide +kernel
theorem dL_law_606 : decode cL_law 606 = .ok (.iadd, 1) := by decide +kernel
theorem dL_law_607 : decode cL_law 607 = .ok (.iaload, 1) := by decide +kernel
theorem dL_law_608 : decode cL_law 608 = .ok (.aload_n 0, 1) := by decide +kernel
theorem dL_law_609 : decode cL_law 609 = .ok (.iload_n 3, 1) := by decide +kernel
theorem dL_law_610 : decode cL_law 610 = .ok (.iconst 2, 1) := by decide +kernel
theorem dL_law_611 : decode cL_law 611 = .ok (.iadd, 1) := by decide +kernel
theorem dL_law_612 : decode cL_law 612 = .ok (.iaload, 1) := by decide +kernel
theorem dL_law_613 : decode cL_law 613 = .ok (.aload_n 0, 1) := by decide +kernel
theorem dL_law_614 : decode cL_law 614 = .ok (.iload_n 3, 1) := by decide +kernel
theorem dL_law_615 : decode cL_law 615 = .ok (.iconst 3, 1) := by decide +kernel
theorem dL_law_616 : decode cL_law 616 = .ok (.iadd, 1) := by decide +kernel
theorem dL_law_617 : decode cL_law 617 = .ok (.iaload, 1) := by decide +kernel
theorem dL_law_618 : decode cL_law 618 = .ok (.aload_n 0, 1) := by decide +kernel
theorem dL_law_619 : decode cL_law 619 = .ok (.iload_n 3, 1) := by decide +kernel
theorem dL_law_620 : decode cL_law 620 = .ok (.iconst 4, 1) := by decide +kernel
theorem dL_law_621 : decode cL_law 621 = .ok (.iadd, 1) := by decide +kernel
theorem dL_law_622 : decode cL_law 622 = .ok (.iaload, 1) := by decide +kernel
theorem dL_law_623 : decode cL_law 623 = .ok (.invokevirtual 101, 3) := by decide +kernel
theorem dL_law_626 : decode cL_law 626 = .ok (.if_icmp .eq 97, 3) := by decide +kernel
theorem dL_law_629 : decode cL_law 629 = .ok (.iconst 0, 1) := by decide +kernel
theorem dL_law_630 : decode cL_law 630 = .ok (.ireturn, 1) := by decide +kernel
theorem dL_law_631 : decode cL_law 631 = .ok (.aload_n 1, 1) := by decide +kernel
theorem dL_law_632 : decode cL_law 632 = .ok (.aload_n 0, 1) := by decide +kernel
theorem dL_law_633 : decode cL_law 633 = .ok (.iload_n 3, 1) := by decide +kernel
theorem dL_law_634 : decode cL_law 634 = .ok (.iconst 1, 1) := by decide +kernel
theorem dL_law_635 : decode cL_law 635 = .ok (.iadd, 1) := by decide +kernel
theorem dL_law_636 : decode cL_law 636 = .ok (.iaload, 1) := by decide +kernel
theorem dL_law_637 : decode cL_law 637 = .ok (.aload_n 0, 1) := by decide +kernel
theorem dL_law_638 : decode cL_law 638 = .ok (.iload_n 3, 1) := by decide +kernel
theorem dL_law_639 : decode cL_law 639 = .ok (.iconst 2, 1) := by decide +kernel
theorem dL_law_640 : decode cL_law 640 = .ok (.iadd, 1) := by decide +kernel
theorem dL_law_641 : decode cL_law 641 = .ok (.iaload, 1) := by decide +kernel
theorem dL_law_642 : decode cL_law 642 = .ok (.aload_n 0, 1) := by decide +kernel
theorem dL_law_643 : decode cL_law 643 = .ok (.iload_n 3, 1) := by decide +kernel
theorem dL_law_644 : decode cL_law 644 = .ok (.iconst 3, 1) := by decide +kernel
theorem dL_law_645 : decode cL_law 645 = .ok (.iadd, 1) := by decide +kernel
theorem dL_law_646 : decode cL_law 646 = .ok (.iaload, 1) := by decide +kernel
theorem dL_law_647 : decode cL_law 647 = .ok (.invokevirtual 102, 3) := by decide +kernel
theorem dL_law_650 : decode cL_law 650 = .ok (.aload_n 2, 1) := by decide +kernel
theorem dL_law_651 : decode cL_law 651 = .ok (.aload_n 0, 1) := by decide +kernel
theorem dL_law_652 : decode cL_law 652 = .ok (.iload_n 3, 1) := by decide +kernel
theorem dL_law_653 : decode cL_law 653 = .ok (.iconst 1, 1) := by decide +kernel
theorem dL_law_654 : decode cL_law 654 = .ok (.iadd, 1) := by decide +kernel
theorem dL_law_655 : decode cL_law 655 = .ok (.iaload, 1) := by decide +kernel
theorem dL_law_656 : decode cL_law 656 = .ok (.aload_n 0, 1) := by decide +kernel
theorem dL_law_657 : decode cL_law 657 = .ok (.iload_n 3, 1) := by decide +kernel
theorem dL_law_658 : decode cL_law 658 = .ok (.iconst 2, 1) := by decide +kernel
theorem dL_law_659 : decode cL_law 659 = .ok (.iadd, 1) := by decide +kernel
theorem dL_law_660 : decode cL_law 660 = .ok (.iaload, 1) := by decide +kernel
theorem dL_law_661 : decode cL_law 661 = .ok (.aload_n 0, 1) := by decide +kernel
theorem dL_law_662 : decode cL_law 662 = .ok (.iload_n 3, 1) := by decide +kernel
theorem dL_law_663 : decode cL_law 663 = .ok (.iconst 3, 1) := by decide +kernel
theorem dL_law_664 : decode cL_law 664 = .ok (.iadd, 1) := by decide +kernel
theorem dL_law_665 : decode cL_law 665 = .ok (.iaload, 1) := by decide +kernel
theorem dL_law_666 : decode cL_law 666 = .ok (.invokevirtual 105, 3) := by decide +kernel
theorem dL_law_669 : decode cL_law 669 = .ok (.if_icmp .eq 54, 3) := by decide +kernel
theorem dL_law_672 : decode cL_law 672 = .ok (.iconst 0, 1) := by decide +kernel
theorem dL_law_673 : decode cL_law 673 = .ok (.ireturn, 1) := by decide +kernel
theorem dL_law_674 : decode cL_law 674 = .ok (.aload_n 1, 1) := by decide +kernel
theorem dL_law_675 : decode cL_law 675 = .ok (.invokevirtual 106, 3) := by decide +kernel
theorem dL_law_678 : decode cL_law 678 = .ok (.aload_n 2, 1) := by decide +kernel
theorem dL_law_679 : decode cL_law 679 = .ok (.invokevirtual 109, 3) := by decide +kernel
theorem dL_law_682 : decode cL_law 682 = .ok (.if_icmp .eq 41, 3) := by decide +kernel
theorem dL_law_685 : decode cL_law 685 = .ok (.iconst 0, 1) := by decide +kernel
theorem dL_law_686 : decode cL_law 686 = .ok (.ireturn, 1) := by decide +kernel
theorem dL_law_687 : decode cL_law 687 = .ok (.aload_n 1, 1) := by decide +kernel
theorem dL_law_688 : decode cL_law 688 = .ok (.invokevirtual 110, 3) := by decide +kernel
theorem dL_law_691 : decode cL_law 691 = .ok (.aload_n 2, 1) := by decide +kernel
theorem dL_law_692 : decode cL_law 692 = .ok (.invokevirtual 113, 3) := by decide +kernel
theorem dL_law_695 : decode cL_law 695 = .ok (.if_icmp .eq 28, 3) := by decide +kernel
theorem dL_law_698 : decode cL_law 698 = .ok (.iconst 0, 1) := by decide +kernel
theorem dL_law_699 : decode cL_law 699 = .ok (.ireturn, 1) := by decide +kernel
theorem dL_law_700 : decode cL_law 700 = .ok (.aload_n 1, 1) := by decide +kernel
theorem dL_law_701 : decode cL_law 701 = .ok (.aload_n 0, 1) := by decide +kernel
theorem dL_law_702 : decode cL_law 702 = .ok (.iload_n 3, 1) := by decide +kernel
theorem dL_law_703 : decode cL_law 703 = .ok (.iconst 1, 1) := by decide +kernel
theorem dL_law_704 : decode cL_law 704 = .ok (.iadd, 1) := by decide +kernel
theorem dL_law_705 : decode cL_law 705 = .ok (.iaload, 1) := by decide +kernel
theorem dL_law_706 : decode cL_law 706 = .ok (.invokevirtual 114, 3) := by decide +kernel
theorem dL_law_709 : decode cL_law 709 = .ok (.aload_n 2, 1) := by decide +kernel
theorem dL_law_710 : decode cL_law 710 = .ok (.aload_n 0, 1) := by decide +kernel
theorem dL_law_711 : decode cL_law 711 = .ok (.iload_n 3, 1) := by decide +kernel
theorem dL_law_712 : decode cL_law 712 = .ok (.iconst 1, 1) := by decide +kernel
theorem dL_law_713 : decode cL_law 713 = .ok (.iadd, 1) := by decide +kernel
theorem dL_law_714 : decode cL_law 714 = .ok (.iaload, 1) := by decide +kernel
theorem dL_law_715 : decode cL_law 715 = .ok (.invokevirtual 117, 3) := by decide +kernel
theorem dL_law_718 : decode cL_law 718 = .ok (.if_icmp .eq 5, 3) := by decide +kernel
theorem dL_law_721 : decode cL_law 721 = .ok (.iconst 0, 1) := by decide +kernel
theorem dL_law_722 : decode cL_law 722 = .ok (.ireturn, 1) := by decide +kernel
theorem dL_law_723 : decode cL_law 723 = .ok (.iinc 3 5, 3) := by decide +kernel
theorem dL_law_726 : decode cL_law 726 = .ok (.goto (-708), 3) := by decide +kernel
theorem dL_law_729 : decode cL_law 729 = .ok (.iconst 1, 1) := by decide +kernel
theorem dL_law_730 : decode cL_law 730 = .ok (.ireturn, 1) := by decide +kernel
end
section
/-! values, memory: (tag, number) names an object or an array; its address is B + x_od tag number -/
abbrev xV : Type := (Nat × Nat) ⊕ (Int ⊕ (Int ⊕ Nat))
abbrev xR (t i : Nat) : xV := Sum.inl (t, i)
abbrev xI (a : Int) : xV := Sum.inr (Sum.inl a)
abbrev xJ (a : Int) : xV := Sum.inr (Sum.inr (Sum.inl a))
abbrev xA (a : Nat) : xV := Sum.inr (Sum.inr (Sum.inr a))
abbrev xMr : Type := Nat → Nat → Nat → Option (Nat × Nat)
abbrev xMi : Type := Nat → Nat → Nat → Int
def x_up (σ : xMi) (t i k : Nat) (v : Int) : xMi := fun t' i' k' => if t' = t ∧ i' = i ∧ k' = k then v else σ t' i' k'
def x_ur (ρ : xMr) (t i k : Nat) (v : Option (Nat × Nat)) : xMr := fun t' i' k' => if t' = t ∧ i' = i ∧ k' = k then v else ρ t' i' k'
def x_zr (σ : xMi) (t i : Nat) : xMi := fun t' i' k' => if t' = t ∧ i' = i then 0 else σ t' i' k'
def x_zn (ρ : xMr) (t i : Nat) : xMr := fun t' i' k' => if t' = t ∧ i' = i then none else ρ t' i' k'
def x_cp (σ : xMi) (t i t0 i0 n : Nat) : xMi := fun t' i' k' => if t' = t ∧ i' = i ∧ k' < n then σ t0 i0 k' else σ t' i' k'
def x_wr (a : Int) : Int := (Int32.ofInt a).toInt
def x_bn (a : Int) : Int := if a = 0 then 0 else 1
theorem x_wr_of {a : Int} (h1 : -2147483648 ≤ a) (h2 : a < 2147483648) : x_wr a = a := Int32.toInt_ofInt_of_le h1 h2
theorem x_eq (a b : Int) : Int32.ofInt a = Int32.ofInt b ↔ x_wr a = x_wr b := Int32.toInt_inj.symm
theorem x_lt (a b : Int) : Int32.ofInt a < Int32.ofInt b ↔ x_wr a < x_wr b := Int32.lt_iff_toInt_lt
theorem x_le (a b : Int) : Int32.ofInt a ≤ Int32.ofInt b ↔ x_wr a ≤ x_wr b := Int32.le_iff_toInt_le
theorem x_eq0 (a : Int) : Int32.ofInt a = 0 ↔ x_wr a = 0 := by
  rw [← Int32.toInt_inj]; exact Iff.rfl
theorem x_lt0 (a : Int) : Int32.ofInt a < 0 ↔ x_wr a < 0 := Int32.lt_iff_toInt_lt
theorem x_0lt (a : Int) : 0 < Int32.ofInt a ↔ 0 < x_wr a := Int32.lt_iff_toInt_lt
theorem x_le0 (a : Int) : Int32.ofInt a ≤ 0 ↔ x_wr a ≤ 0 := Int32.le_iff_toInt_le
theorem x_0le (a : Int) : 0 ≤ Int32.ofInt a ↔ 0 ≤ x_wr a := Int32.le_iff_toInt_le
theorem x_nat {k : Nat} (h : k < 2147483648) : x_wr (k : Int) = k := x_wr_of (by omega) (by omega)
theorem x_ofk (k : Nat) : Int32.ofInt (k : Int) = nI k := rfl
theorem x_clamp {k : Nat} (h : k < 2147483648) : (Int32.ofInt (k : Int)).toNatClampNeg = k := by rw [x_ofk]; exact nI_clamp h
theorem x_vin {k N : Nat} (h : k < N) (hN : N < 2147483648) : vp_in (Int32.ofInt (k : Int)) N := by rw [x_ofk]; exact vp_in_nI h hN
/-! the shapes -/
def x_sh : Nat → Nat ⊕ Nat
  | 0 => .inr 0
  | 5 => .inr 3
  | 10 => .inr 5
  | 11 => .inl 1
  | 13 => .inr 2
  | 14 => .inl 3
  | 15 => .inr 4
  | 18 => .inl 2
  | 19 => .inr 1
  | 20 => .inl 3
  | 23 => .inr 6
  | 24 => .inr 7
  | _ => .inl 0
def x_ln (t i : Nat) : Nat := if t = 11 then 200 else if t = 12 then 4 else if t = 14 then (if i = 0 then 8 else 2) else if t = 20 then 7 else if t = 40 then 200 else if t = 41 then 24 else if t = 42 then 416 else if t = 43 then 52 else if t = 46 then 104 else 6
def x_nf : Nat → Nat
  | 0 => 12
  | 1 => 5
  | 2 => 3
  | 3 => 6
  | 4 => 4
  | 5 => 3
  | 6 => 11
  | 7 => 36
  | _ => 0
/-- of a field: 0 an int, 1 a reference, 2 a boolean -/
def x_kd (ci k : Nat) : Nat := if ci = 0 then (if k < 5 then 1 else if k = 11 then 2 else 0) else if ci = 1 then (if k < 3 then 1 else 0) else if ci = 2 then (if k = 0 then 1 else 0) else if ci = 3 then (if k < 4 then 1 else 0) else if ci = 4 then (if k < 3 then 1 else 0) else if ci = 5 then (if k < 2 then 1 else 0) else if ci = 6 then 1 else
  if k ∈ [1, 2, 3, 4, 9, 10, 11, 12, 13, 14, 15, 16, 18, 19, 20, 21, 26, 28, 30, 32, 33, 34] then 1 else 0
def x_fb (i : Nat) : Nat := if i < 3 then 19 + 5 * i else if i < 11 then 21 + 5 * i else if i < 13 then 23 + 5 * i else 31 + 5 * i
def x_od (t i : Nat) : Nat := if t ≤ 4 then x_fb i + t else if t ≤ 9 then 4 + 5 * i + (t - 5) else if t ≤ 12 then 1 + (t - 10) else if t = 13 then (if i = 0 then 34 else 76) else if t = 14 then (if i = 0 then 35 else 77) else if t ≤ 18 then 88 + (t - 15) else if t ≤ 22 then 92 + (t - 19) else if t = 23 then 0 else 131 + (t - 24)
def x_cnt (t : Nat) : Nat := if t ≤ 4 then 20 else if t ≤ 9 then 3 else if t ≤ 12 then 1 else if t ≤ 14 then 2 else if t ≤ 46 then 1 else 0
def x_ivl : List (Nat × Nat) := [(23, 0), (10, 0), (11, 0), (12, 0), (5, 0), (6, 0), (7, 0), (8, 0), (9, 0), (5, 1), (6, 1), (7, 1), (8, 1), (9, 1), (5, 2), (6, 2), (7, 2), (8, 2), (9, 2), (0, 0), (1, 0), (2, 0), (3, 0), (4, 0), (0, 1), (1, 1), (2, 1), (3, 1), (4, 1), (0, 2), (1, 2), (2, 2), (3, 2), (4, 2), (13, 0), (14, 0), (0, 3), (1, 3), (2, 3), (3, 3), (4, 3), (0, 4), (1, 4), (2, 4), (3, 4), (4, 4), (0, 5), (1, 5), (2, 5), (3, 5), (4, 5), (0, 6), (1, 6), (2, 6), (3, 6), (4, 6), (0, 7), (1, 7), (2, 7), (3, 7), (4, 7), (0, 8), (1, 8), (2, 8), (3, 8), (4, 8), (0, 9), (1, 9), (2, 9), (3, 9), (4, 9), (0, 10), (1, 10), (2, 10), (3, 10), (4, 10), (13, 1), (14, 1), (0, 11), (1, 11), (2, 11), (3, 11), (4, 11), (0, 12), (1, 12), (2, 12), (3, 12), (4, 12), (15, 0), (16, 0), (17, 0), (18, 0), (19, 0), (20, 0), (21, 0), (22, 0), (0, 13), (1, 13), (2, 13), (3, 13), (4, 13), (0, 14), (1, 14), (2, 14), (3, 14), (4, 14), (0, 15), (1, 15), (2, 15), (3, 15), (4, 15), (0, 16), (1, 16), (2, 16), (3, 16), (4, 16), (0, 17), (1, 17), (2, 17), (3, 17), (4, 17), (0, 18), (1, 18), (2, 18), (3, 18), (4, 18), (0, 19), (1, 19), (2, 19), (3, 19), (4, 19), (24, 0), (25, 0), (26, 0), (27, 0), (28, 0), (29, 0), (30, 0), (31, 0), (32, 0), (33, 0), (34, 0), (35, 0), (36, 0), (37, 0), (38, 0), (39, 0), (40, 0), (41, 0), (42, 0), (43, 0), (44, 0), (45, 0), (46, 0)]
def x_iv (j : Nat) : Nat × Nat := x_ivl.getD j (0, 0)
theorem x_ivod : ∀ t, t < 47 → ∀ i, i < x_cnt t → x_iv (x_od t i) = (t, i) ∧ x_od t i < 154 ∧ (t < 24 → x_od t i < 131) := by decide +kernel
theorem x_odiv : ∀ j, j < 154 → x_od (x_iv j).1 (x_iv j).2 = j := by decide +kernel
def x_vd (n t i : Nat) : Prop := x_iv (x_od t i) = (t, i) ∧ x_od t i < n
theorem x_vC {n t i : Nat} (hn : 131 ≤ n) (ht : t < 24) (hi : i < x_cnt t) : x_vd n t i := ⟨(x_ivod t (by omega) i hi).1, Nat.lt_of_lt_of_le ((x_ivod t (by omega) i hi).2.2 ht) hn⟩
theorem x_vM {n t i : Nat} (hn : 154 ≤ n) (ht : t < 47) (hi : i < x_cnt t) : x_vd n t i := ⟨(x_ivod t ht i hi).1, Nat.lt_of_lt_of_le (x_ivod t ht i hi).2.1 hn⟩
def x_tv (B : Nat) : xV → Value
  | .inl q => .ref (B + x_od q.1 q.2)
  | .inr (.inl a) => .int (Int32.ofInt a)
  | .inr (.inr (.inl a)) => .long (Int64.ofInt a)
  | .inr (.inr (.inr a)) => .ref a
def x_cat : xV → Nat
  | .inr (.inr (.inl _)) => 2
  | _ => 1
theorem x_cat_tv (B : Nat) (v : xV) : (x_tv B v).category = x_cat v := by
  rcases v with q | a | a | a <;> rfl
theorem x_cat_sum (B : Nat) (st : List xV) : ((st.map (x_tv B)).map fun v => v.category).sum = (st.map x_cat).sum := by
  rw [List.map_map]
  congr 1
  exact List.map_congr_left (fun v _ => x_cat_tv B v)
abbrev x_cl : List vw_C := [(RX0, TX0, 12), (RX1, TX1, 5), (RX2, TX2, 3), (RX3, TX3, 6), (RX4, TX4, 4), (RX5, TX5, 3), (RX6, TX6, 11), (RX7, TX7, 36)]
abbrev x_ty (cy : Nat → ClassId) : List (ClassId × FieldType) := [(cy 0, .int), (cy 1, .char), (cy 2, .boolean), (cy 3, .object RX0)]
def x_fv (B : Nat) (ρ : xMr) (σ : xMi) (t i ci k : Nat) : Value := if x_kd ci k = 1 then va_rf ((ρ t i k).map (fun q => B + x_od q.1 q.2)) else if x_kd ci k = 2 then .int (Int32.ofInt (x_bn (σ t i k))) else .int (Int32.ofInt (σ t i k))
def x_ce (B : Nat) (cy : Nat → ClassId) (ρ : xMr) (σ : xMi) (t i : Nat) : va_E := match x_sh t with
  | .inr ci => .inr (ci, (List.range (x_nf ci)).map (x_fv B ρ σ t i ci))
  | .inl 3 => .inl (cy 3, x_ln t i, .inr (.inr (.inr (.inr (fun k => (ρ t i k).map (fun q => B + x_od q.1 q.2))))))
  | .inl ty => .inl (cy ty, x_ln t i, .inl (fun k => Int32.ofInt (σ t i k)))
theorem x_ce_o {B : Nat} {cy : Nat → ClassId} {ρ : xMr} {σ : xMi} {t i ci : Nat} (h : x_sh t = .inr ci) : x_ce B cy ρ σ t i = .inr (ci, (List.range (x_nf ci)).map (x_fv B ρ σ t i ci)) := by
  unfold x_ce; rw [h]
theorem x_ce_3 {B : Nat} {cy : Nat → ClassId} {ρ : xMr} {σ : xMi} {t i : Nat} (h : x_sh t = .inl 3) : x_ce B cy ρ σ t i = .inl (cy 3, x_ln t i, .inr (.inr (.inr (.inr (fun k => (ρ t i k).map (fun q => B + x_od q.1 q.2)))))) := by
  unfold x_ce; rw [h]; rfl
theorem x_ce_a {B : Nat} {cy : Nat → ClassId} {ρ : xMr} {σ : xMi} {t i ty : Nat} (h : x_sh t = .inl ty) (h3 : ty < 3) : x_ce B cy ρ σ t i = .inl (cy ty, x_ln t i, .inl (fun k => Int32.ofInt (σ t i k))) := by
  unfold x_ce; rw [h]
  match ty, h3 with
  | 0, _ => rfl
  | 1, _ => rfl
  | 2, _ => rfl
def x_wl (B : Nat) (cy : Nat → ClassId) (n : Nat) (ρ : xMr) (σ : xMi) : va_W := (List.range n).map (fun j => (B + j, x_ce B cy ρ σ (x_iv j).1 (x_iv j).2))
theorem x_wl_len (B : Nat) (cy : Nat → ClassId) (n : Nat) (ρ : xMr) (σ : xMi) : (x_wl B cy n ρ σ).length = n := by simp [x_wl]
theorem x_wl_get (B : Nat) (cy : Nat → ClassId) {n : Nat} (ρ : xMr) (σ : xMi) {j : Nat} (h : j < n) : (x_wl B cy n ρ σ)[j]? = some (B + j, x_ce B cy ρ σ (x_iv j).1 (x_iv j).2) := by
  simp [x_wl, h]
theorem x_wl_vd (B : Nat) (cy : Nat → ClassId) {n : Nat} (ρ : xMr) (σ : xMi) {t i : Nat} (h : x_vd n t i) : (x_wl B cy n ρ σ)[x_od t i]? = some (B + x_od t i, x_ce B cy ρ σ t i) := by
  rw [x_wl_get B cy ρ σ h.2, h.1]
theorem x_wl_D (B : Nat) (cy : Nat → ClassId) (n : Nat) (ρ : xMr) (σ : xMi) : va_D (fun q => B ≤ q) (x_wl B cy n ρ σ) := by
  refine ⟨fun i j p q hi hj hpq => ?_, fun k q hk => ?_⟩
  · have li : i < n := by have := (List.getElem?_eq_some_iff.mp hi).1; rwa [x_wl_len] at this
    have lj : j < n := by have := (List.getElem?_eq_some_iff.mp hj).1; rwa [x_wl_len] at this
    rw [x_wl_get B cy ρ σ li] at hi
    rw [x_wl_get B cy ρ σ lj] at hj
    cases hi; cases hj
    exact Nat.add_left_cancel hpq
  · have lk : k < n := by have := (List.getElem?_eq_some_iff.mp hk).1; rwa [x_wl_len] at this
    rw [x_wl_get B cy ρ σ lk] at hk
    cases hk
    exact Nat.le_add_right _ _
theorem x_wl_set (B : Nat) (cy : Nat → ClassId) {n : Nat} {ρ ρ' : xMr} {σ σ' : xMi} {t i : Nat} (hn : n ≤ 154) (h : x_vd n t i) {e : va_E} (he : e = x_ce B cy ρ' σ' t i) (ho : ∀ t' i', ¬ (t' = t ∧ i' = i) → x_ce B cy ρ' σ' t' i' = x_ce B cy ρ σ t' i') :
    (x_wl B cy n ρ σ).set (x_od t i) (B + x_od t i, e) = x_wl B cy n ρ' σ' := by
  subst he
  apply List.ext_getElem?
  intro j
  by_cases hj : j < n
  · rw [x_wl_get B cy ρ' σ' hj]
    by_cases hk : j = x_od t i
    · subst hk
      rw [List.getElem?_set_self (by rw [x_wl_len]; exact hj), h.1]
    · rw [List.getElem?_set_ne (fun z => hk z.symm), x_wl_get B cy ρ σ hj, ho]
      intro z
      have h1 := x_odiv j (by omega)
      rw [z.1, z.2] at h1
      exact hk h1.symm
  · rw [List.getElem?_eq_none (by rw [List.length_set, x_wl_len]; omega), List.getElem?_eq_none (by rw [x_wl_len]; omega)]
theorem x_ce_eq {B : Nat} {cy : Nat → ClassId} {ρ ρ' : xMr} {σ σ' : xMi} {t i : Nat} (h1 : ∀ k, ρ' t i k = ρ t i k) (h2 : ∀ k, σ' t i k = σ t i k) : x_ce B cy ρ' σ' t i = x_ce B cy ρ σ t i := by
  have e1 : ρ' t i = ρ t i := funext h1
  have e2 : σ' t i = σ t i := funext h2
  have e3 : ∀ ci, x_fv B ρ' σ' t i ci = x_fv B ρ σ t i ci := fun ci => by funext k; simp only [x_fv, e1, e2]
  unfold x_ce
  simp only [e1, e2, e3]
theorem x_up_o {σ : xMi} {t i k : Nat} {v : Int} {t' i' : Nat} (h : ¬ (t' = t ∧ i' = i)) (k' : Nat) : x_up σ t i k v t' i' k' = σ t' i' k' := if_neg (fun z => h ⟨z.1, z.2.1⟩)
theorem x_ur_o {ρ : xMr} {t i k : Nat} {v : Option (Nat × Nat)} {t' i' : Nat} (h : ¬ (t' = t ∧ i' = i)) (k' : Nat) : x_ur ρ t i k v t' i' k' = ρ t' i' k' := if_neg (fun z => h ⟨z.1, z.2.1⟩)
theorem x_up_s {σ : xMi} {t i k : Nat} {v : Int} (k' : Nat) : x_up σ t i k v t i k' = if k' = k then v else σ t i k' := by
  simp only [x_up, true_and]
theorem x_ur_s {ρ : xMr} {t i k : Nat} {v : Option (Nat × Nat)} (k' : Nat) : x_ur ρ t i k v t i k' = if k' = k then v else ρ t i k' := by
  simp only [x_ur, true_and]
/-- the words: those of the tables that a call keeps -/
def x_T : List Cond := lw_tbl.filter goodWord
theorem x_in {w : Cond} {k : Nat} (h : lw_tbl[k]? = some w) (hg : goodWord w = true) : w ∈ x_T := List.mem_filter.mpr ⟨List.mem_of_getElem? h, hg⟩
def x_R (B : Nat) (D : va_G) (cy : Nat → ClassId) (n : Nat) (ρ : xMr) (σ : xMi) (H : Heap) : Prop := va_P D x_cl (x_wl B cy n ρ σ) H ∧ n ≤ 154
def x_S (B n cu : Nat) (s : State) (H : Heap) (locs : List Loc) : Prop := va_S (fun q => B ≤ q) s.heap H locs ∧ s.heap.size + cu = B + n
abbrev xM : Type := String × ByteArray × Nat × Option FieldType × Bool
abbrev x_rm (d mc ms : Nat) : Room := { frames := d, cells := mc, slots := ms, locals := 100 * d }
def x_txt : List Int32 := [112, 48, 44, 53, 44, 54, 44, 52, 59, 112, 49, 44, 49, 50, 44, 53, 44, 55, 59, 112, 50, 44, 51, 51, 44, 57, 44, 51, 59, 112, 51, 44, 50, 48, 44, 56, 44, 57, 59, 112, 48, 44, 48, 44, 50, 44, 50, 59, 104, 52, 59]
/-- what stays so of the rest of the machine: three links, the class's one text, a static of String -/
def x_X (B : Nat) (z : Nat × Nat) (U : State) : Prop := va_Nw (.methodLinkNest RX6 9 yX5_init "NewsHampers") U ∧ va_Nw (.methodLinkNest RX6 18 yX3_init "NewsHampers") U ∧ va_Nw (.methodLinkNest RX6 58 yX4_init "NewsHampers") U ∧
  vk_R RX6 70 "p0,5,6,4;p1,12,5,7;p2,33,9,3;p3,20,8,9;p0,0,2,2;h4;" z.1 U ∧ vk_S 1 [51] [x_txt] (fun _ => z.1) (fun _ => z.2) (fun q => B ≤ q) U U.heap ∧ va_Z "java/lang/String" "COMPACT_STRINGS" "Z" (.int 1) (fun q => B ≤ q) U U.heap ∧ va_AO RX0 U
def x_K (B : Nat) (D : va_G) (cy : Nat → ClassId) (z : Nat × Nat) (U : State) : Prop := va_K D x_cl (x_ty cy) U ∧ x_X B z U
theorem x_K.warm {B : Nat} {D : va_G} {cy : Nat → ClassId} {z : Nat × Nat} {s U : State} {H : Heap} {locs : List Loc} (hW : s.WarmedH U.vm) (hU : U.heap = H) (hS : va_S (fun q => B ≤ q) s.heap H locs) (h : x_K B D cy z s) : x_K B D cy z U := by
  obtain ⟨h1, h2, h3, h4, h5, h6, h7, h8⟩ := h
  refine ⟨va_K.moved hW.alike h1, va_Nw.warmM hW h2, va_Nw.warmM hW h3, va_Nw.warmM hW h4, vk_R.warm hW h5, ?_, ?_, va_AO.moved hW.alike h8⟩
  · rw [hU]; exact vk_S.moved hW.alike (h6.kept hS.2.1)
  · rw [hU]; exact va_Z.moved hW.alike (h7.kept hS.2.1)
theorem x_K.call {B : Nat} {D : va_G} {cy : Nat → ClassId} {z : Nat × Nat} {U : State} (g : JFrame) (mk : MethodId) (a : Array Value) (h : x_K B D cy z U) : x_K B D cy z (U.calling g mk a) := by
  obtain ⟨h1, h2, h3, h4, h5, h6, h7, h8⟩ := h
  exact ⟨va_K.moved (u := U) (U := U.calling g mk a) (Vm.Alike.refl U.vm) h1, va_Nw.same rfl (rfl : U.vm = (U.calling g mk a).vm) h2, va_Nw.same rfl (rfl : U.vm = (U.calling g mk a).vm) h3, va_Nw.same rfl (rfl : U.vm = (U.calling g mk a).vm) h4, vk_R.same (rfl : (U.calling g mk a).vm = U.vm) h5, vk_S.moved (u := U) (U := U.calling g mk a) (Vm.Alike.refl U.vm) h6, va_Z.moved (u := U) (U := U.calling g mk a) (Vm.Alike.refl U.vm) h7, va_AO.moved (u := U) (U := U.calling g mk a) (Vm.Alike.refl U.vm) h8⟩
def x_C (M : xM) (p : Program) (s : State) (m : MethodId) (args : Array Value) (meth : Method) (c : Code) (B : Nat) (D : va_G) (cy : Nat → ClassId) (z : Nat × Nat) : Prop :=
  p.tables.exec = Jvm.exec ∧ c.code = M.2.1 ∧ c.maxLocals = M.2.2.1 ∧ s.vm.findClass M.1 = some m.cls ∧ (∀ w ∈ x_T, w.before args s = true) ∧ meth.sig.returnType = M.2.2.2.1 ∧ meth.locks = false ∧ (M.2.2.2.2 = true → meth.name = "<init>") ∧ x_K B D cy z s
abbrev xP : Type := Option xV → Nat → xMr → xMi → Prop
def x_Q (B : Nat) (D : va_G) (cy : Nat → ClassId) (Q : xP) : Array Value → State → Outcome → State → Prop := fun _ st o t =>
  (∃ (r : Option xV) (n : Nat) (ρ : xMr) (σ : xMi), o = .returned (r.map (x_tv B)) ∧ Q r n ρ σ ∧ x_R B D cy n ρ σ t.heap) ∧ va_F (fun q => B ≤ q) st t
abbrev x_lv (B : Nat) (lv : List (Nat × xV)) : List (Nat × Value) := lv.map (fun q => (q.1, x_tv B q.2))
def x_Go (l : Launch) (M : xM) (d mc ms : Nat) (Q : xP) (n cu su pc : Nat) (lv : List (Nat × xV)) (st : List xV) (ρ : xMr) (σ : xMi) : Prop :=
  ∀ (p : Program) (e : Env) (s : State) (m : MethodId) (args : Array Value) (below : List Frame) (meth : Method) (c : Code) (B : Nat) (D : va_G) (cy : Nat → ClassId) (z : Nat × Nat) (H : Heap) (locs : List Loc) (ls : Array Slot),
    x_C M p s m args meth c B D cy z → x_R B D cy n ρ σ H → x_S B n cu s H locs → lv_has ls M.2.2.1 (x_lv B lv) →
    W p l e (x_rm d mc ms) s m args below meth c H locs cu su (MQ below (x_Q B D cy Q) args s mc ms (fun q => B ≤ q)) (F0 m pc ls (st.map (x_tv B)))
def x_Sp (l : Launch) (y : MethodName) (M : xM) (d mc ms n : Nat) (ρ : xMr) (σ : xMi) (av : List xV) (Q : xP) : Prop :=
  ∀ (B : Nat) (D : va_G) (cy : Nat → ClassId) (z : Nat × Nat), Met l y (.code y M.2.1 M.2.2.1 M.2.2.2.1 :: x_T) (x_rm d mc ms) (va_Pc (av.map (x_tv B)) (fun U => x_R B D cy n ρ σ U.heap ∧ U.heap.size = B + n ∧ x_K B D cy z U)) (x_Q B D cy Q) mc ms (fun q => B ≤ q)
def x_la : Nat → List xV → List (Nat × xV)
  | _, [] => []
  | i, v :: vs => (i, v) :: x_la (if x_cat v = 2 then i + 2 else i + 1) vs
theorem x_la_lv (B : Nat) : ∀ (av : List xV) (i : Nat), lv_args i (av.map (x_tv B)) = x_lv B (x_la i av)
  | [], i => rfl
  | v :: vs, i => by
    show (i, x_tv B v) :: lv_args (if (x_tv B v).category = 2 then i + 2 else i + 1) (vs.map (x_tv B)) = (i, x_tv B v) :: x_lv B (x_la (if x_cat v = 2 then i + 2 else i + 1) vs)
    rw [x_cat_tv, x_la_lv B vs]
theorem x_sl_len (B : Nat) : ∀ (av : List xV), (lg_sl (av.map (x_tv B))).length = (av.map x_cat).sum
  | [] => rfl
  | v :: vs => by
    have h := x_sl_len B vs
    rcases v with q | a | a | a <;> simp [lg_sl, x_tv, x_cat, Value.category] at h ⊢ <;> omega
theorem x_Sp.of {l : Launch} {y : MethodName} {M : xM} {d mc ms n : Nat} {ρ : xMr} {σ : xMi} {av : List xV} {Q : xP} (hy : plainName y.cls = true) (hown : y.cls = M.1) (hini : M.2.2.2.2 = true → y.name = "<init>") (hlen : (av.map x_cat).sum ≤ M.2.2.1)
    (h : x_Go l M d mc ms Q n 0 0 0 (x_la 0 av) [] ρ σ) : x_Sp l y M d mc ms n ρ σ av Q := by
  intro B D cy z
  refine Met.ofW (cc := M.2.1) (maxL := M.2.2.1) (ret := M.2.2.2.1) hy rfl ?_
  intro p e s m args below meth c s₁ Bd hml hv
  obtain ⟨rfl, hR, hz, hK⟩ := hv
  have hts := atoms_spec (ws := .code y M.2.1 M.2.2.1 M.2.2.2.1 :: x_T) Bd.pre
  have ho : s.vm.findClass M.1 = some m.cls := by rw [← hown]; exact findClass_of_methodNamed Bd.named
  have hl := lv_entry (av.map (x_tv B)) (n := M.2.2.1) (by rw [x_sl_len]; exact hlen)
  rw [lg_entry_eq]
  rw [x_la_lv] at hl
  exact h p e s m _ below meth c B D cy z s.heap [] _ ⟨Bd.exec, Bd.bytes, hml, ho, fun w hw => hts w (List.mem_cons_of_mem _ hw), Bd.returns, Bd.notSynchronized, fun hi => by rw [(name_of_methodNamed Bd.named Bd.method).1]; exact hini hi, hK⟩ hR ⟨va_S.rf, hz⟩ hl
end
section
section
variable {l : Launch} {own : String} {cc : ByteArray} {nL : Nat} {ret : Option FieldType} {ini : Bool} {d mc ms : Nat} {Q : xP} {n cu su pc : Nat} {lv lv' : List (Nat × xV)} {st : List xV} {ρ : xMr} {σ : xMi}
/-- a local's value -/
def x_lg (lv : List (Nat × xV)) (i : Nat) : Option xV := (lv.find? (fun q => q.1 == i)).map (fun q => q.2)
def x_ls (lv : List (Nat × xV)) (i : Nat) (v : xV) : List (Nat × xV) := (i, v) :: lv.filter (fun q => !(q.1 == i) && !(q.1 + 1 == i && x_cat q.2 == 2))
def x_lsJ (lv : List (Nat × xV)) (i : Nat) (v : xV) : List (Nat × xV) := (i, v) :: lv.filter (fun q => !(q.1 == i) && (!(q.1 == i + 1) && !(q.1 + 1 == i && x_cat q.2 == 2)))
theorem x_lg_at {B : Nat} {ls : Array Slot} {i : Nat} {v : xV} (h : x_lg lv i = some v) (hl : lv_has ls nL (x_lv B lv)) : ls[i]? = some (.val (x_tv B v)) := by
  unfold x_lg at h
  obtain ⟨q, hq, e⟩ := Option.map_eq_some_iff.mp h
  have h1 : q.1 = i := by simpa using List.find?_some hq
  have h2 := List.mem_of_find?_eq_some hq
  have h3 := hl.2.2 (q.1, x_tv B q.2) (List.mem_map.mpr ⟨q, h2, rfl⟩)
  rw [← h1, ← e]
  exact h3
theorem x_ls_lv (B : Nat) (lv : List (Nat × xV)) (i : Nat) (v : xV) : (i, x_tv B v) :: (x_lv B lv).filter (fun q => !(q.1 == i) && !(q.1 + 1 == i && q.2.category == 2)) = x_lv B (x_ls lv i v) := by
  unfold x_ls x_lv
  rw [List.map_cons, List.filter_map]
  congr 2
  apply List.filter_congr
  intro q _
  simp only [Function.comp, x_cat_tv]
theorem x_lsJ_lv (B : Nat) (lv : List (Nat × xV)) (i : Nat) (v : xV) : (i, x_tv B v) :: (x_lv B lv).filter (fun q => !(q.1 == i) && (!(q.1 == i + 1) && !(q.1 + 1 == i && q.2.category == 2))) = x_lv B (x_lsJ lv i v) := by
  unfold x_lsJ x_lv
  rw [List.map_cons, List.filter_map]
  congr 2
  apply List.filter_congr
  intro q _
  simp only [Function.comp, x_cat_tv]
abbrev xGo (l : Launch) (own : String) (cc : ByteArray) (nL : Nat) (ret : Option FieldType) (ini : Bool) (d mc ms : Nat) (Q : xP) (n cu su pc : Nat) (lv : List (Nat × xV)) (st : List xV) (ρ : xMr) (σ : xMi) : Prop := x_Go l (own, cc, nL, ret, ini) d mc ms Q n cu su pc lv st ρ σ
theorem g_iconst {k : Int} (hd : decode cc pc = .ok (.iconst k, 1)) (kk : xGo l own cc nL ret ini d mc ms Q n cu su (pc + 1) lv (xI k :: st) ρ σ) : xGo l own cc nL ret ini d mc ms Q n cu su pc lv st ρ σ := by
  intro p e s m args below meth c B D cy zz H locs ls hC hR hS hl
  exact lv_iconst hC.1 hC.2.1 hd rfl (kk p e s m args below meth c B D cy zz H locs ls hC hR hS hl)
theorem g_bipush {k : Int} (hd : decode cc pc = .ok (.bipush k, 2)) (hk : (Int8.ofInt k).toInt32 = Int32.ofInt k) (kk : xGo l own cc nL ret ini d mc ms Q n cu su (pc + 2) lv (xI k :: st) ρ σ) : xGo l own cc nL ret ini d mc ms Q n cu su pc lv st ρ σ := by
  intro p e s m args below meth c B D cy zz H locs ls hC hR hS hl
  exact lv_bipush hC.1 hC.2.1 hd hk (kk p e s m args below meth c B D cy zz H locs ls hC hR hS hl)
theorem g_sipush {k : Int} (hd : decode cc pc = .ok (.sipush k, 3)) (hk : (Int16.ofInt k).toInt32 = Int32.ofInt k) (kk : xGo l own cc nL ret ini d mc ms Q n cu su (pc + 3) lv (xI k :: st) ρ σ) : xGo l own cc nL ret ini d mc ms Q n cu su pc lv st ρ σ := by
  intro p e s m args below meth c B D cy zz H locs ls hC hR hS hl
  exact lv_sipush hC.1 hC.2.1 hd hk (kk p e s m args below meth c B D cy zz H locs ls hC hR hS hl)
theorem g_lconst {k : Fin 2} {a : Int} (hd : decode cc pc = .ok (.lconst k, 1)) (hk : Int64.ofNat (k : Nat) = Int64.ofInt a) (kk : xGo l own cc nL ret ini d mc ms Q n cu su (pc + 1) lv (xJ a :: st) ρ σ) : xGo l own cc nL ret ini d mc ms Q n cu su pc lv st ρ σ := by
  intro p e s m args below meth c B D cy zz H locs ls hC hR hS hl
  exact lv_lconst hC.1 hC.2.1 hd hk (kk p e s m args below meth c B D cy zz H locs ls hC hR hS hl)
theorem g_ldc {idx : Nat} {a : Int} {v : Int32} (hd : decode cc pc = .ok (.ldc idx, 2)) (hw : Cond.constant own idx v ∈ x_T) (hv : v = Int32.ofInt a) (kk : xGo l own cc nL ret ini d mc ms Q n cu su (pc + 2) lv (xI a :: st) ρ σ) : xGo l own cc nL ret ini d mc ms Q n cu su pc lv st ρ σ := by
  intro p e s m args below meth c B D cy zz H locs ls hC hR hS hl
  subst hv
  exact lv_ldc hC.1 hC.2.1 hC.2.2.2.1 (hC.2.2.2.2.1 _ hw) hd (kk p e s m args below meth c B D cy zz H locs ls hC hR hS hl)
theorem g_ldc2 {idx : Nat} {a : Int} {v : Int64} (hd : decode cc pc = .ok (.ldc2_w idx, 3)) (hw : Cond.constantLong own idx v ∈ x_T) (hv : v = Int64.ofInt a) (kk : xGo l own cc nL ret ini d mc ms Q n cu su (pc + 3) lv (xJ a :: st) ρ σ) : xGo l own cc nL ret ini d mc ms Q n cu su pc lv st ρ σ := by
  intro p e s m args below meth c B D cy zz H locs ls hC hR hS hl
  subst hv
  exact W.ldc2 hC.1 hC.2.1 hC.2.2.2.1 (hC.2.2.2.2.1 _ hw) rfl hd (kk p e s m args below meth c B D cy zz H locs ls hC hR hS hl)
theorem g_iload_n {k : Fin 4} {a : Int} (hd : decode cc pc = .ok (.iload_n k, 1)) (h : x_lg lv k = some (xI a)) (kk : xGo l own cc nL ret ini d mc ms Q n cu su (pc + 1) lv (xI a :: st) ρ σ) : xGo l own cc nL ret ini d mc ms Q n cu su pc lv st ρ σ := by
  intro p e s m args below meth c B D cy zz H locs ls hC hR hS hl
  exact lv_iload_n hC.1 hC.2.1 hd rfl (x_lg_at h hl) (kk p e s m args below meth c B D cy zz H locs ls hC hR hS hl)
theorem g_iload {k : Nat} {a : Int} (hd : decode cc pc = .ok (.iload k, 2)) (h : x_lg lv k = some (xI a)) (kk : xGo l own cc nL ret ini d mc ms Q n cu su (pc + 2) lv (xI a :: st) ρ σ) : xGo l own cc nL ret ini d mc ms Q n cu su pc lv st ρ σ := by
  intro p e s m args below meth c B D cy zz H locs ls hC hR hS hl
  exact lv_iload hC.1 hC.2.1 hd (x_lg_at h hl) (kk p e s m args below meth c B D cy zz H locs ls hC hR hS hl)
theorem g_lload_n {k : Fin 4} {a : Int} (hd : decode cc pc = .ok (.lload_n k, 1)) (h : x_lg lv k = some (xJ a)) (kk : xGo l own cc nL ret ini d mc ms Q n cu su (pc + 1) lv (xJ a :: st) ρ σ) : xGo l own cc nL ret ini d mc ms Q n cu su pc lv st ρ σ := by
  intro p e s m args below meth c B D cy zz H locs ls hC hR hS hl
  exact lv_lload_n hC.1 hC.2.1 hd rfl (x_lg_at h hl) (kk p e s m args below meth c B D cy zz H locs ls hC hR hS hl)
theorem g_lload {k : Nat} {a : Int} (hd : decode cc pc = .ok (.lload k, 2)) (h : x_lg lv k = some (xJ a)) (kk : xGo l own cc nL ret ini d mc ms Q n cu su (pc + 2) lv (xJ a :: st) ρ σ) : xGo l own cc nL ret ini d mc ms Q n cu su pc lv st ρ σ := by
  intro p e s m args below meth c B D cy zz H locs ls hC hR hS hl
  exact lv_lload hC.1 hC.2.1 hd (x_lg_at h hl) (kk p e s m args below meth c B D cy zz H locs ls hC hR hS hl)
theorem g_aload_n {k : Fin 4} {t i : Nat} (hd : decode cc pc = .ok (.aload_n k, 1)) (h : x_lg lv k = some (xR t i)) (kk : xGo l own cc nL ret ini d mc ms Q n cu su (pc + 1) lv (xR t i :: st) ρ σ) : xGo l own cc nL ret ini d mc ms Q n cu su pc lv st ρ σ := by
  intro p e s m args below meth c B D cy zz H locs ls hC hR hS hl
  exact lv_aload_n hC.1 hC.2.1 hd rfl (x_lg_at h hl) (kk p e s m args below meth c B D cy zz H locs ls hC hR hS hl)
theorem g_aload {k : Nat} {t i : Nat} (hd : decode cc pc = .ok (.aload k, 2)) (h : x_lg lv k = some (xR t i)) (kk : xGo l own cc nL ret ini d mc ms Q n cu su (pc + 2) lv (xR t i :: st) ρ σ) : xGo l own cc nL ret ini d mc ms Q n cu su pc lv st ρ σ := by
  intro p e s m args below meth c B D cy zz H locs ls hC hR hS hl
  exact lv_aload hC.1 hC.2.1 hd (x_lg_at h hl) (kk p e s m args below meth c B D cy zz H locs ls hC hR hS hl)
theorem g_istore_n {k : Fin 4} {a : Int} (hd : decode cc pc = .ok (.istore_n k, 1)) (hn : (k : Nat) < nL) (h : x_ls lv k (xI a) = lv') (kk : xGo l own cc nL ret ini d mc ms Q n cu su (pc + 1) lv' st ρ σ) : xGo l own cc nL ret ini d mc ms Q n cu su pc lv (xI a :: st) ρ σ := by
  intro p e s m args below meth c B D cy zz H locs ls hC hR hS hl
  subst h
  exact lv_istore_n hC.1 hC.2.1 hd rfl hl hn (x_ls_lv B lv k (xI a)) (fun ls' hl' => kk p e s m args below meth c B D cy zz H locs ls' hC hR hS hl')
theorem g_istore {k : Nat} {a : Int} (hd : decode cc pc = .ok (.istore k, 2)) (hn : k < nL) (h : x_ls lv k (xI a) = lv') (kk : xGo l own cc nL ret ini d mc ms Q n cu su (pc + 2) lv' st ρ σ) : xGo l own cc nL ret ini d mc ms Q n cu su pc lv (xI a :: st) ρ σ := by
  intro p e s m args below meth c B D cy zz H locs ls hC hR hS hl
  subst h
  exact lv_istore hC.1 hC.2.1 hd hl hn (x_ls_lv B lv k (xI a)) (fun ls' hl' => kk p e s m args below meth c B D cy zz H locs ls' hC hR hS hl')
theorem g_astore_n {k : Fin 4} {t i : Nat} (hd : decode cc pc = .ok (.astore_n k, 1)) (hn : (k : Nat) < nL) (h : x_ls lv k (xR t i) = lv') (kk : xGo l own cc nL ret ini d mc ms Q n cu su (pc + 1) lv' st ρ σ) : xGo l own cc nL ret ini d mc ms Q n cu su pc lv (xR t i :: st) ρ σ := by
  intro p e s m args below meth c B D cy zz H locs ls hC hR hS hl
  subst h
  exact lv_astore_n hC.1 hC.2.1 hd rfl hl hn (x_ls_lv B lv k (xR t i)) (fun ls' hl' => kk p e s m args below meth c B D cy zz H locs ls' hC hR hS hl')
theorem g_lstore_n {k : Fin 4} {a : Int} (hd : decode cc pc = .ok (.lstore_n k, 1)) (hn : (k : Nat) + 1 < nL) (h : x_lsJ lv k (xJ a) = lv') (kk : xGo l own cc nL ret ini d mc ms Q n cu su (pc + 1) lv' st ρ σ) : xGo l own cc nL ret ini d mc ms Q n cu su pc lv (xJ a :: st) ρ σ := by
  intro p e s m args below meth c B D cy zz H locs ls hC hR hS hl
  subst h
  exact lv_lstore_n hC.1 hC.2.1 hd rfl hl hn (x_lsJ_lv B lv k (xJ a)) (fun ls' hl' => kk p e s m args below meth c B D cy zz H locs ls' hC hR hS hl')
theorem g_lstore {k : Nat} {a : Int} (hd : decode cc pc = .ok (.lstore k, 2)) (hn : k + 1 < nL) (h : x_lsJ lv k (xJ a) = lv') (kk : xGo l own cc nL ret ini d mc ms Q n cu su (pc + 2) lv' st ρ σ) : xGo l own cc nL ret ini d mc ms Q n cu su pc lv (xJ a :: st) ρ σ := by
  intro p e s m args below meth c B D cy zz H locs ls hC hR hS hl
  subst h
  exact lv_lstore hC.1 hC.2.1 hd hl hn (x_lsJ_lv B lv k (xJ a)) (fun ls' hl' => kk p e s m args below meth c B D cy zz H locs ls' hC hR hS hl')
theorem g_iinc {k : Nat} {z a : Int} (hd : decode cc pc = .ok (.iinc k z, 3)) (hn : k < nL) (h0 : x_lg lv k = some (xI a)) (h : x_ls lv k (xI (a + z)) = lv') (kk : xGo l own cc nL ret ini d mc ms Q n cu su (pc + 3) lv' st ρ σ) : xGo l own cc nL ret ini d mc ms Q n cu su pc lv st ρ σ := by
  intro p e s m args below meth c B D cy zz H locs ls hC hR hS hl
  subst h
  unfold x_lg at h0
  obtain ⟨q, hq, e1⟩ := Option.map_eq_some_iff.mp h0
  have h1 : q.1 = k := by simpa using List.find?_some hq
  have h2 : (q.1, x_tv B q.2) ∈ x_lv B lv := List.mem_map.mpr ⟨q, List.mem_of_find?_eq_some hq, rfl⟩
  rw [h1, e1] at h2
  obtain ⟨j, hj⟩ := List.getElem?_of_mem h2
  exact lv_iinc (v := Int32.ofInt (a + z)) hC.1 hC.2.1 hd hl (k := j) hj (by rw [Int32.ofInt_add]) hn (x_ls_lv B lv k (xI (a + z))) (fun ls' hl' => kk p e s m args below meth c B D cy zz H locs ls' hC hR hS hl')
theorem x_to {a b : Int32} (h : a = b) {p : Program} {e : Env} {R : Room} {s : State} {m : MethodId} {args : Array Value} {below : List Frame} {meth : Method} {c : Code} {H : Heap} {locs : List Loc} {cells slots : Nat} {QQ : State → Prop} {pc : Nat} {ls : Array Slot} {rest : List Value}
    (k : W p l e R s m args below meth c H locs cells slots QQ (F0 m pc ls (.int b :: rest))) : W p l e R s m args below meth c H locs cells slots QQ (F0 m pc ls (.int a :: rest)) := by rw [h]; exact k
theorem x_toJ {a b : Int64} (h : a = b) {p : Program} {e : Env} {R : Room} {s : State} {m : MethodId} {args : Array Value} {below : List Frame} {meth : Method} {c : Code} {H : Heap} {locs : List Loc} {cells slots : Nat} {QQ : State → Prop} {pc : Nat} {ls : Array Slot} {rest : List Value}
    (k : W p l e R s m args below meth c H locs cells slots QQ (F0 m pc ls (.long b :: rest))) : W p l e R s m args below meth c H locs cells slots QQ (F0 m pc ls (.long a :: rest)) := by rw [h]; exact k
theorem g_iadd {a b : Int} (hd : decode cc pc = .ok (.iadd, 1)) (kk : xGo l own cc nL ret ini d mc ms Q n cu su (pc + 1) lv (xI (a + b) :: st) ρ σ) : xGo l own cc nL ret ini d mc ms Q n cu su pc lv (xI b :: xI a :: st) ρ σ := by
  intro p e s m args below meth c B D cy zz H locs ls hC hR hS hl
  exact lv_iadd hC.1 hC.2.1 hd (x_to (Int32.ofInt_add a b).symm (kk p e s m args below meth c B D cy zz H locs ls hC hR hS hl))
theorem g_isub {a b : Int} (hd : decode cc pc = .ok (.isub, 1)) (kk : xGo l own cc nL ret ini d mc ms Q n cu su (pc + 1) lv (xI (a - b) :: st) ρ σ) : xGo l own cc nL ret ini d mc ms Q n cu su pc lv (xI b :: xI a :: st) ρ σ := by
  intro p e s m args below meth c B D cy zz H locs ls hC hR hS hl
  exact lv_isub hC.1 hC.2.1 hd (x_to (Int32.ofInt_sub a b).symm (kk p e s m args below meth c B D cy zz H locs ls hC hR hS hl))
theorem g_imul {a b : Int} (hd : decode cc pc = .ok (.imul, 1)) (kk : xGo l own cc nL ret ini d mc ms Q n cu su (pc + 1) lv (xI (a * b) :: st) ρ σ) : xGo l own cc nL ret ini d mc ms Q n cu su pc lv (xI b :: xI a :: st) ρ σ := by
  intro p e s m args below meth c B D cy zz H locs ls hC hR hS hl
  exact lv_imul hC.1 hC.2.1 hd (x_to (Int32.ofInt_mul a b).symm (kk p e s m args below meth c B D cy zz H locs ls hC hR hS hl))
/-! operations of bits, as numbers -/
def x_and (a b : Int) : Int := (Int32.ofInt a &&& Int32.ofInt b).toInt
def x_or (a b : Int) : Int := (Int32.ofInt a ||| Int32.ofInt b).toInt
def x_xor (a b : Int) : Int := (Int32.ofInt a ^^^ Int32.ofInt b).toInt
def x_shl (a b : Int) : Int := (Int32.ofInt a <<< (Int32.ofInt b &&& 31)).toInt
def x_shr (a b : Int) : Int := (Int32.ofInt a >>> (Int32.ofInt b &&& 31)).toInt
def x_ush (a b : Int) : Int := ((Int32.ofInt a).toUInt32 >>> ((Int32.ofInt b).toUInt32 &&& Int32.toUInt32 31)).toInt32.toInt
def x_div (a b : Int) : Int := (Int32.ofInt a / Int32.ofInt b).toInt
def x_rem (a b : Int) : Int := (Int32.ofInt a - Int32.ofInt a / Int32.ofInt b * Int32.ofInt b).toInt
def x_chr (a : Int) : Int := ((Int32.ofInt a).toUInt32 % 65536).toInt32.toInt
theorem g_iand {a b : Int} (hd : decode cc pc = .ok (.iand, 1)) (kk : xGo l own cc nL ret ini d mc ms Q n cu su (pc + 1) lv (xI (x_and a b) :: st) ρ σ) : xGo l own cc nL ret ini d mc ms Q n cu su pc lv (xI b :: xI a :: st) ρ σ := by
  intro p e s m args below meth c B D cy zz H locs ls hC hR hS hl
  exact lv_iand hC.1 hC.2.1 hd (x_to (Int32.ofInt_toInt _).symm (kk p e s m args below meth c B D cy zz H locs ls hC hR hS hl))
theorem g_ior {a b : Int} (hd : decode cc pc = .ok (.ior, 1)) (kk : xGo l own cc nL ret ini d mc ms Q n cu su (pc + 1) lv (xI (x_or a b) :: st) ρ σ) : xGo l own cc nL ret ini d mc ms Q n cu su pc lv (xI b :: xI a :: st) ρ σ := by
  intro p e s m args below meth c B D cy zz H locs ls hC hR hS hl
  exact lv_ior hC.1 hC.2.1 hd (x_to (Int32.ofInt_toInt _).symm (kk p e s m args below meth c B D cy zz H locs ls hC hR hS hl))
theorem g_ixor {a b : Int} (hd : decode cc pc = .ok (.ixor, 1)) (kk : xGo l own cc nL ret ini d mc ms Q n cu su (pc + 1) lv (xI (x_xor a b) :: st) ρ σ) : xGo l own cc nL ret ini d mc ms Q n cu su pc lv (xI b :: xI a :: st) ρ σ := by
  intro p e s m args below meth c B D cy zz H locs ls hC hR hS hl
  exact lv_ixor hC.1 hC.2.1 hd (x_to (Int32.ofInt_toInt _).symm (kk p e s m args below meth c B D cy zz H locs ls hC hR hS hl))
theorem g_ishl {a b : Int} (hd : decode cc pc = .ok (.ishl, 1)) (kk : xGo l own cc nL ret ini d mc ms Q n cu su (pc + 1) lv (xI (x_shl a b) :: st) ρ σ) : xGo l own cc nL ret ini d mc ms Q n cu su pc lv (xI b :: xI a :: st) ρ σ := by
  intro p e s m args below meth c B D cy zz H locs ls hC hR hS hl
  exact lv_ishl hC.1 hC.2.1 hd (x_to (Int32.ofInt_toInt _).symm (kk p e s m args below meth c B D cy zz H locs ls hC hR hS hl))
theorem g_ishr {a b : Int} (hd : decode cc pc = .ok (.ishr, 1)) (kk : xGo l own cc nL ret ini d mc ms Q n cu su (pc + 1) lv (xI (x_shr a b) :: st) ρ σ) : xGo l own cc nL ret ini d mc ms Q n cu su pc lv (xI b :: xI a :: st) ρ σ := by
  intro p e s m args below meth c B D cy zz H locs ls hC hR hS hl
  exact lv_ishr hC.1 hC.2.1 hd (x_to (Int32.ofInt_toInt _).symm (kk p e s m args below meth c B D cy zz H locs ls hC hR hS hl))
theorem g_iushr {a b : Int} (hd : decode cc pc = .ok (.iushr, 1)) (kk : xGo l own cc nL ret ini d mc ms Q n cu su (pc + 1) lv (xI (x_ush a b) :: st) ρ σ) : xGo l own cc nL ret ini d mc ms Q n cu su pc lv (xI b :: xI a :: st) ρ σ := by
  intro p e s m args below meth c B D cy zz H locs ls hC hR hS hl
  exact lv_iushr hC.1 hC.2.1 hd (Int32.ofInt_toInt _).symm (kk p e s m args below meth c B D cy zz H locs ls hC hR hS hl)
theorem g_idiv {a b : Int} (hd : decode cc pc = .ok (.idiv, 1)) (hb : ¬ x_wr b = 0) (kk : xGo l own cc nL ret ini d mc ms Q n cu su (pc + 1) lv (xI (x_div a b) :: st) ρ σ) : xGo l own cc nL ret ini d mc ms Q n cu su pc lv (xI b :: xI a :: st) ρ σ := by
  intro p e s m args below meth c B D cy zz H locs ls hC hR hS hl
  exact lv_idiv hC.1 hC.2.1 hd (fun z => hb ((x_eq0 b).mp z)) (x_to (Int32.ofInt_toInt _).symm (kk p e s m args below meth c B D cy zz H locs ls hC hR hS hl))
theorem g_irem {a b : Int} (hd : decode cc pc = .ok (.irem, 1)) (hb : ¬ x_wr b = 0) (kk : xGo l own cc nL ret ini d mc ms Q n cu su (pc + 1) lv (xI (x_rem a b) :: st) ρ σ) : xGo l own cc nL ret ini d mc ms Q n cu su pc lv (xI b :: xI a :: st) ρ σ := by
  intro p e s m args below meth c B D cy zz H locs ls hC hR hS hl
  exact lv_irem hC.1 hC.2.1 hd (fun z => hb ((x_eq0 b).mp z)) (x_to (Int32.ofInt_toInt _).symm (kk p e s m args below meth c B D cy zz H locs ls hC hR hS hl))
theorem g_i2c {a : Int} (hd : decode cc pc = .ok (.i2c, 1)) (kk : xGo l own cc nL ret ini d mc ms Q n cu su (pc + 1) lv (xI (x_chr a) :: st) ρ σ) : xGo l own cc nL ret ini d mc ms Q n cu su pc lv (xI a :: st) ρ σ := by
  intro p e s m args below meth c B D cy zz H locs ls hC hR hS hl
  exact lv_i2c hC.1 hC.2.1 hd (Int32.ofInt_toInt _).symm (kk p e s m args below meth c B D cy zz H locs ls hC hR hS hl)
/-! longs -/
def x_wrJ (a : Int) : Int := (Int64.ofInt a).toInt
def x_divJ (a b : Int) : Int := (Int64.ofInt a / Int64.ofInt b).toInt
def x_remJ (a b : Int) : Int := (Int64.ofInt a - Int64.ofInt a / Int64.ofInt b * Int64.ofInt b).toInt
def x_cmpJ (a b : Int) : Int := (lg_cmp (Int64.ofInt a) (Int64.ofInt b)).toInt
theorem x_eqJ0 (a : Int) : Int64.ofInt a = 0 ↔ x_wrJ a = 0 := by
  rw [← Int64.toInt_inj]; exact Iff.rfl
theorem x_i2l (a : Int) : (Int32.ofInt a).toInt64 = Int64.ofInt (x_wr a) := by
  apply Int64.toInt_inj.mp
  rw [Int32.toInt_toInt64, Int64.toInt_ofInt_of_le]
  · rfl
  · have := (Int32.ofInt a).le_toInt; unfold x_wr; omega
  · have := (Int32.ofInt a).toInt_lt; unfold x_wr; omega
theorem g_i2l {a : Int} (hd : decode cc pc = .ok (.i2l, 1)) (kk : xGo l own cc nL ret ini d mc ms Q n cu su (pc + 1) lv (xJ (x_wr a) :: st) ρ σ) : xGo l own cc nL ret ini d mc ms Q n cu su pc lv (xI a :: st) ρ σ := by
  intro p e s m args below meth c B D cy zz H locs ls hC hR hS hl
  exact lv_i2l hC.1 hC.2.1 hd (x_i2l a) (kk p e s m args below meth c B D cy zz H locs ls hC hR hS hl)
theorem g_l2i {a : Int} (hd : decode cc pc = .ok (.l2i, 1)) (kk : xGo l own cc nL ret ini d mc ms Q n cu su (pc + 1) lv (xI a :: st) ρ σ) : xGo l own cc nL ret ini d mc ms Q n cu su pc lv (xJ a :: st) ρ σ := by
  intro p e s m args below meth c B D cy zz H locs ls hC hR hS hl
  exact lv_l2i hC.1 hC.2.1 hd Int64.toInt32_ofInt (kk p e s m args below meth c B D cy zz H locs ls hC hR hS hl)
theorem g_ladd {a b : Int} (hd : decode cc pc = .ok (.ladd, 1)) (kk : xGo l own cc nL ret ini d mc ms Q n cu su (pc + 1) lv (xJ (a + b) :: st) ρ σ) : xGo l own cc nL ret ini d mc ms Q n cu su pc lv (xJ b :: xJ a :: st) ρ σ := by
  intro p e s m args below meth c B D cy zz H locs ls hC hR hS hl
  exact lv_ladd hC.1 hC.2.1 hd (x_toJ (Int64.ofInt_add a b).symm (kk p e s m args below meth c B D cy zz H locs ls hC hR hS hl))
theorem g_lmul {a b : Int} (hd : decode cc pc = .ok (.lmul, 1)) (kk : xGo l own cc nL ret ini d mc ms Q n cu su (pc + 1) lv (xJ (a * b) :: st) ρ σ) : xGo l own cc nL ret ini d mc ms Q n cu su pc lv (xJ b :: xJ a :: st) ρ σ := by
  intro p e s m args below meth c B D cy zz H locs ls hC hR hS hl
  exact lv_lmul hC.1 hC.2.1 hd (x_toJ (Int64.ofInt_mul a b).symm (kk p e s m args below meth c B D cy zz H locs ls hC hR hS hl))
theorem g_ldiv {a b : Int} (hd : decode cc pc = .ok (.ldiv, 1)) (hb : ¬ x_wrJ b = 0) (kk : xGo l own cc nL ret ini d mc ms Q n cu su (pc + 1) lv (xJ (x_divJ a b) :: st) ρ σ) : xGo l own cc nL ret ini d mc ms Q n cu su pc lv (xJ b :: xJ a :: st) ρ σ := by
  intro p e s m args below meth c B D cy zz H locs ls hC hR hS hl
  exact lv_ldiv hC.1 hC.2.1 hd (fun z => hb ((x_eqJ0 b).mp z)) (x_toJ (Int64.ofInt_toInt _).symm (kk p e s m args below meth c B D cy zz H locs ls hC hR hS hl))
theorem g_lrem {a b : Int} (hd : decode cc pc = .ok (.lrem, 1)) (hb : ¬ x_wrJ b = 0) (kk : xGo l own cc nL ret ini d mc ms Q n cu su (pc + 1) lv (xJ (x_remJ a b) :: st) ρ σ) : xGo l own cc nL ret ini d mc ms Q n cu su pc lv (xJ b :: xJ a :: st) ρ σ := by
  intro p e s m args below meth c B D cy zz H locs ls hC hR hS hl
  exact lv_lrem hC.1 hC.2.1 hd (fun z => hb ((x_eqJ0 b).mp z)) (x_toJ (Int64.ofInt_toInt _).symm (kk p e s m args below meth c B D cy zz H locs ls hC hR hS hl))
theorem g_lcmp {a b : Int} (hd : decode cc pc = .ok (.lcmp, 1)) (kk : xGo l own cc nL ret ini d mc ms Q n cu su (pc + 1) lv (xI (x_cmpJ a b) :: st) ρ σ) : xGo l own cc nL ret ini d mc ms Q n cu su pc lv (xJ b :: xJ a :: st) ρ σ := by
  intro p e s m args below meth c B D cy zz H locs ls hC hR hS hl
  exact W.lcmp hC.1 hC.2.1 hd (x_to (Int32.ofInt_toInt _).symm (kk p e s m args below meth c B D cy zz H locs ls hC hR hS hl))
/-! the stack -/
theorem g_dup {v : xV} (hd : decode cc pc = .ok (.dup, 1)) (hv : x_cat v = 1) (kk : xGo l own cc nL ret ini d mc ms Q n cu su (pc + 1) lv (v :: v :: st) ρ σ) : xGo l own cc nL ret ini d mc ms Q n cu su pc lv (v :: st) ρ σ := by
  intro p e s m args below meth c B D cy zz H locs ls hC hR hS hl
  exact lv_dup hC.1 hC.2.1 hd (by rw [x_cat_tv]; exact hv) (kk p e s m args below meth c B D cy zz H locs ls hC hR hS hl)
theorem g_pop {v : xV} (hd : decode cc pc = .ok (.pop, 1)) (hv : x_cat v = 1) (kk : xGo l own cc nL ret ini d mc ms Q n cu su (pc + 1) lv st ρ σ) : xGo l own cc nL ret ini d mc ms Q n cu su pc lv (v :: st) ρ σ := by
  intro p e s m args below meth c B D cy zz H locs ls hC hR hS hl
  exact lv_pop hC.1 hC.2.1 hd (by rw [x_cat_tv]; exact hv) (kk p e s m args below meth c B D cy zz H locs ls hC hR hS hl)
theorem g_dup2 {v w : xV} (hd : decode cc pc = .ok (.dup2, 1)) (hv : x_cat v = 1) (hw : x_cat w = 1) (kk : xGo l own cc nL ret ini d mc ms Q n cu su (pc + 1) lv (v :: w :: v :: w :: st) ρ σ) : xGo l own cc nL ret ini d mc ms Q n cu su pc lv (v :: w :: st) ρ σ := by
  intro p e s m args below meth c B D cy zz H locs ls hC hR hS hl
  exact lv_dup2_11 hC.1 hC.2.1 hd (by rw [x_cat_tv]; exact hv) (by rw [x_cat_tv]; exact hw) (kk p e s m args below meth c B D cy zz H locs ls hC hR hS hl)
/-! branches -/
theorem g_goto {off : Int} (tgt : Nat) (hd : decode cc pc = .ok (.goto off, 3)) (ht : (pc : Int) + off = (tgt : Int)) (kk : xGo l own cc nL ret ini d mc ms Q n cu su tgt lv st ρ σ) : xGo l own cc nL ret ini d mc ms Q n cu su pc lv st ρ σ := by
  intro p e s m args below meth c B D cy zz H locs ls hC hR hS hl
  exact lv_goto hC.1 hC.2.1 hd ht (kk p e s m args below meth c B D cy zz H locs ls hC hR hS hl)
theorem g_cmp_eq {off a b : Int} (tgt : Nat) (hd : decode cc pc = .ok (.if_icmp .eq off, 3)) (ht : (pc : Int) + off = (tgt : Int)) (kt : x_wr a = x_wr b → xGo l own cc nL ret ini d mc ms Q n cu su tgt lv st ρ σ) (kf : ¬ x_wr a = x_wr b → xGo l own cc nL ret ini d mc ms Q n cu su (pc + 3) lv st ρ σ) : xGo l own cc nL ret ini d mc ms Q n cu su pc lv (xI b :: xI a :: st) ρ σ := by
  intro p e s m args below meth c B D cy zz H locs ls hC hR hS hl
  exact lv_icmp_eq hC.1 hC.2.1 hd ht (fun z => kt ((x_eq a b).mp z) p e s m args below meth c B D cy zz H locs ls hC hR hS hl) (fun z => kf (fun y => z ((x_eq a b).mpr y)) p e s m args below meth c B D cy zz H locs ls hC hR hS hl)
theorem g_if_eq {off a : Int} (tgt : Nat) (hd : decode cc pc = .ok (.ifCond .eq off, 3)) (ht : (pc : Int) + off = (tgt : Int)) (kt : x_wr a = 0 → xGo l own cc nL ret ini d mc ms Q n cu su tgt lv st ρ σ) (kf : ¬ x_wr a = 0 → xGo l own cc nL ret ini d mc ms Q n cu su (pc + 3) lv st ρ σ) : xGo l own cc nL ret ini d mc ms Q n cu su pc lv (xI a :: st) ρ σ := by
  intro p e s m args below meth c B D cy zz H locs ls hC hR hS hl
  exact lv_if_eq hC.1 hC.2.1 hd ht (fun z => kt ((x_eq0 a).mp z) p e s m args below meth c B D cy zz H locs ls hC hR hS hl) (fun z => kf (fun y => z ((x_eq0 a).mpr y)) p e s m args below meth c B D cy zz H locs ls hC hR hS hl)
theorem g_cmp_lt {off a b : Int} (tgt : Nat) (hd : decode cc pc = .ok (.if_icmp .lt off, 3)) (ht : (pc : Int) + off = (tgt : Int)) (kt : x_wr a < x_wr b → xGo l own cc nL ret ini d mc ms Q n cu su tgt lv st ρ σ) (kf : ¬ x_wr a < x_wr b → xGo l own cc nL ret ini d mc ms Q n cu su (pc + 3) lv st ρ σ) : xGo l own cc nL ret ini d mc ms Q n cu su pc lv (xI b :: xI a :: st) ρ σ := by
  intro p e s m args below meth c B D cy zz H locs ls hC hR hS hl
  exact lv_icmp_lt hC.1 hC.2.1 hd ht (fun z => kt ((x_lt a b).mp z) p e s m args below meth c B D cy zz H locs ls hC hR hS hl) (fun z => kf (fun y => z ((x_lt a b).mpr y)) p e s m args below meth c B D cy zz H locs ls hC hR hS hl)
theorem g_if_lt {off a : Int} (tgt : Nat) (hd : decode cc pc = .ok (.ifCond .lt off, 3)) (ht : (pc : Int) + off = (tgt : Int)) (kt : x_wr a < 0 → xGo l own cc nL ret ini d mc ms Q n cu su tgt lv st ρ σ) (kf : ¬ x_wr a < 0 → xGo l own cc nL ret ini d mc ms Q n cu su (pc + 3) lv st ρ σ) : xGo l own cc nL ret ini d mc ms Q n cu su pc lv (xI a :: st) ρ σ := by
  intro p e s m args below meth c B D cy zz H locs ls hC hR hS hl
  exact lv_if_lt hC.1 hC.2.1 hd ht (fun z => kt ((x_lt0 a).mp z) p e s m args below meth c B D cy zz H locs ls hC hR hS hl) (fun z => kf (fun y => z ((x_lt0 a).mpr y)) p e s m args below meth c B D cy zz H locs ls hC hR hS hl)
theorem g_cmp_ge {off a b : Int} (tgt : Nat) (hd : decode cc pc = .ok (.if_icmp .ge off, 3)) (ht : (pc : Int) + off = (tgt : Int)) (kt : x_wr b ≤ x_wr a → xGo l own cc nL ret ini d mc ms Q n cu su tgt lv st ρ σ) (kf : ¬ x_wr b ≤ x_wr a → xGo l own cc nL ret ini d mc ms Q n cu su (pc + 3) lv st ρ σ) : xGo l own cc nL ret ini d mc ms Q n cu su pc lv (xI b :: xI a :: st) ρ σ := by
  intro p e s m args below meth c B D cy zz H locs ls hC hR hS hl
  exact lv_icmp_ge hC.1 hC.2.1 hd ht (fun z => kt ((x_le b a).mp z) p e s m args below meth c B D cy zz H locs ls hC hR hS hl) (fun z => kf (fun y => z ((x_le b a).mpr y)) p e s m args below meth c B D cy zz H locs ls hC hR hS hl)
theorem g_if_ge {off a : Int} (tgt : Nat) (hd : decode cc pc = .ok (.ifCond .ge off, 3)) (ht : (pc : Int) + off = (tgt : Int)) (kt : 0 ≤ x_wr a → xGo l own cc nL ret ini d mc ms Q n cu su tgt lv st ρ σ) (kf : ¬ 0 ≤ x_wr a → xGo l own cc nL ret ini d mc ms Q n cu su (pc + 3) lv st ρ σ) : xGo l own cc nL ret ini d mc ms Q n cu su pc lv (xI a :: st) ρ σ := by
  intro p e s m args below meth c B D cy zz H locs ls hC hR hS hl
  exact lv_if_ge hC.1 hC.2.1 hd ht (fun z => kt ((x_0le a).mp z) p e s m args below meth c B D cy zz H locs ls hC hR hS hl) (fun z => kf (fun y => z ((x_0le a).mpr y)) p e s m args below meth c B D cy zz H locs ls hC hR hS hl)
theorem g_cmp_gt {off a b : Int} (tgt : Nat) (hd : decode cc pc = .ok (.if_icmp .gt off, 3)) (ht : (pc : Int) + off = (tgt : Int)) (kt : x_wr b < x_wr a → xGo l own cc nL ret ini d mc ms Q n cu su tgt lv st ρ σ) (kf : ¬ x_wr b < x_wr a → xGo l own cc nL ret ini d mc ms Q n cu su (pc + 3) lv st ρ σ) : xGo l own cc nL ret ini d mc ms Q n cu su pc lv (xI b :: xI a :: st) ρ σ := by
  intro p e s m args below meth c B D cy zz H locs ls hC hR hS hl
  exact lv_icmp_gt hC.1 hC.2.1 hd ht (fun z => kt ((x_lt b a).mp z) p e s m args below meth c B D cy zz H locs ls hC hR hS hl) (fun z => kf (fun y => z ((x_lt b a).mpr y)) p e s m args below meth c B D cy zz H locs ls hC hR hS hl)
theorem g_if_gt {off a : Int} (tgt : Nat) (hd : decode cc pc = .ok (.ifCond .gt off, 3)) (ht : (pc : Int) + off = (tgt : Int)) (kt : 0 < x_wr a → xGo l own cc nL ret ini d mc ms Q n cu su tgt lv st ρ σ) (kf : ¬ 0 < x_wr a → xGo l own cc nL ret ini d mc ms Q n cu su (pc + 3) lv st ρ σ) : xGo l own cc nL ret ini d mc ms Q n cu su pc lv (xI a :: st) ρ σ := by
  intro p e s m args below meth c B D cy zz H locs ls hC hR hS hl
  exact lv_if_gt hC.1 hC.2.1 hd ht (fun z => kt ((x_0lt a).mp z) p e s m args below meth c B D cy zz H locs ls hC hR hS hl) (fun z => kf (fun y => z ((x_0lt a).mpr y)) p e s m args below meth c B D cy zz H locs ls hC hR hS hl)
theorem g_cmp_le {off a b : Int} (tgt : Nat) (hd : decode cc pc = .ok (.if_icmp .le off, 3)) (ht : (pc : Int) + off = (tgt : Int)) (kt : x_wr a ≤ x_wr b → xGo l own cc nL ret ini d mc ms Q n cu su tgt lv st ρ σ) (kf : ¬ x_wr a ≤ x_wr b → xGo l own cc nL ret ini d mc ms Q n cu su (pc + 3) lv st ρ σ) : xGo l own cc nL ret ini d mc ms Q n cu su pc lv (xI b :: xI a :: st) ρ σ := by
  intro p e s m args below meth c B D cy zz H locs ls hC hR hS hl
  exact lv_icmp_le hC.1 hC.2.1 hd ht (fun z => kt ((x_le a b).mp z) p e s m args below meth c B D cy zz H locs ls hC hR hS hl) (fun z => kf (fun y => z ((x_le a b).mpr y)) p e s m args below meth c B D cy zz H locs ls hC hR hS hl)
theorem g_if_le {off a : Int} (tgt : Nat) (hd : decode cc pc = .ok (.ifCond .le off, 3)) (ht : (pc : Int) + off = (tgt : Int)) (kt : x_wr a ≤ 0 → xGo l own cc nL ret ini d mc ms Q n cu su tgt lv st ρ σ) (kf : ¬ x_wr a ≤ 0 → xGo l own cc nL ret ini d mc ms Q n cu su (pc + 3) lv st ρ σ) : xGo l own cc nL ret ini d mc ms Q n cu su pc lv (xI a :: st) ρ σ := by
  intro p e s m args below meth c B D cy zz H locs ls hC hR hS hl
  exact lv_if_le hC.1 hC.2.1 hd ht (fun z => kt ((x_le0 a).mp z) p e s m args below meth c B D cy zz H locs ls hC hR hS hl) (fun z => kf (fun y => z ((x_le0 a).mpr y)) p e s m args below meth c B D cy zz H locs ls hC hR hS hl)
theorem g_cmp_ne {off a b : Int} (tgt : Nat) (hd : decode cc pc = .ok (.if_icmp .ne off, 3)) (ht : (pc : Int) + off = (tgt : Int)) (kt : ¬ x_wr a = x_wr b → xGo l own cc nL ret ini d mc ms Q n cu su tgt lv st ρ σ) (kf : x_wr a = x_wr b → xGo l own cc nL ret ini d mc ms Q n cu su (pc + 3) lv st ρ σ) : xGo l own cc nL ret ini d mc ms Q n cu su pc lv (xI b :: xI a :: st) ρ σ := by
  intro p e s m args below meth c B D cy zz H locs ls hC hR hS hl
  exact lv_icmp_ne hC.1 hC.2.1 hd ht (fun z => kt (fun y => z ((x_eq a b).mpr y)) p e s m args below meth c B D cy zz H locs ls hC hR hS hl) (fun z => kf ((x_eq a b).mp z) p e s m args below meth c B D cy zz H locs ls hC hR hS hl)
theorem g_if_ne {off a : Int} (tgt : Nat) (hd : decode cc pc = .ok (.ifCond .ne off, 3)) (ht : (pc : Int) + off = (tgt : Int)) (kt : ¬ x_wr a = 0 → xGo l own cc nL ret ini d mc ms Q n cu su tgt lv st ρ σ) (kf : x_wr a = 0 → xGo l own cc nL ret ini d mc ms Q n cu su (pc + 3) lv st ρ σ) : xGo l own cc nL ret ini d mc ms Q n cu su pc lv (xI a :: st) ρ σ := by
  intro p e s m args below meth c B D cy zz H locs ls hC hR hS hl
  exact lv_if_ne hC.1 hC.2.1 hd ht (fun z => kt (fun y => z ((x_eq0 a).mpr y)) p e s m args below meth c B D cy zz H locs ls hC hR hS hl) (fun z => kf ((x_eq0 a).mp z) p e s m args below meth c B D cy zz H locs ls hC hR hS hl)
end
end
section
theorem x_inW (wl : List Cond) (ps : List Nat) (hp : wl = ps.filterMap (fun i => lw_tbl[i]?)) (hg : wl.all goodWord = true) : ∀ w ∈ wl, w ∈ x_T := by
  intro w hw
  have h1 := List.all_eq_true.mp hg w hw
  rw [hp] at hw
  obtain ⟨i, -, hi⟩ := List.mem_filterMap.mp hw
  exact x_in hi h1
/-- a field's link: in class own, entry idx is field k of class ci -/
def x_fl (own : String) (idx ci k : Nat) : Prop := ∃ (C : String) (T : u_T) (N : Nat), x_cl[ci]? = some (C, T, N) ∧ k < N ∧ Cond.fieldLink own idx (T k).1 (T k).2.1 (T k).2.2.1 ∈ x_T
/-- what is so of each class -/
def x_co (ci : Nat) (C : String) (T : u_T) (N : Nat) (ty : Nat → FieldType) : Prop := (∀ w ∈ u_ws C T N, w ∈ x_T) ∧ (∀ k, k < N → parseFieldDescriptor (T k).2.2.1 = some (ty k)) ∧ (∀ a, a < N → ∀ b, b < N → a ≠ b → (T a).2.1 ≠ (T b).2.1) ∧ N = x_nf ci ∧
  ∀ k, k < N → (x_kd ci k = 0 → ty k = .int ∧ (T k).2.2.2 = false) ∧ (x_kd ci k = 2 → ty k = .boolean ∧ (T k).2.2.2 = false) ∧ (x_kd ci k = 1 → (T k).2.2.2 = true ∧ (T k).1 = C ∧ (ty k).isReference = true)
def x_cB (y : MethodName) (bytes : ByteArray) (maxL : Nat) (ret : Option FieldType) (na : Nat) : Prop := Cond.initialized y.cls ∈ x_T ∧ Cond.code y bytes maxL ret ∈ x_T ∧ (y.cls ≠ "java/lang/invoke/MethodHandle" ∧ y.cls ≠ "java/lang/invoke/VarHandle") ∧ (parseMethodDescriptor y.desc).map (fun d => d.parameters.length) = some na
def x_cV (own : String) (idx : Nat) (y : MethodName) : Prop := Cond.methodLink own idx y ∈ x_T ∧ Cond.instanceMethod y ∈ x_T ∧ Cond.selects y.cls y y ∈ x_T
def x_cS (own : String) (idx : Nat) (y : MethodName) : Prop := Cond.methodLink own idx y ∈ x_T ∧ Cond.static y ∈ x_T
def x_cI (own : String) (idx : Nat) (y : MethodName) : Prop := Cond.methodLink own idx y ∈ x_T ∧ Cond.instanceMethod y ∈ x_T ∧ y.name = "<init>"
def x_cN (own : String) (idx : Nat) (y : MethodName) (host : String) : Prop := (∀ (B : Nat) (z : Nat × Nat) (U : State), x_X B z U → va_Nw (.methodLinkNest own idx y host) U) ∧ Cond.instanceMethod y ∈ x_T ∧ y.name = "<init>"
theorem x_co0 : x_co 0 RX0 TX0 12 tyX0 := ⟨x_inW _ [150, 152, 154, 156, 158, 160, 162, 164, 166, 168, 170, 172] (by decide +kernel) (by decide +kernel), tyX0_ok, nmX0, rfl, by decide +kernel⟩
theorem x_co1 : x_co 1 RX1 TX1 5 tyX1 := ⟨x_inW _ [234, 236, 238, 240, 242] (by decide +kernel) (by decide +kernel), tyX1_ok, nmX1, rfl, by decide +kernel⟩
theorem x_co2 : x_co 2 RX2 TX2 3 tyX2 := ⟨x_inW _ [191, 193, 195] (by decide +kernel) (by decide +kernel), tyX2_ok, nmX2, rfl, by decide +kernel⟩
theorem x_co3 : x_co 3 RX3 TX3 6 tyX3 := ⟨x_inW _ [111, 113, 115, 117, 119, 121] (by decide +kernel) (by decide +kernel), tyX3_ok, nmX3, rfl, by decide +kernel⟩
theorem x_co4 : x_co 4 RX4 TX4 4 tyX4 := ⟨x_inW _ [209, 211, 213, 215] (by decide +kernel) (by decide +kernel), tyX4_ok, nmX4, rfl, by decide +kernel⟩
theorem x_co5 : x_co 5 RX5 TX5 3 tyX5 := ⟨x_inW _ [80, 82, 84] (by decide +kernel) (by decide +kernel), tyX5_ok, nmX5, rfl, by decide +kernel⟩
theorem x_co6 : x_co 6 RX6 TX6 11 tyX6 := ⟨x_inW _ [360, 362, 364, 366, 368, 370, 372, 374, 376, 378, 380] (by decide +kernel) (by decide +kernel), tyX6_ok, nmX6, rfl, by decide +kernel⟩
theorem x_co7 : x_co 7 RX7 TX7 36 tyX7 := ⟨x_inW _ [708, 710, 712, 714, 716, 718, 720, 722, 724, 726, 728, 730, 732, 734, 736, 738, 740, 742, 744, 746, 748, 750, 752, 754, 756, 758, 760, 762, 764, 766, 768, 770, 772, 774, 776, 778] (by decide +kernel) (by decide +kernel), tyX7_ok, nmX7, rfl, by decide +kernel⟩
theorem fl_X5_9 : x_fl RX5 9 5 0 := ⟨_, _, _, rfl, by decide, x_in (k := 76) (by decide +kernel) rfl⟩
theorem fl_X5_15 : x_fl RX5 15 5 1 := ⟨_, _, _, rfl, by decide, x_in (k := 77) (by decide +kernel) rfl⟩
theorem fl_X5_19 : x_fl RX5 19 5 2 := ⟨_, _, _, rfl, by decide, x_in (k := 78) (by decide +kernel) rfl⟩
theorem fl_X6_96 : x_fl RX6 96 5 2 := ⟨_, _, _, rfl, by decide, x_in (k := 79) (by decide +kernel) rfl⟩
theorem fl_X3_9 : x_fl RX3 9 3 0 := ⟨_, _, _, rfl, by decide, x_in (k := 95) (by decide +kernel) rfl⟩
theorem fl_X0_98 : x_fl RX0 98 3 0 := ⟨_, _, _, rfl, by decide, x_in (k := 96) (by decide +kernel) rfl⟩
theorem fl_X6_196 : x_fl RX6 196 3 0 := ⟨_, _, _, rfl, by decide, x_in (k := 97) (by decide +kernel) rfl⟩
theorem fl_X3_15 : x_fl RX3 15 3 1 := ⟨_, _, _, rfl, by decide, x_in (k := 98) (by decide +kernel) rfl⟩
theorem fl_X0_125 : x_fl RX0 125 3 1 := ⟨_, _, _, rfl, by decide, x_in (k := 99) (by decide +kernel) rfl⟩
theorem fl_X3_18 : x_fl RX3 18 3 2 := ⟨_, _, _, rfl, by decide, x_in (k := 100) (by decide +kernel) rfl⟩
theorem fl_X0_92 : x_fl RX0 92 3 2 := ⟨_, _, _, rfl, by decide, x_in (k := 101) (by decide +kernel) rfl⟩
theorem fl_X6_203 : x_fl RX6 203 3 2 := ⟨_, _, _, rfl, by decide, x_in (k := 102) (by decide +kernel) rfl⟩
theorem fl_X3_21 : x_fl RX3 21 3 3 := ⟨_, _, _, rfl, by decide, x_in (k := 103) (by decide +kernel) rfl⟩
theorem fl_X0_122 : x_fl RX0 122 3 3 := ⟨_, _, _, rfl, by decide, x_in (k := 104) (by decide +kernel) rfl⟩
theorem fl_X3_24 : x_fl RX3 24 3 4 := ⟨_, _, _, rfl, by decide, x_in (k := 105) (by decide +kernel) rfl⟩
theorem fl_X1_45 : x_fl RX1 45 3 4 := ⟨_, _, _, rfl, by decide, x_in (k := 106) (by decide +kernel) rfl⟩
theorem fl_X6_99 : x_fl RX6 99 3 4 := ⟨_, _, _, rfl, by decide, x_in (k := 107) (by decide +kernel) rfl⟩
theorem fl_X0_85 : x_fl RX0 85 3 4 := ⟨_, _, _, rfl, by decide, x_in (k := 108) (by decide +kernel) rfl⟩
theorem fl_X3_28 : x_fl RX3 28 3 5 := ⟨_, _, _, rfl, by decide, x_in (k := 109) (by decide +kernel) rfl⟩
theorem fl_X0_51 : x_fl RX0 51 3 5 := ⟨_, _, _, rfl, by decide, x_in (k := 110) (by decide +kernel) rfl⟩
theorem fl_X0_47 : x_fl RX0 47 0 0 := ⟨_, _, _, rfl, by decide, x_in (k := 130) (by decide +kernel) rfl⟩
theorem fl_X1_41 : x_fl RX1 41 0 0 := ⟨_, _, _, rfl, by decide, x_in (k := 131) (by decide +kernel) rfl⟩
theorem fl_X0_9 : x_fl RX0 9 0 1 := ⟨_, _, _, rfl, by decide, x_in (k := 132) (by decide +kernel) rfl⟩
theorem fl_X6_128 : x_fl RX6 128 0 1 := ⟨_, _, _, rfl, by decide, x_in (k := 133) (by decide +kernel) rfl⟩
theorem fl_X0_15 : x_fl RX0 15 0 2 := ⟨_, _, _, rfl, by decide, x_in (k := 134) (by decide +kernel) rfl⟩
theorem fl_X6_124 : x_fl RX6 124 0 2 := ⟨_, _, _, rfl, by decide, x_in (k := 135) (by decide +kernel) rfl⟩
theorem fl_X0_18 : x_fl RX0 18 0 3 := ⟨_, _, _, rfl, by decide, x_in (k := 136) (by decide +kernel) rfl⟩
theorem fl_X0_21 : x_fl RX0 21 0 4 := ⟨_, _, _, rfl, by decide, x_in (k := 137) (by decide +kernel) rfl⟩
theorem fl_X0_24 : x_fl RX0 24 0 5 := ⟨_, _, _, rfl, by decide, x_in (k := 138) (by decide +kernel) rfl⟩
theorem fl_X0_28 : x_fl RX0 28 0 6 := ⟨_, _, _, rfl, by decide, x_in (k := 139) (by decide +kernel) rfl⟩
theorem fl_X6_162 : x_fl RX6 162 0 6 := ⟨_, _, _, rfl, by decide, x_in (k := 140) (by decide +kernel) rfl⟩
theorem fl_X0_31 : x_fl RX0 31 0 7 := ⟨_, _, _, rfl, by decide, x_in (k := 141) (by decide +kernel) rfl⟩
theorem fl_X0_34 : x_fl RX0 34 0 8 := ⟨_, _, _, rfl, by decide, x_in (k := 142) (by decide +kernel) rfl⟩
theorem fl_X6_229 : x_fl RX6 229 0 8 := ⟨_, _, _, rfl, by decide, x_in (k := 143) (by decide +kernel) rfl⟩
theorem fl_X0_37 : x_fl RX0 37 0 9 := ⟨_, _, _, rfl, by decide, x_in (k := 144) (by decide +kernel) rfl⟩
theorem fl_X1_38 : x_fl RX1 38 0 9 := ⟨_, _, _, rfl, by decide, x_in (k := 145) (by decide +kernel) rfl⟩
theorem fl_X6_134 : x_fl RX6 134 0 9 := ⟨_, _, _, rfl, by decide, x_in (k := 146) (by decide +kernel) rfl⟩
theorem fl_X0_40 : x_fl RX0 40 0 10 := ⟨_, _, _, rfl, by decide, x_in (k := 147) (by decide +kernel) rfl⟩
theorem fl_X6_137 : x_fl RX6 137 0 10 := ⟨_, _, _, rfl, by decide, x_in (k := 148) (by decide +kernel) rfl⟩
theorem fl_X0_43 : x_fl RX0 43 0 11 := ⟨_, _, _, rfl, by decide, x_in (k := 149) (by decide +kernel) rfl⟩
theorem fl_X2_24 : x_fl RX2 24 2 0 := ⟨_, _, _, rfl, by decide, x_in (k := 187) (by decide +kernel) rfl⟩
theorem fl_X2_7 : x_fl RX2 7 2 1 := ⟨_, _, _, rfl, by decide, x_in (k := 188) (by decide +kernel) rfl⟩
theorem fl_X6_155 : x_fl RX6 155 2 1 := ⟨_, _, _, rfl, by decide, x_in (k := 189) (by decide +kernel) rfl⟩
theorem fl_X2_13 : x_fl RX2 13 2 2 := ⟨_, _, _, rfl, by decide, x_in (k := 190) (by decide +kernel) rfl⟩
theorem fl_X4_9 : x_fl RX4 9 4 0 := ⟨_, _, _, rfl, by decide, x_in (k := 204) (by decide +kernel) rfl⟩
theorem fl_X4_15 : x_fl RX4 15 4 1 := ⟨_, _, _, rfl, by decide, x_in (k := 205) (by decide +kernel) rfl⟩
theorem fl_X4_18 : x_fl RX4 18 4 2 := ⟨_, _, _, rfl, by decide, x_in (k := 206) (by decide +kernel) rfl⟩
theorem fl_X4_22 : x_fl RX4 22 4 3 := ⟨_, _, _, rfl, by decide, x_in (k := 207) (by decide +kernel) rfl⟩
theorem fl_X6_189 : x_fl RX6 189 4 3 := ⟨_, _, _, rfl, by decide, x_in (k := 208) (by decide +kernel) rfl⟩
theorem fl_X1_11 : x_fl RX1 11 1 0 := ⟨_, _, _, rfl, by decide, x_in (k := 227) (by decide +kernel) rfl⟩
theorem fl_X1_17 : x_fl RX1 17 1 1 := ⟨_, _, _, rfl, by decide, x_in (k := 228) (by decide +kernel) rfl⟩
theorem fl_X1_21 : x_fl RX1 21 1 2 := ⟨_, _, _, rfl, by decide, x_in (k := 229) (by decide +kernel) rfl⟩
theorem fl_X6_186 : x_fl RX6 186 1 2 := ⟨_, _, _, rfl, by decide, x_in (k := 230) (by decide +kernel) rfl⟩
theorem fl_X1_24 : x_fl RX1 24 1 3 := ⟨_, _, _, rfl, by decide, x_in (k := 231) (by decide +kernel) rfl⟩
theorem fl_X6_185 : x_fl RX6 185 1 3 := ⟨_, _, _, rfl, by decide, x_in (k := 232) (by decide +kernel) rfl⟩
theorem fl_X1_28 : x_fl RX1 28 1 4 := ⟨_, _, _, rfl, by decide, x_in (k := 233) (by decide +kernel) rfl⟩
theorem fl_X6_10 : x_fl RX6 10 6 0 := ⟨_, _, _, rfl, by decide, x_in (k := 349) (by decide +kernel) rfl⟩
theorem fl_X6_19 : x_fl RX6 19 6 1 := ⟨_, _, _, rfl, by decide, x_in (k := 350) (by decide +kernel) rfl⟩
theorem fl_X6_23 : x_fl RX6 23 6 2 := ⟨_, _, _, rfl, by decide, x_in (k := 351) (by decide +kernel) rfl⟩
theorem fl_X6_26 : x_fl RX6 26 6 3 := ⟨_, _, _, rfl, by decide, x_in (k := 352) (by decide +kernel) rfl⟩
theorem fl_X6_34 : x_fl RX6 34 6 4 := ⟨_, _, _, rfl, by decide, x_in (k := 353) (by decide +kernel) rfl⟩
theorem fl_X6_38 : x_fl RX6 38 6 5 := ⟨_, _, _, rfl, by decide, x_in (k := 354) (by decide +kernel) rfl⟩
theorem fl_X6_41 : x_fl RX6 41 6 6 := ⟨_, _, _, rfl, by decide, x_in (k := 355) (by decide +kernel) rfl⟩
theorem fl_X6_49 : x_fl RX6 49 6 7 := ⟨_, _, _, rfl, by decide, x_in (k := 356) (by decide +kernel) rfl⟩
theorem fl_X6_53 : x_fl RX6 53 6 8 := ⟨_, _, _, rfl, by decide, x_in (k := 357) (by decide +kernel) rfl⟩
theorem fl_X6_59 : x_fl RX6 59 6 9 := ⟨_, _, _, rfl, by decide, x_in (k := 358) (by decide +kernel) rfl⟩
theorem fl_X6_66 : x_fl RX6 66 6 10 := ⟨_, _, _, rfl, by decide, x_in (k := 359) (by decide +kernel) rfl⟩
theorem fl_X7_84 : x_fl RX7 84 7 0 := ⟨_, _, _, rfl, by decide, x_in (k := 672) (by decide +kernel) rfl⟩
theorem fl_X7_9 : x_fl RX7 9 7 1 := ⟨_, _, _, rfl, by decide, x_in (k := 673) (by decide +kernel) rfl⟩
theorem fl_X7_13 : x_fl RX7 13 7 2 := ⟨_, _, _, rfl, by decide, x_in (k := 674) (by decide +kernel) rfl⟩
theorem fl_X7_16 : x_fl RX7 16 7 3 := ⟨_, _, _, rfl, by decide, x_in (k := 675) (by decide +kernel) rfl⟩
theorem fl_X7_19 : x_fl RX7 19 7 4 := ⟨_, _, _, rfl, by decide, x_in (k := 676) (by decide +kernel) rfl⟩
theorem fl_X7_88 : x_fl RX7 88 7 5 := ⟨_, _, _, rfl, by decide, x_in (k := 677) (by decide +kernel) rfl⟩
theorem fl_X7_91 : x_fl RX7 91 7 6 := ⟨_, _, _, rfl, by decide, x_in (k := 678) (by decide +kernel) rfl⟩
theorem fl_X7_94 : x_fl RX7 94 7 7 := ⟨_, _, _, rfl, by decide, x_in (k := 679) (by decide +kernel) rfl⟩
theorem fl_X7_97 : x_fl RX7 97 7 8 := ⟨_, _, _, rfl, by decide, x_in (k := 680) (by decide +kernel) rfl⟩
theorem fl_X7_22 : x_fl RX7 22 7 9 := ⟨_, _, _, rfl, by decide, x_in (k := 681) (by decide +kernel) rfl⟩
theorem fl_X7_25 : x_fl RX7 25 7 10 := ⟨_, _, _, rfl, by decide, x_in (k := 682) (by decide +kernel) rfl⟩
theorem fl_X7_28 : x_fl RX7 28 7 11 := ⟨_, _, _, rfl, by decide, x_in (k := 683) (by decide +kernel) rfl⟩
theorem fl_X7_31 : x_fl RX7 31 7 12 := ⟨_, _, _, rfl, by decide, x_in (k := 684) (by decide +kernel) rfl⟩
theorem fl_X7_34 : x_fl RX7 34 7 13 := ⟨_, _, _, rfl, by decide, x_in (k := 685) (by decide +kernel) rfl⟩
theorem fl_X7_37 : x_fl RX7 37 7 14 := ⟨_, _, _, rfl, by decide, x_in (k := 686) (by decide +kernel) rfl⟩
theorem fl_X7_40 : x_fl RX7 40 7 15 := ⟨_, _, _, rfl, by decide, x_in (k := 687) (by decide +kernel) rfl⟩
theorem fl_X7_43 : x_fl RX7 43 7 16 := ⟨_, _, _, rfl, by decide, x_in (k := 688) (by decide +kernel) rfl⟩
theorem fl_X7_142 : x_fl RX7 142 7 17 := ⟨_, _, _, rfl, by decide, x_in (k := 689) (by decide +kernel) rfl⟩
theorem fl_X7_46 : x_fl RX7 46 7 18 := ⟨_, _, _, rfl, by decide, x_in (k := 690) (by decide +kernel) rfl⟩
theorem fl_X7_49 : x_fl RX7 49 7 19 := ⟨_, _, _, rfl, by decide, x_in (k := 691) (by decide +kernel) rfl⟩
theorem fl_X7_52 : x_fl RX7 52 7 20 := ⟨_, _, _, rfl, by decide, x_in (k := 692) (by decide +kernel) rfl⟩
theorem fl_X7_55 : x_fl RX7 55 7 21 := ⟨_, _, _, rfl, by decide, x_in (k := 693) (by decide +kernel) rfl⟩
theorem fl_X7_104 : x_fl RX7 104 7 22 := ⟨_, _, _, rfl, by decide, x_in (k := 694) (by decide +kernel) rfl⟩
theorem fl_X7_107 : x_fl RX7 107 7 23 := ⟨_, _, _, rfl, by decide, x_in (k := 695) (by decide +kernel) rfl⟩
theorem fl_X7_121 : x_fl RX7 121 7 24 := ⟨_, _, _, rfl, by decide, x_in (k := 696) (by decide +kernel) rfl⟩
theorem fl_X7_127 : x_fl RX7 127 7 25 := ⟨_, _, _, rfl, by decide, x_in (k := 697) (by decide +kernel) rfl⟩
theorem fl_X7_58 : x_fl RX7 58 7 26 := ⟨_, _, _, rfl, by decide, x_in (k := 698) (by decide +kernel) rfl⟩
theorem fl_X7_118 : x_fl RX7 118 7 27 := ⟨_, _, _, rfl, by decide, x_in (k := 699) (by decide +kernel) rfl⟩
theorem fl_X7_61 : x_fl RX7 61 7 28 := ⟨_, _, _, rfl, by decide, x_in (k := 700) (by decide +kernel) rfl⟩
theorem fl_X7_145 : x_fl RX7 145 7 29 := ⟨_, _, _, rfl, by decide, x_in (k := 701) (by decide +kernel) rfl⟩
theorem fl_X7_64 : x_fl RX7 64 7 30 := ⟨_, _, _, rfl, by decide, x_in (k := 702) (by decide +kernel) rfl⟩
theorem fl_X7_223 : x_fl RX7 223 7 31 := ⟨_, _, _, rfl, by decide, x_in (k := 703) (by decide +kernel) rfl⟩
theorem fl_X7_67 : x_fl RX7 67 7 32 := ⟨_, _, _, rfl, by decide, x_in (k := 704) (by decide +kernel) rfl⟩
theorem fl_X7_70 : x_fl RX7 70 7 33 := ⟨_, _, _, rfl, by decide, x_in (k := 705) (by decide +kernel) rfl⟩
theorem fl_X7_73 : x_fl RX7 73 7 34 := ⟨_, _, _, rfl, by decide, x_in (k := 706) (by decide +kernel) rfl⟩
theorem fl_X7_148 : x_fl RX7 148 7 35 := ⟨_, _, _, rfl, by decide, x_in (k := 707) (by decide +kernel) rfl⟩
theorem mb_X6_init : x_cB yX6_init cX6_init 2 none 0 := ⟨x_in (k := 47) (by decide +kernel) rfl, x_in (k := 66) (by decide +kernel) rfl, ⟨by decide +kernel, by decide +kernel⟩, by decide +kernel⟩
theorem mb_X5_init : x_cB yX5_init cX5_init 1 none 0 := ⟨x_in (k := 48) (by decide +kernel) rfl, x_in (k := 74) (by decide +kernel) rfl, ⟨by decide +kernel, by decide +kernel⟩, by decide +kernel⟩
theorem mb_X3_init : x_cB yX3_init cX3_init 1 none 0 := ⟨x_in (k := 49) (by decide +kernel) rfl, x_in (k := 93) (by decide +kernel) rfl, ⟨by decide +kernel, by decide +kernel⟩, by decide +kernel⟩
theorem mb_X0_init : x_cB yX0_init cX0_init 2 none 1 := ⟨x_in (k := 50) (by decide +kernel) rfl, x_in (k := 128) (by decide +kernel) rfl, ⟨by decide +kernel, by decide +kernel⟩, by decide +kernel⟩
theorem mb_X2_init : x_cB yX2_init cX2_init 4 none 2 := ⟨x_in (k := 51) (by decide +kernel) rfl, x_in (k := 179) (by decide +kernel) rfl, ⟨by decide +kernel, by decide +kernel⟩, by decide +kernel⟩
theorem mb_J9_max_7cf53 : x_cB yJ9_max_7cf53 cJ9_max_7cf53 2 (some .int) 2 := ⟨x_in (k := 52) (by decide +kernel) rfl, x_in (k := 183) (by decide +kernel) rfl, ⟨by decide +kernel, by decide +kernel⟩, by decide +kernel⟩
theorem mb_X4_init : x_cB yX4_init cX4_init 1 none 0 := ⟨x_in (k := 53) (by decide +kernel) rfl, x_in (k := 202) (by decide +kernel) rfl, ⟨by decide +kernel, by decide +kernel⟩, by decide +kernel⟩
theorem mb_X1_init : x_cB yX1_init cX1_init 3 none 1 := ⟨x_in (k := 54) (by decide +kernel) rfl, x_in (k := 223) (by decide +kernel) rfl, ⟨by decide +kernel, by decide +kernel⟩, by decide +kernel⟩
theorem mb_J0_length_8abf5 : x_cB yJ0_length_8abf5 cJ0_length_8abf5 1 (some .int) 0 := ⟨x_in (k := 55) (by decide +kernel) rfl, x_in (k := 249) (by decide +kernel) rfl, ⟨by decide +kernel, by decide +kernel⟩, by decide +kernel⟩
theorem mb_J0_coder_7d493 : x_cB yJ0_coder_7d493 cJ0_coder_7d493 1 (some .byte) 0 := ⟨x_in (k := 55) (by decide +kernel) rfl, x_in (k := 253) (by decide +kernel) rfl, ⟨by decide +kernel, by decide +kernel⟩, by decide +kernel⟩
theorem mb_J0_charAt_5068e : x_cB yJ0_charAt_5068e cJ0_charAt_5068e 2 (some .char) 1 := ⟨x_in (k := 55) (by decide +kernel) rfl, x_in (k := 259) (by decide +kernel) rfl, ⟨by decide +kernel, by decide +kernel⟩, by decide +kernel⟩
theorem mb_J0_isLatin1_aae02 : x_cB yJ0_isLatin1_aae02 cJ0_isLatin1_aae02 1 (some .boolean) 0 := ⟨x_in (k := 55) (by decide +kernel) rfl, x_in (k := 263) (by decide +kernel) rfl, ⟨by decide +kernel, by decide +kernel⟩, by decide +kernel⟩
theorem mb_J1_charAt_3b067 : x_cB yJ1_charAt_3b067 cJ1_charAt_3b067 2 (some .char) 2 := ⟨x_in (k := 56) (by decide +kernel) rfl, x_in (k := 266) (by decide +kernel) rfl, ⟨by decide +kernel, by decide +kernel⟩, by decide +kernel⟩
theorem mb_J0_checkIndex_df160 : x_cB yJ0_checkIndex_df160 cJ0_checkIndex_df160 2 none 2 := ⟨x_in (k := 55) (by decide +kernel) rfl, x_in (k := 269) (by decide +kernel) rfl, ⟨by decide +kernel, by decide +kernel⟩, by decide +kernel⟩
theorem mb_J3_checkIndex_8e157 : x_cB yJ3_checkIndex_8e157 cJ3_checkIndex_8e157 3 (some .int) 3 := ⟨x_in (k := 57) (by decide +kernel) rfl, x_in (k := 274) (by decide +kernel) rfl, ⟨by decide +kernel, by decide +kernel⟩, by decide +kernel⟩
theorem mb_J2_charAt_3b067 : x_cB yJ2_charAt_3b067 cJ2_charAt_3b067 2 (some .char) 2 := ⟨x_in (k := 58) (by decide +kernel) rfl, x_in (k := 277) (by decide +kernel) rfl, ⟨by decide +kernel, by decide +kernel⟩, by decide +kernel⟩
theorem mb_J2_checkIndex_2214a : x_cB yJ2_checkIndex_2214a cJ2_checkIndex_2214a 2 none 2 := ⟨x_in (k := 58) (by decide +kernel) rfl, x_in (k := 280) (by decide +kernel) rfl, ⟨by decide +kernel, by decide +kernel⟩, by decide +kernel⟩
theorem mb_J2_length_9d52b : x_cB yJ2_length_9d52b cJ2_length_9d52b 1 (some .int) 1 := ⟨x_in (k := 58) (by decide +kernel) rfl, x_in (k := 283) (by decide +kernel) rfl, ⟨by decide +kernel, by decide +kernel⟩, by decide +kernel⟩
theorem mb_J2_getChar_3b067 : x_cB yJ2_getChar_3b067 cJ2_getChar_3b067 2 (some .char) 2 := ⟨x_in (k := 58) (by decide +kernel) rfl, x_in (k := 287) (by decide +kernel) rfl, ⟨by decide +kernel, by decide +kernel⟩, by decide +kernel⟩
theorem mb_X5_append : x_cB yX5_append cX5_append 2 (some .int) 1 := ⟨x_in (k := 48) (by decide +kernel) rfl, x_in (k := 297) (by decide +kernel) rfl, ⟨by decide +kernel, by decide +kernel⟩, by decide +kernel⟩
theorem mb_X5_readInto : x_cB yX5_readInto cX5_readInto 5 (some .int) 1 := ⟨x_in (k := 48) (by decide +kernel) rfl, x_in (k := 301) (by decide +kernel) rfl, ⟨by decide +kernel, by decide +kernel⟩, by decide +kernel⟩
theorem mb_X3_clear : x_cB yX3_clear cX3_clear 1 none 0 := ⟨x_in (k := 49) (by decide +kernel) rfl, x_in (k := 305) (by decide +kernel) rfl, ⟨by decide +kernel, by decide +kernel⟩, by decide +kernel⟩
theorem mb_X5_readItem : x_cB yX5_readItem cX5_readItem 6 (some .int) 2 := ⟨x_in (k := 48) (by decide +kernel) rfl, x_in (k := 309) (by decide +kernel) rfl, ⟨by decide +kernel, by decide +kernel⟩, by decide +kernel⟩
theorem mb_X5_letterAt : x_cB yX5_letterAt cX5_letterAt 2 (some .char) 1 := ⟨x_in (k := 48) (by decide +kernel) rfl, x_in (k := 313) (by decide +kernel) rfl, ⟨by decide +kernel, by decide +kernel⟩, by decide +kernel⟩
theorem mb_X5_readNumbers : x_cB yX5_readNumbers cX5_readNumbers 6 (some .int) 2 := ⟨x_in (k := 48) (by decide +kernel) rfl, x_in (k := 317) (by decide +kernel) rfl, ⟨by decide +kernel, by decide +kernel⟩, by decide +kernel⟩
theorem mb_X5_isFigure : x_cB yX5_isFigure cX5_isFigure 3 (some .boolean) 1 := ⟨x_in (k := 48) (by decide +kernel) rfl, x_in (k := 321) (by decide +kernel) rfl, ⟨by decide +kernel, by decide +kernel⟩, by decide +kernel⟩
theorem mb_X3_addPerson : x_cB yX3_addPerson cX3_addPerson 5 (some .boolean) 4 := ⟨x_in (k := 49) (by decide +kernel) rfl, x_in (k := 325) (by decide +kernel) rfl, ⟨by decide +kernel, by decide +kernel⟩, by decide +kernel⟩
theorem mb_X3_setStock : x_cB yX3_setStock cX3_setStock 2 (some .boolean) 1 := ⟨x_in (k := 49) (by decide +kernel) rfl, x_in (k := 329) (by decide +kernel) rfl, ⟨by decide +kernel, by decide +kernel⟩, by decide +kernel⟩
theorem mb_X6_startFromDraft : x_cB yX6_startFromDraft cX6_startFromDraft 1 none 0 := ⟨x_in (k := 47) (by decide +kernel) rfl, x_in (k := 333) (by decide +kernel) rfl, ⟨by decide +kernel, by decide +kernel⟩, by decide +kernel⟩
theorem mb_X3_copyFrom : x_cB yX3_copyFrom cX3_copyFrom 2 none 1 := ⟨x_in (k := 49) (by decide +kernel) rfl, x_in (k := 337) (by decide +kernel) rfl, ⟨by decide +kernel, by decide +kernel⟩, by decide +kernel⟩
theorem mb_X0_start : x_cB yX0_start cX0_start 2 none 0 := ⟨x_in (k := 50) (by decide +kernel) rfl, x_in (k := 344) (by decide +kernel) rfl, ⟨by decide +kernel, by decide +kernel⟩, by decide +kernel⟩
theorem mb_X5_empty : x_cB yX5_empty cX5_empty 2 (some .int) 0 := ⟨x_in (k := 48) (by decide +kernel) rfl, x_in (k := 348) (by decide +kernel) rfl, ⟨by decide +kernel, by decide +kernel⟩, by decide +kernel⟩
theorem mb_X6_write : x_cB yX6_write cX6_write 2 (some .int) 1 := ⟨x_in (k := 47) (by decide +kernel) rfl, x_in (k := 387) (by decide +kernel) rfl, ⟨by decide +kernel, by decide +kernel⟩, by decide +kernel⟩
theorem mb_X6_wipe : x_cB yX6_wipe cX6_wipe 1 (some .int) 0 := ⟨x_in (k := 47) (by decide +kernel) rfl, x_in (k := 391) (by decide +kernel) rfl, ⟨by decide +kernel, by decide +kernel⟩, by decide +kernel⟩
theorem mb_X6_fault : x_cB yX6_fault cX6_fault 1 (some .int) 0 := ⟨x_in (k := 47) (by decide +kernel) rfl, x_in (k := 395) (by decide +kernel) rfl, ⟨by decide +kernel, by decide +kernel⟩, by decide +kernel⟩
theorem mb_X6_lay : x_cB yX6_lay cX6_lay 1 (some .int) 0 := ⟨x_in (k := 47) (by decide +kernel) rfl, x_in (k := 399) (by decide +kernel) rfl, ⟨by decide +kernel, by decide +kernel⟩, by decide +kernel⟩
theorem mb_X6_person : x_cB yX6_person cX6_person 3 (some .int) 2 := ⟨x_in (k := 47) (by decide +kernel) rfl, x_in (k := 403) (by decide +kernel) rfl, ⟨by decide +kernel, by decide +kernel⟩, by decide +kernel⟩
theorem mb_X6_isPerson : x_cB yX6_isPerson cX6_isPerson 2 (some .boolean) 1 := ⟨x_in (k := 47) (by decide +kernel) rfl, x_in (k := 407) (by decide +kernel) rfl, ⟨by decide +kernel, by decide +kernel⟩, by decide +kernel⟩
theorem mb_X3_fact : x_cB yX3_fact cX3_fact 3 (some .int) 2 := ⟨x_in (k := 49) (by decide +kernel) rfl, x_in (k := 411) (by decide +kernel) rfl, ⟨by decide +kernel, by decide +kernel⟩, by decide +kernel⟩
theorem mb_X0_standing : x_cB yX0_standing cX0_standing 3 (some .int) 2 := ⟨x_in (k := 50) (by decide +kernel) rfl, x_in (k := 415) (by decide +kernel) rfl, ⟨by decide +kernel, by decide +kernel⟩, by decide +kernel⟩
theorem mb_X6_send : x_cB yX6_send cX6_send 2 (some .int) 1 := ⟨x_in (k := 47) (by decide +kernel) rfl, x_in (k := 419) (by decide +kernel) rfl, ⟨by decide +kernel, by decide +kernel⟩, by decide +kernel⟩
theorem mb_X0_canSendNow : x_cB yX0_canSendNow cX0_canSendNow 2 (some .boolean) 1 := ⟨x_in (k := 50) (by decide +kernel) rfl, x_in (k := 423) (by decide +kernel) rfl, ⟨by decide +kernel, by decide +kernel⟩, by decide +kernel⟩
theorem mb_X0_canBeSentOne : x_cB yX0_canBeSentOne cX0_canBeSentOne 2 (some .boolean) 1 := ⟨x_in (k := 50) (by decide +kernel) rfl, x_in (k := 427) (by decide +kernel) rfl, ⟨by decide +kernel, by decide +kernel⟩, by decide +kernel⟩
theorem mb_X0_isIn : x_cB yX0_isIn cX0_isIn 2 (some .boolean) 2 := ⟨x_in (k := 50) (by decide +kernel) rfl, x_in (k := 430) (by decide +kernel) rfl, ⟨by decide +kernel, by decide +kernel⟩, by decide +kernel⟩
theorem mb_X0_isTold : x_cB yX0_isTold cX0_isTold 2 (some .boolean) 1 := ⟨x_in (k := 50) (by decide +kernel) rfl, x_in (k := 434) (by decide +kernel) rfl, ⟨by decide +kernel, by decide +kernel⟩, by decide +kernel⟩
theorem mb_X2_push : x_cB yX2_push cX2_push 2 none 1 := ⟨x_in (k := 51) (by decide +kernel) rfl, x_in (k := 438) (by decide +kernel) rfl, ⟨by decide +kernel, by decide +kernel⟩, by decide +kernel⟩
theorem mb_X0_copyFrom : x_cB yX0_copyFrom cX0_copyFrom 2 none 1 := ⟨x_in (k := 50) (by decide +kernel) rfl, x_in (k := 442) (by decide +kernel) rfl, ⟨by decide +kernel, by decide +kernel⟩, by decide +kernel⟩
theorem mb_J9_min_7cf53 : x_cB yJ9_min_7cf53 cJ9_min_7cf53 2 (some .int) 2 := ⟨x_in (k := 52) (by decide +kernel) rfl, x_in (k := 446) (by decide +kernel) rfl, ⟨by decide +kernel, by decide +kernel⟩, by decide +kernel⟩
theorem mb_X0_dispatch : x_cB yX0_dispatch cX0_dispatch 2 none 1 := ⟨x_in (k := 50) (by decide +kernel) rfl, x_in (k := 450) (by decide +kernel) rfl, ⟨by decide +kernel, by decide +kernel⟩, by decide +kernel⟩
theorem mb_X0_wayDays : x_cB yX0_wayDays cX0_wayDays 2 (some .int) 1 := ⟨x_in (k := 50) (by decide +kernel) rfl, x_in (k := 454) (by decide +kernel) rfl, ⟨by decide +kernel, by decide +kernel⟩, by decide +kernel⟩
theorem mb_X6_call : x_cB yX6_call cX6_call 2 (some .int) 1 := ⟨x_in (k := 47) (by decide +kernel) rfl, x_in (k := 458) (by decide +kernel) rfl, ⟨by decide +kernel, by decide +kernel⟩, by decide +kernel⟩
theorem mb_X0_recall : x_cB yX0_recall cX0_recall 2 none 1 := ⟨x_in (k := 50) (by decide +kernel) rfl, x_in (k := 462) (by decide +kernel) rfl, ⟨by decide +kernel, by decide +kernel⟩, by decide +kernel⟩
theorem mb_X6_buy : x_cB yX6_buy cX6_buy 1 (some .int) 0 := ⟨x_in (k := 47) (by decide +kernel) rfl, x_in (k := 467) (by decide +kernel) rfl, ⟨by decide +kernel, by decide +kernel⟩, by decide +kernel⟩
theorem mb_X6_pass : x_cB yX6_pass cX6_pass 3 (some .int) 1 := ⟨x_in (k := 47) (by decide +kernel) rfl, x_in (k := 471) (by decide +kernel) rfl, ⟨by decide +kernel, by decide +kernel⟩, by decide +kernel⟩
theorem mb_X0_toldBits : x_cB yX0_toldBits cX0_toldBits 3 (some .int) 0 := ⟨x_in (k := 50) (by decide +kernel) rfl, x_in (k := 475) (by decide +kernel) rfl, ⟨by decide +kernel, by decide +kernel⟩, by decide +kernel⟩
theorem mb_J6_bitCount_0f7a4 : x_cB yJ6_bitCount_0f7a4 cJ6_bitCount_0f7a4 1 (some .int) 1 := ⟨x_in (k := 61) (by decide +kernel) rfl, x_in (k := 478) (by decide +kernel) rfl, ⟨by decide +kernel, by decide +kernel⟩, by decide +kernel⟩
theorem mb_X0_passDays : x_cB yX0_passDays cX0_passDays 3 none 1 := ⟨x_in (k := 50) (by decide +kernel) rfl, x_in (k := 485) (by decide +kernel) rfl, ⟨by decide +kernel, by decide +kernel⟩, by decide +kernel⟩
theorem mb_X0_passDay : x_cB yX0_passDay cX0_passDay 3 none 1 := ⟨x_in (k := 50) (by decide +kernel) rfl, x_in (k := 489) (by decide +kernel) rfl, ⟨by decide +kernel, by decide +kernel⟩, by decide +kernel⟩
theorem mb_X0_comeIn : x_cB yX0_comeIn cX0_comeIn 2 none 1 := ⟨x_in (k := 50) (by decide +kernel) rfl, x_in (k := 493) (by decide +kernel) rfl, ⟨by decide +kernel, by decide +kernel⟩, by decide +kernel⟩
theorem mb_X0_willRefuse : x_cB yX0_willRefuse cX0_willRefuse 2 (some .boolean) 1 := ⟨x_in (k := 50) (by decide +kernel) rfl, x_in (k := 497) (by decide +kernel) rfl, ⟨by decide +kernel, by decide +kernel⟩, by decide +kernel⟩
theorem mb_X0_eatingDays : x_cB yX0_eatingDays cX0_eatingDays 2 (some .int) 2 := ⟨x_in (k := 50) (by decide +kernel) rfl, x_in (k := 500) (by decide +kernel) rfl, ⟨by decide +kernel, by decide +kernel⟩, by decide +kernel⟩
theorem mb_X6_undo : x_cB yX6_undo cX6_undo 1 (some .int) 0 := ⟨x_in (k := 47) (by decide +kernel) rfl, x_in (k := 504) (by decide +kernel) rfl, ⟨by decide +kernel, by decide +kernel⟩, by decide +kernel⟩
theorem mb_X2_popInto : x_cB yX2_popInto cX2_popInto 2 (some .boolean) 1 := ⟨x_in (k := 51) (by decide +kernel) rfl, x_in (k := 508) (by decide +kernel) rfl, ⟨by decide +kernel, by decide +kernel⟩, by decide +kernel⟩
theorem mb_X6_behind : x_cB yX6_behind cX6_behind 3 (some .int) 2 := ⟨x_in (k := 47) (by decide +kernel) rfl, x_in (k := 512) (by decide +kernel) rfl, ⟨by decide +kernel, by decide +kernel⟩, by decide +kernel⟩
theorem mb_X0_eatingBits : x_cB yX0_eatingBits cX0_eatingBits 3 (some .int) 0 := ⟨x_in (k := 50) (by decide +kernel) rfl, x_in (k := 517) (by decide +kernel) rfl, ⟨by decide +kernel, by decide +kernel⟩, by decide +kernel⟩
theorem mb_X6_when : x_cB yX6_when cX6_when 3 (some .int) 1 := ⟨x_in (k := 47) (by decide +kernel) rfl, x_in (k := 521) (by decide +kernel) rfl, ⟨by decide +kernel, by decide +kernel⟩, by decide +kernel⟩
theorem mb_X6_gentle : x_cB yX6_gentle cX6_gentle 1 (some .int) 0 := ⟨x_in (k := 47) (by decide +kernel) rfl, x_in (k := 527) (by decide +kernel) rfl, ⟨by decide +kernel, by decide +kernel⟩, by decide +kernel⟩
theorem mb_X0_finalWeight : x_cB yX0_finalWeight cX0_finalWeight 4 (some .int) 1 := ⟨x_in (k := 50) (by decide +kernel) rfl, x_in (k := 531) (by decide +kernel) rfl, ⟨by decide +kernel, by decide +kernel⟩, by decide +kernel⟩
theorem mb_X0_endsSoft : x_cB yX0_endsSoft cX0_endsSoft 3 (some .boolean) 1 := ⟨x_in (k := 50) (by decide +kernel) rfl, x_in (k := 535) (by decide +kernel) rfl, ⟨by decide +kernel, by decide +kernel⟩, by decide +kernel⟩
theorem mb_X0_spareDays : x_cB yX0_spareDays cX0_spareDays 2 (some .int) 1 := ⟨x_in (k := 50) (by decide +kernel) rfl, x_in (k := 540) (by decide +kernel) rfl, ⟨by decide +kernel, by decide +kernel⟩, by decide +kernel⟩
theorem mb_X6_latest : x_cB yX6_latest cX6_latest 3 (some .int) 1 := ⟨x_in (k := 47) (by decide +kernel) rfl, x_in (k := 544) (by decide +kernel) rfl, ⟨by decide +kernel, by decide +kernel⟩, by decide +kernel⟩
theorem mb_X6_order : x_cB yX6_order cX6_order 3 (some .int) 1 := ⟨x_in (k := 47) (by decide +kernel) rfl, x_in (k := 550) (by decide +kernel) rfl, ⟨by decide +kernel, by decide +kernel⟩, by decide +kernel⟩
theorem mb_X1_run : x_cB yX1_run cX1_run 6 (some .int) 2 := ⟨x_in (k := 54) (by decide +kernel) rfl, x_in (k := 554) (by decide +kernel) rfl, ⟨by decide +kernel, by decide +kernel⟩, by decide +kernel⟩
theorem mb_X1_extend : x_cB yX1_extend cX1_extend 6 none 3 := ⟨x_in (k := 54) (by decide +kernel) rfl, x_in (k := 560) (by decide +kernel) rfl, ⟨by decide +kernel, by decide +kernel⟩, by decide +kernel⟩
theorem mb_X6_need : x_cB yX6_need cX6_need 3 (some .int) 0 := ⟨x_in (k := 47) (by decide +kernel) rfl, x_in (k := 569) (by decide +kernel) rfl, ⟨by decide +kernel, by decide +kernel⟩, by decide +kernel⟩
theorem mb_X6_seen : x_cB yX6_seen cX6_seen 4 (some .int) 3 := ⟨x_in (k := 47) (by decide +kernel) rfl, x_in (k := 573) (by decide +kernel) rfl, ⟨by decide +kernel, by decide +kernel⟩, by decide +kernel⟩
theorem mb_X4_add : x_cB yX4_add cX4_add 4 none 3 := ⟨x_in (k := 53) (by decide +kernel) rfl, x_in (k := 577) (by decide +kernel) rfl, ⟨by decide +kernel, by decide +kernel⟩, by decide +kernel⟩
theorem mb_X6_forget : x_cB yX6_forget cX6_forget 2 (some .int) 0 := ⟨x_in (k := 47) (by decide +kernel) rfl, x_in (k := 581) (by decide +kernel) rfl, ⟨by decide +kernel, by decide +kernel⟩, by decide +kernel⟩
theorem mb_X6_kinds : x_cB yX6_kinds cX6_kinds 4 (some .int) 1 := ⟨x_in (k := 47) (by decide +kernel) rfl, x_in (k := 585) (by decide +kernel) rfl, ⟨by decide +kernel, by decide +kernel⟩, by decide +kernel⟩
theorem mb_X6_guessFits : x_cB yX6_guessFits cX6_guessFits 1 (some .boolean) 0 := ⟨x_in (k := 47) (by decide +kernel) rfl, x_in (k := 589) (by decide +kernel) rfl, ⟨by decide +kernel, by decide +kernel⟩, by decide +kernel⟩
theorem mb_X4_allHold : x_cB yX4_allHold cX4_allHold 4 (some .boolean) 1 := ⟨x_in (k := 53) (by decide +kernel) rfl, x_in (k := 593) (by decide +kernel) rfl, ⟨by decide +kernel, by decide +kernel⟩, by decide +kernel⟩
theorem mb_X4_holdAfter : x_cB yX4_holdAfter cX4_holdAfter 4 (some .boolean) 2 := ⟨x_in (k := 53) (by decide +kernel) rfl, x_in (k := 598) (by decide +kernel) rfl, ⟨by decide +kernel, by decide +kernel⟩, by decide +kernel⟩
theorem mb_X6_days : x_cB yX6_days cX6_days 6 (some .int) 2 := ⟨x_in (k := 47) (by decide +kernel) rfl, x_in (k := 604) (by decide +kernel) rfl, ⟨by decide +kernel, by decide +kernel⟩, by decide +kernel⟩
theorem mb_X6_likely : x_cB yX6_likely cX6_likely 8 (some .int) 4 := ⟨x_in (k := 47) (by decide +kernel) rfl, x_in (k := 608) (by decide +kernel) rfl, ⟨by decide +kernel, by decide +kernel⟩, by decide +kernel⟩
theorem mb_X6_softWithFrosts : x_cB yX6_softWithFrosts cX6_softWithFrosts 5 (some .boolean) 3 := ⟨x_in (k := 47) (by decide +kernel) rfl, x_in (k := 612) (by decide +kernel) rfl, ⟨by decide +kernel, by decide +kernel⟩, by decide +kernel⟩
theorem mb_X6_weightOfFrosts : x_cB yX6_weightOfFrosts cX6_weightOfFrosts 5 (some .int) 3 := ⟨x_in (k := 47) (by decide +kernel) rfl, x_in (k := 616) (by decide +kernel) rfl, ⟨by decide +kernel, by decide +kernel⟩, by decide +kernel⟩
theorem mb_X6_greatestDivisor : x_cB yX6_greatestDivisor cX6_greatestDivisor 6 (some .int) 2 := ⟨x_in (k := 47) (by decide +kernel) rfl, x_in (k := 619) (by decide +kernel) rfl, ⟨by decide +kernel, by decide +kernel⟩, by decide +kernel⟩
theorem mb_X6_year : x_cB yX6_year cX6_year 5 (some .int) 3 := ⟨x_in (k := 47) (by decide +kernel) rfl, x_in (k := 623) (by decide +kernel) rfl, ⟨by decide +kernel, by decide +kernel⟩, by decide +kernel⟩
theorem mb_X6_draw : x_cB yX6_draw cX6_draw 4 (some .int) 2 := ⟨x_in (k := 47) (by decide +kernel) rfl, x_in (k := 626) (by decide +kernel) rfl, ⟨by decide +kernel, by decide +kernel⟩, by decide +kernel⟩
theorem mb_X0_actByDraw : x_cB yX0_actByDraw cX0_actByDraw 4 none 1 := ⟨x_in (k := 50) (by decide +kernel) rfl, x_in (k := 634) (by decide +kernel) rfl, ⟨by decide +kernel, by decide +kernel⟩, by decide +kernel⟩
theorem mb_X0_softWeight : x_cB yX0_softWeight cX0_softWeight 3 (some .int) 0 := ⟨x_in (k := 50) (by decide +kernel) rfl, x_in (k := 641) (by decide +kernel) rfl, ⟨by decide +kernel, by decide +kernel⟩, by decide +kernel⟩
theorem mb_X6_keep : x_cB yX6_keep cX6_keep 1 (some .int) 0 := ⟨x_in (k := 47) (by decide +kernel) rfl, x_in (k := 645) (by decide +kernel) rfl, ⟨by decide +kernel, by decide +kernel⟩, by decide +kernel⟩
theorem mb_X6_back : x_cB yX6_back cX6_back 1 (some .int) 0 := ⟨x_in (k := 47) (by decide +kernel) rfl, x_in (k := 649) (by decide +kernel) rfl, ⟨by decide +kernel, by decide +kernel⟩, by decide +kernel⟩
theorem mb_X6_count : x_cB yX6_count cX6_count 2 (some .int) 1 := ⟨x_in (k := 47) (by decide +kernel) rfl, x_in (k := 653) (by decide +kernel) rfl, ⟨by decide +kernel, by decide +kernel⟩, by decide +kernel⟩
theorem mb_X0_allOnWay : x_cB yX0_allOnWay cX0_allOnWay 3 (some .int) 0 := ⟨x_in (k := 50) (by decide +kernel) rfl, x_in (k := 657) (by decide +kernel) rfl, ⟨by decide +kernel, by decide +kernel⟩, by decide +kernel⟩
theorem mb_X7_init : x_cB yX7_init cX7_init 1 none 0 := ⟨x_in (k := 60) (by decide +kernel) rfl, x_in (k := 662) (by decide +kernel) rfl, ⟨by decide +kernel, by decide +kernel⟩, by decide +kernel⟩
theorem mb_X7_firstOne : x_cB yX7_firstOne cX7_firstOne 5 none 4 := ⟨x_in (k := 60) (by decide +kernel) rfl, x_in (k := 667) (by decide +kernel) rfl, ⟨by decide +kernel, by decide +kernel⟩, by decide +kernel⟩
theorem mb_X7_begin : x_cB yX7_begin cX7_begin 3 none 1 := ⟨x_in (k := 60) (by decide +kernel) rfl, x_in (k := 671) (by decide +kernel) rfl, ⟨by decide +kernel, by decide +kernel⟩, by decide +kernel⟩
theorem mb_X7_write : x_cB yX7_write cX7_write 2 (some .int) 1 := ⟨x_in (k := 60) (by decide +kernel) rfl, x_in (k := 784) (by decide +kernel) rfl, ⟨by decide +kernel, by decide +kernel⟩, by decide +kernel⟩
theorem mb_X7_in : x_cB yX7_in cX7_in 3 (some .boolean) 3 := ⟨x_in (k := 60) (by decide +kernel) rfl, x_in (k := 787) (by decide +kernel) rfl, ⟨by decide +kernel, by decide +kernel⟩, by decide +kernel⟩
theorem mb_X7_wipe : x_cB yX7_wipe cX7_wipe 2 (some .int) 0 := ⟨x_in (k := 60) (by decide +kernel) rfl, x_in (k := 791) (by decide +kernel) rfl, ⟨by decide +kernel, by decide +kernel⟩, by decide +kernel⟩
theorem mb_X7_fault : x_cB yX7_fault cX7_fault 2 (some .int) 0 := ⟨x_in (k := 60) (by decide +kernel) rfl, x_in (k := 795) (by decide +kernel) rfl, ⟨by decide +kernel, by decide +kernel⟩, by decide +kernel⟩
theorem mb_X7_readsItem : x_cB yX7_readsItem cX7_readsItem 2 (some .boolean) 0 := ⟨x_in (k := 60) (by decide +kernel) rfl, x_in (k := 799) (by decide +kernel) rfl, ⟨by decide +kernel, by decide +kernel⟩, by decide +kernel⟩
theorem mb_X7_here : x_cB yX7_here cX7_here 1 (some .int) 0 := ⟨x_in (k := 60) (by decide +kernel) rfl, x_in (k := 803) (by decide +kernel) rfl, ⟨by decide +kernel, by decide +kernel⟩, by decide +kernel⟩
theorem mb_X7_readsOne : x_cB yX7_readsOne cX7_readsOne 2 (some .boolean) 0 := ⟨x_in (k := 60) (by decide +kernel) rfl, x_in (k := 807) (by decide +kernel) rfl, ⟨by decide +kernel, by decide +kernel⟩, by decide +kernel⟩
theorem mb_X7_number : x_cB yX7_number cX7_number 5 (some .boolean) 3 := ⟨x_in (k := 60) (by decide +kernel) rfl, x_in (k := 811) (by decide +kernel) rfl, ⟨by decide +kernel, by decide +kernel⟩, by decide +kernel⟩
theorem mb_X7_isFigure : x_cB yX7_isFigure cX7_isFigure 1 (some .boolean) 0 := ⟨x_in (k := 60) (by decide +kernel) rfl, x_in (k := 815) (by decide +kernel) rfl, ⟨by decide +kernel, by decide +kernel⟩, by decide +kernel⟩
theorem mb_X7_readsStock : x_cB yX7_readsStock cX7_readsStock 1 (some .boolean) 0 := ⟨x_in (k := 60) (by decide +kernel) rfl, x_in (k := 819) (by decide +kernel) rfl, ⟨by decide +kernel, by decide +kernel⟩, by decide +kernel⟩
theorem mb_X7_lay : x_cB yX7_lay cX7_lay 2 (some .int) 0 := ⟨x_in (k := 60) (by decide +kernel) rfl, x_in (k := 823) (by decide +kernel) rfl, ⟨by decide +kernel, by decide +kernel⟩, by decide +kernel⟩
theorem mb_X7_person : x_cB yX7_person cX7_person 3 (some .int) 2 := ⟨x_in (k := 60) (by decide +kernel) rfl, x_in (k := 828) (by decide +kernel) rfl, ⟨by decide +kernel, by decide +kernel⟩, by decide +kernel⟩
theorem mb_X7_isOne : x_cB yX7_isOne cX7_isOne 2 (some .boolean) 1 := ⟨x_in (k := 60) (by decide +kernel) rfl, x_in (k := 832) (by decide +kernel) rfl, ⟨by decide +kernel, by decide +kernel⟩, by decide +kernel⟩
theorem mb_X7_personTells : x_cB yX7_personTells cX7_personTells 3 (some .int) 2 := ⟨x_in (k := 60) (by decide +kernel) rfl, x_in (k := 836) (by decide +kernel) rfl, ⟨by decide +kernel, by decide +kernel⟩, by decide +kernel⟩
theorem mb_X7_send : x_cB yX7_send cX7_send 2 (some .int) 1 := ⟨x_in (k := 60) (by decide +kernel) rfl, x_in (k := 840) (by decide +kernel) rfl, ⟨by decide +kernel, by decide +kernel⟩, by decide +kernel⟩
theorem mb_X7_maySend : x_cB yX7_maySend cX7_maySend 2 (some .boolean) 1 := ⟨x_in (k := 60) (by decide +kernel) rfl, x_in (k := 844) (by decide +kernel) rfl, ⟨by decide +kernel, by decide +kernel⟩, by decide +kernel⟩
theorem mb_X7_isOpen : x_cB yX7_isOpen cX7_isOpen 2 (some .boolean) 1 := ⟨x_in (k := 60) (by decide +kernel) rfl, x_in (k := 848) (by decide +kernel) rfl, ⟨by decide +kernel, by decide +kernel⟩, by decide +kernel⟩
theorem mb_X7_notes : x_cB yX7_notes cX7_notes 2 none 0 := ⟨x_in (k := 60) (by decide +kernel) rfl, x_in (k := 852) (by decide +kernel) rfl, ⟨by decide +kernel, by decide +kernel⟩, by decide +kernel⟩
theorem mb_X7_lays : x_cB yX7_lays cX7_lays 4 none 2 := ⟨x_in (k := 60) (by decide +kernel) rfl, x_in (k := 856) (by decide +kernel) rfl, ⟨by decide +kernel, by decide +kernel⟩, by decide +kernel⟩
theorem mb_X7_sends : x_cB yX7_sends cX7_sends 2 none 1 := ⟨x_in (k := 60) (by decide +kernel) rfl, x_in (k := 860) (by decide +kernel) rfl, ⟨by decide +kernel, by decide +kernel⟩, by decide +kernel⟩
theorem mb_X7_goesOut : x_cB yX7_goesOut cX7_goesOut 2 none 1 := ⟨x_in (k := 60) (by decide +kernel) rfl, x_in (k := 864) (by decide +kernel) rfl, ⟨by decide +kernel, by decide +kernel⟩, by decide +kernel⟩
theorem mb_X7_call : x_cB yX7_call cX7_call 2 (some .int) 1 := ⟨x_in (k := 60) (by decide +kernel) rfl, x_in (k := 868) (by decide +kernel) rfl, ⟨by decide +kernel, by decide +kernel⟩, by decide +kernel⟩
theorem mb_X7_calls : x_cB yX7_calls cX7_calls 2 none 1 := ⟨x_in (k := 60) (by decide +kernel) rfl, x_in (k := 872) (by decide +kernel) rfl, ⟨by decide +kernel, by decide +kernel⟩, by decide +kernel⟩
theorem mb_X7_lesser : x_cB yX7_lesser cX7_lesser 2 (some .int) 2 := ⟨x_in (k := 60) (by decide +kernel) rfl, x_in (k := 875) (by decide +kernel) rfl, ⟨by decide +kernel, by decide +kernel⟩, by decide +kernel⟩
theorem mb_X7_buy : x_cB yX7_buy cX7_buy 1 (some .int) 0 := ⟨x_in (k := 60) (by decide +kernel) rfl, x_in (k := 879) (by decide +kernel) rfl, ⟨by decide +kernel, by decide +kernel⟩, by decide +kernel⟩
theorem mb_X7_pass : x_cB yX7_pass cX7_pass 2 (some .int) 1 := ⟨x_in (k := 60) (by decide +kernel) rfl, x_in (k := 883) (by decide +kernel) rfl, ⟨by decide +kernel, by decide +kernel⟩, by decide +kernel⟩
theorem mb_X7_goesOn : x_cB yX7_goesOn cX7_goesOn 4 (some .int) 1 := ⟨x_in (k := 60) (by decide +kernel) rfl, x_in (k := 887) (by decide +kernel) rfl, ⟨by decide +kernel, by decide +kernel⟩, by decide +kernel⟩
theorem mb_X7_passes : x_cB yX7_passes cX7_passes 4 (some .int) 1 := ⟨x_in (k := 60) (by decide +kernel) rfl, x_in (k := 891) (by decide +kernel) rfl, ⟨by decide +kernel, by decide +kernel⟩, by decide +kernel⟩
theorem mb_X7_comesIn : x_cB yX7_comesIn cX7_comesIn 2 none 1 := ⟨x_in (k := 60) (by decide +kernel) rfl, x_in (k := 895) (by decide +kernel) rfl, ⟨by decide +kernel, by decide +kernel⟩, by decide +kernel⟩
theorem mb_X7_eatsBy : x_cB yX7_eatsBy cX7_eatsBy 2 (some .int) 2 := ⟨x_in (k := 60) (by decide +kernel) rfl, x_in (k := 898) (by decide +kernel) rfl, ⟨by decide +kernel, by decide +kernel⟩, by decide +kernel⟩
theorem mb_X7_undo : x_cB yX7_undo cX7_undo 1 (some .int) 0 := ⟨x_in (k := 60) (by decide +kernel) rfl, x_in (k := 902) (by decide +kernel) rfl, ⟨by decide +kernel, by decide +kernel⟩, by decide +kernel⟩
theorem mb_X7_takes : x_cB yX7_takes cX7_takes 4 none 2 := ⟨x_in (k := 60) (by decide +kernel) rfl, x_in (k := 906) (by decide +kernel) rfl, ⟨by decide +kernel, by decide +kernel⟩, by decide +kernel⟩
theorem mb_X7_behind : x_cB yX7_behind cX7_behind 4 (some .int) 2 := ⟨x_in (k := 60) (by decide +kernel) rfl, x_in (k := 910) (by decide +kernel) rfl, ⟨by decide +kernel, by decide +kernel⟩, by decide +kernel⟩
theorem mb_X7_start : x_cB yX7_start cX7_start 1 none 0 := ⟨x_in (k := 60) (by decide +kernel) rfl, x_in (k := 914) (by decide +kernel) rfl, ⟨by decide +kernel, by decide +kernel⟩, by decide +kernel⟩
theorem mb_X7_eatSet : x_cB yX7_eatSet cX7_eatSet 3 (some .int) 0 := ⟨x_in (k := 60) (by decide +kernel) rfl, x_in (k := 918) (by decide +kernel) rfl, ⟨by decide +kernel, by decide +kernel⟩, by decide +kernel⟩
theorem mb_X7_toldSet : x_cB yX7_toldSet cX7_toldSet 3 (some .int) 0 := ⟨x_in (k := 60) (by decide +kernel) rfl, x_in (k := 922) (by decide +kernel) rfl, ⟨by decide +kernel, by decide +kernel⟩, by decide +kernel⟩
theorem mb_X7_softSet : x_cB yX7_softSet cX7_softSet 3 (some .int) 0 := ⟨x_in (k := 60) (by decide +kernel) rfl, x_in (k := 926) (by decide +kernel) rfl, ⟨by decide +kernel, by decide +kernel⟩, by decide +kernel⟩
theorem mb_X7_putBack : x_cB yX7_putBack cX7_putBack 1 none 0 := ⟨x_in (k := 60) (by decide +kernel) rfl, x_in (k := 930) (by decide +kernel) rfl, ⟨by decide +kernel, by decide +kernel⟩, by decide +kernel⟩
theorem mb_X7_when : x_cB yX7_when cX7_when 4 (some .int) 1 := ⟨x_in (k := 60) (by decide +kernel) rfl, x_in (k := 934) (by decide +kernel) rfl, ⟨by decide +kernel, by decide +kernel⟩, by decide +kernel⟩
theorem mb_X7_gentle : x_cB yX7_gentle cX7_gentle 2 (some .int) 0 := ⟨x_in (k := 60) (by decide +kernel) rfl, x_in (k := 938) (by decide +kernel) rfl, ⟨by decide +kernel, by decide +kernel⟩, by decide +kernel⟩
theorem mb_X7_softWeight : x_cB yX7_softWeight cX7_softWeight 3 (some .int) 0 := ⟨x_in (k := 60) (by decide +kernel) rfl, x_in (k := 942) (by decide +kernel) rfl, ⟨by decide +kernel, by decide +kernel⟩, by decide +kernel⟩
theorem mb_X7_latest : x_cB yX7_latest cX7_latest 3 (some .int) 1 := ⟨x_in (k := 60) (by decide +kernel) rfl, x_in (k := 946) (by decide +kernel) rfl, ⟨by decide +kernel, by decide +kernel⟩, by decide +kernel⟩
theorem mb_X7_isSoftBy : x_cB yX7_isSoftBy cX7_isSoftBy 4 (some .boolean) 2 := ⟨x_in (k := 60) (by decide +kernel) rfl, x_in (k := 950) (by decide +kernel) rfl, ⟨by decide +kernel, by decide +kernel⟩, by decide +kernel⟩
theorem mb_X7_order : x_cB yX7_order cX7_order 3 (some .int) 1 := ⟨x_in (k := 60) (by decide +kernel) rfl, x_in (k := 954) (by decide +kernel) rfl, ⟨by decide +kernel, by decide +kernel⟩, by decide +kernel⟩
theorem mb_X7_mostBy : x_cB yX7_mostBy cX7_mostBy 6 (some .int) 1 := ⟨x_in (k := 60) (by decide +kernel) rfl, x_in (k := 958) (by decide +kernel) rfl, ⟨by decide +kernel, by decide +kernel⟩, by decide +kernel⟩
theorem mb_X7_firstRow : x_cB yX7_firstRow cX7_firstRow 2 none 0 := ⟨x_in (k := 60) (by decide +kernel) rfl, x_in (k := 962) (by decide +kernel) rfl, ⟨by decide +kernel, by decide +kernel⟩, by decide +kernel⟩
theorem mb_X7_gentleBy : x_cB yX7_gentleBy cX7_gentleBy 3 (some .int) 1 := ⟨x_in (k := 60) (by decide +kernel) rfl, x_in (k := 966) (by decide +kernel) rfl, ⟨by decide +kernel, by decide +kernel⟩, by decide +kernel⟩
theorem mb_X7_nextRow : x_cB yX7_nextRow cX7_nextRow 7 (some .boolean) 0 := ⟨x_in (k := 60) (by decide +kernel) rfl, x_in (k := 970) (by decide +kernel) rfl, ⟨by decide +kernel, by decide +kernel⟩, by decide +kernel⟩
theorem mb_X7_need : x_cB yX7_need cX7_need 3 (some .int) 0 := ⟨x_in (k := 60) (by decide +kernel) rfl, x_in (k := 974) (by decide +kernel) rfl, ⟨by decide +kernel, by decide +kernel⟩, by decide +kernel⟩
theorem mb_X7_seen : x_cB yX7_seen cX7_seen 4 (some .int) 3 := ⟨x_in (k := 60) (by decide +kernel) rfl, x_in (k := 978) (by decide +kernel) rfl, ⟨by decide +kernel, by decide +kernel⟩, by decide +kernel⟩
theorem mb_X7_forget : x_cB yX7_forget cX7_forget 2 (some .int) 0 := ⟨x_in (k := 60) (by decide +kernel) rfl, x_in (k := 982) (by decide +kernel) rfl, ⟨by decide +kernel, by decide +kernel⟩, by decide +kernel⟩
theorem mb_X7_kinds : x_cB yX7_kinds cX7_kinds 5 (some .int) 1 := ⟨x_in (k := 60) (by decide +kernel) rfl, x_in (k := 986) (by decide +kernel) rfl, ⟨by decide +kernel, by decide +kernel⟩, by decide +kernel⟩
theorem mb_X7_isSo : x_cB yX7_isSo cX7_isSo 5 (some .boolean) 0 := ⟨x_in (k := 60) (by decide +kernel) rfl, x_in (k := 990) (by decide +kernel) rfl, ⟨by decide +kernel, by decide +kernel⟩, by decide +kernel⟩
theorem mb_X7_days : x_cB yX7_days cX7_days 8 (some .int) 2 := ⟨x_in (k := 60) (by decide +kernel) rfl, x_in (k := 994) (by decide +kernel) rfl, ⟨by decide +kernel, by decide +kernel⟩, by decide +kernel⟩
theorem mb_X7_likely : x_cB yX7_likely cX7_likely 13 (some .int) 4 := ⟨x_in (k := 60) (by decide +kernel) rfl, x_in (k := 998) (by decide +kernel) rfl, ⟨by decide +kernel, by decide +kernel⟩, by decide +kernel⟩
theorem mb_X7_has : x_cB yX7_has cX7_has 2 (some .boolean) 2 := ⟨x_in (k := 60) (by decide +kernel) rfl, x_in (k := 1002) (by decide +kernel) rfl, ⟨by decide +kernel, by decide +kernel⟩, by decide +kernel⟩
theorem mb_X7_common : x_cB yX7_common cX7_common 10 (some .long) 2 := ⟨x_in (k := 60) (by decide +kernel) rfl, x_in (k := 1005) (by decide +kernel) rfl, ⟨by decide +kernel, by decide +kernel⟩, by decide +kernel⟩
theorem mb_X7_year : x_cB yX7_year cX7_year 10 (some .int) 3 := ⟨x_in (k := 60) (by decide +kernel) rfl, x_in (k := 1009) (by decide +kernel) rfl, ⟨by decide +kernel, by decide +kernel⟩, by decide +kernel⟩
theorem mb_X7_bits : x_cB yX7_bits cX7_bits 3 (some .int) 1 := ⟨x_in (k := 60) (by decide +kernel) rfl, x_in (k := 1016) (by decide +kernel) rfl, ⟨by decide +kernel, by decide +kernel⟩, by decide +kernel⟩
theorem mb_X7_keep : x_cB yX7_keep cX7_keep 1 (some .int) 0 := ⟨x_in (k := 60) (by decide +kernel) rfl, x_in (k := 1020) (by decide +kernel) rfl, ⟨by decide +kernel, by decide +kernel⟩, by decide +kernel⟩
theorem mb_X7_back : x_cB yX7_back cX7_back 1 (some .int) 0 := ⟨x_in (k := 60) (by decide +kernel) rfl, x_in (k := 1024) (by decide +kernel) rfl, ⟨by decide +kernel, by decide +kernel⟩, by decide +kernel⟩
theorem mb_X7_count : x_cB yX7_count cX7_count 2 (some .int) 1 := ⟨x_in (k := 60) (by decide +kernel) rfl, x_in (k := 1028) (by decide +kernel) rfl, ⟨by decide +kernel, by decide +kernel⟩, by decide +kernel⟩
theorem mb_X7_sumOf : x_cB yX7_sumOf cX7_sumOf 4 (some .int) 1 := ⟨x_in (k := 60) (by decide +kernel) rfl, x_in (k := 1032) (by decide +kernel) rfl, ⟨by decide +kernel, by decide +kernel⟩, by decide +kernel⟩
theorem cs_L_9 : x_cI RL 9 yX6_init := ⟨x_in (k := 64) (by decide +kernel) rfl, x_in (k := 65) (by decide +kernel) rfl, rfl⟩
theorem cs_X6_9 : x_cN RX6 9 yX5_init "NewsHampers" := ⟨fun _ _ _ h => h.1, x_in (k := 73) (by decide +kernel) rfl, rfl⟩
theorem cs_X6_18 : x_cN RX6 18 yX3_init "NewsHampers" := ⟨fun _ _ _ h => h.2.1, x_in (k := 92) (by decide +kernel) rfl, rfl⟩
theorem cs_X6_31 : x_cI RX6 31 yX0_init := ⟨x_in (k := 126) (by decide +kernel) rfl, x_in (k := 127) (by decide +kernel) rfl, rfl⟩
theorem cs_X6_46 : x_cI RX6 46 yX2_init := ⟨x_in (k := 177) (by decide +kernel) rfl, x_in (k := 178) (by decide +kernel) rfl, rfl⟩
theorem cs_X2_16 : x_cS RX2 16 yJ9_max_7cf53 := ⟨x_in (k := 181) (by decide +kernel) rfl, x_in (k := 182) (by decide +kernel) rfl⟩
theorem cs_X2_28 : x_cI RX2 28 yX0_init := ⟨x_in (k := 186) (by decide +kernel) rfl, x_in (k := 127) (by decide +kernel) rfl, rfl⟩
theorem cs_X6_58 : x_cN RX6 58 yX4_init "NewsHampers" := ⟨fun _ _ _ h => h.2.2.1, x_in (k := 201) (by decide +kernel) rfl, rfl⟩
theorem cs_X6_65 : x_cI RX6 65 yX1_init := ⟨x_in (k := 221) (by decide +kernel) rfl, x_in (k := 222) (by decide +kernel) rfl, rfl⟩
theorem cs_X1_31 : x_cI RX1 31 yX0_init := ⟨x_in (k := 226) (by decide +kernel) rfl, x_in (k := 127) (by decide +kernel) rfl, rfl⟩
theorem cs_X6_72 : x_cV RX6 72 yJ0_length_8abf5 := ⟨x_in (k := 246) (by decide +kernel) rfl, x_in (k := 247) (by decide +kernel) rfl, x_in (k := 248) (by decide +kernel) rfl⟩
theorem cs_J0_335 : x_cV RJ0 335 yJ0_coder_7d493 := ⟨x_in (k := 250) (by decide +kernel) rfl, x_in (k := 251) (by decide +kernel) rfl, x_in (k := 252) (by decide +kernel) rfl⟩
theorem cs_X6_78 : x_cV RX6 78 yJ0_charAt_5068e := ⟨x_in (k := 256) (by decide +kernel) rfl, x_in (k := 257) (by decide +kernel) rfl, x_in (k := 258) (by decide +kernel) rfl⟩
theorem cs_J0_492 : x_cV RJ0 492 yJ0_isLatin1_aae02 := ⟨x_in (k := 260) (by decide +kernel) rfl, x_in (k := 261) (by decide +kernel) rfl, x_in (k := 262) (by decide +kernel) rfl⟩
theorem cs_J0_495 : x_cS RJ0 495 yJ1_charAt_3b067 := ⟨x_in (k := 264) (by decide +kernel) rfl, x_in (k := 265) (by decide +kernel) rfl⟩
theorem cs_J1_9 : x_cS RJ1 9 yJ0_checkIndex_df160 := ⟨x_in (k := 267) (by decide +kernel) rfl, x_in (k := 268) (by decide +kernel) rfl⟩
theorem cs_J0_1059 : x_cS RJ0 1059 yJ3_checkIndex_8e157 := ⟨x_in (k := 272) (by decide +kernel) rfl, x_in (k := 273) (by decide +kernel) rfl⟩
theorem cs_J0_498 : x_cS RJ0 498 yJ2_charAt_3b067 := ⟨x_in (k := 275) (by decide +kernel) rfl, x_in (k := 276) (by decide +kernel) rfl⟩
theorem cs_J2_67 : x_cS RJ2 67 yJ2_checkIndex_2214a := ⟨x_in (k := 278) (by decide +kernel) rfl, x_in (k := 279) (by decide +kernel) rfl⟩
theorem cs_J2_48 : x_cS RJ2 48 yJ2_length_9d52b := ⟨x_in (k := 281) (by decide +kernel) rfl, x_in (k := 282) (by decide +kernel) rfl⟩
theorem cs_J2_414 : x_cS RJ2 414 yJ0_checkIndex_df160 := ⟨x_in (k := 284) (by decide +kernel) rfl, x_in (k := 268) (by decide +kernel) rfl⟩
theorem cs_J2_71 : x_cS RJ2 71 yJ2_getChar_3b067 := ⟨x_in (k := 285) (by decide +kernel) rfl, x_in (k := 286) (by decide +kernel) rfl⟩
theorem cs_X6_82 : x_cV RX6 82 yX5_append := ⟨x_in (k := 294) (by decide +kernel) rfl, x_in (k := 295) (by decide +kernel) rfl, x_in (k := 296) (by decide +kernel) rfl⟩
theorem cs_X6_86 : x_cV RX6 86 yX5_readInto := ⟨x_in (k := 298) (by decide +kernel) rfl, x_in (k := 299) (by decide +kernel) rfl, x_in (k := 300) (by decide +kernel) rfl⟩
theorem cs_X5_23 : x_cV RX5 23 yX3_clear := ⟨x_in (k := 302) (by decide +kernel) rfl, x_in (k := 303) (by decide +kernel) rfl, x_in (k := 304) (by decide +kernel) rfl⟩
theorem cs_X5_28 : x_cV RX5 28 yX5_readItem := ⟨x_in (k := 306) (by decide +kernel) rfl, x_in (k := 308) (by decide +kernel) rfl, x_in (k := 0) (by decide +kernel) rfl⟩
theorem cs_X5_32 : x_cV RX5 32 yX5_letterAt := ⟨x_in (k := 310) (by decide +kernel) rfl, x_in (k := 312) (by decide +kernel) rfl, x_in (k := 1) (by decide +kernel) rfl⟩
theorem cs_X5_36 : x_cV RX5 36 yX5_readNumbers := ⟨x_in (k := 314) (by decide +kernel) rfl, x_in (k := 316) (by decide +kernel) rfl, x_in (k := 2) (by decide +kernel) rfl⟩
theorem cs_X5_48 : x_cV RX5 48 yX5_isFigure := ⟨x_in (k := 318) (by decide +kernel) rfl, x_in (k := 320) (by decide +kernel) rfl, x_in (k := 3) (by decide +kernel) rfl⟩
theorem cs_X5_40 : x_cV RX5 40 yX3_addPerson := ⟨x_in (k := 322) (by decide +kernel) rfl, x_in (k := 323) (by decide +kernel) rfl, x_in (k := 324) (by decide +kernel) rfl⟩
theorem cs_X5_44 : x_cV RX5 44 yX3_setStock := ⟨x_in (k := 326) (by decide +kernel) rfl, x_in (k := 327) (by decide +kernel) rfl, x_in (k := 328) (by decide +kernel) rfl⟩
theorem cs_X6_90 : x_cV RX6 90 yX6_startFromDraft := ⟨x_in (k := 330) (by decide +kernel) rfl, x_in (k := 332) (by decide +kernel) rfl, x_in (k := 4) (by decide +kernel) rfl⟩
theorem cs_X6_194 : x_cV RX6 194 yX3_copyFrom := ⟨x_in (k := 334) (by decide +kernel) rfl, x_in (k := 335) (by decide +kernel) rfl, x_in (k := 336) (by decide +kernel) rfl⟩
theorem cs_X6_232 : x_cV RX6 232 yX0_start := ⟨x_in (k := 341) (by decide +kernel) rfl, x_in (k := 342) (by decide +kernel) rfl, x_in (k := 343) (by decide +kernel) rfl⟩
theorem cs_X6_93 : x_cV RX6 93 yX5_empty := ⟨x_in (k := 345) (by decide +kernel) rfl, x_in (k := 346) (by decide +kernel) rfl, x_in (k := 347) (by decide +kernel) rfl⟩
theorem cs_L_13 : x_cV RL 13 yX6_write := ⟨x_in (k := 384) (by decide +kernel) rfl, x_in (k := 385) (by decide +kernel) rfl, x_in (k := 386) (by decide +kernel) rfl⟩
theorem cs_L_18 : x_cV RL 18 yX6_wipe := ⟨x_in (k := 388) (by decide +kernel) rfl, x_in (k := 389) (by decide +kernel) rfl, x_in (k := 390) (by decide +kernel) rfl⟩
theorem cs_L_23 : x_cV RL 23 yX6_fault := ⟨x_in (k := 392) (by decide +kernel) rfl, x_in (k := 393) (by decide +kernel) rfl, x_in (k := 394) (by decide +kernel) rfl⟩
theorem cs_L_27 : x_cV RL 27 yX6_lay := ⟨x_in (k := 396) (by decide +kernel) rfl, x_in (k := 397) (by decide +kernel) rfl, x_in (k := 398) (by decide +kernel) rfl⟩
theorem cs_L_31 : x_cV RL 31 yX6_person := ⟨x_in (k := 400) (by decide +kernel) rfl, x_in (k := 401) (by decide +kernel) rfl, x_in (k := 402) (by decide +kernel) rfl⟩
theorem cs_X6_102 : x_cV RX6 102 yX6_isPerson := ⟨x_in (k := 404) (by decide +kernel) rfl, x_in (k := 406) (by decide +kernel) rfl, x_in (k := 5) (by decide +kernel) rfl⟩
theorem cs_X6_106 : x_cV RX6 106 yX3_fact := ⟨x_in (k := 408) (by decide +kernel) rfl, x_in (k := 409) (by decide +kernel) rfl, x_in (k := 410) (by decide +kernel) rfl⟩
theorem cs_X6_110 : x_cV RX6 110 yX0_standing := ⟨x_in (k := 412) (by decide +kernel) rfl, x_in (k := 413) (by decide +kernel) rfl, x_in (k := 414) (by decide +kernel) rfl⟩
theorem cs_L_36 : x_cV RL 36 yX6_send := ⟨x_in (k := 416) (by decide +kernel) rfl, x_in (k := 417) (by decide +kernel) rfl, x_in (k := 418) (by decide +kernel) rfl⟩
theorem cs_X6_113 : x_cV RX6 113 yX0_canSendNow := ⟨x_in (k := 420) (by decide +kernel) rfl, x_in (k := 421) (by decide +kernel) rfl, x_in (k := 422) (by decide +kernel) rfl⟩
theorem cs_X0_68 : x_cV RX0 68 yX0_canBeSentOne := ⟨x_in (k := 424) (by decide +kernel) rfl, x_in (k := 425) (by decide +kernel) rfl, x_in (k := 426) (by decide +kernel) rfl⟩
theorem cs_X0_60 : x_cS RX0 60 yX0_isIn := ⟨x_in (k := 428) (by decide +kernel) rfl, x_in (k := 429) (by decide +kernel) rfl⟩
theorem cs_X0_64 : x_cV RX0 64 yX0_isTold := ⟨x_in (k := 431) (by decide +kernel) rfl, x_in (k := 432) (by decide +kernel) rfl, x_in (k := 433) (by decide +kernel) rfl⟩
theorem cs_X6_116 : x_cV RX6 116 yX2_push := ⟨x_in (k := 435) (by decide +kernel) rfl, x_in (k := 436) (by decide +kernel) rfl, x_in (k := 437) (by decide +kernel) rfl⟩
theorem cs_X2_31 : x_cV RX2 31 yX0_copyFrom := ⟨x_in (k := 439) (by decide +kernel) rfl, x_in (k := 440) (by decide +kernel) rfl, x_in (k := 441) (by decide +kernel) rfl⟩
theorem cs_X2_35 : x_cS RX2 35 yJ9_min_7cf53 := ⟨x_in (k := 444) (by decide +kernel) rfl, x_in (k := 445) (by decide +kernel) rfl⟩
theorem cs_X6_120 : x_cV RX6 120 yX0_dispatch := ⟨x_in (k := 447) (by decide +kernel) rfl, x_in (k := 448) (by decide +kernel) rfl, x_in (k := 449) (by decide +kernel) rfl⟩
theorem cs_X0_71 : x_cV RX0 71 yX0_wayDays := ⟨x_in (k := 451) (by decide +kernel) rfl, x_in (k := 453) (by decide +kernel) rfl, x_in (k := 6) (by decide +kernel) rfl⟩
theorem cs_L_40 : x_cV RL 40 yX6_call := ⟨x_in (k := 455) (by decide +kernel) rfl, x_in (k := 456) (by decide +kernel) rfl, x_in (k := 457) (by decide +kernel) rfl⟩
theorem cs_X6_131 : x_cV RX6 131 yX0_recall := ⟨x_in (k := 459) (by decide +kernel) rfl, x_in (k := 460) (by decide +kernel) rfl, x_in (k := 461) (by decide +kernel) rfl⟩
theorem cs_X0_75 : x_cS RX0 75 yJ9_min_7cf53 := ⟨x_in (k := 463) (by decide +kernel) rfl, x_in (k := 445) (by decide +kernel) rfl⟩
theorem cs_L_44 : x_cV RL 44 yX6_buy := ⟨x_in (k := 464) (by decide +kernel) rfl, x_in (k := 465) (by decide +kernel) rfl, x_in (k := 466) (by decide +kernel) rfl⟩
theorem cs_L_48 : x_cV RL 48 yX6_pass := ⟨x_in (k := 468) (by decide +kernel) rfl, x_in (k := 469) (by decide +kernel) rfl, x_in (k := 470) (by decide +kernel) rfl⟩
theorem cs_X6_140 : x_cV RX6 140 yX0_toldBits := ⟨x_in (k := 472) (by decide +kernel) rfl, x_in (k := 473) (by decide +kernel) rfl, x_in (k := 474) (by decide +kernel) rfl⟩
theorem cs_X6_143 : x_cS RX6 143 yJ6_bitCount_0f7a4 := ⟨x_in (k := 476) (by decide +kernel) rfl, x_in (k := 477) (by decide +kernel) rfl⟩
theorem cs_X6_148 : x_cV RX6 148 yX0_passDays := ⟨x_in (k := 482) (by decide +kernel) rfl, x_in (k := 483) (by decide +kernel) rfl, x_in (k := 484) (by decide +kernel) rfl⟩
theorem cs_X0_81 : x_cV RX0 81 yX0_passDay := ⟨x_in (k := 486) (by decide +kernel) rfl, x_in (k := 487) (by decide +kernel) rfl, x_in (k := 488) (by decide +kernel) rfl⟩
theorem cs_X0_88 : x_cV RX0 88 yX0_comeIn := ⟨x_in (k := 490) (by decide +kernel) rfl, x_in (k := 492) (by decide +kernel) rfl, x_in (k := 7) (by decide +kernel) rfl⟩
theorem cs_X0_95 : x_cV RX0 95 yX0_willRefuse := ⟨x_in (k := 494) (by decide +kernel) rfl, x_in (k := 496) (by decide +kernel) rfl, x_in (k := 8) (by decide +kernel) rfl⟩
theorem cs_X0_101 : x_cS RX0 101 yX0_eatingDays := ⟨x_in (k := 498) (by decide +kernel) rfl, x_in (k := 499) (by decide +kernel) rfl⟩
theorem cs_L_52 : x_cV RL 52 yX6_undo := ⟨x_in (k := 501) (by decide +kernel) rfl, x_in (k := 502) (by decide +kernel) rfl, x_in (k := 503) (by decide +kernel) rfl⟩
theorem cs_X6_151 : x_cV RX6 151 yX2_popInto := ⟨x_in (k := 505) (by decide +kernel) rfl, x_in (k := 506) (by decide +kernel) rfl, x_in (k := 507) (by decide +kernel) rfl⟩
theorem cs_L_56 : x_cV RL 56 yX6_behind := ⟨x_in (k := 509) (by decide +kernel) rfl, x_in (k := 510) (by decide +kernel) rfl, x_in (k := 511) (by decide +kernel) rfl⟩
theorem cs_X6_156 : x_cV RX6 156 yX0_copyFrom := ⟨x_in (k := 513) (by decide +kernel) rfl, x_in (k := 440) (by decide +kernel) rfl, x_in (k := 441) (by decide +kernel) rfl⟩
theorem cs_X6_159 : x_cV RX6 159 yX0_eatingBits := ⟨x_in (k := 514) (by decide +kernel) rfl, x_in (k := 515) (by decide +kernel) rfl, x_in (k := 516) (by decide +kernel) rfl⟩
theorem cs_L_60 : x_cV RL 60 yX6_when := ⟨x_in (k := 518) (by decide +kernel) rfl, x_in (k := 519) (by decide +kernel) rfl, x_in (k := 520) (by decide +kernel) rfl⟩
theorem cs_X6_165 : x_cV RX6 165 yX0_isTold := ⟨x_in (k := 522) (by decide +kernel) rfl, x_in (k := 432) (by decide +kernel) rfl, x_in (k := 433) (by decide +kernel) rfl⟩
theorem cs_X6_168 : x_cV RX6 168 yX0_passDay := ⟨x_in (k := 523) (by decide +kernel) rfl, x_in (k := 487) (by decide +kernel) rfl, x_in (k := 488) (by decide +kernel) rfl⟩
theorem cs_L_64 : x_cV RL 64 yX6_gentle := ⟨x_in (k := 524) (by decide +kernel) rfl, x_in (k := 525) (by decide +kernel) rfl, x_in (k := 526) (by decide +kernel) rfl⟩
theorem cs_X6_172 : x_cV RX6 172 yX0_finalWeight := ⟨x_in (k := 528) (by decide +kernel) rfl, x_in (k := 529) (by decide +kernel) rfl, x_in (k := 530) (by decide +kernel) rfl⟩
theorem cs_X0_116 : x_cV RX0 116 yX0_endsSoft := ⟨x_in (k := 532) (by decide +kernel) rfl, x_in (k := 533) (by decide +kernel) rfl, x_in (k := 534) (by decide +kernel) rfl⟩
theorem cs_X0_113 : x_cS RX0 113 yJ9_max_7cf53 := ⟨x_in (k := 536) (by decide +kernel) rfl, x_in (k := 182) (by decide +kernel) rfl⟩
theorem cs_X0_119 : x_cV RX0 119 yX0_spareDays := ⟨x_in (k := 537) (by decide +kernel) rfl, x_in (k := 538) (by decide +kernel) rfl, x_in (k := 539) (by decide +kernel) rfl⟩
theorem cs_L_68 : x_cV RL 68 yX6_latest := ⟨x_in (k := 541) (by decide +kernel) rfl, x_in (k := 542) (by decide +kernel) rfl, x_in (k := 543) (by decide +kernel) rfl⟩
theorem cs_X6_175 : x_cV RX6 175 yX0_canBeSentOne := ⟨x_in (k := 545) (by decide +kernel) rfl, x_in (k := 425) (by decide +kernel) rfl, x_in (k := 426) (by decide +kernel) rfl⟩
theorem cs_X6_178 : x_cV RX6 178 yX0_spareDays := ⟨x_in (k := 546) (by decide +kernel) rfl, x_in (k := 538) (by decide +kernel) rfl, x_in (k := 539) (by decide +kernel) rfl⟩
theorem cs_L_72 : x_cV RL 72 yX6_order := ⟨x_in (k := 547) (by decide +kernel) rfl, x_in (k := 548) (by decide +kernel) rfl, x_in (k := 549) (by decide +kernel) rfl⟩
theorem cs_X6_181 : x_cV RX6 181 yX1_run := ⟨x_in (k := 551) (by decide +kernel) rfl, x_in (k := 552) (by decide +kernel) rfl, x_in (k := 553) (by decide +kernel) rfl⟩
theorem cs_X1_34 : x_cV RX1 34 yX0_copyFrom := ⟨x_in (k := 555) (by decide +kernel) rfl, x_in (k := 440) (by decide +kernel) rfl, x_in (k := 441) (by decide +kernel) rfl⟩
theorem cs_X1_48 : x_cV RX1 48 yX0_canBeSentOne := ⟨x_in (k := 556) (by decide +kernel) rfl, x_in (k := 425) (by decide +kernel) rfl, x_in (k := 426) (by decide +kernel) rfl⟩
theorem cs_X1_52 : x_cS RX1 52 yJ6_bitCount_0f7a4 := ⟨x_in (k := 557) (by decide +kernel) rfl, x_in (k := 477) (by decide +kernel) rfl⟩
theorem cs_X1_58 : x_cS RX1 58 yX1_extend := ⟨x_in (k := 558) (by decide +kernel) rfl, x_in (k := 559) (by decide +kernel) rfl⟩
theorem cs_X1_62 : x_cV RX1 62 yX0_finalWeight := ⟨x_in (k := 561) (by decide +kernel) rfl, x_in (k := 529) (by decide +kernel) rfl, x_in (k := 530) (by decide +kernel) rfl⟩
theorem cs_X1_71 : x_cV RX1 71 yX0_canSendNow := ⟨x_in (k := 563) (by decide +kernel) rfl, x_in (k := 421) (by decide +kernel) rfl, x_in (k := 422) (by decide +kernel) rfl⟩
theorem cs_X1_74 : x_cV RX1 74 yX0_dispatch := ⟨x_in (k := 564) (by decide +kernel) rfl, x_in (k := 448) (by decide +kernel) rfl, x_in (k := 449) (by decide +kernel) rfl⟩
theorem cs_X1_78 : x_cV RX1 78 yX0_passDay := ⟨x_in (k := 565) (by decide +kernel) rfl, x_in (k := 487) (by decide +kernel) rfl, x_in (k := 488) (by decide +kernel) rfl⟩
theorem cs_L_76 : x_cV RL 76 yX6_need := ⟨x_in (k := 566) (by decide +kernel) rfl, x_in (k := 567) (by decide +kernel) rfl, x_in (k := 568) (by decide +kernel) rfl⟩
theorem cs_L_80 : x_cV RL 80 yX6_seen := ⟨x_in (k := 570) (by decide +kernel) rfl, x_in (k := 571) (by decide +kernel) rfl, x_in (k := 572) (by decide +kernel) rfl⟩
theorem cs_X6_190 : x_cV RX6 190 yX4_add := ⟨x_in (k := 574) (by decide +kernel) rfl, x_in (k := 575) (by decide +kernel) rfl, x_in (k := 576) (by decide +kernel) rfl⟩
theorem cs_L_85 : x_cV RL 85 yX6_forget := ⟨x_in (k := 578) (by decide +kernel) rfl, x_in (k := 579) (by decide +kernel) rfl, x_in (k := 580) (by decide +kernel) rfl⟩
theorem cs_L_89 : x_cV RL 89 yX6_kinds := ⟨x_in (k := 582) (by decide +kernel) rfl, x_in (k := 583) (by decide +kernel) rfl, x_in (k := 584) (by decide +kernel) rfl⟩
theorem cs_X6_199 : x_cV RX6 199 yX6_guessFits := ⟨x_in (k := 586) (by decide +kernel) rfl, x_in (k := 588) (by decide +kernel) rfl, x_in (k := 9) (by decide +kernel) rfl⟩
theorem cs_X6_235 : x_cV RX6 235 yX4_allHold := ⟨x_in (k := 590) (by decide +kernel) rfl, x_in (k := 591) (by decide +kernel) rfl, x_in (k := 592) (by decide +kernel) rfl⟩
theorem cs_X4_26 : x_cS RX4 26 yJ9_max_7cf53 := ⟨x_in (k := 594) (by decide +kernel) rfl, x_in (k := 182) (by decide +kernel) rfl⟩
theorem cs_X4_32 : x_cV RX4 32 yX4_holdAfter := ⟨x_in (k := 595) (by decide +kernel) rfl, x_in (k := 597) (by decide +kernel) rfl, x_in (k := 10) (by decide +kernel) rfl⟩
theorem cs_X4_42 : x_cV RX4 42 yX0_isTold := ⟨x_in (k := 599) (by decide +kernel) rfl, x_in (k := 432) (by decide +kernel) rfl, x_in (k := 433) (by decide +kernel) rfl⟩
theorem cs_X4_36 : x_cV RX4 36 yX0_passDay := ⟨x_in (k := 600) (by decide +kernel) rfl, x_in (k := 487) (by decide +kernel) rfl, x_in (k := 488) (by decide +kernel) rfl⟩
theorem cs_L_93 : x_cV RL 93 yX6_days := ⟨x_in (k := 601) (by decide +kernel) rfl, x_in (k := 602) (by decide +kernel) rfl, x_in (k := 603) (by decide +kernel) rfl⟩
theorem cs_L_97 : x_cV RL 97 yX6_likely := ⟨x_in (k := 605) (by decide +kernel) rfl, x_in (k := 606) (by decide +kernel) rfl, x_in (k := 607) (by decide +kernel) rfl⟩
theorem cs_X6_206 : x_cV RX6 206 yX6_softWithFrosts := ⟨x_in (k := 609) (by decide +kernel) rfl, x_in (k := 611) (by decide +kernel) rfl, x_in (k := 11) (by decide +kernel) rfl⟩
theorem cs_X6_238 : x_cV RX6 238 yX0_endsSoft := ⟨x_in (k := 613) (by decide +kernel) rfl, x_in (k := 533) (by decide +kernel) rfl, x_in (k := 534) (by decide +kernel) rfl⟩
theorem cs_X6_210 : x_cS RX6 210 yX6_weightOfFrosts := ⟨x_in (k := 614) (by decide +kernel) rfl, x_in (k := 615) (by decide +kernel) rfl⟩
theorem cs_X6_214 : x_cS RX6 214 yX6_greatestDivisor := ⟨x_in (k := 617) (by decide +kernel) rfl, x_in (k := 618) (by decide +kernel) rfl⟩
theorem cs_L_102 : x_cV RL 102 yX6_year := ⟨x_in (k := 620) (by decide +kernel) rfl, x_in (k := 621) (by decide +kernel) rfl, x_in (k := 622) (by decide +kernel) rfl⟩
theorem cs_X6_217 : x_cS RX6 217 yX6_draw := ⟨x_in (k := 624) (by decide +kernel) rfl, x_in (k := 625) (by decide +kernel) rfl⟩
theorem cs_X6_220 : x_cV RX6 220 yX0_actByDraw := ⟨x_in (k := 631) (by decide +kernel) rfl, x_in (k := 632) (by decide +kernel) rfl, x_in (k := 633) (by decide +kernel) rfl⟩
theorem cs_X0_104 : x_cV RX0 104 yX0_canSendNow := ⟨x_in (k := 635) (by decide +kernel) rfl, x_in (k := 421) (by decide +kernel) rfl, x_in (k := 422) (by decide +kernel) rfl⟩
theorem cs_X0_107 : x_cV RX0 107 yX0_dispatch := ⟨x_in (k := 636) (by decide +kernel) rfl, x_in (k := 448) (by decide +kernel) rfl, x_in (k := 449) (by decide +kernel) rfl⟩
theorem cs_X0_110 : x_cV RX0 110 yX0_recall := ⟨x_in (k := 637) (by decide +kernel) rfl, x_in (k := 460) (by decide +kernel) rfl, x_in (k := 461) (by decide +kernel) rfl⟩
theorem cs_X6_223 : x_cV RX6 223 yX0_softWeight := ⟨x_in (k := 638) (by decide +kernel) rfl, x_in (k := 639) (by decide +kernel) rfl, x_in (k := 640) (by decide +kernel) rfl⟩
theorem cs_L_106 : x_cV RL 106 yX6_keep := ⟨x_in (k := 642) (by decide +kernel) rfl, x_in (k := 643) (by decide +kernel) rfl, x_in (k := 644) (by decide +kernel) rfl⟩
theorem cs_L_110 : x_cV RL 110 yX6_back := ⟨x_in (k := 646) (by decide +kernel) rfl, x_in (k := 647) (by decide +kernel) rfl, x_in (k := 648) (by decide +kernel) rfl⟩
theorem cs_L_114 : x_cV RL 114 yX6_count := ⟨x_in (k := 650) (by decide +kernel) rfl, x_in (k := 651) (by decide +kernel) rfl, x_in (k := 652) (by decide +kernel) rfl⟩
theorem cs_X6_226 : x_cV RX6 226 yX0_allOnWay := ⟨x_in (k := 654) (by decide +kernel) rfl, x_in (k := 655) (by decide +kernel) rfl, x_in (k := 656) (by decide +kernel) rfl⟩
theorem cs_L_12 : x_cI RL 12 yX7_init := ⟨x_in (k := 660) (by decide +kernel) rfl, x_in (k := 661) (by decide +kernel) rfl, rfl⟩
theorem cs_X7_76 : x_cV RX7 76 yX7_firstOne := ⟨x_in (k := 664) (by decide +kernel) rfl, x_in (k := 666) (by decide +kernel) rfl, x_in (k := 12) (by decide +kernel) rfl⟩
theorem cs_X7_80 : x_cV RX7 80 yX7_begin := ⟨x_in (k := 668) (by decide +kernel) rfl, x_in (k := 670) (by decide +kernel) rfl, x_in (k := 13) (by decide +kernel) rfl⟩
theorem cs_L_17 : x_cV RL 17 yX7_write := ⟨x_in (k := 781) (by decide +kernel) rfl, x_in (k := 782) (by decide +kernel) rfl, x_in (k := 783) (by decide +kernel) rfl⟩
theorem cs_X7_100 : x_cS RX7 100 yX7_in := ⟨x_in (k := 785) (by decide +kernel) rfl, x_in (k := 786) (by decide +kernel) rfl⟩
theorem cs_L_22 : x_cV RL 22 yX7_wipe := ⟨x_in (k := 788) (by decide +kernel) rfl, x_in (k := 789) (by decide +kernel) rfl, x_in (k := 790) (by decide +kernel) rfl⟩
theorem cs_L_26 : x_cV RL 26 yX7_fault := ⟨x_in (k := 792) (by decide +kernel) rfl, x_in (k := 793) (by decide +kernel) rfl, x_in (k := 794) (by decide +kernel) rfl⟩
theorem cs_X7_136 : x_cV RX7 136 yX7_readsItem := ⟨x_in (k := 796) (by decide +kernel) rfl, x_in (k := 798) (by decide +kernel) rfl, x_in (k := 14) (by decide +kernel) rfl⟩
theorem cs_X7_110 : x_cV RX7 110 yX7_here := ⟨x_in (k := 800) (by decide +kernel) rfl, x_in (k := 802) (by decide +kernel) rfl, x_in (k := 15) (by decide +kernel) rfl⟩
theorem cs_X7_130 : x_cV RX7 130 yX7_readsOne := ⟨x_in (k := 804) (by decide +kernel) rfl, x_in (k := 806) (by decide +kernel) rfl, x_in (k := 16) (by decide +kernel) rfl⟩
theorem cs_X7_124 : x_cV RX7 124 yX7_number := ⟨x_in (k := 808) (by decide +kernel) rfl, x_in (k := 810) (by decide +kernel) rfl, x_in (k := 17) (by decide +kernel) rfl⟩
theorem cs_X7_114 : x_cV RX7 114 yX7_isFigure := ⟨x_in (k := 812) (by decide +kernel) rfl, x_in (k := 814) (by decide +kernel) rfl, x_in (k := 18) (by decide +kernel) rfl⟩
theorem cs_X7_133 : x_cV RX7 133 yX7_readsStock := ⟨x_in (k := 816) (by decide +kernel) rfl, x_in (k := 818) (by decide +kernel) rfl, x_in (k := 19) (by decide +kernel) rfl⟩
theorem cs_L_30 : x_cV RL 30 yX7_lay := ⟨x_in (k := 820) (by decide +kernel) rfl, x_in (k := 821) (by decide +kernel) rfl, x_in (k := 822) (by decide +kernel) rfl⟩
theorem cs_X7_139 : x_cV RX7 139 yX7_fault := ⟨x_in (k := 824) (by decide +kernel) rfl, x_in (k := 793) (by decide +kernel) rfl, x_in (k := 794) (by decide +kernel) rfl⟩
theorem cs_L_35 : x_cV RL 35 yX7_person := ⟨x_in (k := 825) (by decide +kernel) rfl, x_in (k := 826) (by decide +kernel) rfl, x_in (k := 827) (by decide +kernel) rfl⟩
theorem cs_X7_162 : x_cV RX7 162 yX7_isOne := ⟨x_in (k := 829) (by decide +kernel) rfl, x_in (k := 831) (by decide +kernel) rfl, x_in (k := 20) (by decide +kernel) rfl⟩
theorem cs_X7_166 : x_cV RX7 166 yX7_personTells := ⟨x_in (k := 833) (by decide +kernel) rfl, x_in (k := 835) (by decide +kernel) rfl, x_in (k := 21) (by decide +kernel) rfl⟩
theorem cs_L_39 : x_cV RL 39 yX7_send := ⟨x_in (k := 837) (by decide +kernel) rfl, x_in (k := 838) (by decide +kernel) rfl, x_in (k := 839) (by decide +kernel) rfl⟩
theorem cs_X7_182 : x_cV RX7 182 yX7_maySend := ⟨x_in (k := 841) (by decide +kernel) rfl, x_in (k := 843) (by decide +kernel) rfl, x_in (k := 22) (by decide +kernel) rfl⟩
theorem cs_X7_173 : x_cV RX7 173 yX7_isOpen := ⟨x_in (k := 845) (by decide +kernel) rfl, x_in (k := 847) (by decide +kernel) rfl, x_in (k := 23) (by decide +kernel) rfl⟩
theorem cs_X7_185 : x_cV RX7 185 yX7_notes := ⟨x_in (k := 849) (by decide +kernel) rfl, x_in (k := 851) (by decide +kernel) rfl, x_in (k := 24) (by decide +kernel) rfl⟩
theorem cs_X7_169 : x_cV RX7 169 yX7_lays := ⟨x_in (k := 853) (by decide +kernel) rfl, x_in (k := 855) (by decide +kernel) rfl, x_in (k := 25) (by decide +kernel) rfl⟩
theorem cs_X7_188 : x_cV RX7 188 yX7_sends := ⟨x_in (k := 857) (by decide +kernel) rfl, x_in (k := 859) (by decide +kernel) rfl, x_in (k := 26) (by decide +kernel) rfl⟩
theorem cs_X7_176 : x_cV RX7 176 yX7_goesOut := ⟨x_in (k := 861) (by decide +kernel) rfl, x_in (k := 863) (by decide +kernel) rfl, x_in (k := 27) (by decide +kernel) rfl⟩
theorem cs_L_43 : x_cV RL 43 yX7_call := ⟨x_in (k := 865) (by decide +kernel) rfl, x_in (k := 866) (by decide +kernel) rfl, x_in (k := 867) (by decide +kernel) rfl⟩
theorem cs_X7_191 : x_cV RX7 191 yX7_calls := ⟨x_in (k := 869) (by decide +kernel) rfl, x_in (k := 871) (by decide +kernel) rfl, x_in (k := 28) (by decide +kernel) rfl⟩
theorem cs_X7_179 : x_cS RX7 179 yX7_lesser := ⟨x_in (k := 873) (by decide +kernel) rfl, x_in (k := 874) (by decide +kernel) rfl⟩
theorem cs_L_47 : x_cV RL 47 yX7_buy := ⟨x_in (k := 876) (by decide +kernel) rfl, x_in (k := 877) (by decide +kernel) rfl, x_in (k := 878) (by decide +kernel) rfl⟩
theorem cs_L_51 : x_cV RL 51 yX7_pass := ⟨x_in (k := 880) (by decide +kernel) rfl, x_in (k := 881) (by decide +kernel) rfl, x_in (k := 882) (by decide +kernel) rfl⟩
theorem cs_X7_194 : x_cV RX7 194 yX7_goesOn := ⟨x_in (k := 884) (by decide +kernel) rfl, x_in (k := 886) (by decide +kernel) rfl, x_in (k := 29) (by decide +kernel) rfl⟩
theorem cs_X7_158 : x_cV RX7 158 yX7_passes := ⟨x_in (k := 888) (by decide +kernel) rfl, x_in (k := 890) (by decide +kernel) rfl, x_in (k := 30) (by decide +kernel) rfl⟩
theorem cs_X7_155 : x_cV RX7 155 yX7_comesIn := ⟨x_in (k := 892) (by decide +kernel) rfl, x_in (k := 894) (by decide +kernel) rfl, x_in (k := 31) (by decide +kernel) rfl⟩
theorem cs_X7_151 : x_cS RX7 151 yX7_eatsBy := ⟨x_in (k := 896) (by decide +kernel) rfl, x_in (k := 897) (by decide +kernel) rfl⟩
theorem cs_L_55 : x_cV RL 55 yX7_undo := ⟨x_in (k := 899) (by decide +kernel) rfl, x_in (k := 900) (by decide +kernel) rfl, x_in (k := 901) (by decide +kernel) rfl⟩
theorem cs_X7_198 : x_cV RX7 198 yX7_takes := ⟨x_in (k := 903) (by decide +kernel) rfl, x_in (k := 905) (by decide +kernel) rfl, x_in (k := 32) (by decide +kernel) rfl⟩
theorem cs_L_59 : x_cV RL 59 yX7_behind := ⟨x_in (k := 907) (by decide +kernel) rfl, x_in (k := 908) (by decide +kernel) rfl, x_in (k := 909) (by decide +kernel) rfl⟩
theorem cs_X7_201 : x_cV RX7 201 yX7_start := ⟨x_in (k := 911) (by decide +kernel) rfl, x_in (k := 913) (by decide +kernel) rfl, x_in (k := 33) (by decide +kernel) rfl⟩
theorem cs_X7_204 : x_cV RX7 204 yX7_eatSet := ⟨x_in (k := 915) (by decide +kernel) rfl, x_in (k := 917) (by decide +kernel) rfl, x_in (k := 34) (by decide +kernel) rfl⟩
theorem cs_X7_207 : x_cV RX7 207 yX7_toldSet := ⟨x_in (k := 919) (by decide +kernel) rfl, x_in (k := 921) (by decide +kernel) rfl, x_in (k := 35) (by decide +kernel) rfl⟩
theorem cs_X7_210 : x_cV RX7 210 yX7_softSet := ⟨x_in (k := 923) (by decide +kernel) rfl, x_in (k := 925) (by decide +kernel) rfl, x_in (k := 36) (by decide +kernel) rfl⟩
theorem cs_X7_213 : x_cV RX7 213 yX7_putBack := ⟨x_in (k := 927) (by decide +kernel) rfl, x_in (k := 929) (by decide +kernel) rfl, x_in (k := 37) (by decide +kernel) rfl⟩
theorem cs_L_63 : x_cV RL 63 yX7_when := ⟨x_in (k := 931) (by decide +kernel) rfl, x_in (k := 932) (by decide +kernel) rfl, x_in (k := 933) (by decide +kernel) rfl⟩
theorem cs_L_67 : x_cV RL 67 yX7_gentle := ⟨x_in (k := 935) (by decide +kernel) rfl, x_in (k := 936) (by decide +kernel) rfl, x_in (k := 937) (by decide +kernel) rfl⟩
theorem cs_X7_216 : x_cV RX7 216 yX7_softWeight := ⟨x_in (k := 939) (by decide +kernel) rfl, x_in (k := 941) (by decide +kernel) rfl, x_in (k := 38) (by decide +kernel) rfl⟩
theorem cs_L_71 : x_cV RL 71 yX7_latest := ⟨x_in (k := 943) (by decide +kernel) rfl, x_in (k := 944) (by decide +kernel) rfl, x_in (k := 945) (by decide +kernel) rfl⟩
theorem cs_X7_219 : x_cV RX7 219 yX7_isSoftBy := ⟨x_in (k := 947) (by decide +kernel) rfl, x_in (k := 949) (by decide +kernel) rfl, x_in (k := 39) (by decide +kernel) rfl⟩
theorem cs_L_75 : x_cV RL 75 yX7_order := ⟨x_in (k := 951) (by decide +kernel) rfl, x_in (k := 952) (by decide +kernel) rfl, x_in (k := 953) (by decide +kernel) rfl⟩
theorem cs_X7_235 : x_cV RX7 235 yX7_mostBy := ⟨x_in (k := 955) (by decide +kernel) rfl, x_in (k := 957) (by decide +kernel) rfl, x_in (k := 40) (by decide +kernel) rfl⟩
theorem cs_X7_226 : x_cV RX7 226 yX7_firstRow := ⟨x_in (k := 959) (by decide +kernel) rfl, x_in (k := 961) (by decide +kernel) rfl, x_in (k := 41) (by decide +kernel) rfl⟩
theorem cs_X7_229 : x_cV RX7 229 yX7_gentleBy := ⟨x_in (k := 963) (by decide +kernel) rfl, x_in (k := 965) (by decide +kernel) rfl, x_in (k := 42) (by decide +kernel) rfl⟩
theorem cs_X7_232 : x_cV RX7 232 yX7_nextRow := ⟨x_in (k := 967) (by decide +kernel) rfl, x_in (k := 969) (by decide +kernel) rfl, x_in (k := 43) (by decide +kernel) rfl⟩
theorem cs_L_79 : x_cV RL 79 yX7_need := ⟨x_in (k := 971) (by decide +kernel) rfl, x_in (k := 972) (by decide +kernel) rfl, x_in (k := 973) (by decide +kernel) rfl⟩
theorem cs_L_84 : x_cV RL 84 yX7_seen := ⟨x_in (k := 975) (by decide +kernel) rfl, x_in (k := 976) (by decide +kernel) rfl, x_in (k := 977) (by decide +kernel) rfl⟩
theorem cs_L_88 : x_cV RL 88 yX7_forget := ⟨x_in (k := 979) (by decide +kernel) rfl, x_in (k := 980) (by decide +kernel) rfl, x_in (k := 981) (by decide +kernel) rfl⟩
theorem cs_L_92 : x_cV RL 92 yX7_kinds := ⟨x_in (k := 983) (by decide +kernel) rfl, x_in (k := 984) (by decide +kernel) rfl, x_in (k := 985) (by decide +kernel) rfl⟩
theorem cs_X7_238 : x_cV RX7 238 yX7_isSo := ⟨x_in (k := 987) (by decide +kernel) rfl, x_in (k := 989) (by decide +kernel) rfl, x_in (k := 44) (by decide +kernel) rfl⟩
theorem cs_L_96 : x_cV RL 96 yX7_days := ⟨x_in (k := 991) (by decide +kernel) rfl, x_in (k := 992) (by decide +kernel) rfl, x_in (k := 993) (by decide +kernel) rfl⟩
theorem cs_L_101 : x_cV RL 101 yX7_likely := ⟨x_in (k := 995) (by decide +kernel) rfl, x_in (k := 996) (by decide +kernel) rfl, x_in (k := 997) (by decide +kernel) rfl⟩
theorem cs_X7_243 : x_cS RX7 243 yX7_has := ⟨x_in (k := 1000) (by decide +kernel) rfl, x_in (k := 1001) (by decide +kernel) rfl⟩
theorem cs_X7_246 : x_cS RX7 246 yX7_common := ⟨x_in (k := 1003) (by decide +kernel) rfl, x_in (k := 1004) (by decide +kernel) rfl⟩
theorem cs_L_105 : x_cV RL 105 yX7_year := ⟨x_in (k := 1006) (by decide +kernel) rfl, x_in (k := 1007) (by decide +kernel) rfl, x_in (k := 1008) (by decide +kernel) rfl⟩
theorem cs_X7_258 : x_cS RX7 258 yX7_bits := ⟨x_in (k := 1014) (by decide +kernel) rfl, x_in (k := 1015) (by decide +kernel) rfl⟩
theorem cs_L_109 : x_cV RL 109 yX7_keep := ⟨x_in (k := 1017) (by decide +kernel) rfl, x_in (k := 1018) (by decide +kernel) rfl, x_in (k := 1019) (by decide +kernel) rfl⟩
theorem cs_L_113 : x_cV RL 113 yX7_back := ⟨x_in (k := 1021) (by decide +kernel) rfl, x_in (k := 1022) (by decide +kernel) rfl, x_in (k := 1023) (by decide +kernel) rfl⟩
theorem cs_L_117 : x_cV RL 117 yX7_count := ⟨x_in (k := 1025) (by decide +kernel) rfl, x_in (k := 1026) (by decide +kernel) rfl, x_in (k := 1027) (by decide +kernel) rfl⟩
theorem cs_X7_261 : x_cV RX7 261 yX7_sumOf := ⟨x_in (k := 1029) (by decide +kernel) rfl, x_in (k := 1031) (by decide +kernel) rfl, x_in (k := 45) (by decide +kernel) rfl⟩
end
section
theorem x_cof {ci : Nat} {C : String} {T : u_T} {N : Nat} (h : x_cl[ci]? = some (C, T, N)) : ∃ ty, x_co ci C T N ty := by
  match ci, h with
  | 0, h => cases h; exact ⟨_, x_co0⟩
  | 1, h => cases h; exact ⟨_, x_co1⟩
  | 2, h => cases h; exact ⟨_, x_co2⟩
  | 3, h => cases h; exact ⟨_, x_co3⟩
  | 4, h => cases h; exact ⟨_, x_co4⟩
  | 5, h => cases h; exact ⟨_, x_co5⟩
  | 6, h => cases h; exact ⟨_, x_co6⟩
  | 7, h => cases h; exact ⟨_, x_co7⟩
  | k + 8, h => simp at h
section
variable {l : Launch} {own : String} {cc : ByteArray} {nL : Nat} {ret : Option FieldType} {ini : Bool} {d mc ms : Nat} {Q : xP} {n cu su pc : Nat} {lv lv' : List (Nat × xV)} {st : List xV} {ρ : xMr} {σ : xMi} {t i ci k idx : Nat}
theorem x_fs_get {B : Nat} {N : Nat} (hN : N = x_nf ci) (hk : k < N) : ((List.range (x_nf ci)).map (x_fv B ρ σ t i ci))[k]? = some (x_fv B ρ σ t i ci k) := by
  subst hN; simp [hk]
theorem x_getV {v : xV} (hd : decode cc pc = .ok (.getfield idx, 3)) (hf : x_fl own idx ci k) (hv : x_vd n t i) (hs : x_sh t = .inr ci) (hw : ∀ B, x_fv B ρ σ t i ci k = x_tv B v) (kk : xGo l own cc nL ret ini d mc ms Q n cu su (pc + 3) lv (v :: st) ρ σ) : xGo l own cc nL ret ini d mc ms Q n cu su pc lv (xR t i :: st) ρ σ := by
  intro p e s m args below meth c B D cy zz H locs ls hC hR hS hl
  obtain ⟨C, T, N, hc, hk, hlink⟩ := hf
  obtain ⟨ty, h1, h2, h3, h4, h5⟩ := x_cof hc
  have he := x_wl_vd B cy ρ σ hv
  rw [x_ce_o hs] at he
  exact va_get (D := D) (ci := ci) (v := x_tv B v) (C := C) (T := T) (N := N) hC.1 hC.2.1 hC.2.2.2.2.1 h1 hC.2.2.2.1 hC.2.2.2.2.2.2.2.2.1 hR.1 (x_od t i) he hc k hk (hC.2.2.2.2.1 _ hlink) (fun _ h9 => h9) ((x_fs_get h4 hk).trans (congrArg some (hw B))) hd (kk p e s m args below meth c B D cy zz H locs ls hC hR hS hl)
theorem g_getI (hd : decode cc pc = .ok (.getfield idx, 3)) (hf : x_fl own idx ci k) (hv : x_vd n t i) (hs : x_sh t = .inr ci) (hk : x_kd ci k = 0) (kk : xGo l own cc nL ret ini d mc ms Q n cu su (pc + 3) lv (xI (σ t i k) :: st) ρ σ) : xGo l own cc nL ret ini d mc ms Q n cu su pc lv (xR t i :: st) ρ σ :=
  x_getV hd hf hv hs (fun B => by simp [x_fv, hk, x_tv]) kk
theorem g_getZ (hd : decode cc pc = .ok (.getfield idx, 3)) (hf : x_fl own idx ci k) (hv : x_vd n t i) (hs : x_sh t = .inr ci) (hk : x_kd ci k = 2) (kk : xGo l own cc nL ret ini d mc ms Q n cu su (pc + 3) lv (xI (x_bn (σ t i k)) :: st) ρ σ) : xGo l own cc nL ret ini d mc ms Q n cu su pc lv (xR t i :: st) ρ σ :=
  x_getV hd hf hv hs (fun B => by simp [x_fv, hk, x_tv]) kk
theorem g_getR {t2 i2 : Nat} (hd : decode cc pc = .ok (.getfield idx, 3)) (hf : x_fl own idx ci k) (hv : x_vd n t i) (hs : x_sh t = .inr ci) (hk : x_kd ci k = 1) (hr : ρ t i k = some (t2, i2)) (kk : xGo l own cc nL ret ini d mc ms Q n cu su (pc + 3) lv (xR t2 i2 :: st) ρ σ) : xGo l own cc nL ret ini d mc ms Q n cu su pc lv (xR t i :: st) ρ σ :=
  x_getV hd hf hv hs (fun B => by simp [x_fv, hk, x_tv, hr, va_rf]) kk
theorem x_fs_set {B : Nat} {ρ' : xMr} {σ' : xMi} {v : Value} (hN : k < x_nf ci) (hv : v = x_fv B ρ' σ' t i ci k) (ho : ∀ k', k' ≠ k → x_fv B ρ' σ' t i ci k' = x_fv B ρ σ t i ci k') : ((List.range (x_nf ci)).map (x_fv B ρ σ t i ci)).set k v = (List.range (x_nf ci)).map (x_fv B ρ' σ' t i ci) := by
  apply List.ext_getElem?
  intro j
  by_cases hj : j < x_nf ci
  · by_cases hk : j = k
    · subst hk
      rw [List.getElem?_set_self (by simpa using hj), x_fs_get rfl hj, hv]
    · rw [List.getElem?_set_ne (fun z => hk z.symm), x_fs_get rfl hj, x_fs_get rfl hj, ho j hk]
  · rw [List.getElem?_eq_none (by simpa using hj), List.getElem?_eq_none (by simpa using hj)]
/-- a field of whole numbers or a boolean is written -/
theorem x_putV {a : Int} {ty1 : FieldType} (hd : decode cc pc = .ok (.putfield idx, 3)) (hf : x_fl own idx ci k) (hv : x_vd n t i) (hs : x_sh t = .inr ci) (hk : ∀ C T N ty, x_co ci C T N ty → k < N → ty k = ty1 ∧ (T k).2.2.2 = false) (hn : narrow ty1 (.int (Int32.ofInt a)) = .int (Int32.ofInt a)) (hfit : fits ty1 (.int (Int32.ofInt a)) = true) (hw : ∀ B, x_fv B ρ (x_up σ t i k a) t i ci k = .int (Int32.ofInt a)) (kk : xGo l own cc nL ret ini d mc ms Q n cu su (pc + 3) lv st ρ (x_up σ t i k a)) : xGo l own cc nL ret ini d mc ms Q n cu su pc lv (xI a :: xR t i :: st) ρ σ := by
  intro p e s m args below meth c B D cy zz H locs ls hC hR hS hl
  obtain ⟨C, T, N, hc, hkN, hlink⟩ := hf
  obtain ⟨ty, hco⟩ := x_cof hc
  have h6 := hk C T N ty hco hkN
  obtain ⟨h1, h2, h3, h4, h5⟩ := hco
  have he := x_wl_vd B cy ρ σ hv
  rw [x_ce_o hs] at he
  refine va_put (D := D) (ci := ci) (v := .int (Int32.ofInt a)) (ty := ty1) (C := C) (T := T) (N := N) hC.1 hC.2.1 hC.2.2.2.2.1 h1 ty h2 h3 hC.2.2.2.1 hC.2.2.2.2.2.2.2.2.1 hR.1 (x_wl_D B cy n ρ σ) hS.1 (x_od t i) he hc k hkN (hC.2.2.2.2.1 _ hlink) (fun _ h9 => h9) h6.2 (by rw [h2 k hkN, h6.1]) hn hfit (by rw [List.length_map, List.length_range, ← h4]; exact hkN) hd (fun H1 locs1 hP1 hD1 hS1 => ?_)
  rw [x_wl_set B cy (ρ' := ρ) (σ' := x_up σ t i k a) hR.2 hv] at hP1
  · exact kk p e s m args below meth c B D cy zz H1 locs1 ls hC ⟨hP1, hR.2⟩ ⟨hS1, hS.2⟩ hl
  · rw [x_ce_o hs]
    congr 2
    refine x_fs_set (h4 ▸ hkN) (hw B).symm (fun k' hk' => ?_)
    simp only [x_fv, x_up_s, if_neg hk']
  · intro t' i' ho
    exact x_ce_eq (fun _ => rfl) (fun k' => x_up_o ho k')
theorem g_putI {a : Int} (hd : decode cc pc = .ok (.putfield idx, 3)) (hf : x_fl own idx ci k) (hv : x_vd n t i) (hs : x_sh t = .inr ci) (hk : x_kd ci k = 0) (kk : xGo l own cc nL ret ini d mc ms Q n cu su (pc + 3) lv st ρ (x_up σ t i k a)) : xGo l own cc nL ret ini d mc ms Q n cu su pc lv (xI a :: xR t i :: st) ρ σ :=
  x_putV (ty1 := .int) hd hf hv hs (fun C T N ty h hkN => (h.2.2.2.2 k hkN).1 hk) rfl rfl (fun B => by simp [x_fv, hk, x_up]) kk
theorem g_putZ {a : Int} (hd : decode cc pc = .ok (.putfield idx, 3)) (hf : x_fl own idx ci k) (hv : x_vd n t i) (hs : x_sh t = .inr ci) (hk : x_kd ci k = 2) (ha : x_bn a = a) (kk : xGo l own cc nL ret ini d mc ms Q n cu su (pc + 3) lv st ρ (x_up σ t i k a)) : xGo l own cc nL ret ini d mc ms Q n cu su pc lv (xI a :: xR t i :: st) ρ σ := by
  have h01 : a = 0 ∨ a = 1 := by unfold x_bn at ha; split at ha <;> omega
  refine x_putV (ty1 := .boolean) hd hf hv hs (fun C T N ty h hkN => (h.2.2.2.2 k hkN).2.1 hk) ?_ ?_ (fun B => by simp [x_fv, hk, x_up, ha]) kk
  · rcases h01 with rfl | rfl <;> rfl
  · rcases h01 with rfl | rfl <;> rfl
/-- a final field of an object that is being made -/
theorem g_putR {t2 i2 : Nat} (hi : ini = true) (hd : decode cc pc = .ok (.putfield idx, 3)) (hf : x_fl own idx ci k) (hv : x_vd n t i) (hs : x_sh t = .inr ci) (hk : x_kd ci k = 1) (hown : ∀ q, x_cl[ci]? = some q → q.1 = own) (kk : xGo l own cc nL ret ini d mc ms Q n cu su (pc + 3) lv st (x_ur ρ t i k (some (t2, i2))) σ) : xGo l own cc nL ret ini d mc ms Q n cu su pc lv (xR t2 i2 :: xR t i :: st) ρ σ := by
  intro p e s m args below meth c B D cy zz H locs ls hC hR hS hl
  obtain ⟨C, T, N, hc, hkN, hlink⟩ := hf
  obtain ⟨ty, h1, h2, h3, h4, h5⟩ := x_cof hc
  have h6 := (h5 k hkN).2.2 hk
  have he := x_wl_vd B cy ρ σ hv
  rw [x_ce_o hs] at he
  have hfn : narrow (ty k) (.ref (B + x_od t2 i2)) = .ref (B + x_od t2 i2) ∧ fits (ty k) (.ref (B + x_od t2 i2)) = true := by
    have h7 := h6.2.2
    revert h7
    cases ty k <;> intro h7 <;> first | exact ⟨rfl, rfl⟩ | cases h7
  refine va_putF (D := D) (ci := ci) (v := .ref (B + x_od t2 i2)) (ty := ty k) (C := C) (T := T) (N := N) hC.1 hC.2.1 hC.2.2.2.2.1 h1 ty h2 h3 hC.2.2.2.1 hC.2.2.2.2.2.2.2.2.1 hR.1 (x_wl_D B cy n ρ σ) hS.1 (x_od t i) he hc k hkN (hC.2.2.2.2.1 _ hlink) (fun _ h9 => h9) h6.1 (hC.2.2.2.2.2.2.2.1 hi) (h6.2.1.trans (hown _ hc)) (h2 k hkN) hfn.1 hfn.2 (by rw [List.length_map, List.length_range, ← h4]; exact hkN) hd (fun H1 locs1 hP1 hD1 hS1 => ?_)
  rw [x_wl_set B cy (ρ' := x_ur ρ t i k (some (t2, i2))) (σ' := σ) hR.2 hv] at hP1
  · exact kk p e s m args below meth c B D cy zz H1 locs1 ls hC ⟨hP1, hR.2⟩ ⟨hS1, hS.2⟩ hl
  · rw [x_ce_o hs]
    congr 2
    refine x_fs_set (h4 ▸ hkN) ?_ (fun k' hk' => ?_)
    · simp [x_fv, hk, x_ur, va_rf]
    · simp only [x_fv, x_ur_s, if_neg hk']
  · intro t' i' ho
    exact x_ce_eq (fun k' => x_ur_o ho k') (fun _ => rfl)
/-! arrays -/
theorem x_ln_lt (t i : Nat) : x_ln t i < 2147483648 := by
  unfold x_ln; (repeat' split) <;> omega
theorem g_iald {a : Int} (j : Nat) (hd : decode cc pc = .ok (.iaload, 1)) (ha : a = (j : Int)) (hj : j < x_ln t i) (hv : x_vd n t i) (hs : x_sh t = .inl 0) (kk : xGo l own cc nL ret ini d mc ms Q n cu su (pc + 1) lv (xI (σ t i j) :: st) ρ σ) : xGo l own cc nL ret ini d mc ms Q n cu su pc lv (xI a :: xR t i :: st) ρ σ := by
  intro p e s m args below meth c B D cy zz H locs ls hC hR hS hl
  subst ha
  have he := x_wl_vd B cy ρ σ hv
  rw [x_ce_a hs (by omega)] at he
  have hb : x_ln t i < 2147483648 := x_ln_lt t i
  refine va_iald (f := fun k => Int32.ofInt (σ t i k)) hC.1 hC.2.1 hC.2.2.2.2.2.2.2.2.1 hR.1 (x_od t i) 0 he rfl (x_vin hj hb) hd ?_
  refine x_to (congrArg (fun q => Int32.ofInt (σ t i q)) (x_clamp (by omega))) ?_
  exact kk p e s m args below meth c B D cy zz H locs ls hC hR hS hl
theorem g_cald {a : Int} (j : Nat) (hd : decode cc pc = .ok (.caload, 1)) (ha : a = (j : Int)) (hj : j < x_ln t i) (hv : x_vd n t i) (hs : x_sh t = .inl 1) (kk : xGo l own cc nL ret ini d mc ms Q n cu su (pc + 1) lv (xI (σ t i j) :: st) ρ σ) : xGo l own cc nL ret ini d mc ms Q n cu su pc lv (xI a :: xR t i :: st) ρ σ := by
  intro p e s m args below meth c B D cy zz H locs ls hC hR hS hl
  subst ha
  have he := x_wl_vd B cy ρ σ hv
  rw [x_ce_a hs (by omega)] at he
  have hb : x_ln t i < 2147483648 := x_ln_lt t i
  refine va_cald (f := fun k => Int32.ofInt (σ t i k)) hC.1 hC.2.1 hC.2.2.2.2.2.2.2.2.1 hR.1 (x_od t i) 1 he rfl (x_vin hj hb) hd ?_
  refine x_to (congrArg (fun q => Int32.ofInt (σ t i q)) (x_clamp (by omega))) ?_
  exact kk p e s m args below meth c B D cy zz H locs ls hC hR hS hl
theorem g_zald {a : Int} (j : Nat) (hd : decode cc pc = .ok (.baload, 1)) (ha : a = (j : Int)) (hj : j < x_ln t i) (hv : x_vd n t i) (hs : x_sh t = .inl 2) (kk : xGo l own cc nL ret ini d mc ms Q n cu su (pc + 1) lv (xI (σ t i j) :: st) ρ σ) : xGo l own cc nL ret ini d mc ms Q n cu su pc lv (xI a :: xR t i :: st) ρ σ := by
  intro p e s m args below meth c B D cy zz H locs ls hC hR hS hl
  subst ha
  have he := x_wl_vd B cy ρ σ hv
  rw [x_ce_a hs (by omega)] at he
  have hb : x_ln t i < 2147483648 := x_ln_lt t i
  refine va_zald (f := fun k => Int32.ofInt (σ t i k)) hC.1 hC.2.1 hC.2.2.2.2.2.2.2.2.1 hR.1 (x_od t i) 2 he rfl (x_vin hj hb) hd ?_
  refine x_to (congrArg (fun q => Int32.ofInt (σ t i q)) (x_clamp (by omega))) ?_
  exact kk p e s m args below meth c B D cy zz H locs ls hC hR hS hl
theorem g_alen {ty : Nat} {v : Int} (hd : decode cc pc = .ok (.arraylength, 1)) (hv : x_vd n t i) (hs : x_sh t = .inl ty) (hl0 : (x_ln t i : Int) = v) (kk : xGo l own cc nL ret ini d mc ms Q n cu su (pc + 1) lv (xI v :: st) ρ σ) : xGo l own cc nL ret ini d mc ms Q n cu su pc lv (xR t i :: st) ρ σ := by
  intro p e s m args below meth c B D cy zz H locs ls hC hR hS hl
  subst hl0
  have he := x_wl_vd B cy ρ σ hv
  have h3 : ty < 4 := by
    revert hs; unfold x_sh; split <;> intro hs <;> first | cases hs; done | (cases hs; omega)
  by_cases h : ty < 3
  · rw [x_ce_a hs h] at he
    match ty, h with
    | 0, _ => exact va_alen (v := Int32.ofInt (x_ln t i)) hC.1 hC.2.1 hC.2.2.2.2.2.2.2.2.1 hR.1 (x_od t i) 0 he rfl rfl hd (kk p e s m args below meth c B D cy zz H locs ls hC hR hS hl)
    | 1, _ => exact va_alen (v := Int32.ofInt (x_ln t i)) hC.1 hC.2.1 hC.2.2.2.2.2.2.2.2.1 hR.1 (x_od t i) 1 he rfl rfl hd (kk p e s m args below meth c B D cy zz H locs ls hC hR hS hl)
    | 2, _ => exact va_alen (v := Int32.ofInt (x_ln t i)) hC.1 hC.2.1 hC.2.2.2.2.2.2.2.2.1 hR.1 (x_od t i) 2 he rfl rfl hd (kk p e s m args below meth c B D cy zz H locs ls hC hR hS hl)
  · have h5 : ty = 3 := by omega
    subst h5
    rw [x_ce_3 hs] at he
    exact va_alen (v := Int32.ofInt (x_ln t i)) hC.1 hC.2.1 hC.2.2.2.2.2.2.2.2.1 hR.1 (x_od t i) 3 he rfl rfl hd (kk p e s m args below meth c B D cy zz H locs ls hC hR hS hl)
theorem x_ast_e {B : Nat} {cy : Nat → ClassId} {ty j : Nat} {b : Int} (hs : x_sh t = .inl ty) (h3 : ty < 3) (f : Nat → Int32) (hf : ∀ q, f q = Int32.ofInt (x_up σ t i j b t i q)) : (.inl (cy ty, x_ln t i, .inl f) : va_E) = x_ce B cy ρ (x_up σ t i j b) t i := by
  rw [x_ce_a hs h3, funext hf]
theorem g_iast {a b : Int} (j : Nat) (hd : decode cc pc = .ok (.iastore, 1)) (ha : a = (j : Int)) (hj : j < x_ln t i) (hv : x_vd n t i) (hs : x_sh t = .inl 0) (kk : xGo l own cc nL ret ini d mc ms Q n cu su (pc + 1) lv st ρ (x_up σ t i j b)) : xGo l own cc nL ret ini d mc ms Q n cu su pc lv (xI b :: xI a :: xR t i :: st) ρ σ := by
  intro p e s m args below meth c B D cy zz H locs ls hC hR hS hl
  subst ha
  have he := x_wl_vd B cy ρ σ hv
  rw [x_ce_a hs (by omega)] at he
  have hb : x_ln t i < 2147483648 := x_ln_lt t i
  refine va_iast (f := fun k => Int32.ofInt (σ t i k)) hC.1 hC.2.1 hC.2.2.2.2.2.2.2.2.1 hR.1 (x_wl_D B cy n ρ σ) hS.1 (x_od t i) 0 he rfl (x_vin hj hb) hd (fun H1 locs1 hP1 hD1 hS1 => ?_)
  rw [x_wl_set B cy (ρ' := ρ) (σ' := x_up σ t i j b) hR.2 hv] at hP1
  · exact kk p e s m args below meth c B D cy zz H1 locs1 ls hC ⟨hP1, hR.2⟩ ⟨hS1, hS.2⟩ hl
  · refine x_ast_e hs (by omega) _ (fun q => ?_)
    rw [x_clamp (by omega), x_up_s]
    unfold upd
    split <;> rfl
  · intro t' i' ho
    exact x_ce_eq (fun _ => rfl) (fun k' => x_up_o ho k')
end
end
section
section
variable {l : Launch} {own : String} {cc : ByteArray} {nL : Nat} {ret : Option FieldType} {ini : Bool} {d mc ms : Nat} {Q : xP} {n cu su pc : Nat} {lv lv' : List (Nat × xV)} {st rest : List xV} {ρ : xMr} {σ : xMi} {t i ci k idx : Nat}
/-! returns -/
theorem g_iret {a : Int} (hd : decode cc pc = .ok (.ireturn, 1)) (hq : Q (some (xI a)) n ρ σ) (hc : cu ≤ mc) (hs : su ≤ ms) : xGo l own cc nL (some .int) ini d mc ms Q n cu su pc lv [xI a] ρ σ := by
  intro p e s m args below meth c B D cy zz H locs ls hC hR hS hl
  refine W.widen (k := mc) (n := ms) hc hs ?_
  exact W.iret (v := Int32.ofInt a) hC.1 hC.2.1 hC.2.2.2.2.2.1 (fun t ht hW => ⟨⟨some (xI a), n, ρ, σ, rfl, hq, by rw [ht]; exact hR⟩, hS.1.F ht⟩) hS.1.2.2 hd (hlocks := hC.2.2.2.2.2.2.1)
theorem g_zret {a : Int} (hd : decode cc pc = .ok (.ireturn, 1)) (ha : a = 0 ∨ a = 1) (hq : Q (some (xI a)) n ρ σ) (hc : cu ≤ mc) (hs : su ≤ ms) : xGo l own cc nL (some .boolean) ini d mc ms Q n cu su pc lv [xI a] ρ σ := by
  intro p e s m args below meth c B D cy zz H locs ls hC hR hS hl
  refine W.widen (k := mc) (n := ms) hc hs ?_
  exact W.zret (v := Int32.ofInt a) (ty := .boolean) hC.1 hC.2.1 hC.2.2.2.2.2.1 (by rcases ha with rfl | rfl <;> rfl) (fun t ht hW => ⟨⟨some (xI a), n, ρ, σ, rfl, hq, by rw [ht]; exact hR⟩, hS.1.F ht⟩) hS.1.2.2 hd (hlocks := hC.2.2.2.2.2.2.1)
theorem g_cret {a : Int} (hd : decode cc pc = .ok (.ireturn, 1)) (ha : narrow .char (.int (Int32.ofInt a)) = .int (Int32.ofInt a)) (hq : Q (some (xI a)) n ρ σ) (hc : cu ≤ mc) (hs : su ≤ ms) : xGo l own cc nL (some .char) ini d mc ms Q n cu su pc lv [xI a] ρ σ := by
  intro p e s m args below meth c B D cy zz H locs ls hC hR hS hl
  refine W.widen (k := mc) (n := ms) hc hs ?_
  exact W.zret (v := Int32.ofInt a) (ty := .char) hC.1 hC.2.1 hC.2.2.2.2.2.1 ha (fun t ht hW => ⟨⟨some (xI a), n, ρ, σ, rfl, hq, by rw [ht]; exact hR⟩, hS.1.F ht⟩) hS.1.2.2 hd (hlocks := hC.2.2.2.2.2.2.1)
theorem g_bret {a : Int} (hd : decode cc pc = .ok (.ireturn, 1)) (ha : narrow .byte (.int (Int32.ofInt a)) = .int (Int32.ofInt a)) (hq : Q (some (xI a)) n ρ σ) (hc : cu ≤ mc) (hs : su ≤ ms) : xGo l own cc nL (some .byte) ini d mc ms Q n cu su pc lv [xI a] ρ σ := by
  intro p e s m args below meth c B D cy zz H locs ls hC hR hS hl
  refine W.widen (k := mc) (n := ms) hc hs ?_
  exact W.zret (v := Int32.ofInt a) (ty := .byte) hC.1 hC.2.1 hC.2.2.2.2.2.1 ha (fun t ht hW => ⟨⟨some (xI a), n, ρ, σ, rfl, hq, by rw [ht]; exact hR⟩, hS.1.F ht⟩) hS.1.2.2 hd (hlocks := hC.2.2.2.2.2.2.1)
theorem g_lret {a : Int} (hd : decode cc pc = .ok (.lreturn, 1)) (hq : Q (some (xJ a)) n ρ σ) (hc : cu ≤ mc) (hs : su ≤ ms) : xGo l own cc nL (some .long) ini d mc ms Q n cu su pc lv [xJ a] ρ σ := by
  intro p e s m args below meth c B D cy zz H locs ls hC hR hS hl
  refine W.widen (k := mc) (n := ms) hc hs ?_
  exact W.lret (v := Int64.ofInt a) hC.1 hC.2.1 hC.2.2.2.2.2.1 (fun t ht hW => ⟨⟨some (xJ a), n, ρ, σ, rfl, hq, by rw [ht]; exact hR⟩, hS.1.F ht⟩) hS.1.2.2 hd (hlocks := hC.2.2.2.2.2.2.1)
theorem g_vret (hd : decode cc pc = .ok (.return_, 1)) (hq : Q none n ρ σ) (hc : cu ≤ mc) (hs : su ≤ ms) : xGo l own cc nL none ini d mc ms Q n cu su pc lv [] ρ σ := by
  intro p e s m args below meth c B D cy zz H locs ls hC hR hS hl
  refine W.widen (k := mc) (n := ms) hc hs ?_
  exact W.vret hC.1 hC.2.1 hC.2.2.2.2.2.1 (fun t ht hW => ⟨⟨none, n, ρ, σ, rfl, hq, by rw [ht]; exact hR⟩, hS.1.F ht⟩) hS.1.2.2 hd (hlocks := hC.2.2.2.2.2.2.1)
/-! calls -/
variable {y : MethodName} {own' : String} {cc' : ByteArray} {nL' : Nat} {ret' : Option FieldType} {ini' : Bool} {d' mc' ms' na : Nat} {As : List xV} {Q' : xP}
theorem x_size {p : Program} {e : Env} {R : Room} {s : State} {m : MethodId} {args : Array Value} {below : List Frame} {meth : Method} {c : Code} {B : Nat} {D : va_G} {cy : Nat → ClassId} {H : Heap} {locs : List Loc} {T : State} {sl : Nat} (hn0 : 0 < n ∨ cu = 0) (hR : x_R B D cy n ρ σ H) (hS : x_S B n cu s H locs) (hT : T.heap = H) (X : Stand p l e R s m args below meth c T locs cu sl) : H.size = B + n := by
  have h1 := X.heapSize
  rw [hT] at h1
  have h2 := hS.1.1
  have h3 := hS.2
  by_cases h0 : n = 0
  · omega
  · have h4 := (hR.1 (n - 1) _ (x_wl_get B cy ρ σ (by omega))).lt
    have h5 : B + (n - 1) < H.size := h4
    omega
theorem x_pay {args : Array Value} {s : State} {ml : Nat} {bb : ByteArray} {rr : Option FieldType} (hts : ∀ w ∈ x_T, w.before args s = true) (hcode : Cond.code y bb ml rr ∈ x_T) : ∀ w ∈ (Cond.code y bb ml rr :: x_T), ∀ (a' : Array Value) (U : State), s.WarmedH U.vm → w.before a' U = true := by
  intro w hw a' U hW
  have h : w ∈ x_T := by
    rcases List.mem_cons.mp hw with h | h
    · rw [h]; exact hcode
    · exact h
  exact word_at hW (good_of_word (List.mem_filter.mp h).2) (hts w h)
theorem x_blind {B : Nat} {D : va_G} {cy : Nat → ClassId} {zz : Nat × Nat} {av : List Value} : FrameBlind (va_Pc av (fun U => x_R B D cy n ρ σ U.heap ∧ U.heap.size = B + n ∧ x_K B D cy zz U)) := by
  intro a U g mk h
  exact ⟨h.1, h.2.1, h.2.2.1, x_K.call g mk a h.2.2.2⟩
theorem x_len {na : Nat} (h : (parseMethodDescriptor y.desc).map (fun d => d.parameters.length) = some na) : ∀ sig, parseMethodDescriptor y.desc = some sig → na = sig.parameters.length := by
  intro sig hs
  rw [hs] at h
  exact (Option.some.inj h).symm
/-- behind a call -/
theorem x_after {p : Program} {e : Env} {s : State} {m : MethodId} {args : Array Value} {below : List Frame} {meth : Method} {c : Code} {B : Nat} {D : va_G} {cy : Nat → ClassId} {zz : Nat × Nat} {H : Heap} {locs : List Loc} {ls : Array Slot} {st0 : List Value}
    (hC : x_C (own, cc, nL, ret, ini) p s m args meth c B D cy zz) (hS : x_S B n cu s H locs) (hl : lv_has ls nL (x_lv B lv)) (hz : H.size = B + n) (hn' : ∀ r n' ρ' σ', Q' r n' ρ' σ' → n' = n + mc')
    (k : ∀ r n' ρ' σ', Q' r n' ρ' σ' → xGo l own cc nL ret ini d mc ms Q n' (cu + mc') (su + ms') (pc + 3) lv (r.toList ++ rest) ρ' σ') {aa : Array Value}
    (run : va_Run p l e (x_rm d mc ms) s m args below meth c H locs cu su mc' ms' (F0 m pc ls st0) (rest.map (x_tv B)) (x_Q B D cy Q' aa) (fun q => B ≤ q)) {T : State} (hT : T.heap = H) (X : Stand p l e (x_rm d mc ms) s m args below meth c T locs cu su) :
    ∃ t, Steps p.tables e below (T.setTop (F0 m pc ls st0)) t ∧ MQ below (x_Q B D cy Q) args s mc ms (fun q => B ≤ q) t := by
  obtain ⟨v, st₀, t, T', L, h0, X', hL, e1, e2, ⟨⟨r, n', ρ', σ', hv, hq, hR'⟩, hz1, hk⟩, st⟩ := run T hT X
  have hv' : v = r.map (x_tv B) := by injection hv
  subst hv'
  rw [h0] at hz1 hk
  have hn := hn' r n' ρ' σ' hq
  have hA : ∀ q, s.heap.size ≤ q → B ≤ q → True := fun _ _ _ => trivial
  obtain ⟨t2, a1, b1⟩ := k r n' ρ' σ' hq p e s m args below meth c B D cy zz T'.heap (locs ++ L) ls hC (by rw [e1]; exact hR')
    ⟨⟨Nat.le_trans hS.1.1 (by rw [e1]; exact hz1), fun q h1 h2 => by rw [e1, hk q (Nat.lt_of_lt_of_le h1 hS.1.1) h2]; exact hS.1.2.1 q h1 h2, fun q hq => by
      rcases List.mem_append.mp hq with h | h
      · exact hS.1.2.2 q h
      · exact hL q h⟩, by have := hS.2; omega⟩ hl T' rfl X'
  refine ⟨t2, st t2 ?_, b1⟩
  have e3 : (r.toList ++ rest).map (x_tv B) = (r.map (x_tv B)).toList ++ rest.map (x_tv B) := by
    cases r <;> simp
  rw [e3] at a1
  exact a1
theorem x_callV (hd : decode cc pc = .ok (.invokevirtual idx, 3)) (hw : x_cV own idx y) (hb : x_cB y cc' nL' ret' na) (hSp : x_Sp l y (own', cc', nL', ret', ini') d' mc' ms' n ρ σ (xR t i :: As) Q') (hv : x_vd n t i) (hs : x_sh t = .inr ci) (hci : ∀ q, x_cl[ci]? = some q → q.1 = y.cls) (hci2 : ci < 8) (hna : As.length = na) (hcat : (rest.map x_cat).sum ≤ 8) (hdd : d' + 1 ≤ d) (hnl : nL' ≤ 80) (hc : cu + mc' ≤ mc) (hsl : su + ms' ≤ ms) (hn' : ∀ r n' ρ' σ', Q' r n' ρ' σ' → n' = n + mc')
    (kk : ∀ r n' ρ' σ', Q' r n' ρ' σ' → xGo l own cc nL ret ini d mc ms Q n' (cu + mc') (su + ms') (pc + 3) lv (r.toList ++ rest) ρ' σ') : xGo l own cc nL ret ini d mc ms Q n cu su pc lv (As.reverse ++ xR t i :: rest) ρ σ := by
  intro p e s m args below meth c B D cy zz H locs ls hC hR hS hl T hT X
  have hn0 : 0 < n := Nat.lt_of_le_of_lt (Nat.zero_le _) hv.2
  have hz := x_size (Or.inl hn0) hR hS hT X
  obtain ⟨hx, hbc, hml, hown, hts, hrt, hlk, hin, hK⟩ := id hC
  obtain ⟨w1, w2, w3⟩ := hw
  obtain ⟨b1, b2, b3, b4⟩ := hb
  have he := x_wl_vd B cy ρ σ hv
  rw [x_ce_o hs] at he
  obtain ⟨q, hq⟩ : ∃ q, x_cl[ci]? = some q := by
    match ci, hci2 with
    | 0, _ => exact ⟨_, rfl⟩
    | 1, _ => exact ⟨_, rfl⟩
    | 2, _ => exact ⟨_, rfl⟩
    | 3, _ => exact ⟨_, rfl⟩
    | 4, _ => exact ⟨_, rfl⟩
    | 5, _ => exact ⟨_, rfl⟩
    | 6, _ => exact ⟨_, rfl⟩
    | 7, _ => exact ⟨_, rfl⟩
  have hrecv := va_recv hK.1 hR.1 hq he
  rw [hci q hq] at hrecv
  refine x_after hC hS hl hz hn' kk (aa := (Value.ref (B + x_od t i) :: As.map (x_tv B)).toArray) ?_ hT X
  refine va_runV (C := y.cls) (n := na) (b := B + x_od t i) (As := As.map (x_tv B)) (Ts := x_T) (own := own) (index := idx) (bytes := cc') (maxL := nL') (ret := ret') ⟨hx, hbc, hml, hown, hts⟩ (hSp B D cy zz) ⟨⟨rfl, rfl, hdd, ?_, x_pay hts b2, List.mem_cons_self, hts _ b2, hts _ b1, b3, x_len b4, hts _ w1⟩, hts _ w2, hts _ w3⟩ ⟨x_blind, hrecv, fun U hU hW => ⟨rfl, by rw [hU]; exact hR, by rw [hU]; exact hz, x_K.warm hW hU hS.1 hK⟩⟩ rfl (by rw [List.length_map]; exact hna) hl.1 ?_ (lv_room (by rw [x_cat_sum]; exact hcat)) hd ⟨hc, hsl⟩
  · show 8 + (nL' + 11) + 100 * d' ≤ 100 * d
    omega
  · show (As.reverse ++ xR t i :: rest).map (x_tv B) = _
    rw [List.map_append, List.map_reverse]; rfl
theorem x_callS (hn0 : 0 < n) (hd : decode cc pc = .ok (.invokestatic idx, 3)) (hw : x_cS own idx y) (hb : x_cB y cc' nL' ret' na) (hSp : x_Sp l y (own', cc', nL', ret', ini') d' mc' ms' n ρ σ As Q') (hna : As.length = na) (hcat : (rest.map x_cat).sum ≤ 8) (hdd : d' + 1 ≤ d) (hnl : nL' ≤ 80) (hc : cu + mc' ≤ mc) (hsl : su + ms' ≤ ms) (hn' : ∀ r n' ρ' σ', Q' r n' ρ' σ' → n' = n + mc')
    (kk : ∀ r n' ρ' σ', Q' r n' ρ' σ' → xGo l own cc nL ret ini d mc ms Q n' (cu + mc') (su + ms') (pc + 3) lv (r.toList ++ rest) ρ' σ') : xGo l own cc nL ret ini d mc ms Q n cu su pc lv (As.reverse ++ rest) ρ σ := by
  intro p e s m args below meth c B D cy zz H locs ls hC hR hS hl T hT X
  have hz := x_size (Or.inl hn0) hR hS hT X
  obtain ⟨hx, hbc, hml, hown, hts, hrt, hlk, hin, hK⟩ := id hC
  obtain ⟨w1, w2⟩ := hw
  obtain ⟨b1, b2, b3, b4⟩ := hb
  refine x_after hC hS hl hz hn' kk (aa := (As.map (x_tv B)).toArray) ?_ hT X
  refine va_runS (n := na) (As := As.map (x_tv B)) (Ts := x_T) (own := own) (index := idx) (bytes := cc') (maxL := nL') (ret := ret') ⟨hx, hbc, hml, hown, hts⟩ (hSp B D cy zz) ⟨⟨rfl, rfl, hdd, ?_, x_pay hts b2, List.mem_cons_self, hts _ b2, hts _ b1, b3, x_len b4, hts _ w1⟩, hts _ w2⟩ ⟨x_blind, fun U hU hW => ⟨rfl, by rw [hU]; exact hR, by rw [hU]; exact hz, x_K.warm hW hU hS.1 hK⟩⟩ rfl (by rw [List.length_map]; exact hna) hl.1 ?_ (lv_room (by rw [x_cat_sum]; exact hcat)) hd ⟨hc, hsl⟩
  · show 8 + (nL' + 11) + 100 * d' ≤ 100 * d
    omega
  · show (As.reverse ++ rest).map (x_tv B) = _
    rw [List.map_append, List.map_reverse]
theorem x_callI (hn0 : 0 < n) (hd : decode cc pc = .ok (.invokespecial idx, 3)) (hw : x_cI own idx y) (hb : x_cB y cc' nL' none na) (hSp : x_Sp l y (own', cc', nL', none, ini') d' mc' ms' n ρ σ (xR t i :: As) Q') (hna : As.length = na) (hcat : (rest.map x_cat).sum ≤ 8) (hdd : d' + 1 ≤ d) (hnl : nL' ≤ 80) (hc : cu + mc' ≤ mc) (hsl : su + ms' ≤ ms) (hn' : ∀ r n' ρ' σ', Q' r n' ρ' σ' → n' = n + mc')
    (kk : ∀ r n' ρ' σ', Q' r n' ρ' σ' → xGo l own cc nL ret ini d mc ms Q n' (cu + mc') (su + ms') (pc + 3) lv (r.toList ++ rest) ρ' σ') : xGo l own cc nL ret ini d mc ms Q n cu su pc lv (As.reverse ++ xR t i :: rest) ρ σ := by
  intro p e s m args below meth c B D cy zz H locs ls hC hR hS hl T hT X
  have hz := x_size (Or.inl hn0) hR hS hT X
  obtain ⟨hx, hbc, hml, hown, hts, hrt, hlk, hin, hK⟩ := id hC
  obtain ⟨w1, w2, w3⟩ := hw
  obtain ⟨b1, b2, b3, b4⟩ := hb
  refine x_after hC hS hl hz hn' kk (aa := (Value.ref (B + x_od t i) :: As.map (x_tv B)).toArray) ?_ hT X
  refine va_runI (n := na) (b := B + x_od t i) (As := As.map (x_tv B)) (Ts := x_T) (own := own) (index := idx) (bytes := cc') (maxL := nL') ⟨hx, hbc, hml, hown, hts⟩ (hSp B D cy zz) ⟨⟨rfl, rfl, hdd, ?_, x_pay hts b2, List.mem_cons_self, hts _ b2, hts _ b1, b3, x_len b4, hts _ w1⟩, w3, hts _ w2⟩ ⟨x_blind, fun U hU hW => ⟨rfl, by rw [hU]; exact hR, by rw [hU]; exact hz, x_K.warm hW hU hS.1 hK⟩⟩ rfl (by rw [List.length_map]; exact hna) hl.1 ?_ (lv_room (by rw [x_cat_sum]; exact hcat)) hd ⟨hc, hsl⟩
  · show 8 + (nL' + 11) + 100 * d' ≤ 100 * d
    omega
  · show (As.reverse ++ xR t i :: rest).map (x_tv B) = _
    rw [List.map_append, List.map_reverse]; rfl
theorem x_callN {host : String} (hn0 : 0 < n) (hd : decode cc pc = .ok (.invokespecial idx, 3)) (hw : x_cN own idx y host) (hb : x_cB y cc' nL' none na) (hSp : x_Sp l y (own', cc', nL', none, ini') d' mc' ms' n ρ σ (xR t i :: As) Q') (hna : As.length = na) (hcat : (rest.map x_cat).sum ≤ 8) (hdd : d' + 1 ≤ d) (hnl : nL' ≤ 80) (hc : cu + mc' ≤ mc) (hsl : su + ms' ≤ ms) (hn' : ∀ r n' ρ' σ', Q' r n' ρ' σ' → n' = n + mc')
    (kk : ∀ r n' ρ' σ', Q' r n' ρ' σ' → xGo l own cc nL ret ini d mc ms Q n' (cu + mc') (su + ms') (pc + 3) lv (r.toList ++ rest) ρ' σ') : xGo l own cc nL ret ini d mc ms Q n cu su pc lv (As.reverse ++ xR t i :: rest) ρ σ := by
  intro p e s m args below meth c B D cy zz H locs ls hC hR hS hl T hT X
  have hz := x_size (Or.inl hn0) hR hS hT X
  obtain ⟨hx, hbc, hml, hown, hts, hrt, hlk, hin, hK⟩ := id hC
  obtain ⟨w1, w2, w3⟩ := hw
  obtain ⟨b1, b2, b3, b4⟩ := hb
  refine x_after hC hS hl hz hn' kk (aa := (Value.ref (B + x_od t i) :: As.map (x_tv B)).toArray) ?_ hT X
  refine va_runIN (n := na) (b := B + x_od t i) (As := As.map (x_tv B)) (Ts := x_T) (own := own) (index := idx) (bytes := cc') (maxL := nL') (host := host) ⟨hx, hbc, hml, hown, hts⟩ (hSp B D cy zz) ⟨⟨⟨rfl, rfl, hdd, ?_, x_pay hts b2, List.mem_cons_self⟩, hts _ b2, hts _ b1, b3, x_len b4, va_Nw.use rfl (w1 B zz s hK.2)⟩, w3, hts _ w2⟩ ⟨x_blind, fun U hU hW => ⟨rfl, by rw [hU]; exact hR, by rw [hU]; exact hz, x_K.warm hW hU hS.1 hK⟩⟩ rfl (by rw [List.length_map]; exact hna) hl.1 ?_ (lv_room (by rw [x_cat_sum]; exact hcat)) hd ⟨hc, hsl⟩
  · show 8 + (nL' + 11) + 100 * d' ≤ 100 * d
    omega
  · show (As.reverse ++ xR t i :: rest).map (x_tv B) = _
    rw [List.map_append, List.map_reverse]; rfl
end
end
section
section
variable {l : Launch} {own : String} {cc : ByteArray} {nL : Nat} {ret : Option FieldType} {ini : Bool} {d mc ms : Nat} {Q : xP} {n cu su pc : Nat} {lv lv' : List (Nat × xV)} {st rest : List xV} {ρ : xMr} {σ : xMi} {t i ci k idx : Nat}
theorem g_cast {a b : Int} (j : Nat) (hd : decode cc pc = .ok (.castore, 1)) (ha : a = (j : Int)) (hj : j < x_ln t i) (hv : x_vd n t i) (hs : x_sh t = .inl 1) (hb2 : vp_nar .char (Int32.ofInt b) = Int32.ofInt b) (kk : xGo l own cc nL ret ini d mc ms Q n cu su (pc + 1) lv st ρ (x_up σ t i j b)) : xGo l own cc nL ret ini d mc ms Q n cu su pc lv (xI b :: xI a :: xR t i :: st) ρ σ := by
  intro p e s m args below meth c B D cy zz H locs ls hC hR hS hl
  subst ha
  have he := x_wl_vd B cy ρ σ hv
  rw [x_ce_a hs (by omega)] at he
  have hb := x_ln_lt t i
  refine va_cast (f := fun k => Int32.ofInt (σ t i k)) hC.1 hC.2.1 hC.2.2.2.2.2.2.2.2.1 hR.1 (x_wl_D B cy n ρ σ) hS.1 (x_od t i) 1 he rfl (x_vin hj hb) hd (fun H1 locs1 hP1 hD1 hS1 => ?_)
  rw [x_wl_set B cy (ρ' := ρ) (σ' := x_up σ t i j b) hR.2 hv] at hP1
  · exact kk p e s m args below meth c B D cy zz H1 locs1 ls hC ⟨hP1, hR.2⟩ ⟨hS1, hS.2⟩ hl
  · refine x_ast_e hs (by omega) _ (fun q => ?_)
    rw [x_clamp (by omega), x_up_s, hb2]
    unfold upd
    split <;> rfl
  · intro t' i' ho
    exact x_ce_eq (fun _ => rfl) (fun k' => x_up_o ho k')
theorem g_zast {a b : Int} (j : Nat) (hd : decode cc pc = .ok (.bastore, 1)) (ha : a = (j : Int)) (hj : j < x_ln t i) (hv : x_vd n t i) (hs : x_sh t = .inl 2) (hb2 : vp_nar .boolean (Int32.ofInt b) = Int32.ofInt b) (kk : xGo l own cc nL ret ini d mc ms Q n cu su (pc + 1) lv st ρ (x_up σ t i j b)) : xGo l own cc nL ret ini d mc ms Q n cu su pc lv (xI b :: xI a :: xR t i :: st) ρ σ := by
  intro p e s m args below meth c B D cy zz H locs ls hC hR hS hl
  subst ha
  have he := x_wl_vd B cy ρ σ hv
  rw [x_ce_a hs (by omega)] at he
  have hb := x_ln_lt t i
  refine va_zast (f := fun k => Int32.ofInt (σ t i k)) hC.1 hC.2.1 hC.2.2.2.2.2.2.2.2.1 hR.1 (x_wl_D B cy n ρ σ) hS.1 (x_od t i) 2 he rfl (x_vin hj hb) hd (fun H1 locs1 hP1 hD1 hS1 => ?_)
  rw [x_wl_set B cy (ρ' := ρ) (σ' := x_up σ t i j b) hR.2 hv] at hP1
  · exact kk p e s m args below meth c B D cy zz H1 locs1 ls hC ⟨hP1, hR.2⟩ ⟨hS1, hS.2⟩ hl
  · refine x_ast_e hs (by omega) _ (fun q => ?_)
    rw [x_clamp (by omega), x_up_s, hb2]
    unfold upd
    split <;> rfl
  · intro t' i' ho
    exact x_ce_eq (fun _ => rfl) (fun k' => x_up_o ho k')
theorem g_aald {a : Int} {t2 i2 : Nat} (j : Nat) (hd : decode cc pc = .ok (.aaload, 1)) (ha : a = (j : Int)) (hj : j < x_ln t i) (hv : x_vd n t i) (hs : x_sh t = .inl 3) (hr : ρ t i j = some (t2, i2)) (kk : xGo l own cc nL ret ini d mc ms Q n cu su (pc + 1) lv (xR t2 i2 :: st) ρ σ) : xGo l own cc nL ret ini d mc ms Q n cu su pc lv (xI a :: xR t i :: st) ρ σ := by
  intro p e s m args below meth c B D cy zz H locs ls hC hR hS hl
  subst ha
  have he := x_wl_vd B cy ρ σ hv
  rw [x_ce_3 hs] at he
  have hb := x_ln_lt t i
  refine va_aldq hC.1 hC.2.1 hC.2.2.2.2.2.2.2.2.1 hR.1 (x_od t i) 3 he rfl (x_vin hj hb) hd ?_
  rw [x_clamp (by omega), hr]
  exact kk p e s m args below meth c B D cy zz H locs ls hC hR hS hl
theorem g_aast {a : Int} {t2 i2 : Nat} (j : Nat) (hd : decode cc pc = .ok (.aastore, 1)) (ha : a = (j : Int)) (hj : j < x_ln t i) (hv : x_vd n t i) (hs : x_sh t = .inl 3) (hv2 : x_vd n t2 i2) (hs2 : x_sh t2 = .inr 0) (kk : xGo l own cc nL ret ini d mc ms Q n cu su (pc + 1) lv st (x_ur ρ t i j (some (t2, i2))) σ) : xGo l own cc nL ret ini d mc ms Q n cu su pc lv (xR t2 i2 :: xI a :: xR t i :: st) ρ σ := by
  intro p e s m args below meth c B D cy zz H locs ls hC hR hS hl
  subst ha
  have he := x_wl_vd B cy ρ σ hv
  rw [x_ce_3 hs] at he
  have he2 := x_wl_vd B cy ρ σ hv2
  rw [x_ce_o hs2] at he2
  have hb := x_ln_lt t i
  refine va_astq (r := (RX0, TX0, 12)) hC.1 hC.2.1 hC.2.2.2.2.2.2.2.2.1 hR.1 (x_wl_D B cy n ρ σ) hS.1 (x_od t i) 3 (x_od t2 i2) 0 he rfl he2 rfl (x_vin hj hb) hd (fun H1 locs1 hP1 hD1 hS1 => ?_)
  rw [x_wl_set B cy (ρ' := x_ur ρ t i j (some (t2, i2))) (σ' := σ) hR.2 hv] at hP1
  · exact kk p e s m args below meth c B D cy zz H1 locs1 ls hC ⟨hP1, hR.2⟩ ⟨hS1, hS.2⟩ hl
  · rw [x_ce_3 hs]
    congr 7
    funext q
    rw [x_clamp (by omega), x_ur_s]
    unfold va_up
    split <;> rfl
  · intro t' i' ho
    exact x_ce_eq (fun k' => x_ur_o ho k') (fun _ => rfl)
/-- the world grows by one cell -/
theorem x_grow {B : Nat} {D : va_G} {cy : Nat → ClassId} {H1 : Heap} {ρ' : xMr} {σ' : xMi} {q : Nat} {e : va_E} (hn : n + 1 ≤ 154) (hiv : x_iv n = (t, i)) (hod : x_od t i = n) (hq : q = B + n) (he : e = x_ce B cy ρ' σ' t i) (ho : ∀ t' i', ¬ (t' = t ∧ i' = i) → x_ce B cy ρ' σ' t' i' = x_ce B cy ρ σ t' i') (h : va_P D x_cl (x_wl B cy n ρ σ ++ [(q, e)]) H1) : x_R B D cy (n + 1) ρ' σ' H1 := by
  refine ⟨?_, hn⟩
  have e1 : x_wl B cy (n + 1) ρ' σ' = x_wl B cy n ρ σ ++ [(q, e)] := by
    unfold x_wl
    rw [List.range_succ, List.map_append]
    congr 1
    · apply List.map_congr_left
      intro j hj
      have hj' := List.mem_range.mp hj
      rw [ho]
      intro z
      have h1 := x_odiv j (by omega)
      rw [z.1, z.2, hod] at h1
      omega
    · rw [List.map_cons, List.map_nil, hiv, hq, he]
  rw [e1]
  exact h
theorem x_zr_o {t' i' : Nat} (h : ¬ (t' = t ∧ i' = i)) (k' : Nat) : x_zr σ t i t' i' k' = σ t' i' k' := if_neg h
theorem x_zn_o {t' i' : Nat} (h : ¬ (t' = t ∧ i' = i)) (k' : Nat) : x_zn ρ t i t' i' k' = ρ t' i' k' := if_neg h
theorem x_zr_s (k' : Nat) : x_zr σ t i t i k' = 0 := if_pos ⟨rfl, rfl⟩
theorem x_zn_s (k' : Nat) : x_zn ρ t i t i k' = none := if_pos ⟨rfl, rfl⟩
/-- an object is made -/
theorem g_new {C : String} {T : u_T} {N : Nat} (hd : decode cc pc = .ok (.new idx, 3)) (h0 : 0 < n ∨ cu = 0) (hc : x_cl[ci]? = some (C, T, N)) (hw1 : Cond.classLink own idx C ∈ x_T) (hw2 : Cond.instantiable C N ∈ x_T) (hw3 : Cond.initialized C ∈ x_T) (hs : x_sh t = .inr ci) (hn : n + 1 ≤ 154) (hiv : x_iv n = (t, i)) (hod : x_od t i = n) (hc1 : cu + 1 ≤ mc) (hs1 : su + N ≤ ms)
    (kk : xGo l own cc nL ret ini d mc ms Q (n + 1) (cu + 1) (su + N) (pc + 3) lv (xR t i :: st) (x_zn ρ t i) (x_zr σ t i)) : xGo l own cc nL ret ini d mc ms Q n cu su pc lv st ρ σ := by
  intro p e s m args below meth c B D cy zz H locs ls hC hR hS hl T0 hT X
  have hz := x_size h0 hR hS hT X
  obtain ⟨hx, hbc, hml, hown, hts, hrt, hlk, hin, hK⟩ := id hC
  obtain ⟨ty, h1, h2, h3, h4, h5⟩ := x_cof hc
  obtain ⟨hS1, hS2⟩ := hS
  have hKn := hK.1.1 ci _ hc
  have key : W p l e (x_rm d mc ms) s m args below meth c H locs cu su (MQ below (x_Q B D cy Q) args s mc ms (fun q => B ≤ q)) (F0 m pc ls (st.map (x_tv B))) := by
    refine W.newcK hx hbc hown (hts _ hw1) (hts _ hw2) (hts _ hw3) rfl hd hc1 hs1 hKn.2.1 rfl fun H1 kC hkC e1 z1 o1 => ?_
    have hk : ∀ (k : Nat) (x : Nat × va_E), (x_wl B cy n ρ σ)[k]? = some x → H1[x.1]? = H[x.1]? := fun k x hx => o1 x.1 ((hR.1 k x hx).lt)
    have hP1 : va_P D x_cl (x_wl B cy n ρ σ ++ [(H.size, .inr (ci, (List.range (x_nf ci)).map (x_fv B (x_zn ρ t i) (x_zr σ t i) t i ci)))]) H1 := by
      refine (hR.1.kept hk).app (fun k x hx => ?_)
      have hz : k < 1 := (List.getElem?_eq_some_iff.mp hx).1
      rw [show k = 0 by omega] at hx
      cases hx
      refine ⟨_, hc, (u_born ty hts h1 hKn hkC e1 h2).to (fun j hj => ?_)⟩
      have h6 := h5 j hj
      have e2 : vp_V ((List.range (x_nf ci)).map (x_fv B (x_zn ρ t i) (x_zr σ t i) t i ci)) j = x_fv B (x_zn ρ t i) (x_zr σ t i) t i ci j := by
        unfold vp_V
        rw [List.getD_eq_getElem?_getD, x_fs_get h4 hj]
        rfl
      rw [e2]
      unfold x_fv
      rw [x_zr_s, x_zn_s]
      by_cases hk1 : x_kd ci j = 1
      · rw [if_pos hk1]
        have h7 := (h6.2.2 hk1).2.2
        revert h7
        cases ty j <;> intro h7 <;> first | rfl | cases h7
      · rw [if_neg hk1]
        by_cases hk2 : x_kd ci j = 2
        · rw [if_pos hk2, (h6.2.1 hk2).1]; rfl
        · rw [if_neg hk2]
          have hk0 : x_kd ci j = 0 := by
            have h8 : x_kd ci j < 3 := by unfold x_kd; (repeat' split) <;> omega
            omega
          rw [(h6.1 hk0).1]; rfl
    have hR1 : x_R B D cy (n + 1) (x_zn ρ t i) (x_zr σ t i) H1 := x_grow hn hiv hod hz (x_ce_o hs).symm (fun t' i' ho => x_ce_eq (fun k' => x_zn_o ho k') (fun k' => x_zr_o ho k')) hP1
    have e3 := kk p e s m args below meth c B D cy zz H1 locs ls hC hR1 ⟨⟨Nat.le_trans hS1.1 (by omega), fun x h1 h2 => (o1 x (Nat.lt_of_lt_of_le h1 hS1.1)).trans (hS1.2.1 x h1 h2), hS1.2.2⟩, by omega⟩ hl
    have e4 : x_tv B (xR t i) = .ref H.size := by show Value.ref (B + x_od t i) = _; rw [hod, hz]
    rw [List.map_cons, e4] at e3
    exact e3
  exact key T0 hT X
end
end
section
section
variable {l : Launch} {own : String} {cc : ByteArray} {nL : Nat} {ret : Option FieldType} {ini : Bool} {d mc ms : Nat} {Q : xP} {n cu su pc : Nat} {lv lv' : List (Nat × xV)} {st rest : List xV} {ρ : xMr} {σ : xMi} {t i ci k idx : Nat}
/-- an array of numbers is made -/
theorem g_newarr {atype : ArrayType} {a : Int} (ty : Nat) (hd : decode cc pc = .ok (.newarray atype, 2)) (h0 : 0 < n ∨ cu = 0) (hw : Cond.arrayClass (newarray.typeOf atype) ∈ x_T) (hty : ty = 0 ∧ newarray.typeOf atype = .int ∨ ty = 1 ∧ newarray.typeOf atype = .char ∨ ty = 2 ∧ newarray.typeOf atype = .boolean) (ha : a = (x_ln t i : Int)) (hs : x_sh t = .inl ty) (hn : n + 1 ≤ 154) (hiv : x_iv n = (t, i)) (hod : x_od t i = n) (hc1 : cu + 1 ≤ mc) (hs1 : su + x_ln t i ≤ ms)
    (kk : xGo l own cc nL ret ini d mc ms Q (n + 1) (cu + 1) (su + x_ln t i) (pc + 2) lv (xR t i :: st) ρ (x_zr σ t i)) : xGo l own cc nL ret ini d mc ms Q n cu su pc lv (xI a :: st) ρ σ := by
  intro p e s m args below meth c B D cy zz H locs ls hC hR hS hl T0 hT X
  subst ha
  have hz := x_size h0 hR hS hT X
  obtain ⟨hx, hbc, hml, hown, hts, hrt, hlk, hin, hK⟩ := id hC
  obtain ⟨hS1, hS2⟩ := hS
  have hb := x_ln_lt t i
  have hb2 : x_ln t i ≤ 416 := by unfold x_ln; (repeat' split) <;> omega
  have h3 : ty < 3 := by rcases hty with h | h | h <;> omega
  have key : W p l e (x_rm d mc ms) s m args below meth c H locs cu su (MQ below (x_Q B D cy Q) args s mc ms (fun q => B ≤ q)) (F0 m pc ls ((xI (x_ln t i : Int) :: st).map (x_tv B))) := by
    refine va_newaK (N := x_ln t i) hx hbc (hts _ hw) rfl hd (n := Int32.ofInt (x_ln t i : Int)) rfl ?_ (x_clamp hb) ?_ hc1 hs1 rfl fun H1 cA e1 z1 o1 hAr hNm => ?_
    · rw [x_lt0, x_nat hb]; omega
    · have : componentBytes (newarray.typeOf atype) ≤ 8 := by cases atype <;> decide
      exact Nat.le_trans (Nat.mul_le_mul hb2 this) (by decide)
    · have hcA : cA = cy ty ∧ defaultValue (newarray.typeOf atype) = .int 0 := by
        rcases hty with ⟨h, h'⟩ | ⟨h, h'⟩ | ⟨h, h'⟩
        · subst h
          rw [h'] at hNm ⊢
          exact ⟨Option.some.inj (hNm.symm.trans (hK.1.2 0 _ rfl).2), rfl⟩
        · subst h
          rw [h'] at hNm ⊢
          exact ⟨Option.some.inj (hNm.symm.trans (hK.1.2 1 _ rfl).2), rfl⟩
        · subst h
          rw [h'] at hNm ⊢
          exact ⟨Option.some.inj (hNm.symm.trans (hK.1.2 2 _ rfl).2), rfl⟩
      have hk : ∀ (k : Nat) (x : Nat × va_E), (x_wl B cy n ρ σ)[k]? = some x → H1[x.1]? = H[x.1]? := fun k x hx => o1 x.1 ((hR.1 k x hx).lt)
      have hP1 : va_P D x_cl (x_wl B cy n ρ σ ++ [(H.size, .inl (cy ty, x_ln t i, .inl (fun k => Int32.ofInt (x_zr σ t i t i k))))]) H1 := by
        refine (hR.1.kept hk).app (fun k x hx => ?_)
        have hz : k < 1 := (List.getElem?_eq_some_iff.mp hx).1
        rw [show k = 0 by omega] at hx
        cases hx
        show H1[H.size]? = some (vp_cell (cy ty) (x_ln t i, .inl (fun k => Int32.ofInt (x_zr σ t i t i k))))
        rw [e1, hcA.1, hcA.2]
        congr 1
        show arrV (cy ty) (x_ln t i) (fun _ => .int 0) = arrV (cy ty) (x_ln t i) (fun k => .int (Int32.ofInt (x_zr σ t i t i k)))
        congr 1
        funext k
        rw [x_zr_s]
        rfl
      have hR1 : x_R B D cy (n + 1) ρ (x_zr σ t i) H1 := x_grow hn hiv hod hz (x_ce_a hs h3).symm (fun t' i' ho => x_ce_eq (fun k' => rfl) (fun k' => x_zr_o ho k')) hP1
      have e3 := kk p e s m args below meth c B D cy zz H1 locs ls hC hR1 ⟨⟨Nat.le_trans hS1.1 (by omega), fun x h1 h2 => (o1 x (Nat.lt_of_lt_of_le h1 hS1.1)).trans (hS1.2.1 x h1 h2), hS1.2.2⟩, by omega⟩ hl
      have e4 : x_tv B (xR t i) = .ref H.size := by show Value.ref (B + x_od t i) = _; rw [hod, hz]
      rw [List.map_cons, e4] at e3
      exact e3
  exact key T0 hT X
/-- an array of Funds is made -/
theorem g_anew {a : Int} (hd : decode cc pc = .ok (.anewarray idx, 3)) (h0 : 0 < n ∨ cu = 0) (hw : Cond.classLink own idx RX0 ∈ x_T) (ha : a = (x_ln t i : Int)) (hs : x_sh t = .inl 3) (hn : n + 1 ≤ 154) (hiv : x_iv n = (t, i)) (hod : x_od t i = n) (hc1 : cu + 1 ≤ mc) (hs1 : su + x_ln t i ≤ ms)
    (kk : xGo l own cc nL ret ini d mc ms Q (n + 1) (cu + 1) (su + x_ln t i) (pc + 3) lv (xR t i :: st) (x_zn ρ t i) σ) : xGo l own cc nL ret ini d mc ms Q n cu su pc lv (xI a :: st) ρ σ := by
  intro p e s m args below meth c B D cy zz H locs ls hC hR hS hl T0 hT X
  subst ha
  have hz := x_size h0 hR hS hT X
  obtain ⟨hx, hbc, hml, hown, hts, hrt, hlk, hin, hK⟩ := id hC
  obtain ⟨hS1, hS2⟩ := hS
  have hb := x_ln_lt t i
  have hb2 : x_ln t i ≤ 416 := by unfold x_ln; (repeat' split) <;> omega
  have key : W p l e (x_rm d mc ms) s m args below meth c H locs cu su (MQ below (x_Q B D cy Q) args s mc ms (fun q => B ≤ q)) (F0 m pc ls ((xI (x_ln t i : Int) :: st).map (x_tv B))) := by
    refine W.anew hx hbc hown (hts _ hw) (va_AO.use hK.2.2.2.2.2.2.2) rfl hd rfl (n := Int32.ofInt (x_ln t i : Int)) ?_ ?_ hc1 ?_ fun cA kA comp f1 f2 f3 f4 => ?_
    · rw [x_lt0, x_nat hb]; omega
    · rw [x_clamp hb]; omega
    · rw [x_clamp hb]; exact hs1
    · rw [x_clamp hb]
      generalize hH1 : H.push ({ cls := cA, slots := Array.replicate (x_ln t i) .null, vm := .none } : Cell) = H1
      have z1 : H1.size = H.size + 1 := by rw [← hH1, Array.size_push]
      have e1 : H1[H.size]? = some (arrV cA (x_ln t i) (fun _ => .null)) := by rw [← hH1, Array.getElem?_push_size, ← arrV_new]
      have o1 : ∀ q : Nat, q < H.size → H1[q]? = H[q]? := fun q hq => by rw [← hH1, Array.getElem?_push, if_neg (Nat.ne_of_lt hq)]
      have hcA : cA = cy 3 := by
        obtain ⟨kA', comp', g1, g2, g3, g4⟩ := (hK.1.2 3 _ rfl).2
        first | exact Option.some.inj (f1.symm.trans g4) | exact Option.some.inj (f2.symm.trans g4) | exact Option.some.inj (f3.symm.trans g4) | exact Option.some.inj (f4.symm.trans g4)
      have hk : ∀ (k : Nat) (x : Nat × va_E), (x_wl B cy n ρ σ)[k]? = some x → H1[x.1]? = H[x.1]? := fun k x hx => o1 x.1 ((hR.1 k x hx).lt)
      have hP1 : va_P D x_cl (x_wl B cy n ρ σ ++ [(H.size, .inl (cy 3, x_ln t i, .inr (.inr (.inr (.inr (fun k => (x_zn ρ t i t i k).map (fun q => B + x_od q.1 q.2)))))))]) H1 := by
        refine (hR.1.kept hk).app (fun k x hx => ?_)
        have hz : k < 1 := (List.getElem?_eq_some_iff.mp hx).1
        rw [show k = 0 by omega] at hx
        cases hx
        show H1[H.size]? = some (vp_cell (cy 3) (x_ln t i, .inr (.inr (.inr (.inr (fun k => (x_zn ρ t i t i k).map (fun q => B + x_od q.1 q.2)))))))
        rw [e1, hcA, vp_cell_q]
        congr 2
        funext k
        rw [x_zn_s]
        rfl
      have hR1 : x_R B D cy (n + 1) (x_zn ρ t i) σ H1 := x_grow hn hiv hod hz (x_ce_3 hs).symm (fun t' i' ho => x_ce_eq (fun k' => x_zn_o ho k') (fun k' => rfl)) hP1
      have e3 := kk p e s m args below meth c B D cy zz H1 locs ls hC hR1 ⟨⟨Nat.le_trans hS1.1 (by omega), fun x h1 h2 => (o1 x (Nat.lt_of_lt_of_le h1 hS1.1)).trans (hS1.2.1 x h1 h2), hS1.2.2⟩, by omega⟩ hl
      have e4 : x_tv B (xR t i) = .ref H.size := by show Value.ref (B + x_od t i) = _; rw [hod, hz]
      rw [List.map_cons, e4] at e3
      exact e3
  exact key T0 hT X
/-- System.arraycopy of a whole row of ints -/
theorem g_copy {t2 i2 : Nat} {b : Int} (hd : decode cc pc = .ok (.invokestatic idx, 3)) (hw1 : Cond.methodLink own idx arraycopyName ∈ x_T) (hw2 : Cond.native arraycopyName ∈ x_T) (hw3 : Cond.static arraycopyName ∈ x_T) (hw4 : Cond.initialized "java/lang/System" ∈ x_T) (hd1 : 1 ≤ d) (hcat : (st.map x_cat).sum ≤ 8) (hv : x_vd n t i) (hv2 : x_vd n t2 i2) (hs : x_sh t = .inl 0) (hs2 : x_sh t2 = .inl 0) (hb : b = 6) (h6 : 6 ≤ x_ln t i) (h62 : 6 ≤ x_ln t2 i2)
    (kk : xGo l own cc nL ret ini d mc ms Q n cu su (pc + 3) lv st ρ (x_cp σ t i t2 i2 6)) : xGo l own cc nL ret ini d mc ms Q n cu su pc lv (xI b :: xI 0 :: xR t i :: xI 0 :: xR t2 i2 :: st) ρ σ := by
  intro p e s m args below meth c B D cy zz H locs ls hC hR hS hl
  subst hb
  obtain ⟨hx, hbc, hml, hown, hts, hrt, hlk, hin, hK⟩ := id hC
  have he := x_wl_vd B cy ρ σ hv
  rw [x_ce_a hs (by omega)] at he
  have he2 := x_wl_vd B cy ρ σ hv2
  rw [x_ce_a hs2 (by omega)] at he2
  refine va_copyi (f := fun k => Int32.ofInt (σ t2 i2 k)) (g := fun k => Int32.ofInt (σ t i k)) (ty := .int) (sp := 0) (dp := 0) (n := 6) hx hbc (hml.trans hl.1.symm) hown (hts _ hw1) (hts _ hw2) (hts _ hw3) (hts _ hw4) hK.1 hR.1 (x_wl_D B cy n ρ σ) hS.1 (x_od t2 i2) (x_od t i) 0 0 he2 he rfl rfl rfl (by decide) (by decide) (by decide) (by show 0 + 6 ≤ _; omega) (by show 0 + 6 ≤ _; omega) (fun _ _ => rfl) hd1 ?_ hd (fun H1 locs1 hP1 hD1 hS1 => ?_)
  · rw [x_cat_sum]
    have : nativeFrameWords "java/lang/System" "arraycopy" 5 ≤ 60 := by decide
    show _ + (_ + 11) ≤ 100 * d
    omega
  rw [x_wl_set B cy (ρ' := ρ) (σ' := x_cp σ t i t2 i2 6) hR.2 hv] at hP1
  · exact kk p e s m args below meth c B D cy zz H1 locs1 ls hC ⟨hP1, hR.2⟩ ⟨hS1, hS.2⟩ hl
  · rw [x_ce_a hs (by omega)]
    congr 4
    funext q
    show va_cpy _ _ 0 0 6 q = _
    unfold va_cpy x_cp
    by_cases h : q < 6
    · rw [if_pos ⟨Nat.zero_le _, by omega⟩, if_pos ⟨rfl, rfl, h⟩]
      congr 2
      omega
    · rw [if_neg (by omega), if_neg (by omega)]
  · intro t' i' ho
    refine x_ce_eq (fun _ => rfl) (fun k' => ?_)
    unfold x_cp
    exact if_neg (fun z => ho ⟨z.1, z.2.1⟩)
def x_max (a b : Int) : Int := if x_wr a < x_wr b then b else a
def x_min (a b : Int) : Int := if x_wr b < x_wr a then b else a
theorem g_max {a b : Int} (hd : decode cc pc = .ok (.invokestatic idx, 3)) (hw1 : Cond.methodLink own idx Lib.Math.max.name ∈ x_T) (hw2 : Cond.static Lib.Math.max.name ∈ x_T) (hw3 : Cond.initialized "java/lang/Math" ∈ x_T) (hw4 : Cond.code Lib.Math.max.name Lib.Math.max.code 2 (some .int) ∈ x_T) (hd1 : 1 ≤ d) (hcat : (st.map x_cat).sum ≤ 8) (hc : cu ≤ mc) (hsu : su ≤ ms) (kk : xGo l own cc nL ret ini d mc ms Q n cu su (pc + 3) lv (xI (x_max a b) :: st) ρ σ) : xGo l own cc nL ret ini d mc ms Q n cu su pc lv (xI b :: xI a :: st) ρ σ := by
  intro p e s m args below meth c B D cy zz H locs ls hC hR hS hl
  obtain ⟨hx, hbc, hml, hown, hts, hrt, hlk, hin, hK⟩ := id hC
  refine va_mmax hx hbc (hml.trans hl.1.symm) hown (hts _ hw1) (hts _ hw2) (hts _ hw3) (hts _ hw4) hd1 ?_ hc hsu hd ?_
  · rw [x_cat_sum]; show _ + 13 ≤ 100 * d; omega
  · refine x_to ?_ (kk p e s m args below meth c B D cy zz H locs ls hC hR hS hl)
    unfold x_max
    by_cases h : x_wr a < x_wr b
    · rw [if_pos h, if_pos ((x_lt a b).mpr h)]
    · rw [if_neg h, if_neg (fun z => h ((x_lt a b).mp z))]
theorem g_min {a b : Int} (hd : decode cc pc = .ok (.invokestatic idx, 3)) (hw1 : Cond.methodLink own idx Lib.Math.min.name ∈ x_T) (hw2 : Cond.static Lib.Math.min.name ∈ x_T) (hw3 : Cond.initialized "java/lang/Math" ∈ x_T) (hw4 : Cond.code Lib.Math.min.name Lib.Math.min.code 2 (some .int) ∈ x_T) (hd1 : 1 ≤ d) (hcat : (st.map x_cat).sum ≤ 8) (hc : cu ≤ mc) (hsu : su ≤ ms) (kk : xGo l own cc nL ret ini d mc ms Q n cu su (pc + 3) lv (xI (x_min a b) :: st) ρ σ) : xGo l own cc nL ret ini d mc ms Q n cu su pc lv (xI b :: xI a :: st) ρ σ := by
  intro p e s m args below meth c B D cy zz H locs ls hC hR hS hl
  obtain ⟨hx, hbc, hml, hown, hts, hrt, hlk, hin, hK⟩ := id hC
  refine va_mmin hx hbc (hml.trans hl.1.symm) hown (hts _ hw1) (hts _ hw2) (hts _ hw3) (hts _ hw4) hd1 ?_ hc hsu hd ?_
  · rw [x_cat_sum]; show _ + 13 ≤ 100 * d; omega
  · refine x_to ?_ (kk p e s m args below meth c B D cy zz H locs ls hC hR hS hl)
    unfold x_min
    by_cases h : x_wr b < x_wr a
    · rw [if_pos h, if_pos ((x_lt b a).mpr h)]
    · rw [if_neg h, if_neg (fun z => h ((x_lt b a).mp z))]
theorem g_oinit (hd : decode cc pc = .ok (.invokespecial idx, 3)) (hw1 : Cond.methodLink own idx objectInit ∈ x_T) (hw2 : Cond.instanceMethod objectInit ∈ x_T) (hw3 : Cond.code objectInit ⟨#[0xb1]⟩ 1 none ∈ x_T) (hd1 : 1 ≤ d) (hcat : (st.map x_cat).sum ≤ 8) (kk : xGo l own cc nL ret ini d mc ms Q n cu su (pc + 3) lv st ρ σ) : xGo l own cc nL ret ini d mc ms Q n cu su pc lv (xR t i :: st) ρ σ := by
  intro p e s m args below meth c B D cy zz H locs ls hC hR hS hl
  obtain ⟨hx, hbc, hml, hown, hts, hrt, hlk, hin, hK⟩ := id hC
  refine W.objInit hx hbc hown (hts _ hw1) (hts _ hw2) (hts _ hw3) rfl (hl.1.trans hml.symm) rfl hd hd1 ?_ (kk p e s m args below meth c B D cy zz H locs ls hC hR hS hl)
  show 2 * 0 + ((st.map (x_tv B)).map fun v => v.category).sum + 12 ≤ 100 * d
  rw [x_cat_sum]; omega
theorem g_tin {dflt lo hi off a : Int} {offs : Array Int} {len : Nat} (tgt : Nat) (hd : decode cc pc = .ok (.tableswitch dflt lo hi offs, len)) (h1 : lo ≤ x_wr a) (h2 : x_wr a ≤ hi) (ho : offs[(x_wr a - lo).toNat]? = some off) (ht : (pc : Int) + off = (tgt : Int)) (kk : xGo l own cc nL ret ini d mc ms Q n cu su tgt lv st ρ σ) : xGo l own cc nL ret ini d mc ms Q n cu su pc lv (xI a :: st) ρ σ := by
  intro p e s m args below meth c B D cy zz H locs ls hC hR hS hl
  exact lv_tableIn (x := Int32.ofInt a) hC.1 hC.2.1 hd (by show ¬ x_wr a < lo; omega) (by show ¬ hi < x_wr a; omega) ho ht (kk p e s m args below meth c B D cy zz H locs ls hC hR hS hl)
theorem g_tout {dflt lo hi a : Int} {offs : Array Int} {len : Nat} (tgt : Nat) (hd : decode cc pc = .ok (.tableswitch dflt lo hi offs, len)) (h : x_wr a < lo ∨ hi < x_wr a) (ht : (pc : Int) + dflt = (tgt : Int)) (kk : xGo l own cc nL ret ini d mc ms Q n cu su tgt lv st ρ σ) : xGo l own cc nL ret ini d mc ms Q n cu su pc lv (xI a :: st) ρ σ := by
  intro p e s m args below meth c B D cy zz H locs ls hC hR hS hl
  exact lv_tableOut (x := Int32.ofInt a) hC.1 hC.2.1 hd h ht (kk p e s m args below meth c B D cy zz H locs ls hC hR hS hl)
end
end
section
/-- where the references point, once all is made -/
def x_rof (f : Nat) : Nat := if f = 2 then 2 else 0
def x_r0 : xMr := fun t i k => match t with
  | 0 => if k = 0 then some (5, x_rof i) else if k < 5 then some (k, i) else none
  | 5 => if k < 4 then some (6 + k, i) else none
  | 10 => if k < 2 then some (11 + k, i) else none
  | 13 => if k = 0 then some (14, i) else none
  | 14 => if i = 0 then (if k < 8 then some (0, 3 + k) else none) else (if k < 2 then some (0, 11 + k) else none)
  | 15 => if k < 3 then some (16 + k, i) else none
  | 19 => if k < 3 then some (20 + k, i) else none
  | 20 => if k < 7 then some (0, 13 + k) else none
  | 23 => ([(10, 0), (5, 0), (5, 1), (5, 2), (0, 0), (0, 1), (0, 2), (13, 0), (13, 1), (15, 0), (19, 0)] : List (Nat × Nat))[k]?
  | 24 => if k = 0 then none else if k < 5 then some (24 + k, i) else if k < 9 then none else if k < 17 then some (20 + k, i) else if k = 18 then some (37, i) else if k = 19 then some (38, i) else if k = 20 then some (39, i) else if k = 21 then some (40, i) else if k = 26 then some (41, i) else if k = 28 then some (42, i) else if k = 30 then some (43, i) else if k = 32 then some (44, i) else if k = 33 then some (45, i) else if k = 34 then some (46, i) else none
  | _ => none
theorem x_rof_lt (f : Nat) : x_rof f < 3 := by unfold x_rof; split <;> omega
abbrev x_QF (n : Nat) (r : Option xV) (σ' : xMi) : xP := fun r1 n1 ρ1 σ1 => r1 = r ∧ n1 = n ∧ ρ1 = x_r0 ∧ σ1 = σ'
abbrev x_G (l : Launch) (own : String) (cc : ByteArray) (nL : Nat) (ret : Option FieldType) (d n : Nat) (r : Option xV) (σ' : xMi) (pc : Nat) (lv : List (Nat × xV)) (st : List xV) (σ : xMi) : Prop := xGo l own cc nL ret false d 0 0 (x_QF n r σ') n 0 0 pc lv st x_r0 σ
abbrev x_F (l : Launch) (y : MethodName) (own : String) (cc : ByteArray) (nL : Nat) (ret : Option FieldType) (d n : Nat) (σ : xMi) (av : List xV) (r : Option xV) (σ' : xMi) : Prop := x_Sp l y (own, cc, nL, ret, false) d 0 0 n x_r0 σ av (x_QF n r σ')
theorem f_of {l : Launch} {y : MethodName} {own : String} {cc : ByteArray} {nL : Nat} {ret : Option FieldType} {d n : Nat} {σ : xMi} {av : List xV} {r : Option xV} {σ' : xMi} {lv : List (Nat × xV)} (hy : plainName y.cls = true) (hown : y.cls = own) (hlen : (av.map x_cat).sum ≤ nL) (hlv : x_la 0 av = lv) (h : x_G l own cc nL ret d n r σ' 0 lv [] σ) : x_F l y own cc nL ret d n σ av r σ' := by
  subst hlv
  exact x_Sp.of hy hown (fun h => by cases h) hlen h
section
variable {l : Launch} {own : String} {cc : ByteArray} {nL : Nat} {ret : Option FieldType} {ini : Bool} {d mc ms : Nat} {Q : xP} {n cu su pc : Nat} {lv lv' : List (Nat × xV)} {st rest : List xV} {σ σ1 : xMi} {t i ci k idx : Nat} {v : xV}
variable {y : MethodName} {own' : String} {cc' : ByteArray} {nL' : Nat} {ret' : Option FieldType} {d' na : Nat} {As : List xV}
theorem x_ci8 {nm : String} (h : (x_cl[ci]?).map (fun q => q.1) = some nm) : ci < 8 := by
  rcases Nat.lt_or_ge ci 8 with h1 | h1
  · exact h1
  · rw [List.getElem?_eq_none (by simpa using h1)] at h
    cases h
theorem f_V (hd : decode cc pc = .ok (.invokevirtual idx, 3)) (hw : x_cV own idx y) (hb : x_cB y cc' nL' ret' na) (hSp : x_F l y own' cc' nL' ret' d' n σ (xR t i :: As) (some v) σ1) (hst : As.reverse ++ xR t i :: rest = st) (hv : x_vd n t i) (hs : x_sh t = .inr ci) (hci : (x_cl[ci]?).map (fun q => q.1) = some y.cls) (hna : As.length = na) (hcat : (rest.map x_cat).sum ≤ 8) (hdd : d' + 1 ≤ d) (hnl : nL' ≤ 80) (hc : cu ≤ mc) (hsl : su ≤ ms)
    (kk : xGo l own cc nL ret ini d mc ms Q n cu su (pc + 3) lv (v :: rest) x_r0 σ1) : xGo l own cc nL ret ini d mc ms Q n cu su pc lv st x_r0 σ := by
  subst hst
  refine x_callV hd hw hb hSp hv hs (fun q h => by rw [h] at hci; exact Option.some.inj hci) (x_ci8 hci) hna hcat hdd hnl hc hsl (fun r n' ρ' σ' h => h.2.1) (fun r n' ρ' σ' h => ?_)
  obtain ⟨rfl, rfl, rfl, rfl⟩ := h
  exact kk
theorem f_Vv (hd : decode cc pc = .ok (.invokevirtual idx, 3)) (hw : x_cV own idx y) (hb : x_cB y cc' nL' ret' na) (hSp : x_F l y own' cc' nL' ret' d' n σ (xR t i :: As) none σ1) (hst : As.reverse ++ xR t i :: rest = st) (hv : x_vd n t i) (hs : x_sh t = .inr ci) (hci : (x_cl[ci]?).map (fun q => q.1) = some y.cls) (hna : As.length = na) (hcat : (rest.map x_cat).sum ≤ 8) (hdd : d' + 1 ≤ d) (hnl : nL' ≤ 80) (hc : cu ≤ mc) (hsl : su ≤ ms)
    (kk : xGo l own cc nL ret ini d mc ms Q n cu su (pc + 3) lv rest x_r0 σ1) : xGo l own cc nL ret ini d mc ms Q n cu su pc lv st x_r0 σ := by
  subst hst
  refine x_callV hd hw hb hSp hv hs (fun q h => by rw [h] at hci; exact Option.some.inj hci) (x_ci8 hci) hna hcat hdd hnl hc hsl (fun r n' ρ' σ' h => h.2.1) (fun r n' ρ' σ' h => ?_)
  obtain ⟨rfl, rfl, rfl, rfl⟩ := h
  exact kk
theorem f_S (hd : decode cc pc = .ok (.invokestatic idx, 3)) (hw : x_cS own idx y) (hb : x_cB y cc' nL' ret' na) (hSp : x_F l y own' cc' nL' ret' d' n σ As (some v) σ1) (hst : As.reverse ++ rest = st) (hn0 : 0 < n) (hna : As.length = na) (hcat : (rest.map x_cat).sum ≤ 8) (hdd : d' + 1 ≤ d) (hnl : nL' ≤ 80) (hc : cu ≤ mc) (hsl : su ≤ ms)
    (kk : xGo l own cc nL ret ini d mc ms Q n cu su (pc + 3) lv (v :: rest) x_r0 σ1) : xGo l own cc nL ret ini d mc ms Q n cu su pc lv st x_r0 σ := by
  subst hst
  refine x_callS hn0 hd hw hb hSp hna hcat hdd hnl hc hsl (fun r n' ρ' σ' h => h.2.1) (fun r n' ρ' σ' h => ?_)
  obtain ⟨rfl, rfl, rfl, rfl⟩ := h
  exact kk
theorem f_Sv (hd : decode cc pc = .ok (.invokestatic idx, 3)) (hw : x_cS own idx y) (hb : x_cB y cc' nL' ret' na) (hSp : x_F l y own' cc' nL' ret' d' n σ As none σ1) (hst : As.reverse ++ rest = st) (hn0 : 0 < n) (hna : As.length = na) (hcat : (rest.map x_cat).sum ≤ 8) (hdd : d' + 1 ≤ d) (hnl : nL' ≤ 80) (hc : cu ≤ mc) (hsl : su ≤ ms)
    (kk : xGo l own cc nL ret ini d mc ms Q n cu su (pc + 3) lv rest x_r0 σ1) : xGo l own cc nL ret ini d mc ms Q n cu su pc lv st x_r0 σ := by
  subst hst
  refine x_callS hn0 hd hw hb hSp hna hcat hdd hnl hc hsl (fun r n' ρ' σ' h => h.2.1) (fun r n' ρ' σ' h => ?_)
  obtain ⟨rfl, rfl, rfl, rfl⟩ := h
  exact kk
theorem f_iret {r : Option xV} {σ' : xMi} {a : Int} (hd : decode cc pc = .ok (.ireturn, 1)) (h1 : some (xI a) = r) (h2 : σ = σ') : x_G l own cc nL (some .int) d n r σ' pc lv [xI a] σ := g_iret hd ⟨h1, rfl, rfl, h2⟩ (Nat.le_refl _) (Nat.le_refl _)
theorem f_zret {r : Option xV} {σ' : xMi} {a : Int} (hd : decode cc pc = .ok (.ireturn, 1)) (ha : a = 0 ∨ a = 1) (h1 : some (xI a) = r) (h2 : σ = σ') : x_G l own cc nL (some .boolean) d n r σ' pc lv [xI a] σ := g_zret hd ha ⟨h1, rfl, rfl, h2⟩ (Nat.le_refl _) (Nat.le_refl _)
theorem f_cret {r : Option xV} {σ' : xMi} {a : Int} (hd : decode cc pc = .ok (.ireturn, 1)) (ha : narrow .char (.int (Int32.ofInt a)) = .int (Int32.ofInt a)) (h1 : some (xI a) = r) (h2 : σ = σ') : x_G l own cc nL (some .char) d n r σ' pc lv [xI a] σ := g_cret hd ha ⟨h1, rfl, rfl, h2⟩ (Nat.le_refl _) (Nat.le_refl _)
theorem f_lret {r : Option xV} {σ' : xMi} {a : Int} (hd : decode cc pc = .ok (.lreturn, 1)) (h1 : some (xJ a) = r) (h2 : σ = σ') : x_G l own cc nL (some .long) d n r σ' pc lv [xJ a] σ := g_lret hd ⟨h1, rfl, rfl, h2⟩ (Nat.le_refl _) (Nat.le_refl _)
theorem f_vret {r : Option xV} {σ' : xMi} (hd : decode cc pc = .ok (.return_, 1)) (h1 : none = r) (h2 : σ = σ') : x_G l own cc nL none d n r σ' pc lv [] σ := g_vret hd ⟨h1, rfl, rfl, h2⟩ (Nat.le_refl _) (Nat.le_refl _)
end
theorem w_copy1 : Cond.native arraycopyName ∈ x_T ∧ Cond.static arraycopyName ∈ x_T ∧ Cond.initialized "java/lang/System" ∈ x_T := ⟨x_in (k := 340) (by decide +kernel) rfl, x_in (k := 339) (by decide +kernel) rfl, x_in (k := 59) (by decide +kernel) rfl⟩
theorem w_max : Cond.static Lib.Math.max.name ∈ x_T ∧ Cond.initialized "java/lang/Math" ∈ x_T ∧ Cond.code Lib.Math.max.name Lib.Math.max.code 2 (some .int) ∈ x_T := ⟨x_in (k := 182) (by decide +kernel) rfl, x_in (k := 52) (by decide +kernel) rfl, x_in (k := 183) (by decide +kernel) rfl⟩
theorem w_min : Cond.static Lib.Math.min.name ∈ x_T ∧ Cond.initialized "java/lang/Math" ∈ x_T ∧ Cond.code Lib.Math.min.name Lib.Math.min.code 2 (some .int) ∈ x_T := ⟨x_in (k := 445) (by decide +kernel) rfl, x_in (k := 52) (by decide +kernel) rfl, x_in (k := 446) (by decide +kernel) rfl⟩
theorem w_oi : Cond.instanceMethod objectInit ∈ x_T ∧ Cond.code objectInit ⟨#[0xb1]⟩ 1 none ∈ x_T := ⟨x_in (k := 68) (by decide +kernel) rfl, x_in (k := 69) (by decide +kernel) rfl⟩
theorem cx_X6_1 : Cond.methodLink RX6 1 objectInit ∈ x_T := x_in (k := 67) (by decide +kernel) rfl
theorem cx_X5_3 : Cond.methodLink RX5 3 objectInit ∈ x_T := x_in (k := 75) (by decide +kernel) rfl
theorem cx_X3_3 : Cond.methodLink RX3 3 objectInit ∈ x_T := x_in (k := 94) (by decide +kernel) rfl
theorem cx_X0_3 : Cond.methodLink RX0 3 objectInit ∈ x_T := x_in (k := 129) (by decide +kernel) rfl
theorem cx_X2_1 : Cond.methodLink RX2 1 objectInit ∈ x_T := x_in (k := 180) (by decide +kernel) rfl
theorem cx_X2_16 : Cond.methodLink RX2 16 Lib.Math.max.name ∈ x_T := cs_X2_16.1
theorem cx_X4_3 : Cond.methodLink RX4 3 objectInit ∈ x_T := x_in (k := 203) (by decide +kernel) rfl
theorem cx_X1_3 : Cond.methodLink RX1 3 objectInit ∈ x_T := x_in (k := 224) (by decide +kernel) rfl
theorem cx_X3_31 : Cond.methodLink RX3 31 arraycopyName ∈ x_T := x_in (k := 338) (by decide +kernel) rfl
theorem cx_X0_54 : Cond.methodLink RX0 54 arraycopyName ∈ x_T := x_in (k := 443) (by decide +kernel) rfl
theorem cx_X2_35 : Cond.methodLink RX2 35 Lib.Math.min.name ∈ x_T := cs_X2_35.1
theorem cx_X0_75 : Cond.methodLink RX0 75 Lib.Math.min.name ∈ x_T := cs_X0_75.1
theorem cx_X0_113 : Cond.methodLink RX0 113 Lib.Math.max.name ∈ x_T := cs_X0_113.1
theorem cx_X1_65 : Cond.methodLink RX1 65 arraycopyName ∈ x_T := x_in (k := 562) (by decide +kernel) rfl
theorem cx_X4_26 : Cond.methodLink RX4 26 Lib.Math.max.name ∈ x_T := cs_X4_26.1
theorem cx_X7_3 : Cond.methodLink RX7 3 objectInit ∈ x_T := x_in (k := 663) (by decide +kernel) rfl
theorem ii_X6 : Cond.initialized RX6 ∈ x_T := x_in (k := 47) (by decide +kernel) rfl
theorem ii_X5 : Cond.initialized RX5 ∈ x_T := x_in (k := 48) (by decide +kernel) rfl
theorem ii_X3 : Cond.initialized RX3 ∈ x_T := x_in (k := 49) (by decide +kernel) rfl
theorem ii_X0 : Cond.initialized RX0 ∈ x_T := x_in (k := 50) (by decide +kernel) rfl
theorem ii_X2 : Cond.initialized RX2 ∈ x_T := x_in (k := 51) (by decide +kernel) rfl
theorem ii_J9 : Cond.initialized RJ9 ∈ x_T := x_in (k := 52) (by decide +kernel) rfl
theorem ii_X4 : Cond.initialized RX4 ∈ x_T := x_in (k := 53) (by decide +kernel) rfl
theorem ii_X1 : Cond.initialized RX1 ∈ x_T := x_in (k := 54) (by decide +kernel) rfl
theorem ii_J0 : Cond.initialized RJ0 ∈ x_T := x_in (k := 55) (by decide +kernel) rfl
theorem ii_J1 : Cond.initialized RJ1 ∈ x_T := x_in (k := 56) (by decide +kernel) rfl
theorem ii_J3 : Cond.initialized RJ3 ∈ x_T := x_in (k := 57) (by decide +kernel) rfl
theorem ii_J2 : Cond.initialized RJ2 ∈ x_T := x_in (k := 58) (by decide +kernel) rfl
theorem ii_J10 : Cond.initialized RJ10 ∈ x_T := x_in (k := 59) (by decide +kernel) rfl
theorem ii_X7 : Cond.initialized RX7 ∈ x_T := x_in (k := 60) (by decide +kernel) rfl
theorem ii_J6 : Cond.initialized RJ6 ∈ x_T := x_in (k := 61) (by decide +kernel) rfl
theorem cl_L_7 : Cond.classLink RL 7 RX6 ∈ x_T := x_in (k := 62) (by decide +kernel) rfl
theorem in_X6 : Cond.instantiable RX6 11 ∈ x_T := x_in (k := 63) (by decide +kernel) rfl
theorem cl_X6_7 : Cond.classLink RX6 7 RX5 ∈ x_T := x_in (k := 70) (by decide +kernel) rfl
theorem in_X5 : Cond.instantiable RX5 3 ∈ x_T := x_in (k := 71) (by decide +kernel) rfl
theorem ac_char : Cond.arrayClass .char ∈ x_T := x_in (k := 87) (by decide +kernel) rfl
theorem ac_int : Cond.arrayClass .int ∈ x_T := x_in (k := 88) (by decide +kernel) rfl
theorem cl_X6_16 : Cond.classLink RX6 16 RX3 ∈ x_T := x_in (k := 89) (by decide +kernel) rfl
theorem in_X3 : Cond.instantiable RX3 6 ∈ x_T := x_in (k := 90) (by decide +kernel) rfl
theorem cl_X6_29 : Cond.classLink RX6 29 RX0 ∈ x_T := x_in (k := 124) (by decide +kernel) rfl
theorem in_X0 : Cond.instantiable RX0 12 ∈ x_T := x_in (k := 125) (by decide +kernel) rfl
theorem cl_X6_44 : Cond.classLink RX6 44 RX2 ∈ x_T := x_in (k := 175) (by decide +kernel) rfl
theorem in_X2 : Cond.instantiable RX2 3 ∈ x_T := x_in (k := 176) (by decide +kernel) rfl
theorem cl_X2_22 : Cond.classLink RX2 22 RX0 ∈ x_T := x_in (k := 184) (by decide +kernel) rfl
theorem cl_X6_56 : Cond.classLink RX6 56 RX4 ∈ x_T := x_in (k := 198) (by decide +kernel) rfl
theorem in_X4 : Cond.instantiable RX4 4 ∈ x_T := x_in (k := 199) (by decide +kernel) rfl
theorem ac_boolean : Cond.arrayClass .boolean ∈ x_T := x_in (k := 218) (by decide +kernel) rfl
theorem cl_X6_63 : Cond.classLink RX6 63 RX1 ∈ x_T := x_in (k := 219) (by decide +kernel) rfl
theorem in_X1 : Cond.instantiable RX1 5 ∈ x_T := x_in (k := 220) (by decide +kernel) rfl
theorem cl_X1_9 : Cond.classLink RX1 9 RX0 ∈ x_T := x_in (k := 225) (by decide +kernel) rfl
theorem ac_byte : Cond.arrayClass .byte ∈ x_T := x_in (k := 383) (by decide +kernel) rfl
theorem ct_J6_265 : Cond.constant RJ6 265 1431655765 ∈ x_T := x_in (k := 479) (by decide +kernel) rfl
theorem ct_J6_266 : Cond.constant RJ6 266 858993459 ∈ x_T := x_in (k := 480) (by decide +kernel) rfl
theorem ct_J6_267 : Cond.constant RJ6 267 252645135 ∈ x_T := x_in (k := 481) (by decide +kernel) rfl
theorem ct_X6_241 : Cond.constantLong RX6 241 7919 ∈ x_T := x_in (k := 627) (by decide +kernel) rfl
theorem ct_X6_243 : Cond.constantLong RX6 243 6151 ∈ x_T := x_in (k := 628) (by decide +kernel) rfl
theorem ct_X6_245 : Cond.constantLong RX6 245 65521 ∈ x_T := x_in (k := 629) (by decide +kernel) rfl
theorem ct_X6_247 : Cond.constantLong RX6 247 2 ∈ x_T := x_in (k := 630) (by decide +kernel) rfl
theorem cl_L_10 : Cond.classLink RL 10 RX7 ∈ x_T := x_in (k := 658) (by decide +kernel) rfl
theorem in_X7 : Cond.instantiable RX7 36 ∈ x_T := x_in (k := 659) (by decide +kernel) rfl
theorem ct_X7_241 : Cond.constantLong RX7 241 10 ∈ x_T := x_in (k := 999) (by decide +kernel) rfl
theorem ct_X7_250 : Cond.constantLong RX7 250 7919 ∈ x_T := x_in (k := 1010) (by decide +kernel) rfl
theorem ct_X7_252 : Cond.constantLong RX7 252 6151 ∈ x_T := x_in (k := 1011) (by decide +kernel) rfl
theorem ct_X7_254 : Cond.constantLong RX7 254 65521 ∈ x_T := x_in (k := 1012) (by decide +kernel) rfl
theorem ct_X7_256 : Cond.constantLong RX7 256 2 ∈ x_T := x_in (k := 1013) (by decide +kernel) rfl
end
section
theorem x_cp_o {σ : xMi} {t i t0 i0 n : Nat} {t' i' : Nat} (h : ¬ (t' = t ∧ i' = i)) (k' : Nat) : x_cp σ t i t0 i0 n t' i' k' = σ t' i' k' := if_neg (fun z => h ⟨z.1, z.2.1⟩)
theorem g_sub {l : Launch} {own : String} {cc : ByteArray} {nL : Nat} {ret : Option FieldType} {ini : Bool} {d mc ms : Nat} {Q : xP} {n cu su pc : Nat} {lv lv2 : List (Nat × xV)} {st : List xV} {ρ : xMr} {σ : xMi} (ks : List Nat) (h : ks.filterMap (fun k => lv[k]?) = lv2) (kk : xGo l own cc nL ret ini d mc ms Q n cu su pc lv2 st ρ σ) : xGo l own cc nL ret ini d mc ms Q n cu su pc lv st ρ σ := by
  intro p e s m args below meth c B D cy zz H locs ls hC hR hS hl
  refine kk p e s m args below meth c B D cy zz H locs ls hC hR hS ⟨hl.1, hl.2.1, fun q hq => ?_⟩
  obtain ⟨q0, hq0, rfl⟩ := List.mem_map.mp hq
  rw [← h] at hq0
  obtain ⟨k, -, hk⟩ := List.mem_filterMap.mp hq0
  exact hl.2.2 _ (List.mem_map.mpr ⟨q0, List.mem_of_getElem? hk, rfl⟩)
theorem f_cv {l : Launch} {own : String} {cc : ByteArray} {nL : Nat} {ret : Option FieldType} {d n : Nat} {pc : Nat} {lv : List (Nat × xV)} {st : List xV} {σ : xMi} {r r2 : Option xV} {s1 s2 : xMi} (h1 : r = r2) (h2 : s1 = s2) (kk : x_G l own cc nL ret d n r2 s2 pc lv st σ) : x_G l own cc nL ret d n r s1 pc lv st σ := by
  subst h1; subst h2; exact kk
theorem g_mem {l : Launch} {own : String} {cc : ByteArray} {nL : Nat} {ret : Option FieldType} {ini : Bool} {d mc ms : Nat} {Q : xP} {n cu su pc : Nat} {lv : List (Nat × xV)} {st : List xV} {ρ : xMr} {σ : xMi} (σ2 : xMi) (h : σ = σ2) (kk : xGo l own cc nL ret ini d mc ms Q n cu su pc lv st ρ σ2) : xGo l own cc nL ret ini d mc ms Q n cu su pc lv st ρ σ := by
  subst h; exact kk
theorem g_eqI {l : Launch} {own : String} {cc : ByteArray} {nL : Nat} {ret : Option FieldType} {ini : Bool} {d mc ms : Nat} {Q : xP} {n cu su pc : Nat} {lv : List (Nat × xV)} {st : List xV} {ρ : xMr} {σ : xMi} {a : Int} (b : Int) (h : a = b) (kk : xGo l own cc nL ret ini d mc ms Q n cu su pc lv (xI b :: st) ρ σ) : xGo l own cc nL ret ini d mc ms Q n cu su pc lv (xI a :: st) ρ σ := by
  subst h; exact kk
theorem x_remN {q K : Nat} (hq : q < 2147483648) (hK : 0 < K) (hK2 : K < 2147483648) : x_rem (q : Int) (K : Int) = ((q % K : Nat) : Int) := by
  unfold x_rem
  rw [x_ofk, x_ofk, pk_rem hq hK hK2, nI_toInt (Nat.lt_of_lt_of_le (Nat.mod_lt _ hK) (by omega))]
def V_X0_isTold (σ : xMi) (f : Nat) (p : Nat) : Int := (if x_wr (σ 4 f p) < 0 then 0 else 1)
theorem z_X0_isTold (σ : xMi) (f : Nat) (p : Nat) : V_X0_isTold σ f p = 0 ∨ V_X0_isTold σ f p = 1 := by
  unfold V_X0_isTold
  (repeat' split) <;> first | exact Or.inl rfl | exact Or.inr rfl
theorem c_X0_isTold (l : Launch) (n : Nat) (σ : xMi) (f : Nat) (p : Nat) (hn : 131 ≤ n) (hf : f < 20) (hp : p < 6)  : x_F l yX0_isTold RX0 cX0_isTold 2 (some .boolean) 0 n σ [xR 0 f, xI (p : Int)] (some (xI (V_X0_isTold σ f p))) σ := by
  refine f_of (by decide) rfl (Nat.le_of_ble_eq_true rfl) rfl ?_
  refine g_aload_n dX0_isTold_0 rfl ?_
  refine g_getR (t2 := 4) (i2 := f) dX0_isTold_1 fl_X0_21 (x_vC hn (Nat.le_of_ble_eq_true rfl) hf) rfl rfl rfl ?_
  refine g_iload_n dX0_isTold_4 rfl ?_
  refine g_iald p dX0_isTold_5 rfl hp (x_vC hn (Nat.le_of_ble_eq_true rfl) hf) rfl ?_
  refine g_if_lt 13 dX0_isTold_6 rfl (fun c_6 => ?_) (fun c_6 => ?_)
  · refine g_iconst dX0_isTold_13 ?_
    exact f_zret dX0_isTold_14 (by decide) (by rw [V_X0_isTold, if_pos c_6]) rfl
  · refine g_iconst dX0_isTold_9 ?_
    refine g_goto 14 dX0_isTold_10 rfl ?_
    exact f_zret dX0_isTold_14 (by decide) (by rw [V_X0_isTold, if_neg c_6]) rfl

def V_X0_isIn (σ : xMi) (b : Int) (q : Int) : Int := (if x_wr (x_and (x_shr b q) 1) = x_wr 1 then 1 else 0)
theorem z_X0_isIn (σ : xMi) (b : Int) (q : Int) : V_X0_isIn σ b q = 0 ∨ V_X0_isIn σ b q = 1 := by
  unfold V_X0_isIn
  (repeat' split) <;> first | exact Or.inl rfl | exact Or.inr rfl
theorem c_X0_isIn (l : Launch) (n : Nat) (σ : xMi) (b : Int) (q : Int) (hn : 131 ≤ n)   : x_F l yX0_isIn RX0 cX0_isIn 2 (some .boolean) 0 n σ [xI b, xI q] (some (xI (V_X0_isIn σ b q))) σ := by
  refine f_of (by decide) rfl (Nat.le_of_ble_eq_true rfl) rfl ?_
  refine g_iload_n dX0_isIn_0 rfl ?_
  refine g_iload_n dX0_isIn_1 rfl ?_
  refine g_ishr dX0_isIn_2 ?_
  refine g_iconst dX0_isIn_3 ?_
  refine g_iand dX0_isIn_4 ?_
  refine g_iconst dX0_isIn_5 ?_
  refine g_cmp_ne 13 dX0_isIn_6 rfl (fun c_6 => ?_) (fun c_6 => ?_)
  · refine g_iconst dX0_isIn_13 ?_
    exact f_zret dX0_isIn_14 (by decide) (by rw [V_X0_isIn, if_neg c_6]) rfl
  · refine g_iconst dX0_isIn_9 ?_
    refine g_goto 14 dX0_isIn_10 rfl ?_
    exact f_zret dX0_isIn_14 (by decide) (by rw [V_X0_isIn, if_pos c_6]) rfl

def V_X0_eatingDays (σ : xMi) (k : Int) (h : Int) : Int := (if x_wr k = x_wr 2 then h else (if x_wr k = x_wr 1 then ((2 * h) + 2) else (2 * h)))
theorem c_X0_eatingDays (l : Launch) (n : Nat) (σ : xMi) (k : Int) (h : Int) (hn : 131 ≤ n)   : x_F l yX0_eatingDays RX0 cX0_eatingDays 2 (some .int) 0 n σ [xI k, xI h] (some (xI (V_X0_eatingDays σ k h))) σ := by
  refine f_of (by decide) rfl (Nat.le_of_ble_eq_true rfl) rfl ?_
  refine g_iload_n dX0_eatingDays_0 rfl ?_
  refine g_iconst dX0_eatingDays_1 ?_
  refine g_cmp_ne 7 dX0_eatingDays_2 rfl (fun c_2 => ?_) (fun c_2 => ?_)
  · refine g_iload_n dX0_eatingDays_7 rfl ?_
    refine g_iconst dX0_eatingDays_8 ?_
    refine g_cmp_ne 20 dX0_eatingDays_9 rfl (fun c_9 => ?_) (fun c_9 => ?_)
    · refine g_iconst dX0_eatingDays_20 ?_
      refine g_iload_n dX0_eatingDays_21 rfl ?_
      refine g_imul dX0_eatingDays_22 ?_
      exact f_iret dX0_eatingDays_23 (by rw [V_X0_eatingDays, if_neg c_2, if_neg c_9]) rfl
    · refine g_iconst dX0_eatingDays_12 ?_
      refine g_iload_n dX0_eatingDays_13 rfl ?_
      refine g_imul dX0_eatingDays_14 ?_
      refine g_iconst dX0_eatingDays_15 ?_
      refine g_iadd dX0_eatingDays_16 ?_
      refine g_goto 23 dX0_eatingDays_17 rfl ?_
      exact f_iret dX0_eatingDays_23 (by rw [V_X0_eatingDays, if_neg c_2, if_pos c_9]) rfl
  · refine g_iload_n dX0_eatingDays_5 rfl ?_
    exact f_iret dX0_eatingDays_6 (by rw [V_X0_eatingDays, if_pos c_2]) rfl

def V_X0_wayDays (σ : xMi) (f : Nat) (p : Nat) : Int := ((x_div (σ 7 (x_rof f) p) 10) + 1)
theorem c_X0_wayDays (l : Launch) (n : Nat) (σ : xMi) (f : Nat) (p : Nat) (hn : 131 ≤ n) (hf : f < 20) (hp : p < 6)  : x_F l yX0_wayDays RX0 cX0_wayDays 2 (some .int) 0 n σ [xR 0 f, xI (p : Int)] (some (xI (V_X0_wayDays σ f p))) σ := by
  refine f_of (by decide) rfl (Nat.le_of_ble_eq_true rfl) rfl ?_
  refine g_aload_n dX0_wayDays_0 rfl ?_
  refine g_getR (t2 := 5) (i2 := (x_rof f)) dX0_wayDays_1 fl_X0_47 (x_vC hn (Nat.le_of_ble_eq_true rfl) hf) rfl rfl rfl ?_
  refine g_getR (t2 := 7) (i2 := (x_rof f)) dX0_wayDays_4 fl_X0_125 (x_vC hn (Nat.le_of_ble_eq_true rfl) (x_rof_lt _)) rfl rfl rfl ?_
  refine g_iload_n dX0_wayDays_7 rfl ?_
  refine g_iald p dX0_wayDays_8 rfl hp (x_vC hn (Nat.le_of_ble_eq_true rfl) (x_rof_lt _)) rfl ?_
  refine g_bipush dX0_wayDays_9 (by decide) ?_
  refine g_idiv dX0_wayDays_11 (by decide) ?_
  refine g_iconst dX0_wayDays_12 ?_
  refine g_iadd dX0_wayDays_13 ?_
  exact f_iret dX0_wayDays_14 rfl rfl

def V_X0_canBeSentOne (σ : xMi) (f : Nat) (p : Nat) : Int := (if x_wr (σ 1 f p) = 0 then (if x_wr (V_X0_isIn σ (σ 0 f 5) (p : Int)) = 0 then (if x_wr (V_X0_isTold σ f p) = 0 then 1 else 0) else 0) else 0)
theorem z_X0_canBeSentOne (σ : xMi) (f : Nat) (p : Nat) : V_X0_canBeSentOne σ f p = 0 ∨ V_X0_canBeSentOne σ f p = 1 := by
  unfold V_X0_canBeSentOne
  (repeat' split) <;> first | exact Or.inl rfl | exact Or.inr rfl
theorem c_X0_canBeSentOne (l : Launch) (n : Nat) (σ : xMi) (f : Nat) (p : Nat) (hn : 131 ≤ n) (hf : f < 20) (hp : p < 6)  : x_F l yX0_canBeSentOne RX0 cX0_canBeSentOne 2 (some .boolean) 1 n σ [xR 0 f, xI (p : Int)] (some (xI (V_X0_canBeSentOne σ f p))) σ := by
  refine f_of (by decide) rfl (Nat.le_of_ble_eq_true rfl) rfl ?_
  refine g_aload_n dX0_canBeSentOne_0 rfl ?_
  refine g_getR (t2 := 1) (i2 := f) dX0_canBeSentOne_1 fl_X0_9 (x_vC hn (Nat.le_of_ble_eq_true rfl) hf) rfl rfl rfl ?_
  refine g_iload_n dX0_canBeSentOne_4 rfl ?_
  refine g_iald p dX0_canBeSentOne_5 rfl hp (x_vC hn (Nat.le_of_ble_eq_true rfl) hf) rfl ?_
  refine g_if_ne 32 dX0_canBeSentOne_6 rfl (fun c_6 => ?_) (fun c_6 => ?_)
  · refine g_iconst dX0_canBeSentOne_32 ?_
    exact f_zret dX0_canBeSentOne_33 (by decide) (by rw [V_X0_canBeSentOne, if_neg c_6]) rfl
  · refine g_aload_n dX0_canBeSentOne_9 rfl ?_
    refine g_getI dX0_canBeSentOne_10 fl_X0_24 (x_vC hn (Nat.le_of_ble_eq_true rfl) hf) rfl rfl ?_
    refine g_iload_n dX0_canBeSentOne_13 rfl ?_
    refine f_S dX0_canBeSentOne_14 cs_X0_60 mb_X0_isIn (c_X0_isIn l n _ (σ 0 f 5) (p : Int) hn) rfl (Nat.lt_of_lt_of_le (by decide) hn) rfl (Nat.le_of_ble_eq_true rfl) (by decide) (Nat.le_of_ble_eq_true rfl) (Nat.le_refl _) (Nat.le_refl _) ?_
    refine g_if_ne 32 dX0_canBeSentOne_17 rfl (fun c_17 => ?_) (fun c_17 => ?_)
    · refine g_iconst dX0_canBeSentOne_32 ?_
      exact f_zret dX0_canBeSentOne_33 (by decide) (by rw [V_X0_canBeSentOne, if_pos c_6, if_neg c_17]) rfl
    · refine g_aload_n dX0_canBeSentOne_20 rfl ?_
      refine g_iload_n dX0_canBeSentOne_21 rfl ?_
      refine f_V dX0_canBeSentOne_22 cs_X0_64 mb_X0_isTold (c_X0_isTold l n _ f p hn hf hp) rfl (x_vC hn (Nat.le_of_ble_eq_true rfl) hf) rfl rfl rfl (Nat.le_of_ble_eq_true rfl) (by decide) (Nat.le_of_ble_eq_true rfl) (Nat.le_refl _) (Nat.le_refl _) ?_
      refine g_if_ne 32 dX0_canBeSentOne_25 rfl (fun c_25 => ?_) (fun c_25 => ?_)
      · refine g_iconst dX0_canBeSentOne_32 ?_
        exact f_zret dX0_canBeSentOne_33 (by decide) (by rw [V_X0_canBeSentOne, if_pos c_6, if_pos c_17, if_neg c_25]) rfl
      · refine g_iconst dX0_canBeSentOne_28 ?_
        refine g_goto 33 dX0_canBeSentOne_29 rfl ?_
        exact f_zret dX0_canBeSentOne_33 (by decide) (by rw [V_X0_canBeSentOne, if_pos c_6, if_pos c_17, if_pos c_25]) rfl

def V_X0_canSendNow (σ : xMi) (f : Nat) (p : Nat) : Int := (if x_wr (V_X0_canBeSentOne σ f p) = 0 then 0 else (if x_wr (σ 0 f 9) ≤ 0 then 0 else (if x_wr (x_bn (σ 0 f 11)) = 0 then 1 else 0)))
theorem z_X0_canSendNow (σ : xMi) (f : Nat) (p : Nat) : V_X0_canSendNow σ f p = 0 ∨ V_X0_canSendNow σ f p = 1 := by
  unfold V_X0_canSendNow
  (repeat' split) <;> first | exact Or.inl rfl | exact Or.inr rfl
theorem c_X0_canSendNow (l : Launch) (n : Nat) (σ : xMi) (f : Nat) (p : Nat) (hn : 131 ≤ n) (hf : f < 20) (hp : p < 6)  : x_F l yX0_canSendNow RX0 cX0_canSendNow 2 (some .boolean) 2 n σ [xR 0 f, xI (p : Int)] (some (xI (V_X0_canSendNow σ f p))) σ := by
  refine f_of (by decide) rfl (Nat.le_of_ble_eq_true rfl) rfl ?_
  refine g_aload_n dX0_canSendNow_0 rfl ?_
  refine g_iload_n dX0_canSendNow_1 rfl ?_
  refine f_V dX0_canSendNow_2 cs_X0_68 mb_X0_canBeSentOne (c_X0_canBeSentOne l n _ f p hn hf hp) rfl (x_vC hn (Nat.le_of_ble_eq_true rfl) hf) rfl rfl rfl (Nat.le_of_ble_eq_true rfl) (by decide) (Nat.le_of_ble_eq_true rfl) (Nat.le_refl _) (Nat.le_refl _) ?_
  refine g_if_eq 26 dX0_canSendNow_5 rfl (fun c_5 => ?_) (fun c_5 => ?_)
  · refine g_iconst dX0_canSendNow_26 ?_
    exact f_zret dX0_canSendNow_27 (by decide) (by rw [V_X0_canSendNow, if_pos c_5]) rfl
  · refine g_aload_n dX0_canSendNow_8 rfl ?_
    refine g_getI dX0_canSendNow_9 fl_X0_37 (x_vC hn (Nat.le_of_ble_eq_true rfl) hf) rfl rfl ?_
    refine g_if_le 26 dX0_canSendNow_12 rfl (fun c_12 => ?_) (fun c_12 => ?_)
    · refine g_iconst dX0_canSendNow_26 ?_
      exact f_zret dX0_canSendNow_27 (by decide) (by rw [V_X0_canSendNow, if_neg c_5, if_pos c_12]) rfl
    · refine g_aload_n dX0_canSendNow_15 rfl ?_
      refine g_getZ dX0_canSendNow_16 fl_X0_43 (x_vC hn (Nat.le_of_ble_eq_true rfl) hf) rfl rfl ?_
      refine g_if_ne 26 dX0_canSendNow_19 rfl (fun c_19 => ?_) (fun c_19 => ?_)
      · refine g_iconst dX0_canSendNow_26 ?_
        exact f_zret dX0_canSendNow_27 (by decide) (by rw [V_X0_canSendNow, if_neg c_5, if_neg c_12, if_neg c_19]) rfl
      · refine g_iconst dX0_canSendNow_22 ?_
        refine g_goto 27 dX0_canSendNow_23 rfl ?_
        exact f_zret dX0_canSendNow_27 (by decide) (by rw [V_X0_canSendNow, if_neg c_5, if_neg c_12, if_pos c_19]) rfl

def S_X0_dispatch (σ : xMi) (f : Nat) (p : Nat) : xMi := (x_up (x_up (x_up (x_up σ 0 f 9 ((σ 0 f 9) - 1)) 0 f 11 1) 1 f p 1) 2 f p (((x_up (x_up (x_up σ 0 f 9 ((σ 0 f 9) - 1)) 0 f 11 1) 1 f p 1) 0 f 10) + (V_X0_wayDays (x_up (x_up (x_up σ 0 f 9 ((σ 0 f 9) - 1)) 0 f 11 1) 1 f p 1) f p)))
theorem fr_S_X0_dispatch (σ : xMi) (f : Nat) (p : Nat) {t i k : Nat} (h : ¬ (t ≤ 4 ∧ i = f)) : S_X0_dispatch σ f p t i k = σ t i k := by
  unfold S_X0_dispatch
  all_goals ((repeat' split) <;> first | rfl | simp (disch := first | omega | assumption) only [x_up_o, x_cp_o])
theorem c_X0_dispatch (l : Launch) (n : Nat) (σ : xMi) (f : Nat) (p : Nat) (hn : 131 ≤ n) (hf : f < 20) (hp : p < 6)  : x_F l yX0_dispatch RX0 cX0_dispatch 2 none 1 n σ [xR 0 f, xI (p : Int)] none (S_X0_dispatch σ f p) := by
  refine f_of (by decide) rfl (Nat.le_of_ble_eq_true rfl) rfl ?_
  refine g_aload_n dX0_dispatch_0 rfl ?_
  refine g_dup dX0_dispatch_1 rfl ?_
  refine g_getI dX0_dispatch_2 fl_X0_37 (x_vC hn (Nat.le_of_ble_eq_true rfl) hf) rfl rfl ?_
  refine g_iconst dX0_dispatch_5 ?_
  refine g_isub dX0_dispatch_6 ?_
  refine g_putI dX0_dispatch_7 fl_X0_37 (x_vC hn (Nat.le_of_ble_eq_true rfl) hf) rfl rfl ?_
  refine g_aload_n dX0_dispatch_10 rfl ?_
  refine g_iconst dX0_dispatch_11 ?_
  refine g_putZ dX0_dispatch_12 fl_X0_43 (x_vC hn (Nat.le_of_ble_eq_true rfl) hf) rfl rfl rfl ?_
  refine g_aload_n dX0_dispatch_15 rfl ?_
  refine g_getR (t2 := 1) (i2 := f) dX0_dispatch_16 fl_X0_9 (x_vC hn (Nat.le_of_ble_eq_true rfl) hf) rfl rfl rfl ?_
  refine g_iload_n dX0_dispatch_19 rfl ?_
  refine g_iconst dX0_dispatch_20 ?_
  refine g_iast p dX0_dispatch_21 rfl hp (x_vC hn (Nat.le_of_ble_eq_true rfl) hf) rfl ?_
  refine g_aload_n dX0_dispatch_22 rfl ?_
  refine g_getR (t2 := 2) (i2 := f) dX0_dispatch_23 fl_X0_15 (x_vC hn (Nat.le_of_ble_eq_true rfl) hf) rfl rfl rfl ?_
  refine g_iload_n dX0_dispatch_26 rfl ?_
  refine g_aload_n dX0_dispatch_27 rfl ?_
  refine g_getI dX0_dispatch_28 fl_X0_40 (x_vC hn (Nat.le_of_ble_eq_true rfl) hf) rfl rfl ?_
  refine g_aload_n dX0_dispatch_31 rfl ?_
  refine g_iload_n dX0_dispatch_32 rfl ?_
  refine f_V dX0_dispatch_33 cs_X0_71 mb_X0_wayDays (c_X0_wayDays l n _ f p hn hf hp) rfl (x_vC hn (Nat.le_of_ble_eq_true rfl) hf) rfl rfl rfl (Nat.le_of_ble_eq_true rfl) (by decide) (Nat.le_of_ble_eq_true rfl) (Nat.le_refl _) (Nat.le_refl _) ?_
  refine g_iadd dX0_dispatch_36 ?_
  refine g_iast p dX0_dispatch_37 rfl hp (x_vC hn (Nat.le_of_ble_eq_true rfl) hf) rfl ?_
  exact f_vret dX0_dispatch_38 rfl rfl

def S_X0_recall (σ : xMi) (f : Nat) (p : Nat) : xMi := (x_up (x_up (x_up (x_up σ 0 f 9 (x_min 20 ((σ 0 f 9) + (σ 1 f p)))) 1 f p 0) 2 f p (-4)) 0 f 7 (x_and ((x_up (x_up (x_up σ 0 f 9 (x_min 20 ((σ 0 f 9) + (σ 1 f p)))) 1 f p 0) 2 f p (-4)) 0 f 7) (x_xor (x_shl 1 (p : Int)) (-1))))
theorem fr_S_X0_recall (σ : xMi) (f : Nat) (p : Nat) {t i k : Nat} (h : ¬ (t ≤ 4 ∧ i = f)) : S_X0_recall σ f p t i k = σ t i k := by
  unfold S_X0_recall
  all_goals ((repeat' split) <;> first | rfl | simp (disch := first | omega | assumption) only [x_up_o, x_cp_o])
theorem c_X0_recall (l : Launch) (n : Nat) (σ : xMi) (f : Nat) (p : Nat) (hn : 131 ≤ n) (hf : f < 20) (hp : p < 6)  : x_F l yX0_recall RX0 cX0_recall 2 none 1 n σ [xR 0 f, xI (p : Int)] none (S_X0_recall σ f p) := by
  refine f_of (by decide) rfl (Nat.le_of_ble_eq_true rfl) rfl ?_
  refine g_aload_n dX0_recall_0 rfl ?_
  refine g_bipush dX0_recall_1 (by decide) ?_
  refine g_aload_n dX0_recall_3 rfl ?_
  refine g_getI dX0_recall_4 fl_X0_37 (x_vC hn (Nat.le_of_ble_eq_true rfl) hf) rfl rfl ?_
  refine g_aload_n dX0_recall_7 rfl ?_
  refine g_getR (t2 := 1) (i2 := f) dX0_recall_8 fl_X0_9 (x_vC hn (Nat.le_of_ble_eq_true rfl) hf) rfl rfl rfl ?_
  refine g_iload_n dX0_recall_11 rfl ?_
  refine g_iald p dX0_recall_12 rfl hp (x_vC hn (Nat.le_of_ble_eq_true rfl) hf) rfl ?_
  refine g_iadd dX0_recall_13 ?_
  refine g_min dX0_recall_14 cx_X0_75 w_min.1 w_min.2.1 w_min.2.2 (by decide) (Nat.le_of_ble_eq_true rfl) (Nat.le_refl _) (Nat.le_refl _) ?_
  refine g_putI dX0_recall_17 fl_X0_37 (x_vC hn (Nat.le_of_ble_eq_true rfl) hf) rfl rfl ?_
  refine g_aload_n dX0_recall_20 rfl ?_
  refine g_getR (t2 := 1) (i2 := f) dX0_recall_21 fl_X0_9 (x_vC hn (Nat.le_of_ble_eq_true rfl) hf) rfl rfl rfl ?_
  refine g_iload_n dX0_recall_24 rfl ?_
  refine g_iconst dX0_recall_25 ?_
  refine g_iast p dX0_recall_26 rfl hp (x_vC hn (Nat.le_of_ble_eq_true rfl) hf) rfl ?_
  refine g_aload_n dX0_recall_27 rfl ?_
  refine g_getR (t2 := 2) (i2 := f) dX0_recall_28 fl_X0_15 (x_vC hn (Nat.le_of_ble_eq_true rfl) hf) rfl rfl rfl ?_
  refine g_iload_n dX0_recall_31 rfl ?_
  refine g_bipush dX0_recall_32 (by decide) ?_
  refine g_iast p dX0_recall_34 rfl hp (x_vC hn (Nat.le_of_ble_eq_true rfl) hf) rfl ?_
  refine g_aload_n dX0_recall_35 rfl ?_
  refine g_dup dX0_recall_36 rfl ?_
  refine g_getI dX0_recall_37 fl_X0_31 (x_vC hn (Nat.le_of_ble_eq_true rfl) hf) rfl rfl ?_
  refine g_iconst dX0_recall_40 ?_
  refine g_iload_n dX0_recall_41 rfl ?_
  refine g_ishl dX0_recall_42 ?_
  refine g_iconst dX0_recall_43 ?_
  refine g_ixor dX0_recall_44 ?_
  refine g_iand dX0_recall_45 ?_
  refine g_putI dX0_recall_46 fl_X0_31 (x_vC hn (Nat.le_of_ble_eq_true rfl) hf) rfl rfl ?_
  exact f_vret dX0_recall_49 rfl rfl

def V_X0_willRefuse (σ : xMi) (f : Nat) (p : Nat) : Int := (if x_wr (σ 6 (x_rof f) p) = x_wr 3 then (if x_wr (V_X0_isIn σ (σ 0 f 7) (p : Int)) = 0 then 1 else 0) else 0)
theorem z_X0_willRefuse (σ : xMi) (f : Nat) (p : Nat) : V_X0_willRefuse σ f p = 0 ∨ V_X0_willRefuse σ f p = 1 := by
  unfold V_X0_willRefuse
  (repeat' split) <;> first | exact Or.inl rfl | exact Or.inr rfl
theorem c_X0_willRefuse (l : Launch) (n : Nat) (σ : xMi) (f : Nat) (p : Nat) (hn : 131 ≤ n) (hf : f < 20) (hp : p < 6)  : x_F l yX0_willRefuse RX0 cX0_willRefuse 2 (some .boolean) 1 n σ [xR 0 f, xI (p : Int)] (some (xI (V_X0_willRefuse σ f p))) σ := by
  refine f_of (by decide) rfl (Nat.le_of_ble_eq_true rfl) rfl ?_
  refine g_aload_n dX0_willRefuse_0 rfl ?_
  refine g_getR (t2 := 5) (i2 := (x_rof f)) dX0_willRefuse_1 fl_X0_47 (x_vC hn (Nat.le_of_ble_eq_true rfl) hf) rfl rfl rfl ?_
  refine g_getR (t2 := 6) (i2 := (x_rof f)) dX0_willRefuse_4 fl_X0_98 (x_vC hn (Nat.le_of_ble_eq_true rfl) (x_rof_lt _)) rfl rfl rfl ?_
  refine g_iload_n dX0_willRefuse_7 rfl ?_
  refine g_iald p dX0_willRefuse_8 rfl hp (x_vC hn (Nat.le_of_ble_eq_true rfl) (x_rof_lt _)) rfl ?_
  refine g_iconst dX0_willRefuse_9 ?_
  refine g_cmp_ne 28 dX0_willRefuse_10 rfl (fun c_10 => ?_) (fun c_10 => ?_)
  · refine g_iconst dX0_willRefuse_28 ?_
    exact f_zret dX0_willRefuse_29 (by decide) (by rw [V_X0_willRefuse, if_neg c_10]) rfl
  · refine g_aload_n dX0_willRefuse_13 rfl ?_
    refine g_getI dX0_willRefuse_14 fl_X0_31 (x_vC hn (Nat.le_of_ble_eq_true rfl) hf) rfl rfl ?_
    refine g_iload_n dX0_willRefuse_17 rfl ?_
    refine f_S dX0_willRefuse_18 cs_X0_60 mb_X0_isIn (c_X0_isIn l n _ (σ 0 f 7) (p : Int) hn) rfl (Nat.lt_of_lt_of_le (by decide) hn) rfl (Nat.le_of_ble_eq_true rfl) (by decide) (Nat.le_of_ble_eq_true rfl) (Nat.le_refl _) (Nat.le_refl _) ?_
    refine g_if_ne 28 dX0_willRefuse_21 rfl (fun c_21 => ?_) (fun c_21 => ?_)
    · refine g_iconst dX0_willRefuse_28 ?_
      exact f_zret dX0_willRefuse_29 (by decide) (by rw [V_X0_willRefuse, if_pos c_10, if_neg c_21]) rfl
    · refine g_iconst dX0_willRefuse_24 ?_
      refine g_goto 29 dX0_willRefuse_25 rfl ?_
      exact f_zret dX0_willRefuse_29 (by decide) (by rw [V_X0_willRefuse, if_pos c_10, if_pos c_21]) rfl

def T_X0_comeIn_1 (σ : xMi) (f : Nat) (p : Nat) : xMi := (x_up (x_up (x_up σ 0 f 7 (x_or (σ 0 f 7) (x_shl 1 (p : Int)))) 0 f 8 (((x_up σ 0 f 7 (x_or (σ 0 f 7) (x_shl 1 (p : Int)))) 0 f 8) + 1)) 2 f p (((x_up (x_up σ 0 f 7 (x_or (σ 0 f 7) (x_shl 1 (p : Int)))) 0 f 8 (((x_up σ 0 f 7 (x_or (σ 0 f 7) (x_shl 1 (p : Int)))) 0 f 8) + 1)) 0 f 10) + 1))
def S_X0_comeIn (σ : xMi) (f : Nat) (p : Nat) : xMi := (if x_wr (V_X0_willRefuse σ f p) = 0 then (x_up (x_up (x_up (x_up σ 3 f p (V_X0_eatingDays σ (σ 6 (x_rof f) p) (σ 1 f p))) 0 f 5 (x_or ((x_up σ 3 f p (V_X0_eatingDays σ (σ 6 (x_rof f) p) (σ 1 f p))) 0 f 5) (x_shl 1 (p : Int)))) 1 f p 0) 2 f p (-4)) else (if x_wr ((T_X0_comeIn_1 σ f p) 0 f 9) ≤ 0 then (T_X0_comeIn_1 σ f p) else (x_up (x_up (T_X0_comeIn_1 σ f p) 0 f 9 (((T_X0_comeIn_1 σ f p) 0 f 9) - 1)) 1 f p 2)))
theorem fr_S_X0_comeIn (σ : xMi) (f : Nat) (p : Nat) {t i k : Nat} (h : ¬ (t ≤ 4 ∧ i = f)) : S_X0_comeIn σ f p t i k = σ t i k := by
  unfold S_X0_comeIn
  all_goals ((repeat' split) <;> first | rfl | simp (disch := first | omega | assumption) only [x_up_o, x_cp_o, T_X0_comeIn_1])
theorem c_X0_comeIn (l : Launch) (n : Nat) (σ : xMi) (f : Nat) (p : Nat) (hn : 131 ≤ n) (hf : f < 20) (hp : p < 6)  : x_F l yX0_comeIn RX0 cX0_comeIn 2 none 2 n σ [xR 0 f, xI (p : Int)] none (S_X0_comeIn σ f p) := by
  refine f_of (by decide) rfl (Nat.le_of_ble_eq_true rfl) rfl ?_
  refine g_aload_n dX0_comeIn_0 rfl ?_
  refine g_iload_n dX0_comeIn_1 rfl ?_
  refine f_V dX0_comeIn_2 cs_X0_95 mb_X0_willRefuse (c_X0_willRefuse l n _ f p hn hf hp) rfl (x_vC hn (Nat.le_of_ble_eq_true rfl) hf) rfl rfl rfl (Nat.le_of_ble_eq_true rfl) (by decide) (Nat.le_of_ble_eq_true rfl) (Nat.le_refl _) (Nat.le_refl _) ?_
  refine g_if_eq 67 dX0_comeIn_5 rfl (fun c_5 => ?_) (fun c_5 => ?_)
  · refine g_aload_n dX0_comeIn_67 rfl ?_
    refine g_getR (t2 := 3) (i2 := f) dX0_comeIn_68 fl_X0_18 (x_vC hn (Nat.le_of_ble_eq_true rfl) hf) rfl rfl rfl ?_
    refine g_iload_n dX0_comeIn_71 rfl ?_
    refine g_aload_n dX0_comeIn_72 rfl ?_
    refine g_getR (t2 := 5) (i2 := (x_rof f)) dX0_comeIn_73 fl_X0_47 (x_vC hn (Nat.le_of_ble_eq_true rfl) hf) rfl rfl rfl ?_
    refine g_getR (t2 := 6) (i2 := (x_rof f)) dX0_comeIn_76 fl_X0_98 (x_vC hn (Nat.le_of_ble_eq_true rfl) (x_rof_lt _)) rfl rfl rfl ?_
    refine g_iload_n dX0_comeIn_79 rfl ?_
    refine g_iald p dX0_comeIn_80 rfl hp (x_vC hn (Nat.le_of_ble_eq_true rfl) (x_rof_lt _)) rfl ?_
    refine g_aload_n dX0_comeIn_81 rfl ?_
    refine g_getR (t2 := 1) (i2 := f) dX0_comeIn_82 fl_X0_9 (x_vC hn (Nat.le_of_ble_eq_true rfl) hf) rfl rfl rfl ?_
    refine g_iload_n dX0_comeIn_85 rfl ?_
    refine g_iald p dX0_comeIn_86 rfl hp (x_vC hn (Nat.le_of_ble_eq_true rfl) hf) rfl ?_
    refine f_S dX0_comeIn_87 cs_X0_101 mb_X0_eatingDays (c_X0_eatingDays l n _ (σ 6 (x_rof f) p) (σ 1 f p) hn) rfl (Nat.lt_of_lt_of_le (by decide) hn) rfl (Nat.le_of_ble_eq_true rfl) (by decide) (Nat.le_of_ble_eq_true rfl) (Nat.le_refl _) (Nat.le_refl _) ?_
    refine g_iast p dX0_comeIn_90 rfl hp (x_vC hn (Nat.le_of_ble_eq_true rfl) hf) rfl ?_
    refine g_aload_n dX0_comeIn_91 rfl ?_
    refine g_dup dX0_comeIn_92 rfl ?_
    refine g_getI dX0_comeIn_93 fl_X0_24 (x_vC hn (Nat.le_of_ble_eq_true rfl) hf) rfl rfl ?_
    refine g_iconst dX0_comeIn_96 ?_
    refine g_iload_n dX0_comeIn_97 rfl ?_
    refine g_ishl dX0_comeIn_98 ?_
    refine g_ior dX0_comeIn_99 ?_
    refine g_putI dX0_comeIn_100 fl_X0_24 (x_vC hn (Nat.le_of_ble_eq_true rfl) hf) rfl rfl ?_
    refine g_aload_n dX0_comeIn_103 rfl ?_
    refine g_getR (t2 := 1) (i2 := f) dX0_comeIn_104 fl_X0_9 (x_vC hn (Nat.le_of_ble_eq_true rfl) hf) rfl rfl rfl ?_
    refine g_iload_n dX0_comeIn_107 rfl ?_
    refine g_iconst dX0_comeIn_108 ?_
    refine g_iast p dX0_comeIn_109 rfl hp (x_vC hn (Nat.le_of_ble_eq_true rfl) hf) rfl ?_
    refine g_aload_n dX0_comeIn_110 rfl ?_
    refine g_getR (t2 := 2) (i2 := f) dX0_comeIn_111 fl_X0_15 (x_vC hn (Nat.le_of_ble_eq_true rfl) hf) rfl rfl rfl ?_
    refine g_iload_n dX0_comeIn_114 rfl ?_
    refine g_bipush dX0_comeIn_115 (by decide) ?_
    refine g_iast p dX0_comeIn_117 rfl hp (x_vC hn (Nat.le_of_ble_eq_true rfl) hf) rfl ?_
    exact f_vret dX0_comeIn_118 rfl (by rw [S_X0_comeIn, if_pos c_5])
  · refine g_aload_n dX0_comeIn_8 rfl ?_
    refine g_dup dX0_comeIn_9 rfl ?_
    refine g_getI dX0_comeIn_10 fl_X0_31 (x_vC hn (Nat.le_of_ble_eq_true rfl) hf) rfl rfl ?_
    refine g_iconst dX0_comeIn_13 ?_
    refine g_iload_n dX0_comeIn_14 rfl ?_
    refine g_ishl dX0_comeIn_15 ?_
    refine g_ior dX0_comeIn_16 ?_
    refine g_putI dX0_comeIn_17 fl_X0_31 (x_vC hn (Nat.le_of_ble_eq_true rfl) hf) rfl rfl ?_
    refine g_aload_n dX0_comeIn_20 rfl ?_
    refine g_dup dX0_comeIn_21 rfl ?_
    refine g_getI dX0_comeIn_22 fl_X0_34 (x_vC hn (Nat.le_of_ble_eq_true rfl) hf) rfl rfl ?_
    refine g_iconst dX0_comeIn_25 ?_
    refine g_iadd dX0_comeIn_26 ?_
    refine g_putI dX0_comeIn_27 fl_X0_34 (x_vC hn (Nat.le_of_ble_eq_true rfl) hf) rfl rfl ?_
    refine g_aload_n dX0_comeIn_30 rfl ?_
    refine g_getR (t2 := 2) (i2 := f) dX0_comeIn_31 fl_X0_15 (x_vC hn (Nat.le_of_ble_eq_true rfl) hf) rfl rfl rfl ?_
    refine g_iload_n dX0_comeIn_34 rfl ?_
    refine g_aload_n dX0_comeIn_35 rfl ?_
    refine g_getI dX0_comeIn_36 fl_X0_40 (x_vC hn (Nat.le_of_ble_eq_true rfl) hf) rfl rfl ?_
    refine g_iconst dX0_comeIn_39 ?_
    refine g_iadd dX0_comeIn_40 ?_
    refine g_iast p dX0_comeIn_41 rfl hp (x_vC hn (Nat.le_of_ble_eq_true rfl) hf) rfl ?_
    refine g_mem (T_X0_comeIn_1 σ f p) rfl ?_
    refine g_aload_n dX0_comeIn_42 rfl ?_
    refine g_getI dX0_comeIn_43 fl_X0_37 (x_vC hn (Nat.le_of_ble_eq_true rfl) hf) rfl rfl ?_
    refine g_if_le 66 dX0_comeIn_46 rfl (fun c_46 => ?_) (fun c_46 => ?_)
    · exact f_vret dX0_comeIn_66 rfl (by rw [S_X0_comeIn, if_neg c_5, if_pos c_46])
    · refine g_aload_n dX0_comeIn_49 rfl ?_
      refine g_dup dX0_comeIn_50 rfl ?_
      refine g_getI dX0_comeIn_51 fl_X0_37 (x_vC hn (Nat.le_of_ble_eq_true rfl) hf) rfl rfl ?_
      refine g_iconst dX0_comeIn_54 ?_
      refine g_isub dX0_comeIn_55 ?_
      refine g_putI dX0_comeIn_56 fl_X0_37 (x_vC hn (Nat.le_of_ble_eq_true rfl) hf) rfl rfl ?_
      refine g_aload_n dX0_comeIn_59 rfl ?_
      refine g_getR (t2 := 1) (i2 := f) dX0_comeIn_60 fl_X0_9 (x_vC hn (Nat.le_of_ble_eq_true rfl) hf) rfl rfl rfl ?_
      refine g_iload_n dX0_comeIn_63 rfl ?_
      refine g_iconst dX0_comeIn_64 ?_
      refine g_iast p dX0_comeIn_65 rfl hp (x_vC hn (Nat.le_of_ble_eq_true rfl) hf) rfl ?_
      exact f_vret dX0_comeIn_66 rfl (by rw [S_X0_comeIn, if_neg c_5, if_neg c_46])

def V_X0_endsSoft (σ : xMi) (f : Nat) (p : Nat) : Int := (if x_wr (V_X0_isTold σ f p) = 0 then (if x_wr (V_X0_isIn σ (σ 0 f 5) (p : Int)) = 0 then (if x_wr (V_X0_willRefuse σ f p) = 0 then (if x_wr (σ 1 f p) ≤ 0 then 0 else (if x_wr (σ 8 (x_rof f) p) < x_wr ((x_max (σ 2 f p) (σ 0 f 10)) + 0) then 0 else 1)) else (if x_wr (σ 1 f p) ≤ 0 then 0 else (if x_wr (σ 8 (x_rof f) p) < x_wr ((x_max (σ 2 f p) (σ 0 f 10)) + 1) then 0 else 1))) else 1) else (V_X0_isIn σ (σ 0 f 6) (p : Int)))
theorem z_X0_endsSoft (σ : xMi) (f : Nat) (p : Nat) : V_X0_endsSoft σ f p = 0 ∨ V_X0_endsSoft σ f p = 1 := by
  unfold V_X0_endsSoft
  (repeat' split) <;> first | exact Or.inl rfl | exact Or.inr rfl | exact z_X0_isIn _ _ _
theorem c_X0_endsSoft (l : Launch) (n : Nat) (σ : xMi) (f : Nat) (p : Nat) (hn : 131 ≤ n) (hf : f < 20) (hp : p < 6)  : x_F l yX0_endsSoft RX0 cX0_endsSoft 3 (some .boolean) 2 n σ [xR 0 f, xI (p : Int)] (some (xI (V_X0_endsSoft σ f p))) σ := by
  refine f_of (by decide) rfl (Nat.le_of_ble_eq_true rfl) rfl ?_
  refine g_aload_n dX0_endsSoft_0 rfl ?_
  refine g_iload_n dX0_endsSoft_1 rfl ?_
  refine f_V dX0_endsSoft_2 cs_X0_64 mb_X0_isTold (c_X0_isTold l n _ f p hn hf hp) rfl (x_vC hn (Nat.le_of_ble_eq_true rfl) hf) rfl rfl rfl (Nat.le_of_ble_eq_true rfl) (by decide) (Nat.le_of_ble_eq_true rfl) (Nat.le_refl _) (Nat.le_refl _) ?_
  refine g_if_eq 17 dX0_endsSoft_5 rfl (fun c_5 => ?_) (fun c_5 => ?_)
  · refine g_aload_n dX0_endsSoft_17 rfl ?_
    refine g_getI dX0_endsSoft_18 fl_X0_24 (x_vC hn (Nat.le_of_ble_eq_true rfl) hf) rfl rfl ?_
    refine g_iload_n dX0_endsSoft_21 rfl ?_
    refine f_S dX0_endsSoft_22 cs_X0_60 mb_X0_isIn (c_X0_isIn l n _ (σ 0 f 5) (p : Int) hn) rfl (Nat.lt_of_lt_of_le (by decide) hn) rfl (Nat.le_of_ble_eq_true rfl) (by decide) (Nat.le_of_ble_eq_true rfl) (Nat.le_refl _) (Nat.le_refl _) ?_
    refine g_if_eq 30 dX0_endsSoft_25 rfl (fun c_25 => ?_) (fun c_25 => ?_)
    · refine g_aload_n dX0_endsSoft_30 rfl ?_
      refine g_getR (t2 := 2) (i2 := f) dX0_endsSoft_31 fl_X0_15 (x_vC hn (Nat.le_of_ble_eq_true rfl) hf) rfl rfl rfl ?_
      refine g_iload_n dX0_endsSoft_34 rfl ?_
      refine g_iald p dX0_endsSoft_35 rfl hp (x_vC hn (Nat.le_of_ble_eq_true rfl) hf) rfl ?_
      refine g_aload_n dX0_endsSoft_36 rfl ?_
      refine g_getI dX0_endsSoft_37 fl_X0_40 (x_vC hn (Nat.le_of_ble_eq_true rfl) hf) rfl rfl ?_
      refine g_max dX0_endsSoft_40 cx_X0_113 w_max.1 w_max.2.1 w_max.2.2 (by decide) (Nat.le_of_ble_eq_true rfl) (Nat.le_refl _) (Nat.le_refl _) ?_
      refine g_aload_n dX0_endsSoft_43 rfl ?_
      refine g_iload_n dX0_endsSoft_44 rfl ?_
      refine f_V dX0_endsSoft_45 cs_X0_95 mb_X0_willRefuse (c_X0_willRefuse l n _ f p hn hf hp) rfl (x_vC hn (Nat.le_of_ble_eq_true rfl) hf) rfl rfl rfl (Nat.le_of_ble_eq_true rfl) (by decide) (Nat.le_of_ble_eq_true rfl) (Nat.le_refl _) (Nat.le_refl _) ?_
      refine g_if_eq 55 dX0_endsSoft_48 rfl (fun c_48 => ?_) (fun c_48 => ?_)
      · refine g_iconst dX0_endsSoft_55 ?_
        refine g_iadd dX0_endsSoft_56 ?_
        refine g_istore_n (lv' := [_, _, _]) dX0_endsSoft_57 (Nat.le_of_ble_eq_true rfl) rfl ?_
        refine g_aload_n dX0_endsSoft_58 rfl ?_
        refine g_getR (t2 := 1) (i2 := f) dX0_endsSoft_59 fl_X0_9 (x_vC hn (Nat.le_of_ble_eq_true rfl) hf) rfl rfl rfl ?_
        refine g_iload_n dX0_endsSoft_62 rfl ?_
        refine g_iald p dX0_endsSoft_63 rfl hp (x_vC hn (Nat.le_of_ble_eq_true rfl) hf) rfl ?_
        refine g_if_le 84 dX0_endsSoft_64 rfl (fun c_64 => ?_) (fun c_64 => ?_)
        · refine g_iconst dX0_endsSoft_84 ?_
          exact f_zret dX0_endsSoft_85 (by decide) (by rw [V_X0_endsSoft, if_pos c_5, if_pos c_25, if_pos c_48, if_pos c_64]) rfl
        · refine g_iload_n dX0_endsSoft_67 rfl ?_
          refine g_aload_n dX0_endsSoft_68 rfl ?_
          refine g_getR (t2 := 5) (i2 := (x_rof f)) dX0_endsSoft_69 fl_X0_47 (x_vC hn (Nat.le_of_ble_eq_true rfl) hf) rfl rfl rfl ?_
          refine g_getR (t2 := 8) (i2 := (x_rof f)) dX0_endsSoft_72 fl_X0_92 (x_vC hn (Nat.le_of_ble_eq_true rfl) (x_rof_lt _)) rfl rfl rfl ?_
          refine g_iload_n dX0_endsSoft_75 rfl ?_
          refine g_iald p dX0_endsSoft_76 rfl hp (x_vC hn (Nat.le_of_ble_eq_true rfl) (x_rof_lt _)) rfl ?_
          refine g_cmp_gt 84 dX0_endsSoft_77 rfl (fun c_77 => ?_) (fun c_77 => ?_)
          · refine g_iconst dX0_endsSoft_84 ?_
            exact f_zret dX0_endsSoft_85 (by decide) (by rw [V_X0_endsSoft, if_pos c_5, if_pos c_25, if_pos c_48, if_neg c_64, if_pos c_77]) rfl
          · refine g_iconst dX0_endsSoft_80 ?_
            refine g_goto 85 dX0_endsSoft_81 rfl ?_
            exact f_zret dX0_endsSoft_85 (by decide) (by rw [V_X0_endsSoft, if_pos c_5, if_pos c_25, if_pos c_48, if_neg c_64, if_neg c_77]) rfl
      · refine g_iconst dX0_endsSoft_51 ?_
        refine g_goto 56 dX0_endsSoft_52 rfl ?_
        refine g_iadd dX0_endsSoft_56 ?_
        refine g_istore_n (lv' := [_, _, _]) dX0_endsSoft_57 (Nat.le_of_ble_eq_true rfl) rfl ?_
        refine g_aload_n dX0_endsSoft_58 rfl ?_
        refine g_getR (t2 := 1) (i2 := f) dX0_endsSoft_59 fl_X0_9 (x_vC hn (Nat.le_of_ble_eq_true rfl) hf) rfl rfl rfl ?_
        refine g_iload_n dX0_endsSoft_62 rfl ?_
        refine g_iald p dX0_endsSoft_63 rfl hp (x_vC hn (Nat.le_of_ble_eq_true rfl) hf) rfl ?_
        refine g_if_le 84 dX0_endsSoft_64 rfl (fun c_64 => ?_) (fun c_64 => ?_)
        · refine g_iconst dX0_endsSoft_84 ?_
          exact f_zret dX0_endsSoft_85 (by decide) (by rw [V_X0_endsSoft, if_pos c_5, if_pos c_25, if_neg c_48, if_pos c_64]) rfl
        · refine g_iload_n dX0_endsSoft_67 rfl ?_
          refine g_aload_n dX0_endsSoft_68 rfl ?_
          refine g_getR (t2 := 5) (i2 := (x_rof f)) dX0_endsSoft_69 fl_X0_47 (x_vC hn (Nat.le_of_ble_eq_true rfl) hf) rfl rfl rfl ?_
          refine g_getR (t2 := 8) (i2 := (x_rof f)) dX0_endsSoft_72 fl_X0_92 (x_vC hn (Nat.le_of_ble_eq_true rfl) (x_rof_lt _)) rfl rfl rfl ?_
          refine g_iload_n dX0_endsSoft_75 rfl ?_
          refine g_iald p dX0_endsSoft_76 rfl hp (x_vC hn (Nat.le_of_ble_eq_true rfl) (x_rof_lt _)) rfl ?_
          refine g_cmp_gt 84 dX0_endsSoft_77 rfl (fun c_77 => ?_) (fun c_77 => ?_)
          · refine g_iconst dX0_endsSoft_84 ?_
            exact f_zret dX0_endsSoft_85 (by decide) (by rw [V_X0_endsSoft, if_pos c_5, if_pos c_25, if_neg c_48, if_neg c_64, if_pos c_77]) rfl
          · refine g_iconst dX0_endsSoft_80 ?_
            refine g_goto 85 dX0_endsSoft_81 rfl ?_
            exact f_zret dX0_endsSoft_85 (by decide) (by rw [V_X0_endsSoft, if_pos c_5, if_pos c_25, if_neg c_48, if_neg c_64, if_neg c_77]) rfl
    · refine g_iconst dX0_endsSoft_28 ?_
      exact f_zret dX0_endsSoft_29 (by decide) (by rw [V_X0_endsSoft, if_pos c_5, if_neg c_25]) rfl
  · refine g_aload_n dX0_endsSoft_8 rfl ?_
    refine g_getI dX0_endsSoft_9 fl_X0_28 (x_vC hn (Nat.le_of_ble_eq_true rfl) hf) rfl rfl ?_
    refine g_iload_n dX0_endsSoft_12 rfl ?_
    refine f_S dX0_endsSoft_13 cs_X0_60 mb_X0_isIn (c_X0_isIn l n _ (σ 0 f 6) (p : Int) hn) rfl (Nat.lt_of_lt_of_le (by decide) hn) rfl (Nat.le_of_ble_eq_true rfl) (by decide) (Nat.le_of_ble_eq_true rfl) (Nat.le_refl _) (Nat.le_refl _) ?_
    exact f_zret dX0_endsSoft_16 (z_X0_isIn _ _ _) (by rw [V_X0_endsSoft, if_neg c_5]) rfl

def V_X0_spareDays (σ : xMi) (f : Nat) (p : Nat) : Int := (if x_wr (V_X0_willRefuse σ f p) = 0 then ((((σ 8 (x_rof f) p) - (σ 0 f 10)) - (V_X0_wayDays σ f p)) - 0) else ((((σ 8 (x_rof f) p) - (σ 0 f 10)) - (V_X0_wayDays σ f p)) - 1))
theorem c_X0_spareDays (l : Launch) (n : Nat) (σ : xMi) (f : Nat) (p : Nat) (hn : 131 ≤ n) (hf : f < 20) (hp : p < 6)  : x_F l yX0_spareDays RX0 cX0_spareDays 2 (some .int) 2 n σ [xR 0 f, xI (p : Int)] (some (xI (V_X0_spareDays σ f p))) σ := by
  refine f_of (by decide) rfl (Nat.le_of_ble_eq_true rfl) rfl ?_
  refine g_aload_n dX0_spareDays_0 rfl ?_
  refine g_getR (t2 := 5) (i2 := (x_rof f)) dX0_spareDays_1 fl_X0_47 (x_vC hn (Nat.le_of_ble_eq_true rfl) hf) rfl rfl rfl ?_
  refine g_getR (t2 := 8) (i2 := (x_rof f)) dX0_spareDays_4 fl_X0_92 (x_vC hn (Nat.le_of_ble_eq_true rfl) (x_rof_lt _)) rfl rfl rfl ?_
  refine g_iload_n dX0_spareDays_7 rfl ?_
  refine g_iald p dX0_spareDays_8 rfl hp (x_vC hn (Nat.le_of_ble_eq_true rfl) (x_rof_lt _)) rfl ?_
  refine g_aload_n dX0_spareDays_9 rfl ?_
  refine g_getI dX0_spareDays_10 fl_X0_40 (x_vC hn (Nat.le_of_ble_eq_true rfl) hf) rfl rfl ?_
  refine g_isub dX0_spareDays_13 ?_
  refine g_aload_n dX0_spareDays_14 rfl ?_
  refine g_iload_n dX0_spareDays_15 rfl ?_
  refine f_V dX0_spareDays_16 cs_X0_71 mb_X0_wayDays (c_X0_wayDays l n _ f p hn hf hp) rfl (x_vC hn (Nat.le_of_ble_eq_true rfl) hf) rfl rfl rfl (Nat.le_of_ble_eq_true rfl) (by decide) (Nat.le_of_ble_eq_true rfl) (Nat.le_refl _) (Nat.le_refl _) ?_
  refine g_isub dX0_spareDays_19 ?_
  refine g_aload_n dX0_spareDays_20 rfl ?_
  refine g_iload_n dX0_spareDays_21 rfl ?_
  refine f_V dX0_spareDays_22 cs_X0_95 mb_X0_willRefuse (c_X0_willRefuse l n _ f p hn hf hp) rfl (x_vC hn (Nat.le_of_ble_eq_true rfl) hf) rfl rfl rfl (Nat.le_of_ble_eq_true rfl) (by decide) (Nat.le_of_ble_eq_true rfl) (Nat.le_refl _) (Nat.le_refl _) ?_
  refine g_if_eq 32 dX0_spareDays_25 rfl (fun c_25 => ?_) (fun c_25 => ?_)
  · refine g_iconst dX0_spareDays_32 ?_
    refine g_isub dX0_spareDays_33 ?_
    exact f_iret dX0_spareDays_34 (by rw [V_X0_spareDays, if_pos c_25]) rfl
  · refine g_iconst dX0_spareDays_28 ?_
    refine g_goto 33 dX0_spareDays_29 rfl ?_
    refine g_isub dX0_spareDays_33 ?_
    exact f_iret dX0_spareDays_34 (by rw [V_X0_spareDays, if_neg c_25]) rfl

def T_X0_copyFrom_1 (σ : xMi) (f : Nat) (g : Nat) : xMi := (x_up (x_up (x_cp (x_cp (x_cp (x_cp σ 1 f 1 g 6) 2 f 2 g 6) 3 f 3 g 6) 4 f 4 g 6) 0 f 5 ((x_cp (x_cp (x_cp (x_cp σ 1 f 1 g 6) 2 f 2 g 6) 3 f 3 g 6) 4 f 4 g 6) 0 g 5)) 0 f 6 ((x_up (x_cp (x_cp (x_cp (x_cp σ 1 f 1 g 6) 2 f 2 g 6) 3 f 3 g 6) 4 f 4 g 6) 0 f 5 ((x_cp (x_cp (x_cp (x_cp σ 1 f 1 g 6) 2 f 2 g 6) 3 f 3 g 6) 4 f 4 g 6) 0 g 5)) 0 g 6))
def T_X0_copyFrom_2 (σ : xMi) (f : Nat) (g : Nat) : xMi := (x_up (x_up (x_up (T_X0_copyFrom_1 σ f g) 0 f 7 ((T_X0_copyFrom_1 σ f g) 0 g 7)) 0 f 8 ((x_up (T_X0_copyFrom_1 σ f g) 0 f 7 ((T_X0_copyFrom_1 σ f g) 0 g 7)) 0 g 8)) 0 f 9 ((x_up (x_up (T_X0_copyFrom_1 σ f g) 0 f 7 ((T_X0_copyFrom_1 σ f g) 0 g 7)) 0 f 8 ((x_up (T_X0_copyFrom_1 σ f g) 0 f 7 ((T_X0_copyFrom_1 σ f g) 0 g 7)) 0 g 8)) 0 g 9))
def S_X0_copyFrom (σ : xMi) (f : Nat) (g : Nat) : xMi := (x_up (x_up (T_X0_copyFrom_2 σ f g) 0 f 10 ((T_X0_copyFrom_2 σ f g) 0 g 10)) 0 f 11 (x_bn ((x_up (T_X0_copyFrom_2 σ f g) 0 f 10 ((T_X0_copyFrom_2 σ f g) 0 g 10)) 0 g 11)))
theorem fr_S_X0_copyFrom (σ : xMi) (f : Nat) (g : Nat) {t i k : Nat} (h : ¬ (t ≤ 4 ∧ i = f)) : S_X0_copyFrom σ f g t i k = σ t i k := by
  unfold S_X0_copyFrom
  all_goals ((repeat' split) <;> first | rfl | simp (disch := first | omega | assumption) only [x_up_o, x_cp_o, T_X0_copyFrom_2, T_X0_copyFrom_1])
theorem c_X0_copyFrom (l : Launch) (n : Nat) (σ : xMi) (f : Nat) (g : Nat) (hn : 131 ≤ n) (hf : f < 20) (hg : g < 20)  : x_F l yX0_copyFrom RX0 cX0_copyFrom 2 none 1 n σ [xR 0 f, xR 0 g] none (S_X0_copyFrom σ f g) := by
  refine f_of (by decide) rfl (Nat.le_of_ble_eq_true rfl) rfl ?_
  refine g_aload_n dX0_copyFrom_0 rfl ?_
  refine g_getR (t2 := 1) (i2 := g) dX0_copyFrom_1 fl_X0_9 (x_vC hn (Nat.le_of_ble_eq_true rfl) hg) rfl rfl rfl ?_
  refine g_iconst dX0_copyFrom_4 ?_
  refine g_aload_n dX0_copyFrom_5 rfl ?_
  refine g_getR (t2 := 1) (i2 := f) dX0_copyFrom_6 fl_X0_9 (x_vC hn (Nat.le_of_ble_eq_true rfl) hf) rfl rfl rfl ?_
  refine g_iconst dX0_copyFrom_9 ?_
  refine g_bipush dX0_copyFrom_10 (by decide) ?_
  refine g_copy dX0_copyFrom_12 cx_X0_54 w_copy1.1 w_copy1.2.1 w_copy1.2.2 (by decide) (Nat.le_of_ble_eq_true rfl) (x_vC hn (Nat.le_of_ble_eq_true rfl) hf) (x_vC hn (Nat.le_of_ble_eq_true rfl) hg) rfl rfl rfl (Nat.le_of_ble_eq_true rfl) (Nat.le_of_ble_eq_true rfl) ?_
  refine g_aload_n dX0_copyFrom_15 rfl ?_
  refine g_getR (t2 := 2) (i2 := g) dX0_copyFrom_16 fl_X0_15 (x_vC hn (Nat.le_of_ble_eq_true rfl) hg) rfl rfl rfl ?_
  refine g_iconst dX0_copyFrom_19 ?_
  refine g_aload_n dX0_copyFrom_20 rfl ?_
  refine g_getR (t2 := 2) (i2 := f) dX0_copyFrom_21 fl_X0_15 (x_vC hn (Nat.le_of_ble_eq_true rfl) hf) rfl rfl rfl ?_
  refine g_iconst dX0_copyFrom_24 ?_
  refine g_bipush dX0_copyFrom_25 (by decide) ?_
  refine g_copy dX0_copyFrom_27 cx_X0_54 w_copy1.1 w_copy1.2.1 w_copy1.2.2 (by decide) (Nat.le_of_ble_eq_true rfl) (x_vC hn (Nat.le_of_ble_eq_true rfl) hf) (x_vC hn (Nat.le_of_ble_eq_true rfl) hg) rfl rfl rfl (Nat.le_of_ble_eq_true rfl) (Nat.le_of_ble_eq_true rfl) ?_
  refine g_aload_n dX0_copyFrom_30 rfl ?_
  refine g_getR (t2 := 3) (i2 := g) dX0_copyFrom_31 fl_X0_18 (x_vC hn (Nat.le_of_ble_eq_true rfl) hg) rfl rfl rfl ?_
  refine g_iconst dX0_copyFrom_34 ?_
  refine g_aload_n dX0_copyFrom_35 rfl ?_
  refine g_getR (t2 := 3) (i2 := f) dX0_copyFrom_36 fl_X0_18 (x_vC hn (Nat.le_of_ble_eq_true rfl) hf) rfl rfl rfl ?_
  refine g_iconst dX0_copyFrom_39 ?_
  refine g_bipush dX0_copyFrom_40 (by decide) ?_
  refine g_copy dX0_copyFrom_42 cx_X0_54 w_copy1.1 w_copy1.2.1 w_copy1.2.2 (by decide) (Nat.le_of_ble_eq_true rfl) (x_vC hn (Nat.le_of_ble_eq_true rfl) hf) (x_vC hn (Nat.le_of_ble_eq_true rfl) hg) rfl rfl rfl (Nat.le_of_ble_eq_true rfl) (Nat.le_of_ble_eq_true rfl) ?_
  refine g_aload_n dX0_copyFrom_45 rfl ?_
  refine g_getR (t2 := 4) (i2 := g) dX0_copyFrom_46 fl_X0_21 (x_vC hn (Nat.le_of_ble_eq_true rfl) hg) rfl rfl rfl ?_
  refine g_iconst dX0_copyFrom_49 ?_
  refine g_aload_n dX0_copyFrom_50 rfl ?_
  refine g_getR (t2 := 4) (i2 := f) dX0_copyFrom_51 fl_X0_21 (x_vC hn (Nat.le_of_ble_eq_true rfl) hf) rfl rfl rfl ?_
  refine g_iconst dX0_copyFrom_54 ?_
  refine g_bipush dX0_copyFrom_55 (by decide) ?_
  refine g_copy dX0_copyFrom_57 cx_X0_54 w_copy1.1 w_copy1.2.1 w_copy1.2.2 (by decide) (Nat.le_of_ble_eq_true rfl) (x_vC hn (Nat.le_of_ble_eq_true rfl) hf) (x_vC hn (Nat.le_of_ble_eq_true rfl) hg) rfl rfl rfl (Nat.le_of_ble_eq_true rfl) (Nat.le_of_ble_eq_true rfl) ?_
  refine g_aload_n dX0_copyFrom_60 rfl ?_
  refine g_aload_n dX0_copyFrom_61 rfl ?_
  refine g_getI dX0_copyFrom_62 fl_X0_24 (x_vC hn (Nat.le_of_ble_eq_true rfl) hg) rfl rfl ?_
  refine g_putI dX0_copyFrom_65 fl_X0_24 (x_vC hn (Nat.le_of_ble_eq_true rfl) hf) rfl rfl ?_
  refine g_aload_n dX0_copyFrom_68 rfl ?_
  refine g_aload_n dX0_copyFrom_69 rfl ?_
  refine g_getI dX0_copyFrom_70 fl_X0_28 (x_vC hn (Nat.le_of_ble_eq_true rfl) hg) rfl rfl ?_
  refine g_putI dX0_copyFrom_73 fl_X0_28 (x_vC hn (Nat.le_of_ble_eq_true rfl) hf) rfl rfl ?_
  refine g_mem (T_X0_copyFrom_1 σ f g) rfl ?_
  refine g_aload_n dX0_copyFrom_76 rfl ?_
  refine g_aload_n dX0_copyFrom_77 rfl ?_
  refine g_getI dX0_copyFrom_78 fl_X0_31 (x_vC hn (Nat.le_of_ble_eq_true rfl) hg) rfl rfl ?_
  refine g_putI dX0_copyFrom_81 fl_X0_31 (x_vC hn (Nat.le_of_ble_eq_true rfl) hf) rfl rfl ?_
  refine g_aload_n dX0_copyFrom_84 rfl ?_
  refine g_aload_n dX0_copyFrom_85 rfl ?_
  refine g_getI dX0_copyFrom_86 fl_X0_34 (x_vC hn (Nat.le_of_ble_eq_true rfl) hg) rfl rfl ?_
  refine g_putI dX0_copyFrom_89 fl_X0_34 (x_vC hn (Nat.le_of_ble_eq_true rfl) hf) rfl rfl ?_
  refine g_aload_n dX0_copyFrom_92 rfl ?_
  refine g_aload_n dX0_copyFrom_93 rfl ?_
  refine g_getI dX0_copyFrom_94 fl_X0_37 (x_vC hn (Nat.le_of_ble_eq_true rfl) hg) rfl rfl ?_
  refine g_putI dX0_copyFrom_97 fl_X0_37 (x_vC hn (Nat.le_of_ble_eq_true rfl) hf) rfl rfl ?_
  refine g_mem (T_X0_copyFrom_2 σ f g) rfl ?_
  refine g_aload_n dX0_copyFrom_100 rfl ?_
  refine g_aload_n dX0_copyFrom_101 rfl ?_
  refine g_getI dX0_copyFrom_102 fl_X0_40 (x_vC hn (Nat.le_of_ble_eq_true rfl) hg) rfl rfl ?_
  refine g_putI dX0_copyFrom_105 fl_X0_40 (x_vC hn (Nat.le_of_ble_eq_true rfl) hf) rfl rfl ?_
  refine g_aload_n dX0_copyFrom_108 rfl ?_
  refine g_aload_n dX0_copyFrom_109 rfl ?_
  refine g_getZ dX0_copyFrom_110 fl_X0_43 (x_vC hn (Nat.le_of_ble_eq_true rfl) hg) rfl rfl ?_
  refine g_putZ dX0_copyFrom_113 fl_X0_43 (x_vC hn (Nat.le_of_ble_eq_true rfl) hf) rfl rfl (by unfold x_bn; split <;> rfl) ?_
  exact f_vret dX0_copyFrom_116 rfl rfl

def V_X0_standing (σ : xMi) (f : Nat) (p : Nat) (w : Int) : Int := (if x_wr w = 4 then (σ 1 f p) else (if x_wr w = 5 then (σ 2 f p) else (if x_wr w = 6 then (σ 3 f p) else (if x_wr w = 7 then (σ 4 f p) else (if x_wr w = 8 then (x_and (x_shr (σ 0 f 6) (p : Int)) 1) else (if x_wr w = 9 then (x_and (x_shr (σ 0 f 5) (p : Int)) 1) else (x_and (x_shr (σ 0 f 7) (p : Int)) 1)))))))
theorem c_X0_standing (l : Launch) (n : Nat) (σ : xMi) (f : Nat) (p : Nat) (w : Int) (hn : 131 ≤ n) (hf : f < 20) (hp : p < 6)  : x_F l yX0_standing RX0 cX0_standing 3 (some .int) 0 n σ [xR 0 f, xI (p : Int), xI w] (some (xI (V_X0_standing σ f p w))) σ := by
  refine f_of (by decide) rfl (Nat.le_of_ble_eq_true rfl) rfl ?_
  refine g_iload_n dX0_standing_0 rfl ?_
  by_cases s_1_4 : x_wr w = 4
  · refine g_tin 40 dX0_standing_1 (by omega) (by omega) (by rw [s_1_4]; rfl) rfl ?_
    refine g_aload_n dX0_standing_40 rfl ?_
    refine g_getR (t2 := 1) (i2 := f) dX0_standing_41 fl_X0_9 (x_vC hn (Nat.le_of_ble_eq_true rfl) hf) rfl rfl rfl ?_
    refine g_iload_n dX0_standing_44 rfl ?_
    refine g_iald p dX0_standing_45 rfl hp (x_vC hn (Nat.le_of_ble_eq_true rfl) hf) rfl ?_
    exact f_iret dX0_standing_46 (by rw [V_X0_standing, if_pos s_1_4]) rfl
  · by_cases s_1_5 : x_wr w = 5
    · refine g_tin 47 dX0_standing_1 (by omega) (by omega) (by rw [s_1_5]; rfl) rfl ?_
      refine g_aload_n dX0_standing_47 rfl ?_
      refine g_getR (t2 := 2) (i2 := f) dX0_standing_48 fl_X0_15 (x_vC hn (Nat.le_of_ble_eq_true rfl) hf) rfl rfl rfl ?_
      refine g_iload_n dX0_standing_51 rfl ?_
      refine g_iald p dX0_standing_52 rfl hp (x_vC hn (Nat.le_of_ble_eq_true rfl) hf) rfl ?_
      exact f_iret dX0_standing_53 (by rw [V_X0_standing, if_neg s_1_4, if_pos s_1_5]) rfl
    · by_cases s_1_6 : x_wr w = 6
      · refine g_tin 54 dX0_standing_1 (by omega) (by omega) (by rw [s_1_6]; rfl) rfl ?_
        refine g_aload_n dX0_standing_54 rfl ?_
        refine g_getR (t2 := 3) (i2 := f) dX0_standing_55 fl_X0_18 (x_vC hn (Nat.le_of_ble_eq_true rfl) hf) rfl rfl rfl ?_
        refine g_iload_n dX0_standing_58 rfl ?_
        refine g_iald p dX0_standing_59 rfl hp (x_vC hn (Nat.le_of_ble_eq_true rfl) hf) rfl ?_
        exact f_iret dX0_standing_60 (by rw [V_X0_standing, if_neg s_1_4, if_neg s_1_5, if_pos s_1_6]) rfl
      · by_cases s_1_7 : x_wr w = 7
        · refine g_tin 61 dX0_standing_1 (by omega) (by omega) (by rw [s_1_7]; rfl) rfl ?_
          refine g_aload_n dX0_standing_61 rfl ?_
          refine g_getR (t2 := 4) (i2 := f) dX0_standing_62 fl_X0_21 (x_vC hn (Nat.le_of_ble_eq_true rfl) hf) rfl rfl rfl ?_
          refine g_iload_n dX0_standing_65 rfl ?_
          refine g_iald p dX0_standing_66 rfl hp (x_vC hn (Nat.le_of_ble_eq_true rfl) hf) rfl ?_
          exact f_iret dX0_standing_67 (by rw [V_X0_standing, if_neg s_1_4, if_neg s_1_5, if_neg s_1_6, if_pos s_1_7]) rfl
        · by_cases s_1_8 : x_wr w = 8
          · refine g_tin 68 dX0_standing_1 (by omega) (by omega) (by rw [s_1_8]; rfl) rfl ?_
            refine g_aload_n dX0_standing_68 rfl ?_
            refine g_getI dX0_standing_69 fl_X0_28 (x_vC hn (Nat.le_of_ble_eq_true rfl) hf) rfl rfl ?_
            refine g_iload_n dX0_standing_72 rfl ?_
            refine g_ishr dX0_standing_73 ?_
            refine g_iconst dX0_standing_74 ?_
            refine g_iand dX0_standing_75 ?_
            exact f_iret dX0_standing_76 (by rw [V_X0_standing, if_neg s_1_4, if_neg s_1_5, if_neg s_1_6, if_neg s_1_7, if_pos s_1_8]) rfl
          · by_cases s_1_9 : x_wr w = 9
            · refine g_tin 77 dX0_standing_1 (by omega) (by omega) (by rw [s_1_9]; rfl) rfl ?_
              refine g_aload_n dX0_standing_77 rfl ?_
              refine g_getI dX0_standing_78 fl_X0_24 (x_vC hn (Nat.le_of_ble_eq_true rfl) hf) rfl rfl ?_
              refine g_iload_n dX0_standing_81 rfl ?_
              refine g_ishr dX0_standing_82 ?_
              refine g_iconst dX0_standing_83 ?_
              refine g_iand dX0_standing_84 ?_
              exact f_iret dX0_standing_85 (by rw [V_X0_standing, if_neg s_1_4, if_neg s_1_5, if_neg s_1_6, if_neg s_1_7, if_neg s_1_8, if_pos s_1_9]) rfl
            · refine g_tout 86 dX0_standing_1 (by omega) rfl ?_
              refine g_aload_n dX0_standing_86 rfl ?_
              refine g_getI dX0_standing_87 fl_X0_31 (x_vC hn (Nat.le_of_ble_eq_true rfl) hf) rfl rfl ?_
              refine g_iload_n dX0_standing_90 rfl ?_
              refine g_ishr dX0_standing_91 ?_
              refine g_iconst dX0_standing_92 ?_
              refine g_iand dX0_standing_93 ?_
              exact f_iret dX0_standing_94 (by rw [V_X0_standing, if_neg s_1_4, if_neg s_1_5, if_neg s_1_6, if_neg s_1_7, if_neg s_1_8, if_neg s_1_9]) rfl

def RV_X0_softWeight_4 (f : Nat) (K : Nat) : Nat → Nat → xMi → Int → Int
  | 0, p, σ, a => a
  | k + 1, p, σ, a => (if x_wr (V_X0_isIn σ (σ 0 f 6) (p : Int)) = 0 then (RV_X0_softWeight_4 f K k (p + 1) σ a) else (RV_X0_softWeight_4 f K k (p + 1) σ (a + (σ 9 (x_rof f) p))))
theorem lh_X0_softWeight_4 (l : Launch) (n : Nat) (f : Nat) (K : Nat) (hn : 131 ≤ n) (hf : f < 20) (hK : K ≤ 6) : ∀ (k p : Nat) (σ : xMi) (a : Int), p + k = K → (σ 5 (x_rof f) 4 = (K : Int)) →  x_G l RX0 cX0_softWeight 3 (some .int) 1 n (some (xI (RV_X0_softWeight_4 f K k p σ a))) σ 4 [(2, xI (p : Int)), (1, xI a), (0, xR 0 f)] [] σ := by
  intro k
  induction k with
  | zero =>
    intro p σ a hk hsz
    refine g_iload_n dX0_softWeight_4 rfl ?_
    refine g_aload_n dX0_softWeight_5 rfl ?_
    refine g_getR (t2 := 5) (i2 := (x_rof f)) dX0_softWeight_6 fl_X0_47 (x_vC hn (Nat.le_of_ble_eq_true rfl) hf) rfl rfl rfl ?_
    refine g_getI dX0_softWeight_9 fl_X0_85 (x_vC hn (Nat.le_of_ble_eq_true rfl) (x_rof_lt _)) rfl rfl ?_
    refine g_cmp_ge 44 dX0_softWeight_12 rfl (fun c_12 => ?_) (fun c_12 => absurd (by rw [hsz, x_nat (by omega), x_nat (by omega)]; omega) c_12)
    refine g_iload_n dX0_softWeight_44 rfl ?_
    exact f_iret dX0_softWeight_45 rfl rfl
  | succ k ih =>
    intro p σ a hk hsz
    have hp : p < 6 := by omega
    refine g_iload_n dX0_softWeight_4 rfl ?_
    refine g_aload_n dX0_softWeight_5 rfl ?_
    refine g_getR (t2 := 5) (i2 := (x_rof f)) dX0_softWeight_6 fl_X0_47 (x_vC hn (Nat.le_of_ble_eq_true rfl) hf) rfl rfl rfl ?_
    refine g_getI dX0_softWeight_9 fl_X0_85 (x_vC hn (Nat.le_of_ble_eq_true rfl) (x_rof_lt _)) rfl rfl ?_
    refine g_cmp_ge 44 dX0_softWeight_12 rfl (fun c_12 => absurd c_12 (by rw [hsz, x_nat (by omega), x_nat (by omega)]; omega)) (fun c_12 => ?_)
    refine g_aload_n dX0_softWeight_15 rfl ?_
    refine g_getI dX0_softWeight_16 fl_X0_28 (x_vC hn (Nat.le_of_ble_eq_true rfl) hf) rfl rfl ?_
    refine g_iload_n dX0_softWeight_19 rfl ?_
    refine f_S dX0_softWeight_20 cs_X0_60 mb_X0_isIn (c_X0_isIn l n _ (σ 0 f 6) (p : Int) hn) rfl (Nat.lt_of_lt_of_le (by decide) hn) rfl (Nat.le_of_ble_eq_true rfl) (by decide) (Nat.le_of_ble_eq_true rfl) (Nat.le_refl _) (Nat.le_refl _) ?_
    refine g_if_eq 38 dX0_softWeight_23 rfl (fun c_23 => ?_) (fun c_23 => ?_)
    · refine g_iinc (lv' := [(2, xI (((p + 1) : Nat) : Int)), _, _]) dX0_softWeight_38 (Nat.le_of_ble_eq_true rfl) rfl rfl ?_
      refine g_goto 4 dX0_softWeight_41 rfl ?_
      refine g_sub (lv2 := [(2, xI (((p + 1) : Nat) : Int)), _, _]) [0, 1, 2] rfl ?_
      exact f_cv (by rw [RV_X0_softWeight_4, if_pos c_23]) rfl (ih (p + 1) _ _ (by omega) hsz)
    · refine g_iload_n dX0_softWeight_26 rfl ?_
      refine g_aload_n dX0_softWeight_27 rfl ?_
      refine g_getR (t2 := 5) (i2 := (x_rof f)) dX0_softWeight_28 fl_X0_47 (x_vC hn (Nat.le_of_ble_eq_true rfl) hf) rfl rfl rfl ?_
      refine g_getR (t2 := 9) (i2 := (x_rof f)) dX0_softWeight_31 fl_X0_122 (x_vC hn (Nat.le_of_ble_eq_true rfl) (x_rof_lt _)) rfl rfl rfl ?_
      refine g_iload_n dX0_softWeight_34 rfl ?_
      refine g_iald p dX0_softWeight_35 rfl hp (x_vC hn (Nat.le_of_ble_eq_true rfl) (x_rof_lt _)) rfl ?_
      refine g_iadd dX0_softWeight_36 ?_
      refine g_istore_n (lv' := [_, _, _]) dX0_softWeight_37 (Nat.le_of_ble_eq_true rfl) rfl ?_
      refine g_iinc (lv' := [(2, xI (((p + 1) : Nat) : Int)), _, _]) dX0_softWeight_38 (Nat.le_of_ble_eq_true rfl) rfl rfl ?_
      refine g_goto 4 dX0_softWeight_41 rfl ?_
      refine g_sub (lv2 := [(2, xI (((p + 1) : Nat) : Int)), _, _]) [0, 1, 2] rfl ?_
      exact f_cv (by rw [RV_X0_softWeight_4, if_neg c_23]) rfl (ih (p + 1) _ _ (by omega) hsz)
def V_X0_softWeight (σ : xMi) (f : Nat) (K : Nat) : Int := (RV_X0_softWeight_4 f K K 0 σ 0)
theorem c_X0_softWeight (l : Launch) (n : Nat) (σ : xMi) (f : Nat) (K : Nat) (hn : 131 ≤ n) (hf : f < 20) (hK : K ≤ 6) (hsz : σ 5 (x_rof f) 4 = (K : Int)) : x_F l yX0_softWeight RX0 cX0_softWeight 3 (some .int) 1 n σ [xR 0 f] (some (xI (V_X0_softWeight σ f K))) σ := by
  refine f_of (by decide) rfl (Nat.le_of_ble_eq_true rfl) rfl ?_
  refine g_iconst dX0_softWeight_0 ?_
  refine g_istore_n (lv' := [_, _]) dX0_softWeight_1 (Nat.le_of_ble_eq_true rfl) rfl ?_
  refine g_iconst dX0_softWeight_2 ?_
  refine g_istore_n (lv' := [_, _, _]) dX0_softWeight_3 (Nat.le_of_ble_eq_true rfl) rfl ?_
  refine g_sub (lv2 := [(2, xI ((0 : Nat) : Int)), _, _]) [0, 1, 2] rfl ?_
  exact f_cv rfl rfl (lh_X0_softWeight_4 l n f K hn hf hK K 0 _ _ (by omega) hsz)

def RV_X0_allOnWay_4 (f : Nat) (K : Nat) : Nat → Nat → xMi → Int → Int
  | 0, p, σ, a => a
  | k + 1, p, σ, a => (RV_X0_allOnWay_4 f K k (p + 1) σ (a + (σ 1 f p)))
theorem lh_X0_allOnWay_4 (l : Launch) (n : Nat) (f : Nat) (K : Nat) (hn : 131 ≤ n) (hf : f < 20) (hK : K ≤ 6) : ∀ (k p : Nat) (σ : xMi) (a : Int), p + k = K → (σ 5 (x_rof f) 4 = (K : Int)) →  x_G l RX0 cX0_allOnWay 3 (some .int) 0 n (some (xI (RV_X0_allOnWay_4 f K k p σ a))) σ 4 [(2, xI (p : Int)), (1, xI a), (0, xR 0 f)] [] σ := by
  intro k
  induction k with
  | zero =>
    intro p σ a hk hsz
    refine g_iload_n dX0_allOnWay_4 rfl ?_
    refine g_aload_n dX0_allOnWay_5 rfl ?_
    refine g_getR (t2 := 5) (i2 := (x_rof f)) dX0_allOnWay_6 fl_X0_47 (x_vC hn (Nat.le_of_ble_eq_true rfl) hf) rfl rfl rfl ?_
    refine g_getI dX0_allOnWay_9 fl_X0_85 (x_vC hn (Nat.le_of_ble_eq_true rfl) (x_rof_lt _)) rfl rfl ?_
    refine g_cmp_ge 30 dX0_allOnWay_12 rfl (fun c_12 => ?_) (fun c_12 => absurd (by rw [hsz, x_nat (by omega), x_nat (by omega)]; omega) c_12)
    refine g_iload_n dX0_allOnWay_30 rfl ?_
    exact f_iret dX0_allOnWay_31 rfl rfl
  | succ k ih =>
    intro p σ a hk hsz
    have hp : p < 6 := by omega
    refine g_iload_n dX0_allOnWay_4 rfl ?_
    refine g_aload_n dX0_allOnWay_5 rfl ?_
    refine g_getR (t2 := 5) (i2 := (x_rof f)) dX0_allOnWay_6 fl_X0_47 (x_vC hn (Nat.le_of_ble_eq_true rfl) hf) rfl rfl rfl ?_
    refine g_getI dX0_allOnWay_9 fl_X0_85 (x_vC hn (Nat.le_of_ble_eq_true rfl) (x_rof_lt _)) rfl rfl ?_
    refine g_cmp_ge 30 dX0_allOnWay_12 rfl (fun c_12 => absurd c_12 (by rw [hsz, x_nat (by omega), x_nat (by omega)]; omega)) (fun c_12 => ?_)
    refine g_iload_n dX0_allOnWay_15 rfl ?_
    refine g_aload_n dX0_allOnWay_16 rfl ?_
    refine g_getR (t2 := 1) (i2 := f) dX0_allOnWay_17 fl_X0_9 (x_vC hn (Nat.le_of_ble_eq_true rfl) hf) rfl rfl rfl ?_
    refine g_iload_n dX0_allOnWay_20 rfl ?_
    refine g_iald p dX0_allOnWay_21 rfl hp (x_vC hn (Nat.le_of_ble_eq_true rfl) hf) rfl ?_
    refine g_iadd dX0_allOnWay_22 ?_
    refine g_istore_n (lv' := [_, _, _]) dX0_allOnWay_23 (Nat.le_of_ble_eq_true rfl) rfl ?_
    refine g_iinc (lv' := [(2, xI (((p + 1) : Nat) : Int)), _, _]) dX0_allOnWay_24 (Nat.le_of_ble_eq_true rfl) rfl rfl ?_
    refine g_goto 4 dX0_allOnWay_27 rfl ?_
    refine g_sub (lv2 := [(2, xI (((p + 1) : Nat) : Int)), _, _]) [0, 1, 2] rfl ?_
    exact f_cv rfl rfl (ih (p + 1) _ _ (by omega) hsz)
def V_X0_allOnWay (σ : xMi) (f : Nat) (K : Nat) : Int := (RV_X0_allOnWay_4 f K K 0 σ 0)
theorem c_X0_allOnWay (l : Launch) (n : Nat) (σ : xMi) (f : Nat) (K : Nat) (hn : 131 ≤ n) (hf : f < 20) (hK : K ≤ 6) (hsz : σ 5 (x_rof f) 4 = (K : Int)) : x_F l yX0_allOnWay RX0 cX0_allOnWay 3 (some .int) 0 n σ [xR 0 f] (some (xI (V_X0_allOnWay σ f K))) σ := by
  refine f_of (by decide) rfl (Nat.le_of_ble_eq_true rfl) rfl ?_
  refine g_iconst dX0_allOnWay_0 ?_
  refine g_istore_n (lv' := [_, _]) dX0_allOnWay_1 (Nat.le_of_ble_eq_true rfl) rfl ?_
  refine g_iconst dX0_allOnWay_2 ?_
  refine g_istore_n (lv' := [_, _, _]) dX0_allOnWay_3 (Nat.le_of_ble_eq_true rfl) rfl ?_
  refine g_sub (lv2 := [(2, xI ((0 : Nat) : Int)), _, _]) [0, 1, 2] rfl ?_
  exact f_cv rfl rfl (lh_X0_allOnWay_4 l n f K hn hf hK K 0 _ _ (by omega) hsz)

def RV_X0_eatingBits_4 (f : Nat) (K : Nat) : Nat → Nat → xMi → Int → Int
  | 0, p, σ, a => a
  | k + 1, p, σ, a => (if x_wr (σ 3 f p) ≤ 0 then (RV_X0_eatingBits_4 f K k (p + 1) σ a) else (RV_X0_eatingBits_4 f K k (p + 1) σ (x_or a (x_shl 1 (p : Int)))))
theorem lh_X0_eatingBits_4 (l : Launch) (n : Nat) (f : Nat) (K : Nat) (hn : 131 ≤ n) (hf : f < 20) (hK : K ≤ 6) : ∀ (k p : Nat) (σ : xMi) (a : Int), p + k = K → (σ 5 (x_rof f) 4 = (K : Int)) →  x_G l RX0 cX0_eatingBits 3 (some .int) 0 n (some (xI (RV_X0_eatingBits_4 f K k p σ a))) σ 4 [(2, xI (p : Int)), (1, xI a), (0, xR 0 f)] [] σ := by
  intro k
  induction k with
  | zero =>
    intro p σ a hk hsz
    refine g_iload_n dX0_eatingBits_4 rfl ?_
    refine g_aload_n dX0_eatingBits_5 rfl ?_
    refine g_getR (t2 := 5) (i2 := (x_rof f)) dX0_eatingBits_6 fl_X0_47 (x_vC hn (Nat.le_of_ble_eq_true rfl) hf) rfl rfl rfl ?_
    refine g_getI dX0_eatingBits_9 fl_X0_85 (x_vC hn (Nat.le_of_ble_eq_true rfl) (x_rof_lt _)) rfl rfl ?_
    refine g_cmp_ge 36 dX0_eatingBits_12 rfl (fun c_12 => ?_) (fun c_12 => absurd (by rw [hsz, x_nat (by omega), x_nat (by omega)]; omega) c_12)
    refine g_iload_n dX0_eatingBits_36 rfl ?_
    exact f_iret dX0_eatingBits_37 rfl rfl
  | succ k ih =>
    intro p σ a hk hsz
    have hp : p < 6 := by omega
    refine g_iload_n dX0_eatingBits_4 rfl ?_
    refine g_aload_n dX0_eatingBits_5 rfl ?_
    refine g_getR (t2 := 5) (i2 := (x_rof f)) dX0_eatingBits_6 fl_X0_47 (x_vC hn (Nat.le_of_ble_eq_true rfl) hf) rfl rfl rfl ?_
    refine g_getI dX0_eatingBits_9 fl_X0_85 (x_vC hn (Nat.le_of_ble_eq_true rfl) (x_rof_lt _)) rfl rfl ?_
    refine g_cmp_ge 36 dX0_eatingBits_12 rfl (fun c_12 => absurd c_12 (by rw [hsz, x_nat (by omega), x_nat (by omega)]; omega)) (fun c_12 => ?_)
    refine g_aload_n dX0_eatingBits_15 rfl ?_
    refine g_getR (t2 := 3) (i2 := f) dX0_eatingBits_16 fl_X0_18 (x_vC hn (Nat.le_of_ble_eq_true rfl) hf) rfl rfl rfl ?_
    refine g_iload_n dX0_eatingBits_19 rfl ?_
    refine g_iald p dX0_eatingBits_20 rfl hp (x_vC hn (Nat.le_of_ble_eq_true rfl) hf) rfl ?_
    refine g_if_le 30 dX0_eatingBits_21 rfl (fun c_21 => ?_) (fun c_21 => ?_)
    · refine g_iinc (lv' := [(2, xI (((p + 1) : Nat) : Int)), _, _]) dX0_eatingBits_30 (Nat.le_of_ble_eq_true rfl) rfl rfl ?_
      refine g_goto 4 dX0_eatingBits_33 rfl ?_
      refine g_sub (lv2 := [(2, xI (((p + 1) : Nat) : Int)), _, _]) [0, 1, 2] rfl ?_
      exact f_cv (by rw [RV_X0_eatingBits_4, if_pos c_21]) rfl (ih (p + 1) _ _ (by omega) hsz)
    · refine g_iload_n dX0_eatingBits_24 rfl ?_
      refine g_iconst dX0_eatingBits_25 ?_
      refine g_iload_n dX0_eatingBits_26 rfl ?_
      refine g_ishl dX0_eatingBits_27 ?_
      refine g_ior dX0_eatingBits_28 ?_
      refine g_istore_n (lv' := [_, _, _]) dX0_eatingBits_29 (Nat.le_of_ble_eq_true rfl) rfl ?_
      refine g_iinc (lv' := [(2, xI (((p + 1) : Nat) : Int)), _, _]) dX0_eatingBits_30 (Nat.le_of_ble_eq_true rfl) rfl rfl ?_
      refine g_goto 4 dX0_eatingBits_33 rfl ?_
      refine g_sub (lv2 := [(2, xI (((p + 1) : Nat) : Int)), _, _]) [0, 1, 2] rfl ?_
      exact f_cv (by rw [RV_X0_eatingBits_4, if_neg c_21]) rfl (ih (p + 1) _ _ (by omega) hsz)
def V_X0_eatingBits (σ : xMi) (f : Nat) (K : Nat) : Int := (RV_X0_eatingBits_4 f K K 0 σ 0)
theorem c_X0_eatingBits (l : Launch) (n : Nat) (σ : xMi) (f : Nat) (K : Nat) (hn : 131 ≤ n) (hf : f < 20) (hK : K ≤ 6) (hsz : σ 5 (x_rof f) 4 = (K : Int)) : x_F l yX0_eatingBits RX0 cX0_eatingBits 3 (some .int) 0 n σ [xR 0 f] (some (xI (V_X0_eatingBits σ f K))) σ := by
  refine f_of (by decide) rfl (Nat.le_of_ble_eq_true rfl) rfl ?_
  refine g_iconst dX0_eatingBits_0 ?_
  refine g_istore_n (lv' := [_, _]) dX0_eatingBits_1 (Nat.le_of_ble_eq_true rfl) rfl ?_
  refine g_iconst dX0_eatingBits_2 ?_
  refine g_istore_n (lv' := [_, _, _]) dX0_eatingBits_3 (Nat.le_of_ble_eq_true rfl) rfl ?_
  refine g_sub (lv2 := [(2, xI ((0 : Nat) : Int)), _, _]) [0, 1, 2] rfl ?_
  exact f_cv rfl rfl (lh_X0_eatingBits_4 l n f K hn hf hK K 0 _ _ (by omega) hsz)

def RV_X0_toldBits_4 (f : Nat) (K : Nat) : Nat → Nat → xMi → Int → Int
  | 0, p, σ, a => a
  | k + 1, p, σ, a => (if x_wr (V_X0_isTold σ f p) = 0 then (RV_X0_toldBits_4 f K k (p + 1) σ a) else (RV_X0_toldBits_4 f K k (p + 1) σ (x_or a (x_shl 1 (p : Int)))))
theorem lh_X0_toldBits_4 (l : Launch) (n : Nat) (f : Nat) (K : Nat) (hn : 131 ≤ n) (hf : f < 20) (hK : K ≤ 6) : ∀ (k p : Nat) (σ : xMi) (a : Int), p + k = K → (σ 5 (x_rof f) 4 = (K : Int)) →  x_G l RX0 cX0_toldBits 3 (some .int) 1 n (some (xI (RV_X0_toldBits_4 f K k p σ a))) σ 4 [(2, xI (p : Int)), (1, xI a), (0, xR 0 f)] [] σ := by
  intro k
  induction k with
  | zero =>
    intro p σ a hk hsz
    refine g_iload_n dX0_toldBits_4 rfl ?_
    refine g_aload_n dX0_toldBits_5 rfl ?_
    refine g_getR (t2 := 5) (i2 := (x_rof f)) dX0_toldBits_6 fl_X0_47 (x_vC hn (Nat.le_of_ble_eq_true rfl) hf) rfl rfl rfl ?_
    refine g_getI dX0_toldBits_9 fl_X0_85 (x_vC hn (Nat.le_of_ble_eq_true rfl) (x_rof_lt _)) rfl rfl ?_
    refine g_cmp_ge 35 dX0_toldBits_12 rfl (fun c_12 => ?_) (fun c_12 => absurd (by rw [hsz, x_nat (by omega), x_nat (by omega)]; omega) c_12)
    refine g_iload_n dX0_toldBits_35 rfl ?_
    exact f_iret dX0_toldBits_36 rfl rfl
  | succ k ih =>
    intro p σ a hk hsz
    have hp : p < 6 := by omega
    refine g_iload_n dX0_toldBits_4 rfl ?_
    refine g_aload_n dX0_toldBits_5 rfl ?_
    refine g_getR (t2 := 5) (i2 := (x_rof f)) dX0_toldBits_6 fl_X0_47 (x_vC hn (Nat.le_of_ble_eq_true rfl) hf) rfl rfl rfl ?_
    refine g_getI dX0_toldBits_9 fl_X0_85 (x_vC hn (Nat.le_of_ble_eq_true rfl) (x_rof_lt _)) rfl rfl ?_
    refine g_cmp_ge 35 dX0_toldBits_12 rfl (fun c_12 => absurd c_12 (by rw [hsz, x_nat (by omega), x_nat (by omega)]; omega)) (fun c_12 => ?_)
    refine g_aload_n dX0_toldBits_15 rfl ?_
    refine g_iload_n dX0_toldBits_16 rfl ?_
    refine f_V dX0_toldBits_17 cs_X0_64 mb_X0_isTold (c_X0_isTold l n _ f p hn hf hp) rfl (x_vC hn (Nat.le_of_ble_eq_true rfl) hf) rfl rfl rfl (Nat.le_of_ble_eq_true rfl) (by decide) (Nat.le_of_ble_eq_true rfl) (Nat.le_refl _) (Nat.le_refl _) ?_
    refine g_if_eq 29 dX0_toldBits_20 rfl (fun c_20 => ?_) (fun c_20 => ?_)
    · refine g_iinc (lv' := [(2, xI (((p + 1) : Nat) : Int)), _, _]) dX0_toldBits_29 (Nat.le_of_ble_eq_true rfl) rfl rfl ?_
      refine g_goto 4 dX0_toldBits_32 rfl ?_
      refine g_sub (lv2 := [(2, xI (((p + 1) : Nat) : Int)), _, _]) [0, 1, 2] rfl ?_
      exact f_cv (by rw [RV_X0_toldBits_4, if_pos c_20]) rfl (ih (p + 1) _ _ (by omega) hsz)
    · refine g_iload_n dX0_toldBits_23 rfl ?_
      refine g_iconst dX0_toldBits_24 ?_
      refine g_iload_n dX0_toldBits_25 rfl ?_
      refine g_ishl dX0_toldBits_26 ?_
      refine g_ior dX0_toldBits_27 ?_
      refine g_istore_n (lv' := [_, _, _]) dX0_toldBits_28 (Nat.le_of_ble_eq_true rfl) rfl ?_
      refine g_iinc (lv' := [(2, xI (((p + 1) : Nat) : Int)), _, _]) dX0_toldBits_29 (Nat.le_of_ble_eq_true rfl) rfl rfl ?_
      refine g_goto 4 dX0_toldBits_32 rfl ?_
      refine g_sub (lv2 := [(2, xI (((p + 1) : Nat) : Int)), _, _]) [0, 1, 2] rfl ?_
      exact f_cv (by rw [RV_X0_toldBits_4, if_neg c_20]) rfl (ih (p + 1) _ _ (by omega) hsz)
def V_X0_toldBits (σ : xMi) (f : Nat) (K : Nat) : Int := (RV_X0_toldBits_4 f K K 0 σ 0)
theorem c_X0_toldBits (l : Launch) (n : Nat) (σ : xMi) (f : Nat) (K : Nat) (hn : 131 ≤ n) (hf : f < 20) (hK : K ≤ 6) (hsz : σ 5 (x_rof f) 4 = (K : Int)) : x_F l yX0_toldBits RX0 cX0_toldBits 3 (some .int) 1 n σ [xR 0 f] (some (xI (V_X0_toldBits σ f K))) σ := by
  refine f_of (by decide) rfl (Nat.le_of_ble_eq_true rfl) rfl ?_
  refine g_iconst dX0_toldBits_0 ?_
  refine g_istore_n (lv' := [_, _]) dX0_toldBits_1 (Nat.le_of_ble_eq_true rfl) rfl ?_
  refine g_iconst dX0_toldBits_2 ?_
  refine g_istore_n (lv' := [_, _, _]) dX0_toldBits_3 (Nat.le_of_ble_eq_true rfl) rfl ?_
  refine g_sub (lv2 := [(2, xI ((0 : Nat) : Int)), _, _]) [0, 1, 2] rfl ?_
  exact f_cv rfl rfl (lh_X0_toldBits_4 l n f K hn hf hK K 0 _ _ (by omega) hsz)

def RS_X0_passDay_131 (f : Nat) (b : Int) (K : Nat) : Nat → Nat → xMi → xMi
  | 0, p, σ => (x_up (x_up σ 0 f 10 ((σ 0 f 10) + 1)) 0 f 11 0)
  | k + 1, p, σ => (if x_wr (σ 3 f p) ≤ 0 then (RS_X0_passDay_131 f b K k (p + 1) σ ) else (RS_X0_passDay_131 f b K k (p + 1) (x_up σ 3 f p ((σ 3 f p) - 1)) ))
theorem fr_RS_X0_passDay_131 (f : Nat) (b : Int) (K : Nat) {t i k' : Nat} (h : ¬ (t ≤ 4 ∧ i = f)) : ∀ (k p : Nat) (σ : xMi) , RS_X0_passDay_131 f b K k p σ  t i k' = σ t i k' := by
  intro k
  induction k with
  | zero =>
    intro p σ 
    simp only [RS_X0_passDay_131]
    all_goals ((repeat' split) <;> simp (disch := first | omega | assumption) only [x_up_o, x_cp_o])
  | succ k ih =>
    intro p σ 
    simp only [RS_X0_passDay_131]
    all_goals (repeat' split)
    all_goals (first | rw [ih] | skip)
    all_goals first | done | simp (disch := first | omega | assumption) only [x_up_o, x_cp_o]
theorem lh_X0_passDay_131 (l : Launch) (n : Nat) (f : Nat) (b : Int) (K : Nat) (hn : 131 ≤ n) (hf : f < 20) (hK : K ≤ 6) : ∀ (k p : Nat) (σ : xMi) , p + k = K → (σ 5 (x_rof f) 4 = (K : Int)) →  x_G l RX0 cX0_passDay 3 none 3 n none (RS_X0_passDay_131 f b K k p σ ) 131 [(2, xI (p : Int)), (0, xR 0 f), (1, xI b)] [] σ := by
  intro k
  induction k with
  | zero =>
    intro p σ  hk hsz
    refine g_iload_n dX0_passDay_131 rfl ?_
    refine g_aload_n dX0_passDay_132 rfl ?_
    refine g_getR (t2 := 5) (i2 := (x_rof f)) dX0_passDay_133 fl_X0_47 (x_vC hn (Nat.le_of_ble_eq_true rfl) hf) rfl rfl rfl ?_
    refine g_getI dX0_passDay_136 fl_X0_85 (x_vC hn (Nat.le_of_ble_eq_true rfl) (x_rof_lt _)) rfl rfl ?_
    refine g_cmp_ge 167 dX0_passDay_139 rfl (fun c_139 => ?_) (fun c_139 => absurd (by rw [hsz, x_nat (by omega), x_nat (by omega)]; omega) c_139)
    refine g_aload_n dX0_passDay_167 rfl ?_
    refine g_dup dX0_passDay_168 rfl ?_
    refine g_getI dX0_passDay_169 fl_X0_40 (x_vC hn (Nat.le_of_ble_eq_true rfl) hf) rfl rfl ?_
    refine g_iconst dX0_passDay_172 ?_
    refine g_iadd dX0_passDay_173 ?_
    refine g_putI dX0_passDay_174 fl_X0_40 (x_vC hn (Nat.le_of_ble_eq_true rfl) hf) rfl rfl ?_
    refine g_aload_n dX0_passDay_177 rfl ?_
    refine g_iconst dX0_passDay_178 ?_
    refine g_putZ dX0_passDay_179 fl_X0_43 (x_vC hn (Nat.le_of_ble_eq_true rfl) hf) rfl rfl rfl ?_
    exact f_vret dX0_passDay_182 rfl rfl
  | succ k ih =>
    intro p σ  hk hsz
    have hp : p < 6 := by omega
    refine g_iload_n dX0_passDay_131 rfl ?_
    refine g_aload_n dX0_passDay_132 rfl ?_
    refine g_getR (t2 := 5) (i2 := (x_rof f)) dX0_passDay_133 fl_X0_47 (x_vC hn (Nat.le_of_ble_eq_true rfl) hf) rfl rfl rfl ?_
    refine g_getI dX0_passDay_136 fl_X0_85 (x_vC hn (Nat.le_of_ble_eq_true rfl) (x_rof_lt _)) rfl rfl ?_
    refine g_cmp_ge 167 dX0_passDay_139 rfl (fun c_139 => absurd c_139 (by rw [hsz, x_nat (by omega), x_nat (by omega)]; omega)) (fun c_139 => ?_)
    refine g_aload_n dX0_passDay_142 rfl ?_
    refine g_getR (t2 := 3) (i2 := f) dX0_passDay_143 fl_X0_18 (x_vC hn (Nat.le_of_ble_eq_true rfl) hf) rfl rfl rfl ?_
    refine g_iload_n dX0_passDay_146 rfl ?_
    refine g_iald p dX0_passDay_147 rfl hp (x_vC hn (Nat.le_of_ble_eq_true rfl) hf) rfl ?_
    refine g_if_le 161 dX0_passDay_148 rfl (fun c_148 => ?_) (fun c_148 => ?_)
    · refine g_iinc (lv' := [(2, xI (((p + 1) : Nat) : Int)), _, _]) dX0_passDay_161 (Nat.le_of_ble_eq_true rfl) rfl rfl ?_
      refine g_goto 131 dX0_passDay_164 rfl ?_
      refine g_sub (lv2 := [(2, xI (((p + 1) : Nat) : Int)), _, _]) [0, 1, 2] rfl ?_
      exact f_cv rfl (by rw [RS_X0_passDay_131, if_pos c_148]) (ih (p + 1) _  (by omega) hsz)
    · refine g_aload_n dX0_passDay_151 rfl ?_
      refine g_getR (t2 := 3) (i2 := f) dX0_passDay_152 fl_X0_18 (x_vC hn (Nat.le_of_ble_eq_true rfl) hf) rfl rfl rfl ?_
      refine g_iload_n dX0_passDay_155 rfl ?_
      refine g_dup2 dX0_passDay_156 rfl rfl ?_
      refine g_iald p dX0_passDay_157 rfl hp (x_vC hn (Nat.le_of_ble_eq_true rfl) hf) rfl ?_
      refine g_iconst dX0_passDay_158 ?_
      refine g_isub dX0_passDay_159 ?_
      refine g_iast p dX0_passDay_160 rfl hp (x_vC hn (Nat.le_of_ble_eq_true rfl) hf) rfl ?_
      refine g_iinc (lv' := [(2, xI (((p + 1) : Nat) : Int)), _, _]) dX0_passDay_161 (Nat.le_of_ble_eq_true rfl) rfl rfl ?_
      refine g_goto 131 dX0_passDay_164 rfl ?_
      refine g_sub (lv2 := [(2, xI (((p + 1) : Nat) : Int)), _, _]) [0, 1, 2] rfl ?_
      exact f_cv rfl (by rw [RS_X0_passDay_131, if_neg c_148]) (ih (p + 1) _  (by omega) (by first | exact hsz | (simp (disch := omega) only [x_up_o, x_cp_o]; exact hsz) | (simp (disch := first | omega | assumption) only [x_up_o, x_cp_o]; exact hsz)))
def RS_X0_passDay_52 (f : Nat) (b : Int) (K : Nat) : Nat → Nat → xMi → xMi
  | 0, p, σ => (RS_X0_passDay_131 f b K K 0 σ )
  | k + 1, p, σ => (if x_wr (σ 0 f 10) < x_wr (σ 8 (x_rof f) p) then (RS_X0_passDay_52 f b K k (p + 1) σ ) else (if x_wr (V_X0_isTold σ f p) = 0 then (if x_wr (σ 3 f p) = 0 then (RS_X0_passDay_52 f b K k (p + 1) (x_up (x_up σ 4 f p (σ 0 f 10)) 0 f 6 (x_or ((x_up σ 4 f p (σ 0 f 10)) 0 f 6) (x_and ((x_up σ 4 f p (σ 0 f 10)) 0 f 5) (x_shl 1 (p : Int))))) ) else (RS_X0_passDay_52 f b K k (p + 1) σ )) else (RS_X0_passDay_52 f b K k (p + 1) σ )))
theorem fr_RS_X0_passDay_52 (f : Nat) (b : Int) (K : Nat) {t i k' : Nat} (h : ¬ (t ≤ 4 ∧ i = f)) : ∀ (k p : Nat) (σ : xMi) , RS_X0_passDay_52 f b K k p σ  t i k' = σ t i k' := by
  intro k
  induction k with
  | zero =>
    intro p σ 
    simp only [RS_X0_passDay_52]
    all_goals ((repeat' split) <;> simp (disch := first | omega | assumption) only [x_up_o, x_cp_o, fr_RS_X0_passDay_131])
  | succ k ih =>
    intro p σ 
    simp only [RS_X0_passDay_52]
    all_goals (repeat' split)
    all_goals (first | rw [ih] | skip)
    all_goals first | done | simp (disch := first | omega | assumption) only [x_up_o, x_cp_o]
theorem lh_X0_passDay_52 (l : Launch) (n : Nat) (f : Nat) (b : Int) (K : Nat) (hn : 131 ≤ n) (hf : f < 20) (hK : K ≤ 6) : ∀ (k p : Nat) (σ : xMi) , p + k = K → (σ 5 (x_rof f) 4 = (K : Int)) →  x_G l RX0 cX0_passDay 3 none 3 n none (RS_X0_passDay_52 f b K k p σ ) 52 [(2, xI (p : Int)), (0, xR 0 f), (1, xI b)] [] σ := by
  intro k
  induction k with
  | zero =>
    intro p σ  hk hsz
    refine g_iload_n dX0_passDay_52 rfl ?_
    refine g_aload_n dX0_passDay_53 rfl ?_
    refine g_getR (t2 := 5) (i2 := (x_rof f)) dX0_passDay_54 fl_X0_47 (x_vC hn (Nat.le_of_ble_eq_true rfl) hf) rfl rfl rfl ?_
    refine g_getI dX0_passDay_57 fl_X0_85 (x_vC hn (Nat.le_of_ble_eq_true rfl) (x_rof_lt _)) rfl rfl ?_
    refine g_cmp_ge 129 dX0_passDay_60 rfl (fun c_60 => ?_) (fun c_60 => absurd (by rw [hsz, x_nat (by omega), x_nat (by omega)]; omega) c_60)
    refine g_iconst dX0_passDay_129 ?_
    refine g_istore_n (lv' := [_, _, _]) dX0_passDay_130 (Nat.le_of_ble_eq_true rfl) rfl ?_
    refine g_sub (lv2 := [(2, xI ((0 : Nat) : Int)), _, _]) [0, 1, 2] rfl ?_
    exact f_cv rfl rfl (lh_X0_passDay_131 l n f b K hn hf hK K 0 _  (by omega) hsz)
  | succ k ih =>
    intro p σ  hk hsz
    have hp : p < 6 := by omega
    refine g_iload_n dX0_passDay_52 rfl ?_
    refine g_aload_n dX0_passDay_53 rfl ?_
    refine g_getR (t2 := 5) (i2 := (x_rof f)) dX0_passDay_54 fl_X0_47 (x_vC hn (Nat.le_of_ble_eq_true rfl) hf) rfl rfl rfl ?_
    refine g_getI dX0_passDay_57 fl_X0_85 (x_vC hn (Nat.le_of_ble_eq_true rfl) (x_rof_lt _)) rfl rfl ?_
    refine g_cmp_ge 129 dX0_passDay_60 rfl (fun c_60 => absurd c_60 (by rw [hsz, x_nat (by omega), x_nat (by omega)]; omega)) (fun c_60 => ?_)
    refine g_aload_n dX0_passDay_63 rfl ?_
    refine g_getR (t2 := 5) (i2 := (x_rof f)) dX0_passDay_64 fl_X0_47 (x_vC hn (Nat.le_of_ble_eq_true rfl) hf) rfl rfl rfl ?_
    refine g_getR (t2 := 8) (i2 := (x_rof f)) dX0_passDay_67 fl_X0_92 (x_vC hn (Nat.le_of_ble_eq_true rfl) (x_rof_lt _)) rfl rfl rfl ?_
    refine g_iload_n dX0_passDay_70 rfl ?_
    refine g_iald p dX0_passDay_71 rfl hp (x_vC hn (Nat.le_of_ble_eq_true rfl) (x_rof_lt _)) rfl ?_
    refine g_aload_n dX0_passDay_72 rfl ?_
    refine g_getI dX0_passDay_73 fl_X0_40 (x_vC hn (Nat.le_of_ble_eq_true rfl) hf) rfl rfl ?_
    refine g_cmp_gt 123 dX0_passDay_76 rfl (fun c_76 => ?_) (fun c_76 => ?_)
    · refine g_iinc (lv' := [(2, xI (((p + 1) : Nat) : Int)), _, _]) dX0_passDay_123 (Nat.le_of_ble_eq_true rfl) rfl rfl ?_
      refine g_goto 52 dX0_passDay_126 rfl ?_
      refine g_sub (lv2 := [(2, xI (((p + 1) : Nat) : Int)), _, _]) [0, 1, 2] rfl ?_
      exact f_cv rfl (by rw [RS_X0_passDay_52, if_pos c_76]) (ih (p + 1) _  (by omega) hsz)
    · refine g_aload_n dX0_passDay_79 rfl ?_
      refine g_iload_n dX0_passDay_80 rfl ?_
      refine f_V dX0_passDay_81 cs_X0_64 mb_X0_isTold (c_X0_isTold l n _ f p hn hf hp) rfl (x_vC hn (Nat.le_of_ble_eq_true rfl) hf) rfl rfl rfl (Nat.le_of_ble_eq_true rfl) (by decide) (Nat.le_of_ble_eq_true rfl) (Nat.le_refl _) (Nat.le_refl _) ?_
      refine g_if_ne 123 dX0_passDay_84 rfl (fun c_84 => ?_) (fun c_84 => ?_)
      · refine g_iinc (lv' := [(2, xI (((p + 1) : Nat) : Int)), _, _]) dX0_passDay_123 (Nat.le_of_ble_eq_true rfl) rfl rfl ?_
        refine g_goto 52 dX0_passDay_126 rfl ?_
        refine g_sub (lv2 := [(2, xI (((p + 1) : Nat) : Int)), _, _]) [0, 1, 2] rfl ?_
        exact f_cv rfl (by rw [RS_X0_passDay_52, if_neg c_76, if_neg c_84]) (ih (p + 1) _  (by omega) hsz)
      · refine g_aload_n dX0_passDay_87 rfl ?_
        refine g_getR (t2 := 3) (i2 := f) dX0_passDay_88 fl_X0_18 (x_vC hn (Nat.le_of_ble_eq_true rfl) hf) rfl rfl rfl ?_
        refine g_iload_n dX0_passDay_91 rfl ?_
        refine g_iald p dX0_passDay_92 rfl hp (x_vC hn (Nat.le_of_ble_eq_true rfl) hf) rfl ?_
        refine g_if_ne 123 dX0_passDay_93 rfl (fun c_93 => ?_) (fun c_93 => ?_)
        · refine g_iinc (lv' := [(2, xI (((p + 1) : Nat) : Int)), _, _]) dX0_passDay_123 (Nat.le_of_ble_eq_true rfl) rfl rfl ?_
          refine g_goto 52 dX0_passDay_126 rfl ?_
          refine g_sub (lv2 := [(2, xI (((p + 1) : Nat) : Int)), _, _]) [0, 1, 2] rfl ?_
          exact f_cv rfl (by rw [RS_X0_passDay_52, if_neg c_76, if_pos c_84, if_neg c_93]) (ih (p + 1) _  (by omega) hsz)
        · refine g_aload_n dX0_passDay_96 rfl ?_
          refine g_getR (t2 := 4) (i2 := f) dX0_passDay_97 fl_X0_21 (x_vC hn (Nat.le_of_ble_eq_true rfl) hf) rfl rfl rfl ?_
          refine g_iload_n dX0_passDay_100 rfl ?_
          refine g_aload_n dX0_passDay_101 rfl ?_
          refine g_getI dX0_passDay_102 fl_X0_40 (x_vC hn (Nat.le_of_ble_eq_true rfl) hf) rfl rfl ?_
          refine g_iast p dX0_passDay_105 rfl hp (x_vC hn (Nat.le_of_ble_eq_true rfl) hf) rfl ?_
          refine g_aload_n dX0_passDay_106 rfl ?_
          refine g_dup dX0_passDay_107 rfl ?_
          refine g_getI dX0_passDay_108 fl_X0_28 (x_vC hn (Nat.le_of_ble_eq_true rfl) hf) rfl rfl ?_
          refine g_aload_n dX0_passDay_111 rfl ?_
          refine g_getI dX0_passDay_112 fl_X0_24 (x_vC hn (Nat.le_of_ble_eq_true rfl) hf) rfl rfl ?_
          refine g_iconst dX0_passDay_115 ?_
          refine g_iload_n dX0_passDay_116 rfl ?_
          refine g_ishl dX0_passDay_117 ?_
          refine g_iand dX0_passDay_118 ?_
          refine g_ior dX0_passDay_119 ?_
          refine g_putI dX0_passDay_120 fl_X0_28 (x_vC hn (Nat.le_of_ble_eq_true rfl) hf) rfl rfl ?_
          refine g_iinc (lv' := [(2, xI (((p + 1) : Nat) : Int)), _, _]) dX0_passDay_123 (Nat.le_of_ble_eq_true rfl) rfl rfl ?_
          refine g_goto 52 dX0_passDay_126 rfl ?_
          refine g_sub (lv2 := [(2, xI (((p + 1) : Nat) : Int)), _, _]) [0, 1, 2] rfl ?_
          exact f_cv rfl (by rw [RS_X0_passDay_52, if_neg c_76, if_pos c_84, if_pos c_93]) (ih (p + 1) _  (by omega) (by first | exact hsz | (simp (disch := omega) only [x_up_o, x_cp_o]; exact hsz) | (simp (disch := first | omega | assumption) only [x_up_o, x_cp_o]; exact hsz)))
def RS_X0_passDay_2 (f : Nat) (b : Int) (K : Nat) : Nat → Nat → xMi → xMi
  | 0, p, σ => (RS_X0_passDay_52 f b K K 0 σ )
  | k + 1, p, σ => (if x_wr b = 0 then (if x_wr (σ 1 f p) ≤ 0 then (RS_X0_passDay_2 f b K k (p + 1) σ ) else (if x_wr (σ 0 f 10) < x_wr (σ 2 f p) then (RS_X0_passDay_2 f b K k (p + 1) σ ) else (RS_X0_passDay_2 f b K k (p + 1) (S_X0_comeIn σ f p) ))) else (RS_X0_passDay_52 f b K K 0 σ ))
theorem fr_RS_X0_passDay_2 (f : Nat) (b : Int) (K : Nat) {t i k' : Nat} (h : ¬ (t ≤ 4 ∧ i = f)) : ∀ (k p : Nat) (σ : xMi) , RS_X0_passDay_2 f b K k p σ  t i k' = σ t i k' := by
  intro k
  induction k with
  | zero =>
    intro p σ 
    simp only [RS_X0_passDay_2]
    all_goals ((repeat' split) <;> simp (disch := first | omega | assumption) only [x_up_o, x_cp_o, fr_RS_X0_passDay_52])
  | succ k ih =>
    intro p σ 
    simp only [RS_X0_passDay_2]
    all_goals (repeat' split)
    all_goals (first | rw [ih] | skip)
    all_goals first | done | simp (disch := first | omega | assumption) only [x_up_o, x_cp_o, fr_RS_X0_passDay_52, fr_S_X0_comeIn]
theorem lh_X0_passDay_2 (l : Launch) (n : Nat) (f : Nat) (b : Int) (K : Nat) (hn : 131 ≤ n) (hf : f < 20) (hK : K ≤ 6) : ∀ (k p : Nat) (σ : xMi) , p + k = K → (σ 5 (x_rof f) 4 = (K : Int)) →  x_G l RX0 cX0_passDay 3 none 3 n none (RS_X0_passDay_2 f b K k p σ ) 2 [(2, xI (p : Int)), (0, xR 0 f), (1, xI b)] [] σ := by
  intro k
  induction k with
  | zero =>
    intro p σ  hk hsz
    refine g_iload_n dX0_passDay_2 rfl ?_
    refine g_aload_n dX0_passDay_3 rfl ?_
    refine g_getR (t2 := 5) (i2 := (x_rof f)) dX0_passDay_4 fl_X0_47 (x_vC hn (Nat.le_of_ble_eq_true rfl) hf) rfl rfl rfl ?_
    refine g_getI dX0_passDay_7 fl_X0_85 (x_vC hn (Nat.le_of_ble_eq_true rfl) (x_rof_lt _)) rfl rfl ?_
    refine g_cmp_ge 50 dX0_passDay_10 rfl (fun c_10 => ?_) (fun c_10 => absurd (by rw [hsz, x_nat (by omega), x_nat (by omega)]; omega) c_10)
    refine g_iconst dX0_passDay_50 ?_
    refine g_istore_n (lv' := [_, _, _]) dX0_passDay_51 (Nat.le_of_ble_eq_true rfl) rfl ?_
    refine g_sub (lv2 := [(2, xI ((0 : Nat) : Int)), _, _]) [0, 1, 2] rfl ?_
    exact f_cv rfl rfl (lh_X0_passDay_52 l n f b K hn hf hK K 0 _  (by omega) hsz)
  | succ k ih =>
    intro p σ  hk hsz
    have hp : p < 6 := by omega
    refine g_iload_n dX0_passDay_2 rfl ?_
    refine g_aload_n dX0_passDay_3 rfl ?_
    refine g_getR (t2 := 5) (i2 := (x_rof f)) dX0_passDay_4 fl_X0_47 (x_vC hn (Nat.le_of_ble_eq_true rfl) hf) rfl rfl rfl ?_
    refine g_getI dX0_passDay_7 fl_X0_85 (x_vC hn (Nat.le_of_ble_eq_true rfl) (x_rof_lt _)) rfl rfl ?_
    refine g_cmp_ge 50 dX0_passDay_10 rfl (fun c_10 => absurd c_10 (by rw [hsz, x_nat (by omega), x_nat (by omega)]; omega)) (fun c_10 => ?_)
    refine g_iload_n dX0_passDay_13 rfl ?_
    refine g_if_ne 50 dX0_passDay_14 rfl (fun c_14 => ?_) (fun c_14 => ?_)
    · refine g_iconst dX0_passDay_50 ?_
      refine g_istore_n (lv' := [_, _, _]) dX0_passDay_51 (Nat.le_of_ble_eq_true rfl) rfl ?_
      refine g_sub (lv2 := [(2, xI ((0 : Nat) : Int)), _, _]) [0, 1, 2] rfl ?_
      exact f_cv rfl (by rw [RS_X0_passDay_2, if_neg c_14]) (lh_X0_passDay_52 l n f b K hn hf hK K 0 _  (by omega) hsz)
    · refine g_aload_n dX0_passDay_17 rfl ?_
      refine g_getR (t2 := 1) (i2 := f) dX0_passDay_18 fl_X0_9 (x_vC hn (Nat.le_of_ble_eq_true rfl) hf) rfl rfl rfl ?_
      refine g_iload_n dX0_passDay_21 rfl ?_
      refine g_iald p dX0_passDay_22 rfl hp (x_vC hn (Nat.le_of_ble_eq_true rfl) hf) rfl ?_
      refine g_if_le 44 dX0_passDay_23 rfl (fun c_23 => ?_) (fun c_23 => ?_)
      · refine g_iinc (lv' := [(2, xI (((p + 1) : Nat) : Int)), _, _]) dX0_passDay_44 (Nat.le_of_ble_eq_true rfl) rfl rfl ?_
        refine g_goto 2 dX0_passDay_47 rfl ?_
        refine g_sub (lv2 := [(2, xI (((p + 1) : Nat) : Int)), _, _]) [0, 1, 2] rfl ?_
        exact f_cv rfl (by rw [RS_X0_passDay_2, if_pos c_14, if_pos c_23]) (ih (p + 1) _  (by omega) hsz)
      · refine g_aload_n dX0_passDay_26 rfl ?_
        refine g_getR (t2 := 2) (i2 := f) dX0_passDay_27 fl_X0_15 (x_vC hn (Nat.le_of_ble_eq_true rfl) hf) rfl rfl rfl ?_
        refine g_iload_n dX0_passDay_30 rfl ?_
        refine g_iald p dX0_passDay_31 rfl hp (x_vC hn (Nat.le_of_ble_eq_true rfl) hf) rfl ?_
        refine g_aload_n dX0_passDay_32 rfl ?_
        refine g_getI dX0_passDay_33 fl_X0_40 (x_vC hn (Nat.le_of_ble_eq_true rfl) hf) rfl rfl ?_
        refine g_cmp_gt 44 dX0_passDay_36 rfl (fun c_36 => ?_) (fun c_36 => ?_)
        · refine g_iinc (lv' := [(2, xI (((p + 1) : Nat) : Int)), _, _]) dX0_passDay_44 (Nat.le_of_ble_eq_true rfl) rfl rfl ?_
          refine g_goto 2 dX0_passDay_47 rfl ?_
          refine g_sub (lv2 := [(2, xI (((p + 1) : Nat) : Int)), _, _]) [0, 1, 2] rfl ?_
          exact f_cv rfl (by rw [RS_X0_passDay_2, if_pos c_14, if_neg c_23, if_pos c_36]) (ih (p + 1) _  (by omega) hsz)
        · refine g_aload_n dX0_passDay_39 rfl ?_
          refine g_iload_n dX0_passDay_40 rfl ?_
          refine f_Vv dX0_passDay_41 cs_X0_88 mb_X0_comeIn (c_X0_comeIn l n _ f p hn hf hp) rfl (x_vC hn (Nat.le_of_ble_eq_true rfl) hf) rfl rfl rfl (Nat.le_of_ble_eq_true rfl) (by decide) (Nat.le_of_ble_eq_true rfl) (Nat.le_refl _) (Nat.le_refl _) ?_
          refine g_iinc (lv' := [(2, xI (((p + 1) : Nat) : Int)), _, _]) dX0_passDay_44 (Nat.le_of_ble_eq_true rfl) rfl rfl ?_
          refine g_goto 2 dX0_passDay_47 rfl ?_
          refine g_sub (lv2 := [(2, xI (((p + 1) : Nat) : Int)), _, _]) [0, 1, 2] rfl ?_
          exact f_cv rfl (by rw [RS_X0_passDay_2, if_pos c_14, if_neg c_23, if_neg c_36]) (ih (p + 1) _  (by omega) (by first | exact hsz | (simp (disch := omega) only [x_up_o, x_cp_o, fr_S_X0_comeIn]; exact hsz) | (simp (disch := first | omega | assumption) only [x_up_o, x_cp_o, fr_S_X0_comeIn]; exact hsz)))
def S_X0_passDay (σ : xMi) (f : Nat) (b : Int) (K : Nat) : xMi := (RS_X0_passDay_2 f b K K 0 σ )
theorem fr_S_X0_passDay (σ : xMi) (f : Nat) (b : Int) (K : Nat) {t i k : Nat} (h : ¬ (t ≤ 4 ∧ i = f)) : S_X0_passDay σ f b K t i k = σ t i k := by
  unfold S_X0_passDay
  all_goals ((repeat' split) <;> first | rfl | simp (disch := first | omega | assumption) only [x_up_o, x_cp_o, fr_RS_X0_passDay_2])
theorem c_X0_passDay (l : Launch) (n : Nat) (σ : xMi) (f : Nat) (b : Int) (K : Nat) (hn : 131 ≤ n) (hf : f < 20) (hK : K ≤ 6) (hsz : σ 5 (x_rof f) 4 = (K : Int)) : x_F l yX0_passDay RX0 cX0_passDay 3 none 3 n σ [xR 0 f, xI b] none (S_X0_passDay σ f b K) := by
  refine f_of (by decide) rfl (Nat.le_of_ble_eq_true rfl) rfl ?_
  refine g_iconst dX0_passDay_0 ?_
  refine g_istore_n (lv' := [_, _, _]) dX0_passDay_1 (Nat.le_of_ble_eq_true rfl) rfl ?_
  refine g_sub (lv2 := [(2, xI ((0 : Nat) : Int)), _, _]) [0, 1, 2] rfl ?_
  exact f_cv rfl rfl (lh_X0_passDay_2 l n f b K hn hf hK K 0 _  (by omega) hsz)

def RV_X0_finalWeight_4 (f : Nat) (b : Int) (K : Nat) : Nat → Nat → xMi → Int → Int
  | 0, p, σ, a => a
  | k + 1, p, σ, a => (if x_wr (V_X0_endsSoft σ f p) = 0 then (if x_wr (V_X0_isIn σ b (p : Int)) = 0 then (RV_X0_finalWeight_4 f b K k (p + 1) σ a) else (if x_wr (V_X0_spareDays σ f p) < 0 then (RV_X0_finalWeight_4 f b K k (p + 1) σ a) else (RV_X0_finalWeight_4 f b K k (p + 1) σ (a + (σ 9 (x_rof f) p))))) else (RV_X0_finalWeight_4 f b K k (p + 1) σ (a + (σ 9 (x_rof f) p))))
theorem lh_X0_finalWeight_4 (l : Launch) (n : Nat) (f : Nat) (b : Int) (K : Nat) (hn : 131 ≤ n) (hf : f < 20) (hK : K ≤ 6) : ∀ (k p : Nat) (σ : xMi) (a : Int), p + k = K → (σ 5 (x_rof f) 4 = (K : Int)) →  x_G l RX0 cX0_finalWeight 4 (some .int) 3 n (some (xI (RV_X0_finalWeight_4 f b K k p σ a))) σ 4 [(3, xI (p : Int)), (2, xI a), (0, xR 0 f), (1, xI b)] [] σ := by
  intro k
  induction k with
  | zero =>
    intro p σ a hk hsz
    refine g_iload_n dX0_finalWeight_4 rfl ?_
    refine g_aload_n dX0_finalWeight_5 rfl ?_
    refine g_getR (t2 := 5) (i2 := (x_rof f)) dX0_finalWeight_6 fl_X0_47 (x_vC hn (Nat.le_of_ble_eq_true rfl) hf) rfl rfl rfl ?_
    refine g_getI dX0_finalWeight_9 fl_X0_85 (x_vC hn (Nat.le_of_ble_eq_true rfl) (x_rof_lt _)) rfl rfl ?_
    refine g_cmp_ge 57 dX0_finalWeight_12 rfl (fun c_12 => ?_) (fun c_12 => absurd (by rw [hsz, x_nat (by omega), x_nat (by omega)]; omega) c_12)
    refine g_iload_n dX0_finalWeight_57 rfl ?_
    exact f_iret dX0_finalWeight_58 rfl rfl
  | succ k ih =>
    intro p σ a hk hsz
    have hp : p < 6 := by omega
    refine g_iload_n dX0_finalWeight_4 rfl ?_
    refine g_aload_n dX0_finalWeight_5 rfl ?_
    refine g_getR (t2 := 5) (i2 := (x_rof f)) dX0_finalWeight_6 fl_X0_47 (x_vC hn (Nat.le_of_ble_eq_true rfl) hf) rfl rfl rfl ?_
    refine g_getI dX0_finalWeight_9 fl_X0_85 (x_vC hn (Nat.le_of_ble_eq_true rfl) (x_rof_lt _)) rfl rfl ?_
    refine g_cmp_ge 57 dX0_finalWeight_12 rfl (fun c_12 => absurd c_12 (by rw [hsz, x_nat (by omega), x_nat (by omega)]; omega)) (fun c_12 => ?_)
    refine g_aload_n dX0_finalWeight_15 rfl ?_
    refine g_iload_n dX0_finalWeight_16 rfl ?_
    refine f_V dX0_finalWeight_17 cs_X0_116 mb_X0_endsSoft (c_X0_endsSoft l n _ f p hn hf hp) rfl (x_vC hn (Nat.le_of_ble_eq_true rfl) hf) rfl rfl rfl (Nat.le_of_ble_eq_true rfl) (by decide) (Nat.le_of_ble_eq_true rfl) (Nat.le_refl _) (Nat.le_refl _) ?_
    refine g_if_ne 39 dX0_finalWeight_20 rfl (fun c_20 => ?_) (fun c_20 => ?_)
    · refine g_iload_n dX0_finalWeight_39 rfl ?_
      refine g_aload_n dX0_finalWeight_40 rfl ?_
      refine g_getR (t2 := 5) (i2 := (x_rof f)) dX0_finalWeight_41 fl_X0_47 (x_vC hn (Nat.le_of_ble_eq_true rfl) hf) rfl rfl rfl ?_
      refine g_getR (t2 := 9) (i2 := (x_rof f)) dX0_finalWeight_44 fl_X0_122 (x_vC hn (Nat.le_of_ble_eq_true rfl) (x_rof_lt _)) rfl rfl rfl ?_
      refine g_iload_n dX0_finalWeight_47 rfl ?_
      refine g_iald p dX0_finalWeight_48 rfl hp (x_vC hn (Nat.le_of_ble_eq_true rfl) (x_rof_lt _)) rfl ?_
      refine g_iadd dX0_finalWeight_49 ?_
      refine g_istore_n (lv' := [_, _, _, _]) dX0_finalWeight_50 (Nat.le_of_ble_eq_true rfl) rfl ?_
      refine g_iinc (lv' := [(3, xI (((p + 1) : Nat) : Int)), _, _, _]) dX0_finalWeight_51 (Nat.le_of_ble_eq_true rfl) rfl rfl ?_
      refine g_goto 4 dX0_finalWeight_54 rfl ?_
      refine g_sub (lv2 := [(3, xI (((p + 1) : Nat) : Int)), _, _, _]) [0, 1, 2, 3] rfl ?_
      exact f_cv (by rw [RV_X0_finalWeight_4, if_neg c_20]) rfl (ih (p + 1) _ _ (by omega) hsz)
    · refine g_iload_n dX0_finalWeight_23 rfl ?_
      refine g_iload_n dX0_finalWeight_24 rfl ?_
      refine f_S dX0_finalWeight_25 cs_X0_60 mb_X0_isIn (c_X0_isIn l n _ b (p : Int) hn) rfl (Nat.lt_of_lt_of_le (by decide) hn) rfl (Nat.le_of_ble_eq_true rfl) (by decide) (Nat.le_of_ble_eq_true rfl) (Nat.le_refl _) (Nat.le_refl _) ?_
      refine g_if_eq 51 dX0_finalWeight_28 rfl (fun c_28 => ?_) (fun c_28 => ?_)
      · refine g_iinc (lv' := [(3, xI (((p + 1) : Nat) : Int)), _, _, _]) dX0_finalWeight_51 (Nat.le_of_ble_eq_true rfl) rfl rfl ?_
        refine g_goto 4 dX0_finalWeight_54 rfl ?_
        refine g_sub (lv2 := [(3, xI (((p + 1) : Nat) : Int)), _, _, _]) [0, 1, 2, 3] rfl ?_
        exact f_cv (by rw [RV_X0_finalWeight_4, if_pos c_20, if_pos c_28]) rfl (ih (p + 1) _ _ (by omega) hsz)
      · refine g_aload_n dX0_finalWeight_31 rfl ?_
        refine g_iload_n dX0_finalWeight_32 rfl ?_
        refine f_V dX0_finalWeight_33 cs_X0_119 mb_X0_spareDays (c_X0_spareDays l n _ f p hn hf hp) rfl (x_vC hn (Nat.le_of_ble_eq_true rfl) hf) rfl rfl rfl (Nat.le_of_ble_eq_true rfl) (by decide) (Nat.le_of_ble_eq_true rfl) (Nat.le_refl _) (Nat.le_refl _) ?_
        refine g_if_lt 51 dX0_finalWeight_36 rfl (fun c_36 => ?_) (fun c_36 => ?_)
        · refine g_iinc (lv' := [(3, xI (((p + 1) : Nat) : Int)), _, _, _]) dX0_finalWeight_51 (Nat.le_of_ble_eq_true rfl) rfl rfl ?_
          refine g_goto 4 dX0_finalWeight_54 rfl ?_
          refine g_sub (lv2 := [(3, xI (((p + 1) : Nat) : Int)), _, _, _]) [0, 1, 2, 3] rfl ?_
          exact f_cv (by rw [RV_X0_finalWeight_4, if_pos c_20, if_neg c_28, if_pos c_36]) rfl (ih (p + 1) _ _ (by omega) hsz)
        · refine g_iload_n dX0_finalWeight_39 rfl ?_
          refine g_aload_n dX0_finalWeight_40 rfl ?_
          refine g_getR (t2 := 5) (i2 := (x_rof f)) dX0_finalWeight_41 fl_X0_47 (x_vC hn (Nat.le_of_ble_eq_true rfl) hf) rfl rfl rfl ?_
          refine g_getR (t2 := 9) (i2 := (x_rof f)) dX0_finalWeight_44 fl_X0_122 (x_vC hn (Nat.le_of_ble_eq_true rfl) (x_rof_lt _)) rfl rfl rfl ?_
          refine g_iload_n dX0_finalWeight_47 rfl ?_
          refine g_iald p dX0_finalWeight_48 rfl hp (x_vC hn (Nat.le_of_ble_eq_true rfl) (x_rof_lt _)) rfl ?_
          refine g_iadd dX0_finalWeight_49 ?_
          refine g_istore_n (lv' := [_, _, _, _]) dX0_finalWeight_50 (Nat.le_of_ble_eq_true rfl) rfl ?_
          refine g_iinc (lv' := [(3, xI (((p + 1) : Nat) : Int)), _, _, _]) dX0_finalWeight_51 (Nat.le_of_ble_eq_true rfl) rfl rfl ?_
          refine g_goto 4 dX0_finalWeight_54 rfl ?_
          refine g_sub (lv2 := [(3, xI (((p + 1) : Nat) : Int)), _, _, _]) [0, 1, 2, 3] rfl ?_
          exact f_cv (by rw [RV_X0_finalWeight_4, if_pos c_20, if_neg c_28, if_neg c_36]) rfl (ih (p + 1) _ _ (by omega) hsz)
def V_X0_finalWeight (σ : xMi) (f : Nat) (b : Int) (K : Nat) : Int := (RV_X0_finalWeight_4 f b K K 0 σ 0)
theorem c_X0_finalWeight (l : Launch) (n : Nat) (σ : xMi) (f : Nat) (b : Int) (K : Nat) (hn : 131 ≤ n) (hf : f < 20) (hK : K ≤ 6) (hsz : σ 5 (x_rof f) 4 = (K : Int)) : x_F l yX0_finalWeight RX0 cX0_finalWeight 4 (some .int) 3 n σ [xR 0 f, xI b] (some (xI (V_X0_finalWeight σ f b K))) σ := by
  refine f_of (by decide) rfl (Nat.le_of_ble_eq_true rfl) rfl ?_
  refine g_iconst dX0_finalWeight_0 ?_
  refine g_istore_n (lv' := [_, _, _]) dX0_finalWeight_1 (Nat.le_of_ble_eq_true rfl) rfl ?_
  refine g_iconst dX0_finalWeight_2 ?_
  refine g_istore_n (lv' := [_, _, _, _]) dX0_finalWeight_3 (Nat.le_of_ble_eq_true rfl) rfl ?_
  refine g_sub (lv2 := [(3, xI ((0 : Nat) : Int)), _, _, _]) [0, 1, 2, 3] rfl ?_
  exact f_cv rfl rfl (lh_X0_finalWeight_4 l n f b K hn hf hK K 0 _ _ (by omega) hsz)

def RS_X0_start_2 (f : Nat) : Nat → Nat → xMi → xMi
  | 0, p, σ => (x_up (x_up (x_up (x_up (x_up (x_up (x_up σ 0 f 5 0) 0 f 6 0) 0 f 7 0) 0 f 8 0) 0 f 9 ((x_up (x_up (x_up (x_up σ 0 f 5 0) 0 f 6 0) 0 f 7 0) 0 f 8 0) 5 (x_rof f) 5)) 0 f 10 0) 0 f 11 0)
  | k + 1, p, σ => (RS_X0_start_2 f k (p + 1) (x_up (x_up (x_up (x_up σ 1 f p 0) 2 f p (-4)) 3 f p 0) 4 f p (-4)) )
theorem fr_RS_X0_start_2 (f : Nat) {t i k' : Nat} (h : ¬ (t ≤ 4 ∧ i = f)) : ∀ (k p : Nat) (σ : xMi) , RS_X0_start_2 f k p σ  t i k' = σ t i k' := by
  intro k
  induction k with
  | zero =>
    intro p σ 
    simp only [RS_X0_start_2]
    all_goals ((repeat' split) <;> simp (disch := first | omega | assumption) only [x_up_o, x_cp_o])
  | succ k ih =>
    intro p σ 
    simp only [RS_X0_start_2]
    all_goals (repeat' split)
    all_goals (first | rw [ih] | skip)
    all_goals first | done | simp (disch := first | omega | assumption) only [x_up_o, x_cp_o]
theorem lh_X0_start_2 (l : Launch) (n : Nat) (f : Nat) (hn : 131 ≤ n) (hf : f < 20) : ∀ (k p : Nat) (σ : xMi) , p + k = 6 →  x_G l RX0 cX0_start 2 none 0 n none (RS_X0_start_2 f k p σ ) 2 [(1, xI (p : Int)), (0, xR 0 f)] [] σ := by
  intro k
  induction k with
  | zero =>
    intro p σ  hk 
    refine g_iload_n dX0_start_2 rfl ?_
    refine g_bipush dX0_start_3 (by decide) ?_
    refine g_cmp_ge 44 dX0_start_5 rfl (fun c_5 => ?_) (fun c_5 => absurd (by rw [show x_wr 6 = 6 from by decide, x_nat (by omega)]; omega) c_5)
    refine g_aload_n dX0_start_44 rfl ?_
    refine g_iconst dX0_start_45 ?_
    refine g_putI dX0_start_46 fl_X0_24 (x_vC hn (Nat.le_of_ble_eq_true rfl) hf) rfl rfl ?_
    refine g_aload_n dX0_start_49 rfl ?_
    refine g_iconst dX0_start_50 ?_
    refine g_putI dX0_start_51 fl_X0_28 (x_vC hn (Nat.le_of_ble_eq_true rfl) hf) rfl rfl ?_
    refine g_aload_n dX0_start_54 rfl ?_
    refine g_iconst dX0_start_55 ?_
    refine g_putI dX0_start_56 fl_X0_31 (x_vC hn (Nat.le_of_ble_eq_true rfl) hf) rfl rfl ?_
    refine g_aload_n dX0_start_59 rfl ?_
    refine g_iconst dX0_start_60 ?_
    refine g_putI dX0_start_61 fl_X0_34 (x_vC hn (Nat.le_of_ble_eq_true rfl) hf) rfl rfl ?_
    refine g_aload_n dX0_start_64 rfl ?_
    refine g_aload_n dX0_start_65 rfl ?_
    refine g_getR (t2 := 5) (i2 := (x_rof f)) dX0_start_66 fl_X0_47 (x_vC hn (Nat.le_of_ble_eq_true rfl) hf) rfl rfl rfl ?_
    refine g_getI dX0_start_69 fl_X0_51 (x_vC hn (Nat.le_of_ble_eq_true rfl) (x_rof_lt _)) rfl rfl ?_
    refine g_putI dX0_start_72 fl_X0_37 (x_vC hn (Nat.le_of_ble_eq_true rfl) hf) rfl rfl ?_
    refine g_aload_n dX0_start_75 rfl ?_
    refine g_iconst dX0_start_76 ?_
    refine g_putI dX0_start_77 fl_X0_40 (x_vC hn (Nat.le_of_ble_eq_true rfl) hf) rfl rfl ?_
    refine g_aload_n dX0_start_80 rfl ?_
    refine g_iconst dX0_start_81 ?_
    refine g_putZ dX0_start_82 fl_X0_43 (x_vC hn (Nat.le_of_ble_eq_true rfl) hf) rfl rfl rfl ?_
    exact f_vret dX0_start_85 rfl rfl
  | succ k ih =>
    intro p σ  hk 
    have hp : p < 6 := by omega
    refine g_iload_n dX0_start_2 rfl ?_
    refine g_bipush dX0_start_3 (by decide) ?_
    refine g_cmp_ge 44 dX0_start_5 rfl (fun c_5 => absurd c_5 (by rw [show x_wr 6 = 6 from by decide, x_nat (by omega)]; omega)) (fun c_5 => ?_)
    refine g_aload_n dX0_start_8 rfl ?_
    refine g_getR (t2 := 1) (i2 := f) dX0_start_9 fl_X0_9 (x_vC hn (Nat.le_of_ble_eq_true rfl) hf) rfl rfl rfl ?_
    refine g_iload_n dX0_start_12 rfl ?_
    refine g_iconst dX0_start_13 ?_
    refine g_iast p dX0_start_14 rfl hp (x_vC hn (Nat.le_of_ble_eq_true rfl) hf) rfl ?_
    refine g_aload_n dX0_start_15 rfl ?_
    refine g_getR (t2 := 2) (i2 := f) dX0_start_16 fl_X0_15 (x_vC hn (Nat.le_of_ble_eq_true rfl) hf) rfl rfl rfl ?_
    refine g_iload_n dX0_start_19 rfl ?_
    refine g_bipush dX0_start_20 (by decide) ?_
    refine g_iast p dX0_start_22 rfl hp (x_vC hn (Nat.le_of_ble_eq_true rfl) hf) rfl ?_
    refine g_aload_n dX0_start_23 rfl ?_
    refine g_getR (t2 := 3) (i2 := f) dX0_start_24 fl_X0_18 (x_vC hn (Nat.le_of_ble_eq_true rfl) hf) rfl rfl rfl ?_
    refine g_iload_n dX0_start_27 rfl ?_
    refine g_iconst dX0_start_28 ?_
    refine g_iast p dX0_start_29 rfl hp (x_vC hn (Nat.le_of_ble_eq_true rfl) hf) rfl ?_
    refine g_aload_n dX0_start_30 rfl ?_
    refine g_getR (t2 := 4) (i2 := f) dX0_start_31 fl_X0_21 (x_vC hn (Nat.le_of_ble_eq_true rfl) hf) rfl rfl rfl ?_
    refine g_iload_n dX0_start_34 rfl ?_
    refine g_bipush dX0_start_35 (by decide) ?_
    refine g_iast p dX0_start_37 rfl hp (x_vC hn (Nat.le_of_ble_eq_true rfl) hf) rfl ?_
    refine g_iinc (lv' := [(1, xI (((p + 1) : Nat) : Int)), _]) dX0_start_38 (Nat.le_of_ble_eq_true rfl) rfl rfl ?_
    refine g_goto 2 dX0_start_41 rfl ?_
    refine g_sub (lv2 := [(1, xI (((p + 1) : Nat) : Int)), _]) [0, 1] rfl ?_
    exact f_cv rfl rfl (ih (p + 1) _  (by omega) )
def S_X0_start (σ : xMi) (f : Nat) : xMi := (RS_X0_start_2 f 6 0 σ )
theorem fr_S_X0_start (σ : xMi) (f : Nat) {t i k : Nat} (h : ¬ (t ≤ 4 ∧ i = f)) : S_X0_start σ f t i k = σ t i k := by
  unfold S_X0_start
  all_goals ((repeat' split) <;> first | rfl | simp (disch := first | omega | assumption) only [x_up_o, x_cp_o, fr_RS_X0_start_2])
theorem c_X0_start (l : Launch) (n : Nat) (σ : xMi) (f : Nat) (hn : 131 ≤ n) (hf : f < 20)  : x_F l yX0_start RX0 cX0_start 2 none 0 n σ [xR 0 f] none (S_X0_start σ f) := by
  refine f_of (by decide) rfl (Nat.le_of_ble_eq_true rfl) rfl ?_
  refine g_iconst dX0_start_0 ?_
  refine g_istore_n (lv' := [_, _]) dX0_start_1 (Nat.le_of_ble_eq_true rfl) rfl ?_
  refine g_sub (lv2 := [(1, xI ((0 : Nat) : Int)), _]) [0, 1] rfl ?_
  exact f_cv rfl rfl (lh_X0_start_2 l n f hn hf 6 0 _  (by omega) )

def RS_X0_passDays_2 (f : Nat) (m : Nat) (K : Nat) : Nat → Nat → xMi → xMi
  | 0, e, σ => σ
  | k + 1, e, σ => (RS_X0_passDays_2 f m K k (e + 1) (S_X0_passDay σ f 0 K) )
theorem fr_RS_X0_passDays_2 (f : Nat) (m : Nat) (K : Nat) {t i k' : Nat} (h : ¬ (t ≤ 4 ∧ i = f)) : ∀ (k p : Nat) (σ : xMi) , RS_X0_passDays_2 f m K k p σ  t i k' = σ t i k' := by
  intro k
  induction k with
  | zero =>
    intro p σ 
    simp only [RS_X0_passDays_2]
    all_goals ((repeat' split) <;> simp (disch := first | omega | assumption) only [x_up_o, x_cp_o])
  | succ k ih =>
    intro p σ 
    simp only [RS_X0_passDays_2]
    all_goals (repeat' split)
    all_goals (first | rw [ih] | skip)
    all_goals first | done | simp (disch := first | omega | assumption) only [x_up_o, x_cp_o, fr_S_X0_passDay]
theorem lh_X0_passDays_2 (l : Launch) (n : Nat) (f : Nat) (m : Nat) (K : Nat) (hn : 131 ≤ n) (hf : f < 20) (hm : m ≤ 1000000) (hK : K ≤ 6) : ∀ (k e : Nat) (σ : xMi) , e + k = m → (σ 5 (x_rof f) 4 = (K : Int)) →  x_G l RX0 cX0_passDays 3 none 4 n none (RS_X0_passDays_2 f m K k e σ ) 2 [(2, xI (e : Int)), (0, xR 0 f), (1, xI (m : Int))] [] σ := by
  intro k
  induction k with
  | zero =>
    intro e σ  hk hsz
    refine g_iload_n dX0_passDays_2 rfl ?_
    refine g_iload_n dX0_passDays_3 rfl ?_
    refine g_cmp_ge 18 dX0_passDays_4 rfl (fun c_4 => ?_) (fun c_4 => absurd (by rw [x_nat (by omega), x_nat (by omega)]; omega) c_4)
    exact f_vret dX0_passDays_18 rfl rfl
  | succ k ih =>
    intro e σ  hk hsz
    refine g_iload_n dX0_passDays_2 rfl ?_
    refine g_iload_n dX0_passDays_3 rfl ?_
    refine g_cmp_ge 18 dX0_passDays_4 rfl (fun c_4 => absurd c_4 (by rw [x_nat (by omega), x_nat (by omega)]; omega)) (fun c_4 => ?_)
    refine g_aload_n dX0_passDays_7 rfl ?_
    refine g_iconst dX0_passDays_8 ?_
    refine f_Vv dX0_passDays_9 cs_X0_81 mb_X0_passDay (c_X0_passDay l n _ f 0 K hn hf hK hsz) rfl (x_vC hn (Nat.le_of_ble_eq_true rfl) hf) rfl rfl rfl (Nat.le_of_ble_eq_true rfl) (by decide) (Nat.le_of_ble_eq_true rfl) (Nat.le_refl _) (Nat.le_refl _) ?_
    refine g_iinc (lv' := [(2, xI (((e + 1) : Nat) : Int)), _, _]) dX0_passDays_12 (Nat.le_of_ble_eq_true rfl) rfl rfl ?_
    refine g_goto 2 dX0_passDays_15 rfl ?_
    refine g_sub (lv2 := [(2, xI (((e + 1) : Nat) : Int)), _, _]) [0, 1, 2] rfl ?_
    exact f_cv rfl rfl (ih (e + 1) _  (by omega) (by first | exact hsz | (simp (disch := omega) only [x_up_o, x_cp_o, fr_S_X0_passDay]; exact hsz) | (simp (disch := first | omega | assumption) only [x_up_o, x_cp_o, fr_S_X0_passDay]; exact hsz)))
def S_X0_passDays (σ : xMi) (f : Nat) (m : Nat) (K : Nat) : xMi := (RS_X0_passDays_2 f m K m 0 σ )
theorem fr_S_X0_passDays (σ : xMi) (f : Nat) (m : Nat) (K : Nat) {t i k : Nat} (h : ¬ (t ≤ 4 ∧ i = f)) : S_X0_passDays σ f m K t i k = σ t i k := by
  unfold S_X0_passDays
  all_goals ((repeat' split) <;> first | rfl | simp (disch := first | omega | assumption) only [x_up_o, x_cp_o, fr_RS_X0_passDays_2])
theorem c_X0_passDays (l : Launch) (n : Nat) (σ : xMi) (f : Nat) (m : Nat) (K : Nat) (hn : 131 ≤ n) (hf : f < 20) (hm : m ≤ 1000000) (hK : K ≤ 6) (hsz : σ 5 (x_rof f) 4 = (K : Int)) : x_F l yX0_passDays RX0 cX0_passDays 3 none 4 n σ [xR 0 f, xI (m : Int)] none (S_X0_passDays σ f m K) := by
  refine f_of (by decide) rfl (Nat.le_of_ble_eq_true rfl) rfl ?_
  refine g_iconst dX0_passDays_0 ?_
  refine g_istore_n (lv' := [_, _, _]) dX0_passDays_1 (Nat.le_of_ble_eq_true rfl) rfl ?_
  refine g_sub (lv2 := [(2, xI ((0 : Nat) : Int)), _, _]) [0, 1, 2] rfl ?_
  exact f_cv rfl rfl (lh_X0_passDays_2 l n f m K hn hf hm hK m 0 _  (by omega) hsz)

def S_X0_actByDraw (σ : xMi) (f : Nat) (q : Nat) (K : Nat) : xMi := (if x_wr 2 ≤ x_wr (x_rem (x_div (q : Int) 8) 4) then (if x_wr (x_rem (x_div (q : Int) 8) 4) = x_wr 2 then (if x_wr (σ 1 f (q % K)) ≤ 0 then (if x_wr (x_rem (x_div (q : Int) 8) 4) = x_wr 3 then (if x_wr 20 ≤ x_wr (σ 0 f 9) then σ else (x_up σ 0 f 9 ((σ 0 f 9) + 1))) else σ) else (S_X0_recall σ f (q % K))) else (if x_wr (x_rem (x_div (q : Int) 8) 4) = x_wr 3 then (if x_wr 20 ≤ x_wr (σ 0 f 9) then σ else (x_up σ 0 f 9 ((σ 0 f 9) + 1))) else σ)) else (if x_wr (V_X0_canSendNow σ f (q % K)) = 0 then (if x_wr (x_rem (x_div (q : Int) 8) 4) = x_wr 2 then (if x_wr (σ 1 f (q % K)) ≤ 0 then (if x_wr (x_rem (x_div (q : Int) 8) 4) = x_wr 3 then (if x_wr 20 ≤ x_wr (σ 0 f 9) then σ else (x_up σ 0 f 9 ((σ 0 f 9) + 1))) else σ) else (S_X0_recall σ f (q % K))) else (if x_wr (x_rem (x_div (q : Int) 8) 4) = x_wr 3 then (if x_wr 20 ≤ x_wr (σ 0 f 9) then σ else (x_up σ 0 f 9 ((σ 0 f 9) + 1))) else σ)) else (S_X0_dispatch σ f (q % K))))
theorem fr_S_X0_actByDraw (σ : xMi) (f : Nat) (q : Nat) (K : Nat) {t i k : Nat} (h : ¬ (t ≤ 4 ∧ i = f)) : S_X0_actByDraw σ f q K t i k = σ t i k := by
  unfold S_X0_actByDraw
  all_goals ((repeat' split) <;> first | rfl | simp (disch := first | omega | assumption) only [x_up_o, x_cp_o, fr_S_X0_dispatch, fr_S_X0_recall])
theorem c_X0_actByDraw (l : Launch) (n : Nat) (σ : xMi) (f : Nat) (q : Nat) (K : Nat) (hn : 131 ≤ n) (hf : f < 20) (hq : q ≤ 1000000) (hK : K ≤ 6) (hK0 : 0 < K) (hsz : σ 5 (x_rof f) 4 = (K : Int)) : x_F l yX0_actByDraw RX0 cX0_actByDraw 4 none 3 n σ [xR 0 f, xI (q : Int)] none (S_X0_actByDraw σ f q K) := by
  refine f_of (by decide) rfl (Nat.le_of_ble_eq_true rfl) rfl ?_
  refine g_aload_n dX0_actByDraw_0 rfl ?_
  refine g_getR (t2 := 5) (i2 := (x_rof f)) dX0_actByDraw_1 fl_X0_47 (x_vC hn (Nat.le_of_ble_eq_true rfl) hf) rfl rfl rfl ?_
  refine g_getI dX0_actByDraw_4 fl_X0_85 (x_vC hn (Nat.le_of_ble_eq_true rfl) (x_rof_lt _)) rfl rfl ?_
  refine g_if_gt 11 dX0_actByDraw_7 rfl (fun c_7 => ?_) (fun c_7 => absurd (by rw [hsz, x_nat (by omega)]; omega) c_7)
  refine g_iload_n dX0_actByDraw_11 rfl ?_
  refine g_aload_n dX0_actByDraw_12 rfl ?_
  refine g_getR (t2 := 5) (i2 := (x_rof f)) dX0_actByDraw_13 fl_X0_47 (x_vC hn (Nat.le_of_ble_eq_true rfl) hf) rfl rfl rfl ?_
  refine g_getI dX0_actByDraw_16 fl_X0_85 (x_vC hn (Nat.le_of_ble_eq_true rfl) (x_rof_lt _)) rfl rfl ?_
  refine g_irem dX0_actByDraw_19 (by rw [hsz, x_nat (by omega)]; omega) ?_
  refine g_eqI (((q % K) : Nat) : Int) (by rw [hsz]; exact x_remN (by omega) hK0 (by omega)) ?_
  refine g_istore_n (lv' := [_, _, _]) dX0_actByDraw_20 (Nat.le_of_ble_eq_true rfl) rfl ?_
  refine g_iload_n dX0_actByDraw_21 rfl ?_
  refine g_bipush dX0_actByDraw_22 (by decide) ?_
  refine g_idiv dX0_actByDraw_24 (by decide) ?_
  refine g_iconst dX0_actByDraw_25 ?_
  refine g_irem dX0_actByDraw_26 (by decide) ?_
  refine g_istore_n (lv' := [_, _, _, _]) dX0_actByDraw_27 (Nat.le_of_ble_eq_true rfl) rfl ?_
  refine g_iload_n dX0_actByDraw_28 rfl ?_
  refine g_iconst dX0_actByDraw_29 ?_
  refine g_cmp_ge 49 dX0_actByDraw_30 rfl (fun c_30 => ?_) (fun c_30 => ?_)
  · refine g_iload_n dX0_actByDraw_49 rfl ?_
    refine g_iconst dX0_actByDraw_50 ?_
    refine g_cmp_ne 71 dX0_actByDraw_51 rfl (fun c_51 => ?_) (fun c_51 => ?_)
    · refine g_iload_n dX0_actByDraw_71 rfl ?_
      refine g_iconst dX0_actByDraw_72 ?_
      refine g_cmp_ne 95 dX0_actByDraw_73 rfl (fun c_73 => ?_) (fun c_73 => ?_)
      · exact f_vret dX0_actByDraw_95 rfl (by rw [S_X0_actByDraw, if_pos c_30, if_neg c_51, if_neg c_73])
      · refine g_aload_n dX0_actByDraw_76 rfl ?_
        refine g_getI dX0_actByDraw_77 fl_X0_37 (x_vC hn (Nat.le_of_ble_eq_true rfl) hf) rfl rfl ?_
        refine g_bipush dX0_actByDraw_80 (by decide) ?_
        refine g_cmp_ge 95 dX0_actByDraw_82 rfl (fun c_82 => ?_) (fun c_82 => ?_)
        · exact f_vret dX0_actByDraw_95 rfl (by rw [S_X0_actByDraw, if_pos c_30, if_neg c_51, if_pos c_73, if_pos c_82])
        · refine g_aload_n dX0_actByDraw_85 rfl ?_
          refine g_dup dX0_actByDraw_86 rfl ?_
          refine g_getI dX0_actByDraw_87 fl_X0_37 (x_vC hn (Nat.le_of_ble_eq_true rfl) hf) rfl rfl ?_
          refine g_iconst dX0_actByDraw_90 ?_
          refine g_iadd dX0_actByDraw_91 ?_
          refine g_putI dX0_actByDraw_92 fl_X0_37 (x_vC hn (Nat.le_of_ble_eq_true rfl) hf) rfl rfl ?_
          exact f_vret dX0_actByDraw_95 rfl (by rw [S_X0_actByDraw, if_pos c_30, if_neg c_51, if_pos c_73, if_neg c_82])
    · refine g_aload_n dX0_actByDraw_54 rfl ?_
      refine g_getR (t2 := 1) (i2 := f) dX0_actByDraw_55 fl_X0_9 (x_vC hn (Nat.le_of_ble_eq_true rfl) hf) rfl rfl rfl ?_
      refine g_iload_n dX0_actByDraw_58 rfl ?_
      refine g_iald (q % K) dX0_actByDraw_59 rfl (Nat.lt_of_lt_of_le (Nat.mod_lt _ hK0) hK) (x_vC hn (Nat.le_of_ble_eq_true rfl) hf) rfl ?_
      refine g_if_le 71 dX0_actByDraw_60 rfl (fun c_60 => ?_) (fun c_60 => ?_)
      · refine g_iload_n dX0_actByDraw_71 rfl ?_
        refine g_iconst dX0_actByDraw_72 ?_
        refine g_cmp_ne 95 dX0_actByDraw_73 rfl (fun c_73 => ?_) (fun c_73 => ?_)
        · exact f_vret dX0_actByDraw_95 rfl (by rw [S_X0_actByDraw, if_pos c_30, if_pos c_51, if_pos c_60, if_neg c_73])
        · refine g_aload_n dX0_actByDraw_76 rfl ?_
          refine g_getI dX0_actByDraw_77 fl_X0_37 (x_vC hn (Nat.le_of_ble_eq_true rfl) hf) rfl rfl ?_
          refine g_bipush dX0_actByDraw_80 (by decide) ?_
          refine g_cmp_ge 95 dX0_actByDraw_82 rfl (fun c_82 => ?_) (fun c_82 => ?_)
          · exact f_vret dX0_actByDraw_95 rfl (by rw [S_X0_actByDraw, if_pos c_30, if_pos c_51, if_pos c_60, if_pos c_73, if_pos c_82])
          · refine g_aload_n dX0_actByDraw_85 rfl ?_
            refine g_dup dX0_actByDraw_86 rfl ?_
            refine g_getI dX0_actByDraw_87 fl_X0_37 (x_vC hn (Nat.le_of_ble_eq_true rfl) hf) rfl rfl ?_
            refine g_iconst dX0_actByDraw_90 ?_
            refine g_iadd dX0_actByDraw_91 ?_
            refine g_putI dX0_actByDraw_92 fl_X0_37 (x_vC hn (Nat.le_of_ble_eq_true rfl) hf) rfl rfl ?_
            exact f_vret dX0_actByDraw_95 rfl (by rw [S_X0_actByDraw, if_pos c_30, if_pos c_51, if_pos c_60, if_pos c_73, if_neg c_82])
      · refine g_aload_n dX0_actByDraw_63 rfl ?_
        refine g_iload_n dX0_actByDraw_64 rfl ?_
        refine f_Vv dX0_actByDraw_65 cs_X0_110 mb_X0_recall (c_X0_recall l n _ f (q % K) hn hf (Nat.lt_of_lt_of_le (Nat.mod_lt _ hK0) hK)) rfl (x_vC hn (Nat.le_of_ble_eq_true rfl) hf) rfl rfl rfl (Nat.le_of_ble_eq_true rfl) (by decide) (Nat.le_of_ble_eq_true rfl) (Nat.le_refl _) (Nat.le_refl _) ?_
        refine g_goto 95 dX0_actByDraw_68 rfl ?_
        exact f_vret dX0_actByDraw_95 rfl (by rw [S_X0_actByDraw, if_pos c_30, if_pos c_51, if_neg c_60])
  · refine g_aload_n dX0_actByDraw_33 rfl ?_
    refine g_iload_n dX0_actByDraw_34 rfl ?_
    refine f_V dX0_actByDraw_35 cs_X0_104 mb_X0_canSendNow (c_X0_canSendNow l n _ f (q % K) hn hf (Nat.lt_of_lt_of_le (Nat.mod_lt _ hK0) hK)) rfl (x_vC hn (Nat.le_of_ble_eq_true rfl) hf) rfl rfl rfl (Nat.le_of_ble_eq_true rfl) (by decide) (Nat.le_of_ble_eq_true rfl) (Nat.le_refl _) (Nat.le_refl _) ?_
    refine g_if_eq 49 dX0_actByDraw_38 rfl (fun c_38 => ?_) (fun c_38 => ?_)
    · refine g_iload_n dX0_actByDraw_49 rfl ?_
      refine g_iconst dX0_actByDraw_50 ?_
      refine g_cmp_ne 71 dX0_actByDraw_51 rfl (fun c_51 => ?_) (fun c_51 => ?_)
      · refine g_iload_n dX0_actByDraw_71 rfl ?_
        refine g_iconst dX0_actByDraw_72 ?_
        refine g_cmp_ne 95 dX0_actByDraw_73 rfl (fun c_73 => ?_) (fun c_73 => ?_)
        · exact f_vret dX0_actByDraw_95 rfl (by rw [S_X0_actByDraw, if_neg c_30, if_pos c_38, if_neg c_51, if_neg c_73])
        · refine g_aload_n dX0_actByDraw_76 rfl ?_
          refine g_getI dX0_actByDraw_77 fl_X0_37 (x_vC hn (Nat.le_of_ble_eq_true rfl) hf) rfl rfl ?_
          refine g_bipush dX0_actByDraw_80 (by decide) ?_
          refine g_cmp_ge 95 dX0_actByDraw_82 rfl (fun c_82 => ?_) (fun c_82 => ?_)
          · exact f_vret dX0_actByDraw_95 rfl (by rw [S_X0_actByDraw, if_neg c_30, if_pos c_38, if_neg c_51, if_pos c_73, if_pos c_82])
          · refine g_aload_n dX0_actByDraw_85 rfl ?_
            refine g_dup dX0_actByDraw_86 rfl ?_
            refine g_getI dX0_actByDraw_87 fl_X0_37 (x_vC hn (Nat.le_of_ble_eq_true rfl) hf) rfl rfl ?_
            refine g_iconst dX0_actByDraw_90 ?_
            refine g_iadd dX0_actByDraw_91 ?_
            refine g_putI dX0_actByDraw_92 fl_X0_37 (x_vC hn (Nat.le_of_ble_eq_true rfl) hf) rfl rfl ?_
            exact f_vret dX0_actByDraw_95 rfl (by rw [S_X0_actByDraw, if_neg c_30, if_pos c_38, if_neg c_51, if_pos c_73, if_neg c_82])
      · refine g_aload_n dX0_actByDraw_54 rfl ?_
        refine g_getR (t2 := 1) (i2 := f) dX0_actByDraw_55 fl_X0_9 (x_vC hn (Nat.le_of_ble_eq_true rfl) hf) rfl rfl rfl ?_
        refine g_iload_n dX0_actByDraw_58 rfl ?_
        refine g_iald (q % K) dX0_actByDraw_59 rfl (Nat.lt_of_lt_of_le (Nat.mod_lt _ hK0) hK) (x_vC hn (Nat.le_of_ble_eq_true rfl) hf) rfl ?_
        refine g_if_le 71 dX0_actByDraw_60 rfl (fun c_60 => ?_) (fun c_60 => ?_)
        · refine g_iload_n dX0_actByDraw_71 rfl ?_
          refine g_iconst dX0_actByDraw_72 ?_
          refine g_cmp_ne 95 dX0_actByDraw_73 rfl (fun c_73 => ?_) (fun c_73 => ?_)
          · exact f_vret dX0_actByDraw_95 rfl (by rw [S_X0_actByDraw, if_neg c_30, if_pos c_38, if_pos c_51, if_pos c_60, if_neg c_73])
          · refine g_aload_n dX0_actByDraw_76 rfl ?_
            refine g_getI dX0_actByDraw_77 fl_X0_37 (x_vC hn (Nat.le_of_ble_eq_true rfl) hf) rfl rfl ?_
            refine g_bipush dX0_actByDraw_80 (by decide) ?_
            refine g_cmp_ge 95 dX0_actByDraw_82 rfl (fun c_82 => ?_) (fun c_82 => ?_)
            · exact f_vret dX0_actByDraw_95 rfl (by rw [S_X0_actByDraw, if_neg c_30, if_pos c_38, if_pos c_51, if_pos c_60, if_pos c_73, if_pos c_82])
            · refine g_aload_n dX0_actByDraw_85 rfl ?_
              refine g_dup dX0_actByDraw_86 rfl ?_
              refine g_getI dX0_actByDraw_87 fl_X0_37 (x_vC hn (Nat.le_of_ble_eq_true rfl) hf) rfl rfl ?_
              refine g_iconst dX0_actByDraw_90 ?_
              refine g_iadd dX0_actByDraw_91 ?_
              refine g_putI dX0_actByDraw_92 fl_X0_37 (x_vC hn (Nat.le_of_ble_eq_true rfl) hf) rfl rfl ?_
              exact f_vret dX0_actByDraw_95 rfl (by rw [S_X0_actByDraw, if_neg c_30, if_pos c_38, if_pos c_51, if_pos c_60, if_pos c_73, if_neg c_82])
        · refine g_aload_n dX0_actByDraw_63 rfl ?_
          refine g_iload_n dX0_actByDraw_64 rfl ?_
          refine f_Vv dX0_actByDraw_65 cs_X0_110 mb_X0_recall (c_X0_recall l n _ f (q % K) hn hf (Nat.lt_of_lt_of_le (Nat.mod_lt _ hK0) hK)) rfl (x_vC hn (Nat.le_of_ble_eq_true rfl) hf) rfl rfl rfl (Nat.le_of_ble_eq_true rfl) (by decide) (Nat.le_of_ble_eq_true rfl) (Nat.le_refl _) (Nat.le_refl _) ?_
          refine g_goto 95 dX0_actByDraw_68 rfl ?_
          exact f_vret dX0_actByDraw_95 rfl (by rw [S_X0_actByDraw, if_neg c_30, if_pos c_38, if_pos c_51, if_neg c_60])
    · refine g_aload_n dX0_actByDraw_41 rfl ?_
      refine g_iload_n dX0_actByDraw_42 rfl ?_
      refine f_Vv dX0_actByDraw_43 cs_X0_107 mb_X0_dispatch (c_X0_dispatch l n _ f (q % K) hn hf (Nat.lt_of_lt_of_le (Nat.mod_lt _ hK0) hK)) rfl (x_vC hn (Nat.le_of_ble_eq_true rfl) hf) rfl rfl rfl (Nat.le_of_ble_eq_true rfl) (by decide) (Nat.le_of_ble_eq_true rfl) (Nat.le_refl _) (Nat.le_refl _) ?_
      refine g_goto 95 dX0_actByDraw_46 rfl ?_
      exact f_vret dX0_actByDraw_95 rfl (by rw [S_X0_actByDraw, if_neg c_30, if_neg c_38])
end
section
theorem x_nchar {v : Int} (h0 : 0 ≤ v) (h1 : v < 65536) : narrow .char (.int (Int32.ofInt v)) = .int (Int32.ofInt v) := by
  obtain ⟨q, rfl⟩ : ∃ q : Nat, v = (q : Int) := ⟨v.toNat, by omega⟩
  rw [x_ofk]; exact (pk_charN (by omega)).1
theorem x_chr_nar (a : Int) : vp_nar .char (Int32.ofInt (x_chr a)) = Int32.ofInt (x_chr a) := by
  unfold x_chr; rw [Int32.ofInt_toInt]; exact pk_vc _
theorem x_chr_of {a : Int} (h0 : 0 ≤ a) (h1 : a < 65536) : x_chr a = a := by
  obtain ⟨q, rfl⟩ : ∃ q : Nat, a = (q : Int) := ⟨a.toNat, by omega⟩
  unfold x_chr; rw [pk_char, x_ofk, pk_tn (by omega), Nat.mod_eq_of_lt (by omega), nI_toInt (by omega)]
theorem x_chr_in (a : Int) : 0 ≤ x_chr a ∧ x_chr a < 65536 := by
  unfold x_chr; rw [pk_char]
  have h : (Int32.ofInt a).toBitVec.toNat % 65536 < 65536 := Nat.mod_lt _ (by decide)
  rw [nI_toInt (by omega)]; omega
def S_X3_clear (σ : xMi) (r : Nat) : xMi := (x_up (x_up σ 5 r 4 0) 5 r 5 3)
theorem fr_S_X3_clear (σ : xMi) (r : Nat) {t i k : Nat} (h : ¬ (5 ≤ t ∧ t ≤ 9 ∧ i = r)) : S_X3_clear σ r t i k = σ t i k := by
  unfold S_X3_clear
  all_goals ((repeat' split) <;> first | rfl | simp (disch := first | omega | assumption) only [x_up_o, x_cp_o])
theorem c_X3_clear (l : Launch) (n : Nat) (σ : xMi) (r : Nat) (hn : 131 ≤ n) (hr : r < 3)  : x_F l yX3_clear RX3 cX3_clear 1 none 0 n σ [xR 5 r] none (S_X3_clear σ r) := by
  refine f_of (by decide) rfl (Nat.le_of_ble_eq_true rfl) rfl ?_
  refine g_aload_n dX3_clear_0 rfl ?_
  refine g_iconst dX3_clear_1 ?_
  refine g_putI dX3_clear_2 fl_X3_24 (x_vC hn (Nat.le_of_ble_eq_true rfl) hr) rfl rfl ?_
  refine g_aload_n dX3_clear_5 rfl ?_
  refine g_iconst dX3_clear_6 ?_
  refine g_putI dX3_clear_7 fl_X3_28 (x_vC hn (Nat.le_of_ble_eq_true rfl) hr) rfl rfl ?_
  exact f_vret dX3_clear_10 rfl rfl

def V_X3_addPerson (σ : xMi) (r : Nat) (k1 : Int) (x1 : Int) (n1 : Int) (b1 : Int) (z : Nat) : Int := (if x_wr 6 ≤ x_wr (σ 5 r 4) then 0 else (if x_wr 4 ≤ x_wr k1 then 0 else (if x_wr 40 < x_wr x1 then 0 else (if x_wr 40 < x_wr n1 then 0 else (if x_wr b1 < x_wr 1 then 0 else (if x_wr b1 ≤ x_wr 9 then 1 else 0))))))
theorem z_X3_addPerson (σ : xMi) (r : Nat) (k1 : Int) (x1 : Int) (n1 : Int) (b1 : Int) (z : Nat) : V_X3_addPerson σ r k1 x1 n1 b1 z = 0 ∨ V_X3_addPerson σ r k1 x1 n1 b1 z = 1 := by
  unfold V_X3_addPerson
  (repeat' split) <;> first | exact Or.inl rfl | exact Or.inr rfl
def S_X3_addPerson (σ : xMi) (r : Nat) (k1 : Int) (x1 : Int) (n1 : Int) (b1 : Int) (z : Nat) : xMi := (if x_wr 6 ≤ x_wr (σ 5 r 4) then σ else (if x_wr 4 ≤ x_wr k1 then σ else (if x_wr 40 < x_wr x1 then σ else (if x_wr 40 < x_wr n1 then σ else (if x_wr b1 < x_wr 1 then σ else (if x_wr b1 ≤ x_wr 9 then (x_up (x_up (x_up (x_up (x_up σ 6 r z k1) 7 r z x1) 8 r z n1) 9 r z b1) 5 r 4 (((x_up (x_up (x_up (x_up σ 6 r z k1) 7 r z x1) 8 r z n1) 9 r z b1) 5 r 4) + 1)) else σ))))))
theorem fr_S_X3_addPerson (σ : xMi) (r : Nat) (k1 : Int) (x1 : Int) (n1 : Int) (b1 : Int) (z : Nat) {t i k : Nat} (h : ¬ (5 ≤ t ∧ t ≤ 9 ∧ i = r)) : S_X3_addPerson σ r k1 x1 n1 b1 z t i k = σ t i k := by
  unfold S_X3_addPerson
  all_goals ((repeat' split) <;> first | rfl | simp (disch := first | omega | assumption) only [x_up_o, x_cp_o])
theorem c_X3_addPerson (l : Launch) (n : Nat) (σ : xMi) (r : Nat) (k1 : Int) (x1 : Int) (n1 : Int) (b1 : Int) (z : Nat) (hn : 131 ≤ n) (hr : r < 3) (hz6 : z ≤ 6) (hz : σ 5 r 4 = (z : Int)) : x_F l yX3_addPerson RX3 cX3_addPerson 5 (some .boolean) 0 n σ [xR 5 r, xI k1, xI x1, xI n1, xI b1] (some (xI (V_X3_addPerson σ r k1 x1 n1 b1 z))) (S_X3_addPerson σ r k1 x1 n1 b1 z) := by
  refine f_of (by decide) rfl (Nat.le_of_ble_eq_true rfl) rfl ?_
  refine g_aload_n dX3_addPerson_0 rfl ?_
  refine g_getI dX3_addPerson_1 fl_X3_24 (x_vC hn (Nat.le_of_ble_eq_true rfl) hr) rfl rfl ?_
  refine g_bipush dX3_addPerson_4 (by decide) ?_
  refine g_cmp_ge 39 dX3_addPerson_6 rfl (fun c_6 => ?_) (fun c_6 => ?_)
  · refine g_iconst dX3_addPerson_39 ?_
    exact f_zret dX3_addPerson_40 (by decide) (by rw [V_X3_addPerson, if_pos c_6]) (by rw [S_X3_addPerson, if_pos c_6])
  · refine g_iload_n dX3_addPerson_9 rfl ?_
    refine g_iconst dX3_addPerson_10 ?_
    refine g_cmp_ge 39 dX3_addPerson_11 rfl (fun c_11 => ?_) (fun c_11 => ?_)
    · refine g_iconst dX3_addPerson_39 ?_
      exact f_zret dX3_addPerson_40 (by decide) (by rw [V_X3_addPerson, if_neg c_6, if_pos c_11]) (by rw [S_X3_addPerson, if_neg c_6, if_pos c_11])
    · refine g_iload_n dX3_addPerson_14 rfl ?_
      refine g_bipush dX3_addPerson_15 (by decide) ?_
      refine g_cmp_gt 39 dX3_addPerson_17 rfl (fun c_17 => ?_) (fun c_17 => ?_)
      · refine g_iconst dX3_addPerson_39 ?_
        exact f_zret dX3_addPerson_40 (by decide) (by rw [V_X3_addPerson, if_neg c_6, if_neg c_11, if_pos c_17]) (by rw [S_X3_addPerson, if_neg c_6, if_neg c_11, if_pos c_17])
      · refine g_iload_n dX3_addPerson_20 rfl ?_
        refine g_bipush dX3_addPerson_21 (by decide) ?_
        refine g_cmp_gt 39 dX3_addPerson_23 rfl (fun c_23 => ?_) (fun c_23 => ?_)
        · refine g_iconst dX3_addPerson_39 ?_
          exact f_zret dX3_addPerson_40 (by decide) (by rw [V_X3_addPerson, if_neg c_6, if_neg c_11, if_neg c_17, if_pos c_23]) (by rw [S_X3_addPerson, if_neg c_6, if_neg c_11, if_neg c_17, if_pos c_23])
        · refine g_iload dX3_addPerson_26 rfl ?_
          refine g_iconst dX3_addPerson_28 ?_
          refine g_cmp_lt 39 dX3_addPerson_29 rfl (fun c_29 => ?_) (fun c_29 => ?_)
          · refine g_iconst dX3_addPerson_39 ?_
            exact f_zret dX3_addPerson_40 (by decide) (by rw [V_X3_addPerson, if_neg c_6, if_neg c_11, if_neg c_17, if_neg c_23, if_pos c_29]) (by rw [S_X3_addPerson, if_neg c_6, if_neg c_11, if_neg c_17, if_neg c_23, if_pos c_29])
          · refine g_iload dX3_addPerson_32 rfl ?_
            refine g_bipush dX3_addPerson_34 (by decide) ?_
            refine g_cmp_le 41 dX3_addPerson_36 rfl (fun c_36 => ?_) (fun c_36 => ?_)
            · have hz5 : z < 6 := by rw [hz, x_nat (by omega), show x_wr 6 = 6 from by decide] at c_6; omega
              refine g_aload_n dX3_addPerson_41 rfl ?_
              refine g_getR (t2 := 6) (i2 := r) dX3_addPerson_42 fl_X3_9 (x_vC hn (Nat.le_of_ble_eq_true rfl) hr) rfl rfl rfl ?_
              refine g_aload_n dX3_addPerson_45 rfl ?_
              refine g_getI dX3_addPerson_46 fl_X3_24 (x_vC hn (Nat.le_of_ble_eq_true rfl) hr) rfl rfl ?_
              refine g_eqI ((z : Nat) : Int) hz ?_
              refine g_iload_n dX3_addPerson_49 rfl ?_
              refine g_iast z dX3_addPerson_50 rfl hz5 (x_vC hn (Nat.le_of_ble_eq_true rfl) hr) rfl ?_
              refine g_aload_n dX3_addPerson_51 rfl ?_
              refine g_getR (t2 := 7) (i2 := r) dX3_addPerson_52 fl_X3_15 (x_vC hn (Nat.le_of_ble_eq_true rfl) hr) rfl rfl rfl ?_
              refine g_aload_n dX3_addPerson_55 rfl ?_
              refine g_getI dX3_addPerson_56 fl_X3_24 (x_vC hn (Nat.le_of_ble_eq_true rfl) hr) rfl rfl ?_
              refine g_eqI ((z : Nat) : Int) (by simp (disch := first | omega | assumption) only [x_up_o, x_cp_o]; exact hz) ?_
              refine g_iload_n dX3_addPerson_59 rfl ?_
              refine g_iast z dX3_addPerson_60 rfl hz5 (x_vC hn (Nat.le_of_ble_eq_true rfl) hr) rfl ?_
              refine g_aload_n dX3_addPerson_61 rfl ?_
              refine g_getR (t2 := 8) (i2 := r) dX3_addPerson_62 fl_X3_18 (x_vC hn (Nat.le_of_ble_eq_true rfl) hr) rfl rfl rfl ?_
              refine g_aload_n dX3_addPerson_65 rfl ?_
              refine g_getI dX3_addPerson_66 fl_X3_24 (x_vC hn (Nat.le_of_ble_eq_true rfl) hr) rfl rfl ?_
              refine g_eqI ((z : Nat) : Int) (by simp (disch := first | omega | assumption) only [x_up_o, x_cp_o]; exact hz) ?_
              refine g_iload_n dX3_addPerson_69 rfl ?_
              refine g_iast z dX3_addPerson_70 rfl hz5 (x_vC hn (Nat.le_of_ble_eq_true rfl) hr) rfl ?_
              refine g_aload_n dX3_addPerson_71 rfl ?_
              refine g_getR (t2 := 9) (i2 := r) dX3_addPerson_72 fl_X3_21 (x_vC hn (Nat.le_of_ble_eq_true rfl) hr) rfl rfl rfl ?_
              refine g_aload_n dX3_addPerson_75 rfl ?_
              refine g_getI dX3_addPerson_76 fl_X3_24 (x_vC hn (Nat.le_of_ble_eq_true rfl) hr) rfl rfl ?_
              refine g_eqI ((z : Nat) : Int) (by simp (disch := first | omega | assumption) only [x_up_o, x_cp_o]; exact hz) ?_
              refine g_iload dX3_addPerson_79 rfl ?_
              refine g_iast z dX3_addPerson_81 rfl hz5 (x_vC hn (Nat.le_of_ble_eq_true rfl) hr) rfl ?_
              refine g_aload_n dX3_addPerson_82 rfl ?_
              refine g_dup dX3_addPerson_83 rfl ?_
              refine g_getI dX3_addPerson_84 fl_X3_24 (x_vC hn (Nat.le_of_ble_eq_true rfl) hr) rfl rfl ?_
              refine g_iconst dX3_addPerson_87 ?_
              refine g_iadd dX3_addPerson_88 ?_
              refine g_putI dX3_addPerson_89 fl_X3_24 (x_vC hn (Nat.le_of_ble_eq_true rfl) hr) rfl rfl ?_
              refine g_iconst dX3_addPerson_92 ?_
              exact f_zret dX3_addPerson_93 (by decide) (by rw [V_X3_addPerson, if_neg c_6, if_neg c_11, if_neg c_17, if_neg c_23, if_neg c_29, if_pos c_36]) (by rw [S_X3_addPerson, if_neg c_6, if_neg c_11, if_neg c_17, if_neg c_23, if_neg c_29, if_pos c_36])
            · refine g_iconst dX3_addPerson_39 ?_
              exact f_zret dX3_addPerson_40 (by decide) (by rw [V_X3_addPerson, if_neg c_6, if_neg c_11, if_neg c_17, if_neg c_23, if_neg c_29, if_neg c_36]) (by rw [S_X3_addPerson, if_neg c_6, if_neg c_11, if_neg c_17, if_neg c_23, if_neg c_29, if_neg c_36])

def V_X3_setStock (σ : xMi) (r : Nat) (h1 : Int) : Int := (if x_wr h1 ≤ x_wr 20 then 1 else 0)
theorem z_X3_setStock (σ : xMi) (r : Nat) (h1 : Int) : V_X3_setStock σ r h1 = 0 ∨ V_X3_setStock σ r h1 = 1 := by
  unfold V_X3_setStock
  (repeat' split) <;> first | exact Or.inl rfl | exact Or.inr rfl
def S_X3_setStock (σ : xMi) (r : Nat) (h1 : Int) : xMi := (if x_wr h1 ≤ x_wr 20 then (x_up σ 5 r 5 h1) else σ)
theorem fr_S_X3_setStock (σ : xMi) (r : Nat) (h1 : Int) {t i k : Nat} (h : ¬ (5 ≤ t ∧ t ≤ 9 ∧ i = r)) : S_X3_setStock σ r h1 t i k = σ t i k := by
  unfold S_X3_setStock
  all_goals ((repeat' split) <;> first | rfl | simp (disch := first | omega | assumption) only [x_up_o, x_cp_o])
theorem c_X3_setStock (l : Launch) (n : Nat) (σ : xMi) (r : Nat) (h1 : Int) (hn : 131 ≤ n) (hr : r < 3)  : x_F l yX3_setStock RX3 cX3_setStock 2 (some .boolean) 0 n σ [xR 5 r, xI h1] (some (xI (V_X3_setStock σ r h1))) (S_X3_setStock σ r h1) := by
  refine f_of (by decide) rfl (Nat.le_of_ble_eq_true rfl) rfl ?_
  refine g_iload_n dX3_setStock_0 rfl ?_
  refine g_bipush dX3_setStock_1 (by decide) ?_
  refine g_cmp_le 8 dX3_setStock_3 rfl (fun c_3 => ?_) (fun c_3 => ?_)
  · refine g_aload_n dX3_setStock_8 rfl ?_
    refine g_iload_n dX3_setStock_9 rfl ?_
    refine g_putI dX3_setStock_10 fl_X3_28 (x_vC hn (Nat.le_of_ble_eq_true rfl) hr) rfl rfl ?_
    refine g_iconst dX3_setStock_13 ?_
    exact f_zret dX3_setStock_14 (by decide) (by rw [V_X3_setStock, if_pos c_3]) (by rw [S_X3_setStock, if_pos c_3])
  · refine g_iconst dX3_setStock_6 ?_
    exact f_zret dX3_setStock_7 (by decide) (by rw [V_X3_setStock, if_neg c_3]) (by rw [S_X3_setStock, if_neg c_3])

def T_X3_copyFrom_1 (σ : xMi) (r : Nat) (q : Nat) : xMi := (x_up (x_up (x_cp (x_cp (x_cp (x_cp σ 6 r 6 q 6) 7 r 7 q 6) 8 r 8 q 6) 9 r 9 q 6) 5 r 4 ((x_cp (x_cp (x_cp (x_cp σ 6 r 6 q 6) 7 r 7 q 6) 8 r 8 q 6) 9 r 9 q 6) 5 q 4)) 5 r 5 ((x_up (x_cp (x_cp (x_cp (x_cp σ 6 r 6 q 6) 7 r 7 q 6) 8 r 8 q 6) 9 r 9 q 6) 5 r 4 ((x_cp (x_cp (x_cp (x_cp σ 6 r 6 q 6) 7 r 7 q 6) 8 r 8 q 6) 9 r 9 q 6) 5 q 4)) 5 q 5))
def S_X3_copyFrom (σ : xMi) (r : Nat) (q : Nat) : xMi := (T_X3_copyFrom_1 σ r q)
theorem fr_S_X3_copyFrom (σ : xMi) (r : Nat) (q : Nat) {t i k : Nat} (h : ¬ (5 ≤ t ∧ t ≤ 9 ∧ i = r)) : S_X3_copyFrom σ r q t i k = σ t i k := by
  unfold S_X3_copyFrom
  all_goals ((repeat' split) <;> first | rfl | simp (disch := first | omega | assumption) only [x_up_o, x_cp_o, T_X3_copyFrom_1])
theorem c_X3_copyFrom (l : Launch) (n : Nat) (σ : xMi) (r : Nat) (q : Nat) (hn : 131 ≤ n) (hr : r < 3) (hq : q < 3)  : x_F l yX3_copyFrom RX3 cX3_copyFrom 2 none 1 n σ [xR 5 r, xR 5 q] none (S_X3_copyFrom σ r q) := by
  refine f_of (by decide) rfl (Nat.le_of_ble_eq_true rfl) rfl ?_
  refine g_aload_n dX3_copyFrom_0 rfl ?_
  refine g_getR (t2 := 6) (i2 := q) dX3_copyFrom_1 fl_X3_9 (x_vC hn (Nat.le_of_ble_eq_true rfl) hq) rfl rfl rfl ?_
  refine g_iconst dX3_copyFrom_4 ?_
  refine g_aload_n dX3_copyFrom_5 rfl ?_
  refine g_getR (t2 := 6) (i2 := r) dX3_copyFrom_6 fl_X3_9 (x_vC hn (Nat.le_of_ble_eq_true rfl) hr) rfl rfl rfl ?_
  refine g_iconst dX3_copyFrom_9 ?_
  refine g_bipush dX3_copyFrom_10 (by decide) ?_
  refine g_copy dX3_copyFrom_12 cx_X3_31 w_copy1.1 w_copy1.2.1 w_copy1.2.2 (by decide) (Nat.le_of_ble_eq_true rfl) (x_vC hn (Nat.le_of_ble_eq_true rfl) hr) (x_vC hn (Nat.le_of_ble_eq_true rfl) hq) rfl rfl rfl (Nat.le_of_ble_eq_true rfl) (Nat.le_of_ble_eq_true rfl) ?_
  refine g_aload_n dX3_copyFrom_15 rfl ?_
  refine g_getR (t2 := 7) (i2 := q) dX3_copyFrom_16 fl_X3_15 (x_vC hn (Nat.le_of_ble_eq_true rfl) hq) rfl rfl rfl ?_
  refine g_iconst dX3_copyFrom_19 ?_
  refine g_aload_n dX3_copyFrom_20 rfl ?_
  refine g_getR (t2 := 7) (i2 := r) dX3_copyFrom_21 fl_X3_15 (x_vC hn (Nat.le_of_ble_eq_true rfl) hr) rfl rfl rfl ?_
  refine g_iconst dX3_copyFrom_24 ?_
  refine g_bipush dX3_copyFrom_25 (by decide) ?_
  refine g_copy dX3_copyFrom_27 cx_X3_31 w_copy1.1 w_copy1.2.1 w_copy1.2.2 (by decide) (Nat.le_of_ble_eq_true rfl) (x_vC hn (Nat.le_of_ble_eq_true rfl) hr) (x_vC hn (Nat.le_of_ble_eq_true rfl) hq) rfl rfl rfl (Nat.le_of_ble_eq_true rfl) (Nat.le_of_ble_eq_true rfl) ?_
  refine g_aload_n dX3_copyFrom_30 rfl ?_
  refine g_getR (t2 := 8) (i2 := q) dX3_copyFrom_31 fl_X3_18 (x_vC hn (Nat.le_of_ble_eq_true rfl) hq) rfl rfl rfl ?_
  refine g_iconst dX3_copyFrom_34 ?_
  refine g_aload_n dX3_copyFrom_35 rfl ?_
  refine g_getR (t2 := 8) (i2 := r) dX3_copyFrom_36 fl_X3_18 (x_vC hn (Nat.le_of_ble_eq_true rfl) hr) rfl rfl rfl ?_
  refine g_iconst dX3_copyFrom_39 ?_
  refine g_bipush dX3_copyFrom_40 (by decide) ?_
  refine g_copy dX3_copyFrom_42 cx_X3_31 w_copy1.1 w_copy1.2.1 w_copy1.2.2 (by decide) (Nat.le_of_ble_eq_true rfl) (x_vC hn (Nat.le_of_ble_eq_true rfl) hr) (x_vC hn (Nat.le_of_ble_eq_true rfl) hq) rfl rfl rfl (Nat.le_of_ble_eq_true rfl) (Nat.le_of_ble_eq_true rfl) ?_
  refine g_aload_n dX3_copyFrom_45 rfl ?_
  refine g_getR (t2 := 9) (i2 := q) dX3_copyFrom_46 fl_X3_21 (x_vC hn (Nat.le_of_ble_eq_true rfl) hq) rfl rfl rfl ?_
  refine g_iconst dX3_copyFrom_49 ?_
  refine g_aload_n dX3_copyFrom_50 rfl ?_
  refine g_getR (t2 := 9) (i2 := r) dX3_copyFrom_51 fl_X3_21 (x_vC hn (Nat.le_of_ble_eq_true rfl) hr) rfl rfl rfl ?_
  refine g_iconst dX3_copyFrom_54 ?_
  refine g_bipush dX3_copyFrom_55 (by decide) ?_
  refine g_copy dX3_copyFrom_57 cx_X3_31 w_copy1.1 w_copy1.2.1 w_copy1.2.2 (by decide) (Nat.le_of_ble_eq_true rfl) (x_vC hn (Nat.le_of_ble_eq_true rfl) hr) (x_vC hn (Nat.le_of_ble_eq_true rfl) hq) rfl rfl rfl (Nat.le_of_ble_eq_true rfl) (Nat.le_of_ble_eq_true rfl) ?_
  refine g_aload_n dX3_copyFrom_60 rfl ?_
  refine g_aload_n dX3_copyFrom_61 rfl ?_
  refine g_getI dX3_copyFrom_62 fl_X3_24 (x_vC hn (Nat.le_of_ble_eq_true rfl) hq) rfl rfl ?_
  refine g_putI dX3_copyFrom_65 fl_X3_24 (x_vC hn (Nat.le_of_ble_eq_true rfl) hr) rfl rfl ?_
  refine g_aload_n dX3_copyFrom_68 rfl ?_
  refine g_aload_n dX3_copyFrom_69 rfl ?_
  refine g_getI dX3_copyFrom_70 fl_X3_28 (x_vC hn (Nat.le_of_ble_eq_true rfl) hq) rfl rfl ?_
  refine g_putI dX3_copyFrom_73 fl_X3_28 (x_vC hn (Nat.le_of_ble_eq_true rfl) hr) rfl rfl ?_
  refine g_mem (T_X3_copyFrom_1 σ r q) rfl ?_
  exact f_vret dX3_copyFrom_76 rfl rfl

def V_X3_fact (σ : xMi) (r : Nat) (p : Nat) (w : Int) : Int := (if x_wr w = 0 then (σ 6 r p) else (if x_wr w = 1 then (σ 7 r p) else (if x_wr w = 2 then (σ 8 r p) else (σ 9 r p))))
theorem c_X3_fact (l : Launch) (n : Nat) (σ : xMi) (r : Nat) (p : Nat) (w : Int) (hn : 131 ≤ n) (hr : r < 3) (hp : p < 6)  : x_F l yX3_fact RX3 cX3_fact 3 (some .int) 0 n σ [xR 5 r, xI (p : Int), xI w] (some (xI (V_X3_fact σ r p w))) σ := by
  refine f_of (by decide) rfl (Nat.le_of_ble_eq_true rfl) rfl ?_
  refine g_iload_n dX3_fact_0 rfl ?_
  by_cases s_1_0 : x_wr w = 0
  · refine g_tin 28 dX3_fact_1 (by omega) (by omega) (by rw [s_1_0]; rfl) rfl ?_
    refine g_aload_n dX3_fact_28 rfl ?_
    refine g_getR (t2 := 6) (i2 := r) dX3_fact_29 fl_X3_9 (x_vC hn (Nat.le_of_ble_eq_true rfl) hr) rfl rfl rfl ?_
    refine g_iload_n dX3_fact_32 rfl ?_
    refine g_iald p dX3_fact_33 rfl hp (x_vC hn (Nat.le_of_ble_eq_true rfl) hr) rfl ?_
    exact f_iret dX3_fact_34 (by rw [V_X3_fact, if_pos s_1_0]) rfl
  · by_cases s_1_1 : x_wr w = 1
    · refine g_tin 35 dX3_fact_1 (by omega) (by omega) (by rw [s_1_1]; rfl) rfl ?_
      refine g_aload_n dX3_fact_35 rfl ?_
      refine g_getR (t2 := 7) (i2 := r) dX3_fact_36 fl_X3_15 (x_vC hn (Nat.le_of_ble_eq_true rfl) hr) rfl rfl rfl ?_
      refine g_iload_n dX3_fact_39 rfl ?_
      refine g_iald p dX3_fact_40 rfl hp (x_vC hn (Nat.le_of_ble_eq_true rfl) hr) rfl ?_
      exact f_iret dX3_fact_41 (by rw [V_X3_fact, if_neg s_1_0, if_pos s_1_1]) rfl
    · by_cases s_1_2 : x_wr w = 2
      · refine g_tin 42 dX3_fact_1 (by omega) (by omega) (by rw [s_1_2]; rfl) rfl ?_
        refine g_aload_n dX3_fact_42 rfl ?_
        refine g_getR (t2 := 8) (i2 := r) dX3_fact_43 fl_X3_18 (x_vC hn (Nat.le_of_ble_eq_true rfl) hr) rfl rfl rfl ?_
        refine g_iload_n dX3_fact_46 rfl ?_
        refine g_iald p dX3_fact_47 rfl hp (x_vC hn (Nat.le_of_ble_eq_true rfl) hr) rfl ?_
        exact f_iret dX3_fact_48 (by rw [V_X3_fact, if_neg s_1_0, if_neg s_1_1, if_pos s_1_2]) rfl
      · refine g_tout 49 dX3_fact_1 (by omega) rfl ?_
        refine g_aload_n dX3_fact_49 rfl ?_
        refine g_getR (t2 := 9) (i2 := r) dX3_fact_50 fl_X3_21 (x_vC hn (Nat.le_of_ble_eq_true rfl) hr) rfl rfl rfl ?_
        refine g_iload_n dX3_fact_53 rfl ?_
        refine g_iald p dX3_fact_54 rfl hp (x_vC hn (Nat.le_of_ble_eq_true rfl) hr) rfl ?_
        exact f_iret dX3_fact_55 (by rw [V_X3_fact, if_neg s_1_0, if_neg s_1_1, if_neg s_1_2]) rfl

def V_X5_append (σ : xMi) (c1 : Int) (z : Nat) : Int := (if x_wr 200 ≤ x_wr (σ 10 0 2) then (σ 10 0 2) else ((x_up (x_up σ 11 0 z (x_chr c1)) 10 0 2 (((x_up σ 11 0 z (x_chr c1)) 10 0 2) + 1)) 10 0 2))
def S_X5_append (σ : xMi) (c1 : Int) (z : Nat) : xMi := (if x_wr 200 ≤ x_wr (σ 10 0 2) then σ else (x_up (x_up σ 11 0 z (x_chr c1)) 10 0 2 (((x_up σ 11 0 z (x_chr c1)) 10 0 2) + 1)))
theorem fr_S_X5_append (σ : xMi) (c1 : Int) (z : Nat) {t i k : Nat} (h : ¬ (t = 10 ∨ t = 11)) : S_X5_append σ c1 z t i k = σ t i k := by
  unfold S_X5_append
  all_goals ((repeat' split) <;> first | rfl | simp (disch := first | omega | assumption) only [x_up_o, x_cp_o])
theorem c_X5_append (l : Launch) (n : Nat) (σ : xMi) (c1 : Int) (z : Nat) (hn : 131 ≤ n) (hz2 : z ≤ 200) (hz : σ 10 0 2 = (z : Int)) : x_F l yX5_append RX5 cX5_append 2 (some .int) 0 n σ [xR 10 0, xI c1] (some (xI (V_X5_append σ c1 z))) (S_X5_append σ c1 z) := by
  refine f_of (by decide) rfl (Nat.le_of_ble_eq_true rfl) rfl ?_
  refine g_aload_n dX5_append_0 rfl ?_
  refine g_getI dX5_append_1 fl_X5_19 (x_vC hn (Nat.le_of_ble_eq_true rfl) (Nat.le_of_ble_eq_true rfl)) rfl rfl ?_
  refine g_sipush dX5_append_4 (by decide) ?_
  refine g_cmp_ge 31 dX5_append_7 rfl (fun c_7 => ?_) (fun c_7 => ?_)
  · refine g_aload_n dX5_append_31 rfl ?_
    refine g_getI dX5_append_32 fl_X5_19 (x_vC hn (Nat.le_of_ble_eq_true rfl) (Nat.le_of_ble_eq_true rfl)) rfl rfl ?_
    exact f_iret dX5_append_35 (by rw [V_X5_append, if_pos c_7]) (by rw [S_X5_append, if_pos c_7])
  · have hz5 : z < 200 := by rw [hz, x_nat (by omega), show x_wr 200 = 200 from by decide] at c_7; omega
    refine g_aload_n dX5_append_10 rfl ?_
    refine g_getR (t2 := 11) (i2 := 0) dX5_append_11 fl_X5_9 (x_vC hn (Nat.le_of_ble_eq_true rfl) (Nat.le_of_ble_eq_true rfl)) rfl rfl rfl ?_
    refine g_aload_n dX5_append_14 rfl ?_
    refine g_getI dX5_append_15 fl_X5_19 (x_vC hn (Nat.le_of_ble_eq_true rfl) (Nat.le_of_ble_eq_true rfl)) rfl rfl ?_
    refine g_eqI ((z : Nat) : Int) hz ?_
    refine g_iload_n dX5_append_18 rfl ?_
    refine g_i2c dX5_append_19 ?_
    refine g_cast z dX5_append_20 rfl hz5 (x_vC hn (Nat.le_of_ble_eq_true rfl) (Nat.le_of_ble_eq_true rfl)) rfl (x_chr_nar _) ?_
    refine g_aload_n dX5_append_21 rfl ?_
    refine g_dup dX5_append_22 rfl ?_
    refine g_getI dX5_append_23 fl_X5_19 (x_vC hn (Nat.le_of_ble_eq_true rfl) (Nat.le_of_ble_eq_true rfl)) rfl rfl ?_
    refine g_iconst dX5_append_26 ?_
    refine g_iadd dX5_append_27 ?_
    refine g_putI dX5_append_28 fl_X5_19 (x_vC hn (Nat.le_of_ble_eq_true rfl) (Nat.le_of_ble_eq_true rfl)) rfl rfl ?_
    refine g_aload_n dX5_append_31 rfl ?_
    refine g_getI dX5_append_32 fl_X5_19 (x_vC hn (Nat.le_of_ble_eq_true rfl) (Nat.le_of_ble_eq_true rfl)) rfl rfl ?_
    exact f_iret dX5_append_35 (by rw [V_X5_append, if_neg c_7]) (by rw [S_X5_append, if_neg c_7])

def V_X5_empty (σ : xMi)  : Int := (σ 10 0 2)
def S_X5_empty (σ : xMi)  : xMi := (x_up σ 10 0 2 0)
theorem fr_S_X5_empty (σ : xMi)  {t i k : Nat} (h : ¬ (t = 10)) : S_X5_empty σ  t i k = σ t i k := by
  unfold S_X5_empty
  all_goals ((repeat' split) <;> first | rfl | simp (disch := first | omega | assumption) only [x_up_o, x_cp_o])
theorem c_X5_empty (l : Launch) (n : Nat) (σ : xMi)  (hn : 131 ≤ n)   : x_F l yX5_empty RX5 cX5_empty 2 (some .int) 0 n σ [xR 10 0] (some (xI (V_X5_empty σ ))) (S_X5_empty σ ) := by
  refine f_of (by decide) rfl (Nat.le_of_ble_eq_true rfl) rfl ?_
  refine g_aload_n dX5_empty_0 rfl ?_
  refine g_getI dX5_empty_1 fl_X5_19 (x_vC hn (Nat.le_of_ble_eq_true rfl) (Nat.le_of_ble_eq_true rfl)) rfl rfl ?_
  refine g_istore_n (lv' := [_, _]) dX5_empty_4 (Nat.le_of_ble_eq_true rfl) rfl ?_
  refine g_aload_n dX5_empty_5 rfl ?_
  refine g_iconst dX5_empty_6 ?_
  refine g_putI dX5_empty_7 fl_X5_19 (x_vC hn (Nat.le_of_ble_eq_true rfl) (Nat.le_of_ble_eq_true rfl)) rfl rfl ?_
  refine g_iload_n dX5_empty_10 rfl ?_
  exact f_iret dX5_empty_11 rfl rfl

def V_X5_letterAt (σ : xMi) (a : Nat) : Int := (if x_wr (σ 10 0 2) ≤ x_wr (a : Int) then 0 else (if x_wr 200 ≤ x_wr (a : Int) then 0 else (σ 11 0 a)))
theorem c_X5_letterAt (l : Launch) (n : Nat) (σ : xMi) (a : Nat) (hn : 131 ≤ n) (ha : a ≤ 1000000) (hch : ∀ k, 0 ≤ σ 11 0 k ∧ σ 11 0 k < 65536) : x_F l yX5_letterAt RX5 cX5_letterAt 2 (some .char) 0 n σ [xR 10 0, xI (a : Int)] (some (xI (V_X5_letterAt σ a))) σ := by
  refine f_of (by decide) rfl (Nat.le_of_ble_eq_true rfl) rfl ?_
  refine g_iload_n dX5_letterAt_0 rfl ?_
  refine g_if_lt 28 dX5_letterAt_1 rfl (fun c_1 => absurd c_1 (by rw [x_nat (by omega)]; omega)) (fun c_1 => ?_)
  refine g_iload_n dX5_letterAt_4 rfl ?_
  refine g_aload_n dX5_letterAt_5 rfl ?_
  refine g_getI dX5_letterAt_6 fl_X5_19 (x_vC hn (Nat.le_of_ble_eq_true rfl) (Nat.le_of_ble_eq_true rfl)) rfl rfl ?_
  refine g_cmp_ge 28 dX5_letterAt_9 rfl (fun c_9 => ?_) (fun c_9 => ?_)
  · refine g_iconst dX5_letterAt_28 ?_
    exact f_cret dX5_letterAt_29 rfl (by rw [V_X5_letterAt, if_pos c_9]) rfl
  · refine g_iload_n dX5_letterAt_12 rfl ?_
    refine g_sipush dX5_letterAt_13 (by decide) ?_
    refine g_cmp_ge 28 dX5_letterAt_16 rfl (fun c_16 => ?_) (fun c_16 => ?_)
    · refine g_iconst dX5_letterAt_28 ?_
      exact f_cret dX5_letterAt_29 rfl (by rw [V_X5_letterAt, if_neg c_9, if_pos c_16]) rfl
    · refine g_aload_n dX5_letterAt_19 rfl ?_
      refine g_getR (t2 := 11) (i2 := 0) dX5_letterAt_20 fl_X5_9 (x_vC hn (Nat.le_of_ble_eq_true rfl) (Nat.le_of_ble_eq_true rfl)) rfl rfl rfl ?_
      have ha2 : a < 200 := by rw [x_nat (by omega), show x_wr 200 = 200 from by decide] at c_16; omega
      refine g_iload_n dX5_letterAt_23 rfl ?_
      refine g_cald a dX5_letterAt_24 rfl ha2 (x_vC hn (Nat.le_of_ble_eq_true rfl) (Nat.le_of_ble_eq_true rfl)) rfl ?_
      refine g_goto 29 dX5_letterAt_25 rfl ?_
      exact f_cret dX5_letterAt_29 (x_nchar (hch _).1 (hch _).2) (by rw [V_X5_letterAt, if_neg c_9, if_neg c_16]) rfl

def V_X5_isFigure (σ : xMi) (a : Nat) : Int := (if x_wr (V_X5_letterAt σ a) < x_wr 48 then 0 else (if x_wr 57 < x_wr (V_X5_letterAt σ a) then 0 else 1))
theorem z_X5_isFigure (σ : xMi) (a : Nat) : V_X5_isFigure σ a = 0 ∨ V_X5_isFigure σ a = 1 := by
  unfold V_X5_isFigure
  (repeat' split) <;> first | exact Or.inl rfl | exact Or.inr rfl
theorem c_X5_isFigure (l : Launch) (n : Nat) (σ : xMi) (a : Nat) (hn : 131 ≤ n) (ha : a ≤ 1000000) (hch : ∀ k, 0 ≤ σ 11 0 k ∧ σ 11 0 k < 65536) : x_F l yX5_isFigure RX5 cX5_isFigure 3 (some .boolean) 1 n σ [xR 10 0, xI (a : Int)] (some (xI (V_X5_isFigure σ a))) σ := by
  refine f_of (by decide) rfl (Nat.le_of_ble_eq_true rfl) rfl ?_
  refine g_aload_n dX5_isFigure_0 rfl ?_
  refine g_iload_n dX5_isFigure_1 rfl ?_
  refine f_V dX5_isFigure_2 cs_X5_32 mb_X5_letterAt (c_X5_letterAt l n _ a hn ha hch) rfl (x_vC hn (Nat.le_of_ble_eq_true rfl) (Nat.le_of_ble_eq_true rfl)) rfl rfl rfl (Nat.le_of_ble_eq_true rfl) (by decide) (Nat.le_of_ble_eq_true rfl) (Nat.le_refl _) (Nat.le_refl _) ?_
  refine g_istore_n (lv' := [_, _, _]) dX5_isFigure_5 (Nat.le_of_ble_eq_true rfl) rfl ?_
  refine g_iload_n dX5_isFigure_6 rfl ?_
  refine g_bipush dX5_isFigure_7 (by decide) ?_
  refine g_cmp_lt 22 dX5_isFigure_9 rfl (fun c_9 => ?_) (fun c_9 => ?_)
  · refine g_iconst dX5_isFigure_22 ?_
    exact f_zret dX5_isFigure_23 (by decide) (by rw [V_X5_isFigure, if_pos c_9]) rfl
  · refine g_iload_n dX5_isFigure_12 rfl ?_
    refine g_bipush dX5_isFigure_13 (by decide) ?_
    refine g_cmp_gt 22 dX5_isFigure_15 rfl (fun c_15 => ?_) (fun c_15 => ?_)
    · refine g_iconst dX5_isFigure_22 ?_
      exact f_zret dX5_isFigure_23 (by decide) (by rw [V_X5_isFigure, if_neg c_9, if_pos c_15]) rfl
    · refine g_iconst dX5_isFigure_18 ?_
      refine g_goto 23 dX5_isFigure_19 rfl ?_
      exact f_zret dX5_isFigure_23 (by decide) (by rw [V_X5_isFigure, if_neg c_9, if_neg c_15]) rfl

def RV_X5_readNumbers_5 (a : Nat) (w : Nat) : Nat → Nat → xMi → Nat → Int
  | 0, e, σ, q => (q : Int)
  | k + 1, e, σ, q => (if x_wr (V_X5_isFigure σ q) = 0 then (-4) else (if x_wr (V_X5_isFigure σ (q + 1)) = 0 then (if x_wr (e : Int) = x_wr ((w : Int) - 1) then (if x_wr (V_X5_letterAt (x_up σ 12 0 e ((V_X5_letterAt σ q) - 48)) (q + 1)) = x_wr 59 then (RV_X5_readNumbers_5 a w k (e + 1) (x_up σ 12 0 e ((V_X5_letterAt σ q) - 48)) ((q + 1) + 1)) else (-4)) else (if x_wr (V_X5_letterAt (x_up σ 12 0 e ((V_X5_letterAt σ q) - 48)) (q + 1)) = x_wr 44 then (RV_X5_readNumbers_5 a w k (e + 1) (x_up σ 12 0 e ((V_X5_letterAt σ q) - 48)) ((q + 1) + 1)) else (-4))) else (if x_wr (e : Int) = x_wr ((w : Int) - 1) then (if x_wr (V_X5_letterAt (x_up σ 12 0 e (((((V_X5_letterAt σ q) - 48) * 10) + (V_X5_letterAt σ (q + 1))) - 48)) ((q + 1) + 1)) = x_wr 59 then (RV_X5_readNumbers_5 a w k (e + 1) (x_up σ 12 0 e (((((V_X5_letterAt σ q) - 48) * 10) + (V_X5_letterAt σ (q + 1))) - 48)) (((q + 1) + 1) + 1)) else (-4)) else (if x_wr (V_X5_letterAt (x_up σ 12 0 e (((((V_X5_letterAt σ q) - 48) * 10) + (V_X5_letterAt σ (q + 1))) - 48)) ((q + 1) + 1)) = x_wr 44 then (RV_X5_readNumbers_5 a w k (e + 1) (x_up σ 12 0 e (((((V_X5_letterAt σ q) - 48) * 10) + (V_X5_letterAt σ (q + 1))) - 48)) (((q + 1) + 1) + 1)) else (-4)))))
def RS_X5_readNumbers_5 (a : Nat) (w : Nat) : Nat → Nat → xMi → Nat → xMi
  | 0, e, σ, q => σ
  | k + 1, e, σ, q => (if x_wr (V_X5_isFigure σ q) = 0 then σ else (if x_wr (V_X5_isFigure σ (q + 1)) = 0 then (if x_wr (e : Int) = x_wr ((w : Int) - 1) then (if x_wr (V_X5_letterAt (x_up σ 12 0 e ((V_X5_letterAt σ q) - 48)) (q + 1)) = x_wr 59 then (RS_X5_readNumbers_5 a w k (e + 1) (x_up σ 12 0 e ((V_X5_letterAt σ q) - 48)) ((q + 1) + 1)) else (x_up σ 12 0 e ((V_X5_letterAt σ q) - 48))) else (if x_wr (V_X5_letterAt (x_up σ 12 0 e ((V_X5_letterAt σ q) - 48)) (q + 1)) = x_wr 44 then (RS_X5_readNumbers_5 a w k (e + 1) (x_up σ 12 0 e ((V_X5_letterAt σ q) - 48)) ((q + 1) + 1)) else (x_up σ 12 0 e ((V_X5_letterAt σ q) - 48)))) else (if x_wr (e : Int) = x_wr ((w : Int) - 1) then (if x_wr (V_X5_letterAt (x_up σ 12 0 e (((((V_X5_letterAt σ q) - 48) * 10) + (V_X5_letterAt σ (q + 1))) - 48)) ((q + 1) + 1)) = x_wr 59 then (RS_X5_readNumbers_5 a w k (e + 1) (x_up σ 12 0 e (((((V_X5_letterAt σ q) - 48) * 10) + (V_X5_letterAt σ (q + 1))) - 48)) (((q + 1) + 1) + 1)) else (x_up σ 12 0 e (((((V_X5_letterAt σ q) - 48) * 10) + (V_X5_letterAt σ (q + 1))) - 48))) else (if x_wr (V_X5_letterAt (x_up σ 12 0 e (((((V_X5_letterAt σ q) - 48) * 10) + (V_X5_letterAt σ (q + 1))) - 48)) ((q + 1) + 1)) = x_wr 44 then (RS_X5_readNumbers_5 a w k (e + 1) (x_up σ 12 0 e (((((V_X5_letterAt σ q) - 48) * 10) + (V_X5_letterAt σ (q + 1))) - 48)) (((q + 1) + 1) + 1)) else (x_up σ 12 0 e (((((V_X5_letterAt σ q) - 48) * 10) + (V_X5_letterAt σ (q + 1))) - 48))))))
theorem fr_RS_X5_readNumbers_5 (a : Nat) (w : Nat) {t i k' : Nat} (h : ¬ (t = 12)) : ∀ (k p : Nat) (σ : xMi) (q : Nat), RS_X5_readNumbers_5 a w k p σ q t i k' = σ t i k' := by
  intro k
  induction k with
  | zero =>
    intro p σ q
    simp only [RS_X5_readNumbers_5]
    all_goals ((repeat' split) <;> simp (disch := first | omega | assumption) only [x_up_o, x_cp_o])
  | succ k ih =>
    intro p σ q
    simp only [RS_X5_readNumbers_5]
    all_goals (repeat' split)
    all_goals (first | rw [ih] | skip)
    all_goals first | done | simp (disch := first | omega | assumption) only [x_up_o, x_cp_o]
theorem lh_X5_readNumbers_5 (l : Launch) (n : Nat) (a : Nat) (w : Nat) (hn : 131 ≤ n) (ha : a ≤ 1000000) (hw : w ≤ 1000000) (hw4 : w ≤ 4) (ha5 : a ≤ 100000) : ∀ (k e : Nat) (σ : xMi) (q : Nat), e + k = w ∧ q + 10 * k ≤ 200000 → (∀ k, 0 ≤ σ 11 0 k ∧ σ 11 0 k < 65536) →  x_G l RX5 cX5_readNumbers 6 (some .int) 2 n (some (xI (RV_X5_readNumbers_5 a w k e σ q))) (RS_X5_readNumbers_5 a w k e σ q) 5 [(4, xI (e : Int)), (3, xI (q : Int)), (0, xR 10 0), (1, xI (a : Int)), (2, xI (w : Int))] [] σ := by
  intro k
  induction k with
  | zero =>
    intro e σ q hk hch
    refine g_iload dX5_readNumbers_5 rfl ?_
    refine g_iload_n dX5_readNumbers_7 rfl ?_
    refine g_cmp_ge 116 dX5_readNumbers_8 rfl (fun c_8 => ?_) (fun c_8 => absurd (by rw [x_nat (by omega), x_nat (by omega)]; omega) c_8)
    refine g_iload_n dX5_readNumbers_116 rfl ?_
    exact f_iret dX5_readNumbers_117 rfl rfl
  | succ k ih =>
    intro e σ q hk hch
    have he : e < 4 := by omega
    refine g_iload dX5_readNumbers_5 rfl ?_
    refine g_iload_n dX5_readNumbers_7 rfl ?_
    refine g_cmp_ge 116 dX5_readNumbers_8 rfl (fun c_8 => absurd c_8 (by rw [x_nat (by omega), x_nat (by omega)]; omega)) (fun c_8 => ?_)
    refine g_iload dX5_readNumbers_11 rfl ?_
    refine g_aload_n dX5_readNumbers_13 rfl ?_
    refine g_getR (t2 := 12) (i2 := 0) dX5_readNumbers_14 fl_X5_15 (x_vC hn (Nat.le_of_ble_eq_true rfl) (Nat.le_of_ble_eq_true rfl)) rfl rfl rfl ?_
    refine g_alen (v := 4) dX5_readNumbers_17 (x_vC hn (Nat.le_of_ble_eq_true rfl) (Nat.le_of_ble_eq_true rfl)) rfl rfl ?_
    refine g_cmp_ge 116 dX5_readNumbers_18 rfl (fun c_18 => absurd c_18 (by rw [x_nat (by omega), show x_wr 4 = 4 from by decide]; omega)) (fun c_18 => ?_)
    refine g_aload_n dX5_readNumbers_21 rfl ?_
    refine g_iload_n dX5_readNumbers_22 rfl ?_
    refine f_V dX5_readNumbers_23 cs_X5_48 mb_X5_isFigure (c_X5_isFigure l n _ q hn (by omega) hch) rfl (x_vC hn (Nat.le_of_ble_eq_true rfl) (Nat.le_of_ble_eq_true rfl)) rfl rfl rfl (Nat.le_of_ble_eq_true rfl) (by decide) (Nat.le_of_ble_eq_true rfl) (Nat.le_refl _) (Nat.le_refl _) ?_
    refine g_if_ne 32 dX5_readNumbers_26 rfl (fun c_26 => ?_) (fun c_26 => ?_)
    · refine g_aload_n dX5_readNumbers_32 rfl ?_
      refine g_iload_n dX5_readNumbers_33 rfl ?_
      refine f_V dX5_readNumbers_34 cs_X5_32 mb_X5_letterAt (c_X5_letterAt l n _ q hn (by omega) hch) rfl (x_vC hn (Nat.le_of_ble_eq_true rfl) (Nat.le_of_ble_eq_true rfl)) rfl rfl rfl (Nat.le_of_ble_eq_true rfl) (by decide) (Nat.le_of_ble_eq_true rfl) (Nat.le_refl _) (Nat.le_refl _) ?_
      refine g_bipush dX5_readNumbers_37 (by decide) ?_
      refine g_isub dX5_readNumbers_39 ?_
      refine g_istore (lv' := [_, _, _, _, _, _]) dX5_readNumbers_40 (Nat.le_of_ble_eq_true rfl) rfl ?_
      refine g_iinc (lv' := [(3, xI (((q + 1) : Nat) : Int)), _, _, _, _, _]) dX5_readNumbers_42 (Nat.le_of_ble_eq_true rfl) rfl rfl ?_
      refine g_aload_n dX5_readNumbers_45 rfl ?_
      refine g_iload_n dX5_readNumbers_46 rfl ?_
      refine f_V dX5_readNumbers_47 cs_X5_48 mb_X5_isFigure (c_X5_isFigure l n _ (q + 1) hn (by omega) hch) rfl (x_vC hn (Nat.le_of_ble_eq_true rfl) (Nat.le_of_ble_eq_true rfl)) rfl rfl rfl (Nat.le_of_ble_eq_true rfl) (by decide) (Nat.le_of_ble_eq_true rfl) (Nat.le_refl _) (Nat.le_refl _) ?_
      refine g_if_eq 72 dX5_readNumbers_50 rfl (fun c_50 => ?_) (fun c_50 => ?_)
      · refine g_aload_n dX5_readNumbers_72 rfl ?_
        refine g_getR (t2 := 12) (i2 := 0) dX5_readNumbers_73 fl_X5_15 (x_vC hn (Nat.le_of_ble_eq_true rfl) (Nat.le_of_ble_eq_true rfl)) rfl rfl rfl ?_
        refine g_iload dX5_readNumbers_76 rfl ?_
        refine g_iload dX5_readNumbers_78 rfl ?_
        refine g_iast e dX5_readNumbers_80 rfl he (x_vC hn (Nat.le_of_ble_eq_true rfl) (Nat.le_of_ble_eq_true rfl)) rfl ?_
        refine g_aload_n dX5_readNumbers_81 rfl ?_
        refine g_iload_n dX5_readNumbers_82 rfl ?_
        refine f_V dX5_readNumbers_83 cs_X5_32 mb_X5_letterAt (c_X5_letterAt l n _ (q + 1) hn (by omega) (by first | exact hch | (simp (disch := first | omega | assumption) only [x_up_o, x_cp_o]; exact hch))) rfl (x_vC hn (Nat.le_of_ble_eq_true rfl) (Nat.le_of_ble_eq_true rfl)) rfl rfl rfl (Nat.le_of_ble_eq_true rfl) (by decide) (Nat.le_of_ble_eq_true rfl) (Nat.le_refl _) (Nat.le_refl _) ?_
        refine g_iload dX5_readNumbers_86 rfl ?_
        refine g_iload_n dX5_readNumbers_88 rfl ?_
        refine g_iconst dX5_readNumbers_89 ?_
        refine g_isub dX5_readNumbers_90 ?_
        refine g_cmp_ne 99 dX5_readNumbers_91 rfl (fun c_91 => ?_) (fun c_91 => ?_)
        · refine g_bipush dX5_readNumbers_99 (by decide) ?_
          refine g_cmp_eq 107 dX5_readNumbers_101 rfl (fun c_101 => ?_) (fun c_101 => ?_)
          · refine g_iinc (lv' := [(3, xI ((((q + 1) + 1) : Nat) : Int)), _, _, _, _, _]) dX5_readNumbers_107 (Nat.le_of_ble_eq_true rfl) rfl rfl ?_
            refine g_iinc (lv' := [(4, xI (((e + 1) : Nat) : Int)), _, _, _, _, _]) dX5_readNumbers_110 (Nat.le_of_ble_eq_true rfl) rfl rfl ?_
            refine g_goto 5 dX5_readNumbers_113 rfl ?_
            refine g_sub (lv2 := [(4, xI (((e + 1) : Nat) : Int)), (3, xI ((((q + 1) + 1) : Nat) : Int)), _, _, _]) [0, 1, 3, 4, 5] rfl ?_
            exact f_cv (by rw [RV_X5_readNumbers_5, if_neg c_26, if_pos c_50, if_neg c_91, if_pos c_101]) (by rw [RS_X5_readNumbers_5, if_neg c_26, if_pos c_50, if_neg c_91, if_pos c_101]) (ih (e + 1) _ ((q + 1) + 1) (by omega) (by first | exact hch | (simp (disch := omega) only [x_up_o, x_cp_o]; exact hch) | (simp (disch := first | omega | assumption) only [x_up_o, x_cp_o]; exact hch)))
          · refine g_bipush dX5_readNumbers_104 (by decide) ?_
            exact f_iret dX5_readNumbers_106 (by rw [RV_X5_readNumbers_5, if_neg c_26, if_pos c_50, if_neg c_91, if_neg c_101]) (by rw [RS_X5_readNumbers_5, if_neg c_26, if_pos c_50, if_neg c_91, if_neg c_101])
        · refine g_bipush dX5_readNumbers_94 (by decide) ?_
          refine g_goto 101 dX5_readNumbers_96 rfl ?_
          refine g_cmp_eq 107 dX5_readNumbers_101 rfl (fun c_101 => ?_) (fun c_101 => ?_)
          · refine g_iinc (lv' := [(3, xI ((((q + 1) + 1) : Nat) : Int)), _, _, _, _, _]) dX5_readNumbers_107 (Nat.le_of_ble_eq_true rfl) rfl rfl ?_
            refine g_iinc (lv' := [(4, xI (((e + 1) : Nat) : Int)), _, _, _, _, _]) dX5_readNumbers_110 (Nat.le_of_ble_eq_true rfl) rfl rfl ?_
            refine g_goto 5 dX5_readNumbers_113 rfl ?_
            refine g_sub (lv2 := [(4, xI (((e + 1) : Nat) : Int)), (3, xI ((((q + 1) + 1) : Nat) : Int)), _, _, _]) [0, 1, 3, 4, 5] rfl ?_
            exact f_cv (by rw [RV_X5_readNumbers_5, if_neg c_26, if_pos c_50, if_pos c_91, if_pos c_101]) (by rw [RS_X5_readNumbers_5, if_neg c_26, if_pos c_50, if_pos c_91, if_pos c_101]) (ih (e + 1) _ ((q + 1) + 1) (by omega) (by first | exact hch | (simp (disch := omega) only [x_up_o, x_cp_o]; exact hch) | (simp (disch := first | omega | assumption) only [x_up_o, x_cp_o]; exact hch)))
          · refine g_bipush dX5_readNumbers_104 (by decide) ?_
            exact f_iret dX5_readNumbers_106 (by rw [RV_X5_readNumbers_5, if_neg c_26, if_pos c_50, if_pos c_91, if_neg c_101]) (by rw [RS_X5_readNumbers_5, if_neg c_26, if_pos c_50, if_pos c_91, if_neg c_101])
      · refine g_iload dX5_readNumbers_53 rfl ?_
        refine g_bipush dX5_readNumbers_55 (by decide) ?_
        refine g_imul dX5_readNumbers_57 ?_
        refine g_aload_n dX5_readNumbers_58 rfl ?_
        refine g_iload_n dX5_readNumbers_59 rfl ?_
        refine f_V dX5_readNumbers_60 cs_X5_32 mb_X5_letterAt (c_X5_letterAt l n _ (q + 1) hn (by omega) hch) rfl (x_vC hn (Nat.le_of_ble_eq_true rfl) (Nat.le_of_ble_eq_true rfl)) rfl rfl rfl (Nat.le_of_ble_eq_true rfl) (by decide) (Nat.le_of_ble_eq_true rfl) (Nat.le_refl _) (Nat.le_refl _) ?_
        refine g_iadd dX5_readNumbers_63 ?_
        refine g_bipush dX5_readNumbers_64 (by decide) ?_
        refine g_isub dX5_readNumbers_66 ?_
        refine g_istore (lv' := [_, _, _, _, _, _]) dX5_readNumbers_67 (Nat.le_of_ble_eq_true rfl) rfl ?_
        refine g_iinc (lv' := [(3, xI ((((q + 1) + 1) : Nat) : Int)), _, _, _, _, _]) dX5_readNumbers_69 (Nat.le_of_ble_eq_true rfl) rfl rfl ?_
        refine g_aload_n dX5_readNumbers_72 rfl ?_
        refine g_getR (t2 := 12) (i2 := 0) dX5_readNumbers_73 fl_X5_15 (x_vC hn (Nat.le_of_ble_eq_true rfl) (Nat.le_of_ble_eq_true rfl)) rfl rfl rfl ?_
        refine g_iload dX5_readNumbers_76 rfl ?_
        refine g_iload dX5_readNumbers_78 rfl ?_
        refine g_iast e dX5_readNumbers_80 rfl he (x_vC hn (Nat.le_of_ble_eq_true rfl) (Nat.le_of_ble_eq_true rfl)) rfl ?_
        refine g_aload_n dX5_readNumbers_81 rfl ?_
        refine g_iload_n dX5_readNumbers_82 rfl ?_
        refine f_V dX5_readNumbers_83 cs_X5_32 mb_X5_letterAt (c_X5_letterAt l n _ ((q + 1) + 1) hn (by omega) (by first | exact hch | (simp (disch := first | omega | assumption) only [x_up_o, x_cp_o]; exact hch))) rfl (x_vC hn (Nat.le_of_ble_eq_true rfl) (Nat.le_of_ble_eq_true rfl)) rfl rfl rfl (Nat.le_of_ble_eq_true rfl) (by decide) (Nat.le_of_ble_eq_true rfl) (Nat.le_refl _) (Nat.le_refl _) ?_
        refine g_iload dX5_readNumbers_86 rfl ?_
        refine g_iload_n dX5_readNumbers_88 rfl ?_
        refine g_iconst dX5_readNumbers_89 ?_
        refine g_isub dX5_readNumbers_90 ?_
        refine g_cmp_ne 99 dX5_readNumbers_91 rfl (fun c_91 => ?_) (fun c_91 => ?_)
        · refine g_bipush dX5_readNumbers_99 (by decide) ?_
          refine g_cmp_eq 107 dX5_readNumbers_101 rfl (fun c_101 => ?_) (fun c_101 => ?_)
          · refine g_iinc (lv' := [(3, xI (((((q + 1) + 1) + 1) : Nat) : Int)), _, _, _, _, _]) dX5_readNumbers_107 (Nat.le_of_ble_eq_true rfl) rfl rfl ?_
            refine g_iinc (lv' := [(4, xI (((e + 1) : Nat) : Int)), _, _, _, _, _]) dX5_readNumbers_110 (Nat.le_of_ble_eq_true rfl) rfl rfl ?_
            refine g_goto 5 dX5_readNumbers_113 rfl ?_
            refine g_sub (lv2 := [(4, xI (((e + 1) : Nat) : Int)), (3, xI (((((q + 1) + 1) + 1) : Nat) : Int)), _, _, _]) [0, 1, 3, 4, 5] rfl ?_
            exact f_cv (by rw [RV_X5_readNumbers_5, if_neg c_26, if_neg c_50, if_neg c_91, if_pos c_101]) (by rw [RS_X5_readNumbers_5, if_neg c_26, if_neg c_50, if_neg c_91, if_pos c_101]) (ih (e + 1) _ (((q + 1) + 1) + 1) (by omega) (by first | exact hch | (simp (disch := omega) only [x_up_o, x_cp_o]; exact hch) | (simp (disch := first | omega | assumption) only [x_up_o, x_cp_o]; exact hch)))
          · refine g_bipush dX5_readNumbers_104 (by decide) ?_
            exact f_iret dX5_readNumbers_106 (by rw [RV_X5_readNumbers_5, if_neg c_26, if_neg c_50, if_neg c_91, if_neg c_101]) (by rw [RS_X5_readNumbers_5, if_neg c_26, if_neg c_50, if_neg c_91, if_neg c_101])
        · refine g_bipush dX5_readNumbers_94 (by decide) ?_
          refine g_goto 101 dX5_readNumbers_96 rfl ?_
          refine g_cmp_eq 107 dX5_readNumbers_101 rfl (fun c_101 => ?_) (fun c_101 => ?_)
          · refine g_iinc (lv' := [(3, xI (((((q + 1) + 1) + 1) : Nat) : Int)), _, _, _, _, _]) dX5_readNumbers_107 (Nat.le_of_ble_eq_true rfl) rfl rfl ?_
            refine g_iinc (lv' := [(4, xI (((e + 1) : Nat) : Int)), _, _, _, _, _]) dX5_readNumbers_110 (Nat.le_of_ble_eq_true rfl) rfl rfl ?_
            refine g_goto 5 dX5_readNumbers_113 rfl ?_
            refine g_sub (lv2 := [(4, xI (((e + 1) : Nat) : Int)), (3, xI (((((q + 1) + 1) + 1) : Nat) : Int)), _, _, _]) [0, 1, 3, 4, 5] rfl ?_
            exact f_cv (by rw [RV_X5_readNumbers_5, if_neg c_26, if_neg c_50, if_pos c_91, if_pos c_101]) (by rw [RS_X5_readNumbers_5, if_neg c_26, if_neg c_50, if_pos c_91, if_pos c_101]) (ih (e + 1) _ (((q + 1) + 1) + 1) (by omega) (by first | exact hch | (simp (disch := omega) only [x_up_o, x_cp_o]; exact hch) | (simp (disch := first | omega | assumption) only [x_up_o, x_cp_o]; exact hch)))
          · refine g_bipush dX5_readNumbers_104 (by decide) ?_
            exact f_iret dX5_readNumbers_106 (by rw [RV_X5_readNumbers_5, if_neg c_26, if_neg c_50, if_pos c_91, if_neg c_101]) (by rw [RS_X5_readNumbers_5, if_neg c_26, if_neg c_50, if_pos c_91, if_neg c_101])
    · refine g_bipush dX5_readNumbers_29 (by decide) ?_
      exact f_iret dX5_readNumbers_31 (by rw [RV_X5_readNumbers_5, if_pos c_26]) (by rw [RS_X5_readNumbers_5, if_pos c_26])
def V_X5_readNumbers (σ : xMi) (a : Nat) (w : Nat) : Int := (RV_X5_readNumbers_5 a w w 0 σ a)
def S_X5_readNumbers (σ : xMi) (a : Nat) (w : Nat) : xMi := (RS_X5_readNumbers_5 a w w 0 σ a)
theorem fr_S_X5_readNumbers (σ : xMi) (a : Nat) (w : Nat) {t i k : Nat} (h : ¬ (t = 12)) : S_X5_readNumbers σ a w t i k = σ t i k := by
  unfold S_X5_readNumbers
  all_goals ((repeat' split) <;> first | rfl | simp (disch := first | omega | assumption) only [x_up_o, x_cp_o, fr_RS_X5_readNumbers_5])
theorem c_X5_readNumbers (l : Launch) (n : Nat) (σ : xMi) (a : Nat) (w : Nat) (hn : 131 ≤ n) (ha : a ≤ 1000000) (hw : w ≤ 1000000) (hw4 : w ≤ 4) (ha5 : a ≤ 100000) (hch : ∀ k, 0 ≤ σ 11 0 k ∧ σ 11 0 k < 65536) : x_F l yX5_readNumbers RX5 cX5_readNumbers 6 (some .int) 2 n σ [xR 10 0, xI (a : Int), xI (w : Int)] (some (xI (V_X5_readNumbers σ a w))) (S_X5_readNumbers σ a w) := by
  refine f_of (by decide) rfl (Nat.le_of_ble_eq_true rfl) rfl ?_
  refine g_iload_n dX5_readNumbers_0 rfl ?_
  refine g_istore_n (lv' := [_, _, _, _]) dX5_readNumbers_1 (Nat.le_of_ble_eq_true rfl) rfl ?_
  refine g_iconst dX5_readNumbers_2 ?_
  refine g_istore (lv' := [_, _, _, _, _]) dX5_readNumbers_3 (Nat.le_of_ble_eq_true rfl) rfl ?_
  refine g_sub (lv2 := [(4, xI ((0 : Nat) : Int)), (3, xI ((a : Nat) : Int)), _, _, _]) [0, 1, 2, 3, 4] rfl ?_
  exact f_cv rfl rfl (lh_X5_readNumbers_5 l n a w hn ha hw hw4 ha5 w 0 _ a (by omega) hch)

theorem b_X5_RV (a w : Nat) : ∀ (k e : Nat) (σ : xMi) (q : Nat), -4 ≤ RV_X5_readNumbers_5 a w k e σ q ∧ RV_X5_readNumbers_5 a w k e σ q ≤ q + 3 * k := by
  intro k
  induction k with
  | zero => intro e σ q; simp only [RV_X5_readNumbers_5]; omega
  | succ k ih =>
    intro e σ q
    simp only [RV_X5_readNumbers_5]
    (repeat' split) <;> first | omega | (refine ⟨(ih _ _ _).1, Int.le_trans (ih _ _ _).2 ?_⟩; omega)
theorem b_X5_readNumbers (σ : xMi) (a w : Nat) : -4 ≤ V_X5_readNumbers σ a w ∧ V_X5_readNumbers σ a w ≤ a + 3 * w := b_X5_RV a w w 0 σ a
def V_X5_readItem (σ : xMi) (a : Nat) (r : Nat) : Int := (if x_wr (V_X5_letterAt σ a) = x_wr 112 then (if x_wr (V_X5_letterAt σ a) = x_wr 112 then (if 0 ≤ x_wr (V_X5_readNumbers σ (a + 1) 4) then (if x_wr (V_X5_letterAt σ a) = x_wr 112 then (if x_wr (V_X3_addPerson (S_X5_readNumbers σ (a + 1) 4) r ((S_X5_readNumbers σ (a + 1) 4) 12 0 0) ((S_X5_readNumbers σ (a + 1) 4) 12 0 1) ((S_X5_readNumbers σ (a + 1) 4) 12 0 2) ((S_X5_readNumbers σ (a + 1) 4) 12 0 3) (σ 5 r 4).toNat) = 0 then (-4) else (V_X5_readNumbers σ (a + 1) 4)) else (if x_wr (V_X3_setStock (S_X5_readNumbers σ (a + 1) 4) r ((S_X5_readNumbers σ (a + 1) 4) 12 0 0)) = 0 then (-4) else (V_X5_readNumbers σ (a + 1) 4))) else (-4)) else (if 0 ≤ x_wr (V_X5_readNumbers σ (a + 1) 1) then (if x_wr (V_X5_letterAt σ a) = x_wr 112 then (if x_wr (V_X3_addPerson (S_X5_readNumbers σ (a + 1) 1) r ((S_X5_readNumbers σ (a + 1) 1) 12 0 0) ((S_X5_readNumbers σ (a + 1) 1) 12 0 1) ((S_X5_readNumbers σ (a + 1) 1) 12 0 2) ((S_X5_readNumbers σ (a + 1) 1) 12 0 3) (σ 5 r 4).toNat) = 0 then (-4) else (V_X5_readNumbers σ (a + 1) 1)) else (if x_wr (V_X3_setStock (S_X5_readNumbers σ (a + 1) 1) r ((S_X5_readNumbers σ (a + 1) 1) 12 0 0)) = 0 then (-4) else (V_X5_readNumbers σ (a + 1) 1))) else (-4))) else (if x_wr (V_X5_letterAt σ a) = x_wr 104 then (if x_wr (V_X5_letterAt σ a) = x_wr 112 then (if 0 ≤ x_wr (V_X5_readNumbers σ (a + 1) 4) then (if x_wr (V_X5_letterAt σ a) = x_wr 112 then (if x_wr (V_X3_addPerson (S_X5_readNumbers σ (a + 1) 4) r ((S_X5_readNumbers σ (a + 1) 4) 12 0 0) ((S_X5_readNumbers σ (a + 1) 4) 12 0 1) ((S_X5_readNumbers σ (a + 1) 4) 12 0 2) ((S_X5_readNumbers σ (a + 1) 4) 12 0 3) (σ 5 r 4).toNat) = 0 then (-4) else (V_X5_readNumbers σ (a + 1) 4)) else (if x_wr (V_X3_setStock (S_X5_readNumbers σ (a + 1) 4) r ((S_X5_readNumbers σ (a + 1) 4) 12 0 0)) = 0 then (-4) else (V_X5_readNumbers σ (a + 1) 4))) else (-4)) else (if 0 ≤ x_wr (V_X5_readNumbers σ (a + 1) 1) then (if x_wr (V_X5_letterAt σ a) = x_wr 112 then (if x_wr (V_X3_addPerson (S_X5_readNumbers σ (a + 1) 1) r ((S_X5_readNumbers σ (a + 1) 1) 12 0 0) ((S_X5_readNumbers σ (a + 1) 1) 12 0 1) ((S_X5_readNumbers σ (a + 1) 1) 12 0 2) ((S_X5_readNumbers σ (a + 1) 1) 12 0 3) (σ 5 r 4).toNat) = 0 then (-4) else (V_X5_readNumbers σ (a + 1) 1)) else (if x_wr (V_X3_setStock (S_X5_readNumbers σ (a + 1) 1) r ((S_X5_readNumbers σ (a + 1) 1) 12 0 0)) = 0 then (-4) else (V_X5_readNumbers σ (a + 1) 1))) else (-4))) else (-4)))
def S_X5_readItem (σ : xMi) (a : Nat) (r : Nat) : xMi := (if x_wr (V_X5_letterAt σ a) = x_wr 112 then (if x_wr (V_X5_letterAt σ a) = x_wr 112 then (if 0 ≤ x_wr (V_X5_readNumbers σ (a + 1) 4) then (if x_wr (V_X5_letterAt σ a) = x_wr 112 then (if x_wr (V_X3_addPerson (S_X5_readNumbers σ (a + 1) 4) r ((S_X5_readNumbers σ (a + 1) 4) 12 0 0) ((S_X5_readNumbers σ (a + 1) 4) 12 0 1) ((S_X5_readNumbers σ (a + 1) 4) 12 0 2) ((S_X5_readNumbers σ (a + 1) 4) 12 0 3) (σ 5 r 4).toNat) = 0 then (S_X3_addPerson (S_X5_readNumbers σ (a + 1) 4) r ((S_X5_readNumbers σ (a + 1) 4) 12 0 0) ((S_X5_readNumbers σ (a + 1) 4) 12 0 1) ((S_X5_readNumbers σ (a + 1) 4) 12 0 2) ((S_X5_readNumbers σ (a + 1) 4) 12 0 3) (σ 5 r 4).toNat) else (S_X3_addPerson (S_X5_readNumbers σ (a + 1) 4) r ((S_X5_readNumbers σ (a + 1) 4) 12 0 0) ((S_X5_readNumbers σ (a + 1) 4) 12 0 1) ((S_X5_readNumbers σ (a + 1) 4) 12 0 2) ((S_X5_readNumbers σ (a + 1) 4) 12 0 3) (σ 5 r 4).toNat)) else (if x_wr (V_X3_setStock (S_X5_readNumbers σ (a + 1) 4) r ((S_X5_readNumbers σ (a + 1) 4) 12 0 0)) = 0 then (S_X3_setStock (S_X5_readNumbers σ (a + 1) 4) r ((S_X5_readNumbers σ (a + 1) 4) 12 0 0)) else (S_X3_setStock (S_X5_readNumbers σ (a + 1) 4) r ((S_X5_readNumbers σ (a + 1) 4) 12 0 0)))) else (S_X5_readNumbers σ (a + 1) 4)) else (if 0 ≤ x_wr (V_X5_readNumbers σ (a + 1) 1) then (if x_wr (V_X5_letterAt σ a) = x_wr 112 then (if x_wr (V_X3_addPerson (S_X5_readNumbers σ (a + 1) 1) r ((S_X5_readNumbers σ (a + 1) 1) 12 0 0) ((S_X5_readNumbers σ (a + 1) 1) 12 0 1) ((S_X5_readNumbers σ (a + 1) 1) 12 0 2) ((S_X5_readNumbers σ (a + 1) 1) 12 0 3) (σ 5 r 4).toNat) = 0 then (S_X3_addPerson (S_X5_readNumbers σ (a + 1) 1) r ((S_X5_readNumbers σ (a + 1) 1) 12 0 0) ((S_X5_readNumbers σ (a + 1) 1) 12 0 1) ((S_X5_readNumbers σ (a + 1) 1) 12 0 2) ((S_X5_readNumbers σ (a + 1) 1) 12 0 3) (σ 5 r 4).toNat) else (S_X3_addPerson (S_X5_readNumbers σ (a + 1) 1) r ((S_X5_readNumbers σ (a + 1) 1) 12 0 0) ((S_X5_readNumbers σ (a + 1) 1) 12 0 1) ((S_X5_readNumbers σ (a + 1) 1) 12 0 2) ((S_X5_readNumbers σ (a + 1) 1) 12 0 3) (σ 5 r 4).toNat)) else (if x_wr (V_X3_setStock (S_X5_readNumbers σ (a + 1) 1) r ((S_X5_readNumbers σ (a + 1) 1) 12 0 0)) = 0 then (S_X3_setStock (S_X5_readNumbers σ (a + 1) 1) r ((S_X5_readNumbers σ (a + 1) 1) 12 0 0)) else (S_X3_setStock (S_X5_readNumbers σ (a + 1) 1) r ((S_X5_readNumbers σ (a + 1) 1) 12 0 0)))) else (S_X5_readNumbers σ (a + 1) 1))) else (if x_wr (V_X5_letterAt σ a) = x_wr 104 then (if x_wr (V_X5_letterAt σ a) = x_wr 112 then (if 0 ≤ x_wr (V_X5_readNumbers σ (a + 1) 4) then (if x_wr (V_X5_letterAt σ a) = x_wr 112 then (if x_wr (V_X3_addPerson (S_X5_readNumbers σ (a + 1) 4) r ((S_X5_readNumbers σ (a + 1) 4) 12 0 0) ((S_X5_readNumbers σ (a + 1) 4) 12 0 1) ((S_X5_readNumbers σ (a + 1) 4) 12 0 2) ((S_X5_readNumbers σ (a + 1) 4) 12 0 3) (σ 5 r 4).toNat) = 0 then (S_X3_addPerson (S_X5_readNumbers σ (a + 1) 4) r ((S_X5_readNumbers σ (a + 1) 4) 12 0 0) ((S_X5_readNumbers σ (a + 1) 4) 12 0 1) ((S_X5_readNumbers σ (a + 1) 4) 12 0 2) ((S_X5_readNumbers σ (a + 1) 4) 12 0 3) (σ 5 r 4).toNat) else (S_X3_addPerson (S_X5_readNumbers σ (a + 1) 4) r ((S_X5_readNumbers σ (a + 1) 4) 12 0 0) ((S_X5_readNumbers σ (a + 1) 4) 12 0 1) ((S_X5_readNumbers σ (a + 1) 4) 12 0 2) ((S_X5_readNumbers σ (a + 1) 4) 12 0 3) (σ 5 r 4).toNat)) else (if x_wr (V_X3_setStock (S_X5_readNumbers σ (a + 1) 4) r ((S_X5_readNumbers σ (a + 1) 4) 12 0 0)) = 0 then (S_X3_setStock (S_X5_readNumbers σ (a + 1) 4) r ((S_X5_readNumbers σ (a + 1) 4) 12 0 0)) else (S_X3_setStock (S_X5_readNumbers σ (a + 1) 4) r ((S_X5_readNumbers σ (a + 1) 4) 12 0 0)))) else (S_X5_readNumbers σ (a + 1) 4)) else (if 0 ≤ x_wr (V_X5_readNumbers σ (a + 1) 1) then (if x_wr (V_X5_letterAt σ a) = x_wr 112 then (if x_wr (V_X3_addPerson (S_X5_readNumbers σ (a + 1) 1) r ((S_X5_readNumbers σ (a + 1) 1) 12 0 0) ((S_X5_readNumbers σ (a + 1) 1) 12 0 1) ((S_X5_readNumbers σ (a + 1) 1) 12 0 2) ((S_X5_readNumbers σ (a + 1) 1) 12 0 3) (σ 5 r 4).toNat) = 0 then (S_X3_addPerson (S_X5_readNumbers σ (a + 1) 1) r ((S_X5_readNumbers σ (a + 1) 1) 12 0 0) ((S_X5_readNumbers σ (a + 1) 1) 12 0 1) ((S_X5_readNumbers σ (a + 1) 1) 12 0 2) ((S_X5_readNumbers σ (a + 1) 1) 12 0 3) (σ 5 r 4).toNat) else (S_X3_addPerson (S_X5_readNumbers σ (a + 1) 1) r ((S_X5_readNumbers σ (a + 1) 1) 12 0 0) ((S_X5_readNumbers σ (a + 1) 1) 12 0 1) ((S_X5_readNumbers σ (a + 1) 1) 12 0 2) ((S_X5_readNumbers σ (a + 1) 1) 12 0 3) (σ 5 r 4).toNat)) else (if x_wr (V_X3_setStock (S_X5_readNumbers σ (a + 1) 1) r ((S_X5_readNumbers σ (a + 1) 1) 12 0 0)) = 0 then (S_X3_setStock (S_X5_readNumbers σ (a + 1) 1) r ((S_X5_readNumbers σ (a + 1) 1) 12 0 0)) else (S_X3_setStock (S_X5_readNumbers σ (a + 1) 1) r ((S_X5_readNumbers σ (a + 1) 1) 12 0 0)))) else (S_X5_readNumbers σ (a + 1) 1))) else σ))
theorem fr_S_X5_readItem (σ : xMi) (a : Nat) (r : Nat) {t i k : Nat} (h : ¬ (t = 12 ∨ (5 ≤ t ∧ t ≤ 9 ∧ i = r))) : S_X5_readItem σ a r t i k = σ t i k := by
  unfold S_X5_readItem
  all_goals ((repeat' split) <;> first | rfl | simp (disch := first | omega | assumption) only [x_up_o, x_cp_o, fr_S_X3_addPerson, fr_S_X3_setStock, fr_S_X5_readNumbers])
theorem c_X5_readItem (l : Launch) (n : Nat) (σ : xMi) (a : Nat) (r : Nat) (hn : 131 ≤ n) (ha : a ≤ 1000000) (hr : r < 3) (ha5 : a ≤ 90000) (hch : ∀ k, 0 ≤ σ 11 0 k ∧ σ 11 0 k < 65536) (hz : 0 ≤ σ 5 r 4 ∧ σ 5 r 4 ≤ 6) : x_F l yX5_readItem RX5 cX5_readItem 6 (some .int) 3 n σ [xR 10 0, xI (a : Int), xR 5 r] (some (xI (V_X5_readItem σ a r))) (S_X5_readItem σ a r) := by
  refine f_of (by decide) rfl (Nat.le_of_ble_eq_true rfl) rfl ?_
  refine g_aload_n dX5_readItem_0 rfl ?_
  refine g_iload_n dX5_readItem_1 rfl ?_
  refine f_V dX5_readItem_2 cs_X5_32 mb_X5_letterAt (c_X5_letterAt l n _ a hn ha hch) rfl (x_vC hn (Nat.le_of_ble_eq_true rfl) (Nat.le_of_ble_eq_true rfl)) rfl rfl rfl (Nat.le_of_ble_eq_true rfl) (by decide) (Nat.le_of_ble_eq_true rfl) (Nat.le_refl _) (Nat.le_refl _) ?_
  refine g_istore_n (lv' := [_, _, _, _]) dX5_readItem_5 (Nat.le_of_ble_eq_true rfl) rfl ?_
  refine g_iload_n dX5_readItem_6 rfl ?_
  refine g_bipush dX5_readItem_7 (by decide) ?_
  refine g_cmp_eq 21 dX5_readItem_9 rfl (fun c_9 => ?_) (fun c_9 => ?_)
  · refine g_aload_n dX5_readItem_21 rfl ?_
    refine g_iload_n dX5_readItem_22 rfl ?_
    refine g_iconst dX5_readItem_23 ?_
    refine g_iadd dX5_readItem_24 ?_
    refine g_eqI ((a + 1 : Nat) : Int) rfl ?_
    refine g_iload_n dX5_readItem_25 rfl ?_
    refine g_bipush dX5_readItem_26 (by decide) ?_
    refine g_cmp_ne 35 dX5_readItem_28 rfl (fun c_28 => ?_) (fun c_28 => ?_)
    · refine g_iconst dX5_readItem_35 ?_
      refine f_V dX5_readItem_36 cs_X5_36 mb_X5_readNumbers (c_X5_readNumbers l n _ (a + 1) 1 hn (by omega) (Nat.le_of_ble_eq_true rfl) (by decide) (by omega) hch) rfl (x_vC hn (Nat.le_of_ble_eq_true rfl) (Nat.le_of_ble_eq_true rfl)) rfl rfl rfl (Nat.le_of_ble_eq_true rfl) (by decide) (Nat.le_of_ble_eq_true rfl) (Nat.le_refl _) (Nat.le_refl _) ?_
      refine g_istore (lv' := [_, _, _, _, _]) dX5_readItem_39 (Nat.le_of_ble_eq_true rfl) rfl ?_
      refine g_iload dX5_readItem_41 rfl ?_
      refine g_if_ge 49 dX5_readItem_43 rfl (fun c_43 => ?_) (fun c_43 => ?_)
      · refine g_iload_n dX5_readItem_49 rfl ?_
        refine g_bipush dX5_readItem_50 (by decide) ?_
        refine g_cmp_ne 86 dX5_readItem_52 rfl (fun c_52 => ?_) (fun c_52 => ?_)
        · refine g_aload_n dX5_readItem_86 rfl ?_
          refine g_aload_n dX5_readItem_87 rfl ?_
          refine g_getR (t2 := 12) (i2 := 0) dX5_readItem_88 fl_X5_15 (x_vC hn (Nat.le_of_ble_eq_true rfl) (Nat.le_of_ble_eq_true rfl)) rfl rfl rfl ?_
          refine g_iconst dX5_readItem_91 ?_
          refine g_iald 0 dX5_readItem_92 rfl (Nat.le_of_ble_eq_true rfl) (x_vC hn (Nat.le_of_ble_eq_true rfl) (Nat.le_of_ble_eq_true rfl)) rfl ?_
          refine f_V dX5_readItem_93 cs_X5_44 mb_X3_setStock (c_X3_setStock l n _ r ((S_X5_readNumbers σ (a + 1) 1) 12 0 0) hn hr) rfl (x_vC hn (Nat.le_of_ble_eq_true rfl) hr) rfl rfl rfl (Nat.le_of_ble_eq_true rfl) (by decide) (Nat.le_of_ble_eq_true rfl) (Nat.le_refl _) (Nat.le_refl _) ?_
          refine g_istore (lv' := [_, _, _, _, _, _]) dX5_readItem_96 (Nat.le_of_ble_eq_true rfl) rfl ?_
          refine g_iload dX5_readItem_98 rfl ?_
          refine g_if_eq 108 dX5_readItem_100 rfl (fun c_100 => ?_) (fun c_100 => ?_)
          · refine g_bipush dX5_readItem_108 (by decide) ?_
            exact f_iret dX5_readItem_110 (by rw [V_X5_readItem, if_pos c_9, if_neg c_28, if_pos c_43, if_neg c_52, if_pos c_100]) (by rw [S_X5_readItem, if_pos c_9, if_neg c_28, if_pos c_43, if_neg c_52, if_pos c_100])
          · refine g_iload dX5_readItem_103 rfl ?_
            refine g_goto 110 dX5_readItem_105 rfl ?_
            exact f_iret dX5_readItem_110 (by rw [V_X5_readItem, if_pos c_9, if_neg c_28, if_pos c_43, if_neg c_52, if_neg c_100]) (by rw [S_X5_readItem, if_pos c_9, if_neg c_28, if_pos c_43, if_neg c_52, if_neg c_100])
        · refine g_aload_n dX5_readItem_55 rfl ?_
          refine g_aload_n dX5_readItem_56 rfl ?_
          refine g_getR (t2 := 12) (i2 := 0) dX5_readItem_57 fl_X5_15 (x_vC hn (Nat.le_of_ble_eq_true rfl) (Nat.le_of_ble_eq_true rfl)) rfl rfl rfl ?_
          refine g_iconst dX5_readItem_60 ?_
          refine g_iald 0 dX5_readItem_61 rfl (Nat.le_of_ble_eq_true rfl) (x_vC hn (Nat.le_of_ble_eq_true rfl) (Nat.le_of_ble_eq_true rfl)) rfl ?_
          refine g_aload_n dX5_readItem_62 rfl ?_
          refine g_getR (t2 := 12) (i2 := 0) dX5_readItem_63 fl_X5_15 (x_vC hn (Nat.le_of_ble_eq_true rfl) (Nat.le_of_ble_eq_true rfl)) rfl rfl rfl ?_
          refine g_iconst dX5_readItem_66 ?_
          refine g_iald 1 dX5_readItem_67 rfl (Nat.le_of_ble_eq_true rfl) (x_vC hn (Nat.le_of_ble_eq_true rfl) (Nat.le_of_ble_eq_true rfl)) rfl ?_
          refine g_aload_n dX5_readItem_68 rfl ?_
          refine g_getR (t2 := 12) (i2 := 0) dX5_readItem_69 fl_X5_15 (x_vC hn (Nat.le_of_ble_eq_true rfl) (Nat.le_of_ble_eq_true rfl)) rfl rfl rfl ?_
          refine g_iconst dX5_readItem_72 ?_
          refine g_iald 2 dX5_readItem_73 rfl (Nat.le_of_ble_eq_true rfl) (x_vC hn (Nat.le_of_ble_eq_true rfl) (Nat.le_of_ble_eq_true rfl)) rfl ?_
          refine g_aload_n dX5_readItem_74 rfl ?_
          refine g_getR (t2 := 12) (i2 := 0) dX5_readItem_75 fl_X5_15 (x_vC hn (Nat.le_of_ble_eq_true rfl) (Nat.le_of_ble_eq_true rfl)) rfl rfl rfl ?_
          refine g_iconst dX5_readItem_78 ?_
          refine g_iald 3 dX5_readItem_79 rfl (Nat.le_of_ble_eq_true rfl) (x_vC hn (Nat.le_of_ble_eq_true rfl) (Nat.le_of_ble_eq_true rfl)) rfl ?_
          refine f_V dX5_readItem_80 cs_X5_40 mb_X3_addPerson (c_X3_addPerson l n _ r ((S_X5_readNumbers σ (a + 1) 1) 12 0 0) ((S_X5_readNumbers σ (a + 1) 1) 12 0 1) ((S_X5_readNumbers σ (a + 1) 1) 12 0 2) ((S_X5_readNumbers σ (a + 1) 1) 12 0 3) (σ 5 r 4).toNat hn hr (by omega) (by simp (disch := first | omega | assumption) only [x_up_o, fr_S_X5_readNumbers]; omega)) rfl (x_vC hn (Nat.le_of_ble_eq_true rfl) hr) rfl rfl rfl (Nat.le_of_ble_eq_true rfl) (by decide) (Nat.le_of_ble_eq_true rfl) (Nat.le_refl _) (Nat.le_refl _) ?_
          refine g_goto 96 dX5_readItem_83 rfl ?_
          refine g_istore (lv' := [_, _, _, _, _, _]) dX5_readItem_96 (Nat.le_of_ble_eq_true rfl) rfl ?_
          refine g_iload dX5_readItem_98 rfl ?_
          refine g_if_eq 108 dX5_readItem_100 rfl (fun c_100 => ?_) (fun c_100 => ?_)
          · refine g_bipush dX5_readItem_108 (by decide) ?_
            exact f_iret dX5_readItem_110 (by rw [V_X5_readItem, if_pos c_9, if_neg c_28, if_pos c_43, if_pos c_52, if_pos c_100]) (by rw [S_X5_readItem, if_pos c_9, if_neg c_28, if_pos c_43, if_pos c_52, if_pos c_100])
          · refine g_iload dX5_readItem_103 rfl ?_
            refine g_goto 110 dX5_readItem_105 rfl ?_
            exact f_iret dX5_readItem_110 (by rw [V_X5_readItem, if_pos c_9, if_neg c_28, if_pos c_43, if_pos c_52, if_neg c_100]) (by rw [S_X5_readItem, if_pos c_9, if_neg c_28, if_pos c_43, if_pos c_52, if_neg c_100])
      · refine g_bipush dX5_readItem_46 (by decide) ?_
        exact f_iret dX5_readItem_48 (by rw [V_X5_readItem, if_pos c_9, if_neg c_28, if_neg c_43]) (by rw [S_X5_readItem, if_pos c_9, if_neg c_28, if_neg c_43])
    · refine g_iconst dX5_readItem_31 ?_
      refine g_goto 36 dX5_readItem_32 rfl ?_
      refine f_V dX5_readItem_36 cs_X5_36 mb_X5_readNumbers (c_X5_readNumbers l n _ (a + 1) 4 hn (by omega) (Nat.le_of_ble_eq_true rfl) (by decide) (by omega) hch) rfl (x_vC hn (Nat.le_of_ble_eq_true rfl) (Nat.le_of_ble_eq_true rfl)) rfl rfl rfl (Nat.le_of_ble_eq_true rfl) (by decide) (Nat.le_of_ble_eq_true rfl) (Nat.le_refl _) (Nat.le_refl _) ?_
      refine g_istore (lv' := [_, _, _, _, _]) dX5_readItem_39 (Nat.le_of_ble_eq_true rfl) rfl ?_
      refine g_iload dX5_readItem_41 rfl ?_
      refine g_if_ge 49 dX5_readItem_43 rfl (fun c_43 => ?_) (fun c_43 => ?_)
      · refine g_iload_n dX5_readItem_49 rfl ?_
        refine g_bipush dX5_readItem_50 (by decide) ?_
        refine g_cmp_ne 86 dX5_readItem_52 rfl (fun c_52 => ?_) (fun c_52 => ?_)
        · refine g_aload_n dX5_readItem_86 rfl ?_
          refine g_aload_n dX5_readItem_87 rfl ?_
          refine g_getR (t2 := 12) (i2 := 0) dX5_readItem_88 fl_X5_15 (x_vC hn (Nat.le_of_ble_eq_true rfl) (Nat.le_of_ble_eq_true rfl)) rfl rfl rfl ?_
          refine g_iconst dX5_readItem_91 ?_
          refine g_iald 0 dX5_readItem_92 rfl (Nat.le_of_ble_eq_true rfl) (x_vC hn (Nat.le_of_ble_eq_true rfl) (Nat.le_of_ble_eq_true rfl)) rfl ?_
          refine f_V dX5_readItem_93 cs_X5_44 mb_X3_setStock (c_X3_setStock l n _ r ((S_X5_readNumbers σ (a + 1) 4) 12 0 0) hn hr) rfl (x_vC hn (Nat.le_of_ble_eq_true rfl) hr) rfl rfl rfl (Nat.le_of_ble_eq_true rfl) (by decide) (Nat.le_of_ble_eq_true rfl) (Nat.le_refl _) (Nat.le_refl _) ?_
          refine g_istore (lv' := [_, _, _, _, _, _]) dX5_readItem_96 (Nat.le_of_ble_eq_true rfl) rfl ?_
          refine g_iload dX5_readItem_98 rfl ?_
          refine g_if_eq 108 dX5_readItem_100 rfl (fun c_100 => ?_) (fun c_100 => ?_)
          · refine g_bipush dX5_readItem_108 (by decide) ?_
            exact f_iret dX5_readItem_110 (by rw [V_X5_readItem, if_pos c_9, if_pos c_28, if_pos c_43, if_neg c_52, if_pos c_100]) (by rw [S_X5_readItem, if_pos c_9, if_pos c_28, if_pos c_43, if_neg c_52, if_pos c_100])
          · refine g_iload dX5_readItem_103 rfl ?_
            refine g_goto 110 dX5_readItem_105 rfl ?_
            exact f_iret dX5_readItem_110 (by rw [V_X5_readItem, if_pos c_9, if_pos c_28, if_pos c_43, if_neg c_52, if_neg c_100]) (by rw [S_X5_readItem, if_pos c_9, if_pos c_28, if_pos c_43, if_neg c_52, if_neg c_100])
        · refine g_aload_n dX5_readItem_55 rfl ?_
          refine g_aload_n dX5_readItem_56 rfl ?_
          refine g_getR (t2 := 12) (i2 := 0) dX5_readItem_57 fl_X5_15 (x_vC hn (Nat.le_of_ble_eq_true rfl) (Nat.le_of_ble_eq_true rfl)) rfl rfl rfl ?_
          refine g_iconst dX5_readItem_60 ?_
          refine g_iald 0 dX5_readItem_61 rfl (Nat.le_of_ble_eq_true rfl) (x_vC hn (Nat.le_of_ble_eq_true rfl) (Nat.le_of_ble_eq_true rfl)) rfl ?_
          refine g_aload_n dX5_readItem_62 rfl ?_
          refine g_getR (t2 := 12) (i2 := 0) dX5_readItem_63 fl_X5_15 (x_vC hn (Nat.le_of_ble_eq_true rfl) (Nat.le_of_ble_eq_true rfl)) rfl rfl rfl ?_
          refine g_iconst dX5_readItem_66 ?_
          refine g_iald 1 dX5_readItem_67 rfl (Nat.le_of_ble_eq_true rfl) (x_vC hn (Nat.le_of_ble_eq_true rfl) (Nat.le_of_ble_eq_true rfl)) rfl ?_
          refine g_aload_n dX5_readItem_68 rfl ?_
          refine g_getR (t2 := 12) (i2 := 0) dX5_readItem_69 fl_X5_15 (x_vC hn (Nat.le_of_ble_eq_true rfl) (Nat.le_of_ble_eq_true rfl)) rfl rfl rfl ?_
          refine g_iconst dX5_readItem_72 ?_
          refine g_iald 2 dX5_readItem_73 rfl (Nat.le_of_ble_eq_true rfl) (x_vC hn (Nat.le_of_ble_eq_true rfl) (Nat.le_of_ble_eq_true rfl)) rfl ?_
          refine g_aload_n dX5_readItem_74 rfl ?_
          refine g_getR (t2 := 12) (i2 := 0) dX5_readItem_75 fl_X5_15 (x_vC hn (Nat.le_of_ble_eq_true rfl) (Nat.le_of_ble_eq_true rfl)) rfl rfl rfl ?_
          refine g_iconst dX5_readItem_78 ?_
          refine g_iald 3 dX5_readItem_79 rfl (Nat.le_of_ble_eq_true rfl) (x_vC hn (Nat.le_of_ble_eq_true rfl) (Nat.le_of_ble_eq_true rfl)) rfl ?_
          refine f_V dX5_readItem_80 cs_X5_40 mb_X3_addPerson (c_X3_addPerson l n _ r ((S_X5_readNumbers σ (a + 1) 4) 12 0 0) ((S_X5_readNumbers σ (a + 1) 4) 12 0 1) ((S_X5_readNumbers σ (a + 1) 4) 12 0 2) ((S_X5_readNumbers σ (a + 1) 4) 12 0 3) (σ 5 r 4).toNat hn hr (by omega) (by simp (disch := first | omega | assumption) only [x_up_o, fr_S_X5_readNumbers]; omega)) rfl (x_vC hn (Nat.le_of_ble_eq_true rfl) hr) rfl rfl rfl (Nat.le_of_ble_eq_true rfl) (by decide) (Nat.le_of_ble_eq_true rfl) (Nat.le_refl _) (Nat.le_refl _) ?_
          refine g_goto 96 dX5_readItem_83 rfl ?_
          refine g_istore (lv' := [_, _, _, _, _, _]) dX5_readItem_96 (Nat.le_of_ble_eq_true rfl) rfl ?_
          refine g_iload dX5_readItem_98 rfl ?_
          refine g_if_eq 108 dX5_readItem_100 rfl (fun c_100 => ?_) (fun c_100 => ?_)
          · refine g_bipush dX5_readItem_108 (by decide) ?_
            exact f_iret dX5_readItem_110 (by rw [V_X5_readItem, if_pos c_9, if_pos c_28, if_pos c_43, if_pos c_52, if_pos c_100]) (by rw [S_X5_readItem, if_pos c_9, if_pos c_28, if_pos c_43, if_pos c_52, if_pos c_100])
          · refine g_iload dX5_readItem_103 rfl ?_
            refine g_goto 110 dX5_readItem_105 rfl ?_
            exact f_iret dX5_readItem_110 (by rw [V_X5_readItem, if_pos c_9, if_pos c_28, if_pos c_43, if_pos c_52, if_neg c_100]) (by rw [S_X5_readItem, if_pos c_9, if_pos c_28, if_pos c_43, if_pos c_52, if_neg c_100])
      · refine g_bipush dX5_readItem_46 (by decide) ?_
        exact f_iret dX5_readItem_48 (by rw [V_X5_readItem, if_pos c_9, if_pos c_28, if_neg c_43]) (by rw [S_X5_readItem, if_pos c_9, if_pos c_28, if_neg c_43])
  · refine g_iload_n dX5_readItem_12 rfl ?_
    refine g_bipush dX5_readItem_13 (by decide) ?_
    refine g_cmp_eq 21 dX5_readItem_15 rfl (fun c_15 => ?_) (fun c_15 => ?_)
    · refine g_aload_n dX5_readItem_21 rfl ?_
      refine g_iload_n dX5_readItem_22 rfl ?_
      refine g_iconst dX5_readItem_23 ?_
      refine g_iadd dX5_readItem_24 ?_
      refine g_eqI ((a + 1 : Nat) : Int) rfl ?_
      refine g_iload_n dX5_readItem_25 rfl ?_
      refine g_bipush dX5_readItem_26 (by decide) ?_
      refine g_cmp_ne 35 dX5_readItem_28 rfl (fun c_28 => ?_) (fun c_28 => ?_)
      · refine g_iconst dX5_readItem_35 ?_
        refine f_V dX5_readItem_36 cs_X5_36 mb_X5_readNumbers (c_X5_readNumbers l n _ (a + 1) 1 hn (by omega) (Nat.le_of_ble_eq_true rfl) (by decide) (by omega) hch) rfl (x_vC hn (Nat.le_of_ble_eq_true rfl) (Nat.le_of_ble_eq_true rfl)) rfl rfl rfl (Nat.le_of_ble_eq_true rfl) (by decide) (Nat.le_of_ble_eq_true rfl) (Nat.le_refl _) (Nat.le_refl _) ?_
        refine g_istore (lv' := [_, _, _, _, _]) dX5_readItem_39 (Nat.le_of_ble_eq_true rfl) rfl ?_
        refine g_iload dX5_readItem_41 rfl ?_
        refine g_if_ge 49 dX5_readItem_43 rfl (fun c_43 => ?_) (fun c_43 => ?_)
        · refine g_iload_n dX5_readItem_49 rfl ?_
          refine g_bipush dX5_readItem_50 (by decide) ?_
          refine g_cmp_ne 86 dX5_readItem_52 rfl (fun c_52 => ?_) (fun c_52 => ?_)
          · refine g_aload_n dX5_readItem_86 rfl ?_
            refine g_aload_n dX5_readItem_87 rfl ?_
            refine g_getR (t2 := 12) (i2 := 0) dX5_readItem_88 fl_X5_15 (x_vC hn (Nat.le_of_ble_eq_true rfl) (Nat.le_of_ble_eq_true rfl)) rfl rfl rfl ?_
            refine g_iconst dX5_readItem_91 ?_
            refine g_iald 0 dX5_readItem_92 rfl (Nat.le_of_ble_eq_true rfl) (x_vC hn (Nat.le_of_ble_eq_true rfl) (Nat.le_of_ble_eq_true rfl)) rfl ?_
            refine f_V dX5_readItem_93 cs_X5_44 mb_X3_setStock (c_X3_setStock l n _ r ((S_X5_readNumbers σ (a + 1) 1) 12 0 0) hn hr) rfl (x_vC hn (Nat.le_of_ble_eq_true rfl) hr) rfl rfl rfl (Nat.le_of_ble_eq_true rfl) (by decide) (Nat.le_of_ble_eq_true rfl) (Nat.le_refl _) (Nat.le_refl _) ?_
            refine g_istore (lv' := [_, _, _, _, _, _]) dX5_readItem_96 (Nat.le_of_ble_eq_true rfl) rfl ?_
            refine g_iload dX5_readItem_98 rfl ?_
            refine g_if_eq 108 dX5_readItem_100 rfl (fun c_100 => ?_) (fun c_100 => ?_)
            · refine g_bipush dX5_readItem_108 (by decide) ?_
              exact f_iret dX5_readItem_110 (by rw [V_X5_readItem, if_neg c_9, if_pos c_15, if_neg c_28, if_pos c_43, if_neg c_52, if_pos c_100]) (by rw [S_X5_readItem, if_neg c_9, if_pos c_15, if_neg c_28, if_pos c_43, if_neg c_52, if_pos c_100])
            · refine g_iload dX5_readItem_103 rfl ?_
              refine g_goto 110 dX5_readItem_105 rfl ?_
              exact f_iret dX5_readItem_110 (by rw [V_X5_readItem, if_neg c_9, if_pos c_15, if_neg c_28, if_pos c_43, if_neg c_52, if_neg c_100]) (by rw [S_X5_readItem, if_neg c_9, if_pos c_15, if_neg c_28, if_pos c_43, if_neg c_52, if_neg c_100])
          · refine g_aload_n dX5_readItem_55 rfl ?_
            refine g_aload_n dX5_readItem_56 rfl ?_
            refine g_getR (t2 := 12) (i2 := 0) dX5_readItem_57 fl_X5_15 (x_vC hn (Nat.le_of_ble_eq_true rfl) (Nat.le_of_ble_eq_true rfl)) rfl rfl rfl ?_
            refine g_iconst dX5_readItem_60 ?_
            refine g_iald 0 dX5_readItem_61 rfl (Nat.le_of_ble_eq_true rfl) (x_vC hn (Nat.le_of_ble_eq_true rfl) (Nat.le_of_ble_eq_true rfl)) rfl ?_
            refine g_aload_n dX5_readItem_62 rfl ?_
            refine g_getR (t2 := 12) (i2 := 0) dX5_readItem_63 fl_X5_15 (x_vC hn (Nat.le_of_ble_eq_true rfl) (Nat.le_of_ble_eq_true rfl)) rfl rfl rfl ?_
            refine g_iconst dX5_readItem_66 ?_
            refine g_iald 1 dX5_readItem_67 rfl (Nat.le_of_ble_eq_true rfl) (x_vC hn (Nat.le_of_ble_eq_true rfl) (Nat.le_of_ble_eq_true rfl)) rfl ?_
            refine g_aload_n dX5_readItem_68 rfl ?_
            refine g_getR (t2 := 12) (i2 := 0) dX5_readItem_69 fl_X5_15 (x_vC hn (Nat.le_of_ble_eq_true rfl) (Nat.le_of_ble_eq_true rfl)) rfl rfl rfl ?_
            refine g_iconst dX5_readItem_72 ?_
            refine g_iald 2 dX5_readItem_73 rfl (Nat.le_of_ble_eq_true rfl) (x_vC hn (Nat.le_of_ble_eq_true rfl) (Nat.le_of_ble_eq_true rfl)) rfl ?_
            refine g_aload_n dX5_readItem_74 rfl ?_
            refine g_getR (t2 := 12) (i2 := 0) dX5_readItem_75 fl_X5_15 (x_vC hn (Nat.le_of_ble_eq_true rfl) (Nat.le_of_ble_eq_true rfl)) rfl rfl rfl ?_
            refine g_iconst dX5_readItem_78 ?_
            refine g_iald 3 dX5_readItem_79 rfl (Nat.le_of_ble_eq_true rfl) (x_vC hn (Nat.le_of_ble_eq_true rfl) (Nat.le_of_ble_eq_true rfl)) rfl ?_
            refine f_V dX5_readItem_80 cs_X5_40 mb_X3_addPerson (c_X3_addPerson l n _ r ((S_X5_readNumbers σ (a + 1) 1) 12 0 0) ((S_X5_readNumbers σ (a + 1) 1) 12 0 1) ((S_X5_readNumbers σ (a + 1) 1) 12 0 2) ((S_X5_readNumbers σ (a + 1) 1) 12 0 3) (σ 5 r 4).toNat hn hr (by omega) (by simp (disch := first | omega | assumption) only [x_up_o, fr_S_X5_readNumbers]; omega)) rfl (x_vC hn (Nat.le_of_ble_eq_true rfl) hr) rfl rfl rfl (Nat.le_of_ble_eq_true rfl) (by decide) (Nat.le_of_ble_eq_true rfl) (Nat.le_refl _) (Nat.le_refl _) ?_
            refine g_goto 96 dX5_readItem_83 rfl ?_
            refine g_istore (lv' := [_, _, _, _, _, _]) dX5_readItem_96 (Nat.le_of_ble_eq_true rfl) rfl ?_
            refine g_iload dX5_readItem_98 rfl ?_
            refine g_if_eq 108 dX5_readItem_100 rfl (fun c_100 => ?_) (fun c_100 => ?_)
            · refine g_bipush dX5_readItem_108 (by decide) ?_
              exact f_iret dX5_readItem_110 (by rw [V_X5_readItem, if_neg c_9, if_pos c_15, if_neg c_28, if_pos c_43, if_pos c_52, if_pos c_100]) (by rw [S_X5_readItem, if_neg c_9, if_pos c_15, if_neg c_28, if_pos c_43, if_pos c_52, if_pos c_100])
            · refine g_iload dX5_readItem_103 rfl ?_
              refine g_goto 110 dX5_readItem_105 rfl ?_
              exact f_iret dX5_readItem_110 (by rw [V_X5_readItem, if_neg c_9, if_pos c_15, if_neg c_28, if_pos c_43, if_pos c_52, if_neg c_100]) (by rw [S_X5_readItem, if_neg c_9, if_pos c_15, if_neg c_28, if_pos c_43, if_pos c_52, if_neg c_100])
        · refine g_bipush dX5_readItem_46 (by decide) ?_
          exact f_iret dX5_readItem_48 (by rw [V_X5_readItem, if_neg c_9, if_pos c_15, if_neg c_28, if_neg c_43]) (by rw [S_X5_readItem, if_neg c_9, if_pos c_15, if_neg c_28, if_neg c_43])
      · refine g_iconst dX5_readItem_31 ?_
        refine g_goto 36 dX5_readItem_32 rfl ?_
        refine f_V dX5_readItem_36 cs_X5_36 mb_X5_readNumbers (c_X5_readNumbers l n _ (a + 1) 4 hn (by omega) (Nat.le_of_ble_eq_true rfl) (by decide) (by omega) hch) rfl (x_vC hn (Nat.le_of_ble_eq_true rfl) (Nat.le_of_ble_eq_true rfl)) rfl rfl rfl (Nat.le_of_ble_eq_true rfl) (by decide) (Nat.le_of_ble_eq_true rfl) (Nat.le_refl _) (Nat.le_refl _) ?_
        refine g_istore (lv' := [_, _, _, _, _]) dX5_readItem_39 (Nat.le_of_ble_eq_true rfl) rfl ?_
        refine g_iload dX5_readItem_41 rfl ?_
        refine g_if_ge 49 dX5_readItem_43 rfl (fun c_43 => ?_) (fun c_43 => ?_)
        · refine g_iload_n dX5_readItem_49 rfl ?_
          refine g_bipush dX5_readItem_50 (by decide) ?_
          refine g_cmp_ne 86 dX5_readItem_52 rfl (fun c_52 => ?_) (fun c_52 => ?_)
          · refine g_aload_n dX5_readItem_86 rfl ?_
            refine g_aload_n dX5_readItem_87 rfl ?_
            refine g_getR (t2 := 12) (i2 := 0) dX5_readItem_88 fl_X5_15 (x_vC hn (Nat.le_of_ble_eq_true rfl) (Nat.le_of_ble_eq_true rfl)) rfl rfl rfl ?_
            refine g_iconst dX5_readItem_91 ?_
            refine g_iald 0 dX5_readItem_92 rfl (Nat.le_of_ble_eq_true rfl) (x_vC hn (Nat.le_of_ble_eq_true rfl) (Nat.le_of_ble_eq_true rfl)) rfl ?_
            refine f_V dX5_readItem_93 cs_X5_44 mb_X3_setStock (c_X3_setStock l n _ r ((S_X5_readNumbers σ (a + 1) 4) 12 0 0) hn hr) rfl (x_vC hn (Nat.le_of_ble_eq_true rfl) hr) rfl rfl rfl (Nat.le_of_ble_eq_true rfl) (by decide) (Nat.le_of_ble_eq_true rfl) (Nat.le_refl _) (Nat.le_refl _) ?_
            refine g_istore (lv' := [_, _, _, _, _, _]) dX5_readItem_96 (Nat.le_of_ble_eq_true rfl) rfl ?_
            refine g_iload dX5_readItem_98 rfl ?_
            refine g_if_eq 108 dX5_readItem_100 rfl (fun c_100 => ?_) (fun c_100 => ?_)
            · refine g_bipush dX5_readItem_108 (by decide) ?_
              exact f_iret dX5_readItem_110 (by rw [V_X5_readItem, if_neg c_9, if_pos c_15, if_pos c_28, if_pos c_43, if_neg c_52, if_pos c_100]) (by rw [S_X5_readItem, if_neg c_9, if_pos c_15, if_pos c_28, if_pos c_43, if_neg c_52, if_pos c_100])
            · refine g_iload dX5_readItem_103 rfl ?_
              refine g_goto 110 dX5_readItem_105 rfl ?_
              exact f_iret dX5_readItem_110 (by rw [V_X5_readItem, if_neg c_9, if_pos c_15, if_pos c_28, if_pos c_43, if_neg c_52, if_neg c_100]) (by rw [S_X5_readItem, if_neg c_9, if_pos c_15, if_pos c_28, if_pos c_43, if_neg c_52, if_neg c_100])
          · refine g_aload_n dX5_readItem_55 rfl ?_
            refine g_aload_n dX5_readItem_56 rfl ?_
            refine g_getR (t2 := 12) (i2 := 0) dX5_readItem_57 fl_X5_15 (x_vC hn (Nat.le_of_ble_eq_true rfl) (Nat.le_of_ble_eq_true rfl)) rfl rfl rfl ?_
            refine g_iconst dX5_readItem_60 ?_
            refine g_iald 0 dX5_readItem_61 rfl (Nat.le_of_ble_eq_true rfl) (x_vC hn (Nat.le_of_ble_eq_true rfl) (Nat.le_of_ble_eq_true rfl)) rfl ?_
            refine g_aload_n dX5_readItem_62 rfl ?_
            refine g_getR (t2 := 12) (i2 := 0) dX5_readItem_63 fl_X5_15 (x_vC hn (Nat.le_of_ble_eq_true rfl) (Nat.le_of_ble_eq_true rfl)) rfl rfl rfl ?_
            refine g_iconst dX5_readItem_66 ?_
            refine g_iald 1 dX5_readItem_67 rfl (Nat.le_of_ble_eq_true rfl) (x_vC hn (Nat.le_of_ble_eq_true rfl) (Nat.le_of_ble_eq_true rfl)) rfl ?_
            refine g_aload_n dX5_readItem_68 rfl ?_
            refine g_getR (t2 := 12) (i2 := 0) dX5_readItem_69 fl_X5_15 (x_vC hn (Nat.le_of_ble_eq_true rfl) (Nat.le_of_ble_eq_true rfl)) rfl rfl rfl ?_
            refine g_iconst dX5_readItem_72 ?_
            refine g_iald 2 dX5_readItem_73 rfl (Nat.le_of_ble_eq_true rfl) (x_vC hn (Nat.le_of_ble_eq_true rfl) (Nat.le_of_ble_eq_true rfl)) rfl ?_
            refine g_aload_n dX5_readItem_74 rfl ?_
            refine g_getR (t2 := 12) (i2 := 0) dX5_readItem_75 fl_X5_15 (x_vC hn (Nat.le_of_ble_eq_true rfl) (Nat.le_of_ble_eq_true rfl)) rfl rfl rfl ?_
            refine g_iconst dX5_readItem_78 ?_
            refine g_iald 3 dX5_readItem_79 rfl (Nat.le_of_ble_eq_true rfl) (x_vC hn (Nat.le_of_ble_eq_true rfl) (Nat.le_of_ble_eq_true rfl)) rfl ?_
            refine f_V dX5_readItem_80 cs_X5_40 mb_X3_addPerson (c_X3_addPerson l n _ r ((S_X5_readNumbers σ (a + 1) 4) 12 0 0) ((S_X5_readNumbers σ (a + 1) 4) 12 0 1) ((S_X5_readNumbers σ (a + 1) 4) 12 0 2) ((S_X5_readNumbers σ (a + 1) 4) 12 0 3) (σ 5 r 4).toNat hn hr (by omega) (by simp (disch := first | omega | assumption) only [x_up_o, fr_S_X5_readNumbers]; omega)) rfl (x_vC hn (Nat.le_of_ble_eq_true rfl) hr) rfl rfl rfl (Nat.le_of_ble_eq_true rfl) (by decide) (Nat.le_of_ble_eq_true rfl) (Nat.le_refl _) (Nat.le_refl _) ?_
            refine g_goto 96 dX5_readItem_83 rfl ?_
            refine g_istore (lv' := [_, _, _, _, _, _]) dX5_readItem_96 (Nat.le_of_ble_eq_true rfl) rfl ?_
            refine g_iload dX5_readItem_98 rfl ?_
            refine g_if_eq 108 dX5_readItem_100 rfl (fun c_100 => ?_) (fun c_100 => ?_)
            · refine g_bipush dX5_readItem_108 (by decide) ?_
              exact f_iret dX5_readItem_110 (by rw [V_X5_readItem, if_neg c_9, if_pos c_15, if_pos c_28, if_pos c_43, if_pos c_52, if_pos c_100]) (by rw [S_X5_readItem, if_neg c_9, if_pos c_15, if_pos c_28, if_pos c_43, if_pos c_52, if_pos c_100])
            · refine g_iload dX5_readItem_103 rfl ?_
              refine g_goto 110 dX5_readItem_105 rfl ?_
              exact f_iret dX5_readItem_110 (by rw [V_X5_readItem, if_neg c_9, if_pos c_15, if_pos c_28, if_pos c_43, if_pos c_52, if_neg c_100]) (by rw [S_X5_readItem, if_neg c_9, if_pos c_15, if_pos c_28, if_pos c_43, if_pos c_52, if_neg c_100])
        · refine g_bipush dX5_readItem_46 (by decide) ?_
          exact f_iret dX5_readItem_48 (by rw [V_X5_readItem, if_neg c_9, if_pos c_15, if_pos c_28, if_neg c_43]) (by rw [S_X5_readItem, if_neg c_9, if_pos c_15, if_pos c_28, if_neg c_43])
    · refine g_bipush dX5_readItem_18 (by decide) ?_
      exact f_iret dX5_readItem_20 (by rw [V_X5_readItem, if_neg c_9, if_neg c_15]) (by rw [S_X5_readItem, if_neg c_9, if_neg c_15])

theorem b_X5_readItem (σ : xMi) (a r : Nat) : -4 ≤ V_X5_readItem σ a r ∧ V_X5_readItem σ a r ≤ a + 13 := by
  have h1 := b_X5_readNumbers σ (a + 1) 4
  have h2 := b_X5_readNumbers σ (a + 1) 1
  unfold V_X5_readItem
  (repeat' split) <;> omega
theorem i_X3_addPerson (σ : xMi) (r z : Nat) (k1 x1 n1 b1 : Int) (hz : σ 5 r 4 = (z : Int)) (h6 : z ≤ 6) : 0 ≤ S_X3_addPerson σ r k1 x1 n1 b1 z 5 r 4 ∧ S_X3_addPerson σ r k1 x1 n1 b1 z 5 r 4 ≤ 6 := by
  unfold S_X3_addPerson
  split
  · omega
  · rename_i h
    rw [hz, x_nat (by omega), show x_wr 6 = 6 from by decide] at h
    (repeat' split) <;> first | omega | (simp (disch := omega) only [x_up_s, x_up_o]; simp; omega)
theorem i_X5_readItem (σ : xMi) (a r : Nat) (hz : 0 ≤ σ 5 r 4 ∧ σ 5 r 4 ≤ 6) : 0 ≤ S_X5_readItem σ a r 5 r 4 ∧ S_X5_readItem σ a r 5 r 4 ≤ 6 := by
  have h1 : S_X5_readNumbers σ (a + 1) 4 5 r 4 = σ 5 r 4 := fr_S_X5_readNumbers _ _ _ (by omega)
  have h2 : S_X5_readNumbers σ (a + 1) 1 5 r 4 = σ 5 r 4 := fr_S_X5_readNumbers _ _ _ (by omega)
  have p1 : 0 ≤ S_X5_readNumbers σ (a + 1) 4 5 r 4 ∧ S_X5_readNumbers σ (a + 1) 4 5 r 4 ≤ 6 := by rw [h1]; exact hz
  have p2 : 0 ≤ S_X5_readNumbers σ (a + 1) 1 5 r 4 ∧ S_X5_readNumbers σ (a + 1) 1 5 r 4 ≤ 6 := by rw [h2]; exact hz
  have hA : ∀ k1 x1 n1 b1, 0 ≤ S_X3_addPerson (S_X5_readNumbers σ (a + 1) 4) r k1 x1 n1 b1 (σ 5 r 4).toNat 5 r 4 ∧ S_X3_addPerson (S_X5_readNumbers σ (a + 1) 4) r k1 x1 n1 b1 (σ 5 r 4).toNat 5 r 4 ≤ 6 := fun _ _ _ _ => i_X3_addPerson _ _ _ _ _ _ _ (by rw [h1]; omega) (by omega)
  have hB : ∀ k1 x1 n1 b1, 0 ≤ S_X3_addPerson (S_X5_readNumbers σ (a + 1) 1) r k1 x1 n1 b1 (σ 5 r 4).toNat 5 r 4 ∧ S_X3_addPerson (S_X5_readNumbers σ (a + 1) 1) r k1 x1 n1 b1 (σ 5 r 4).toNat 5 r 4 ≤ 6 := fun _ _ _ _ => i_X3_addPerson _ _ _ _ _ _ _ (by rw [h2]; omega) (by omega)
  have hS : ∀ (τ : xMi) h1, (0 ≤ τ 5 r 4 ∧ τ 5 r 4 ≤ 6) → 0 ≤ S_X3_setStock τ r h1 5 r 4 ∧ S_X3_setStock τ r h1 5 r 4 ≤ 6 := by
    intro τ h1 h
    unfold S_X3_setStock
    split
    · rw [x_up_s]; simpa using h
    · exact h
  generalize hP : (fun τ : xMi => 0 ≤ τ 5 r 4 ∧ τ 5 r 4 ≤ 6) = Pr
  have q0 : Pr σ := by rw [← hP]; exact hz
  have q1 : Pr (S_X5_readNumbers σ (a + 1) 4) := by rw [← hP]; exact p1
  have q2 : Pr (S_X5_readNumbers σ (a + 1) 1) := by rw [← hP]; exact p2
  have qA : ∀ k1 x1 n1 b1, Pr (S_X3_addPerson (S_X5_readNumbers σ (a + 1) 4) r k1 x1 n1 b1 (σ 5 r 4).toNat) := by rw [← hP]; exact hA
  have qB : ∀ k1 x1 n1 b1, Pr (S_X3_addPerson (S_X5_readNumbers σ (a + 1) 1) r k1 x1 n1 b1 (σ 5 r 4).toNat) := by rw [← hP]; exact hB
  have qS1 : ∀ h1, Pr (S_X3_setStock (S_X5_readNumbers σ (a + 1) 4) r h1) := by rw [← hP]; exact fun h1 => hS _ h1 p1
  have qS2 : ∀ h1, Pr (S_X3_setStock (S_X5_readNumbers σ (a + 1) 1) r h1) := by rw [← hP]; exact fun h1 => hS _ h1 p2
  suffices hh : Pr (S_X5_readItem σ a r) by rw [← hP] at hh; exact hh
  clear hP hA hB hS p1 p2
  unfold S_X5_readItem
  (repeat' split) <;> first | with_reducible exact q0 | with_reducible exact q1 | with_reducible exact q2 | with_reducible exact qA _ _ _ _ | with_reducible exact qB _ _ _ _ | with_reducible exact qS1 _ | with_reducible exact qS2 _
def RV_X5_readInto_8 (r : Nat) : Nat → Nat → xMi → Nat → Int
  | 0, e, σ, q => (-4)
  | k + 1, e, σ, q => (if x_wr (σ 10 0 2) ≤ x_wr (q : Int) then (-4) else (if 0 ≤ x_wr (V_X5_readItem σ q r) then (RV_X5_readInto_8 r k (e + 1) (S_X5_readItem σ q r) (V_X5_readItem σ q r).toNat) else (q : Int)))
def RS_X5_readInto_8 (r : Nat) : Nat → Nat → xMi → Nat → xMi
  | 0, e, σ, q => σ
  | k + 1, e, σ, q => (if x_wr (σ 10 0 2) ≤ x_wr (q : Int) then σ else (if 0 ≤ x_wr (V_X5_readItem σ q r) then (RS_X5_readInto_8 r k (e + 1) (S_X5_readItem σ q r) (V_X5_readItem σ q r).toNat) else (S_X5_readItem σ q r)))
theorem fr_RS_X5_readInto_8 (r : Nat) {t i k' : Nat} (h : ¬ (t = 12 ∨ (5 ≤ t ∧ t ≤ 9 ∧ i = r))) : ∀ (k p : Nat) (σ : xMi) (q : Nat), RS_X5_readInto_8 r k p σ q t i k' = σ t i k' := by
  intro k
  induction k with
  | zero =>
    intro p σ q
    simp only [RS_X5_readInto_8]
    all_goals ((repeat' split) <;> simp (disch := first | omega | assumption) only [x_up_o, x_cp_o])
  | succ k ih =>
    intro p σ q
    simp only [RS_X5_readInto_8]
    all_goals (repeat' split)
    all_goals (first | rw [ih] | skip)
    all_goals first | done | simp (disch := first | omega | assumption) only [x_up_o, x_cp_o, fr_S_X5_readItem]
theorem lh_X5_readInto_8 (l : Launch) (n : Nat) (r : Nat) (hn : 131 ≤ n) (hr : r < 3) : ∀ (k e : Nat) (σ : xMi) (q : Nat), e + k = 200 ∧ q ≤ 20 * e ∧ 0 ≤ σ 5 r 4 ∧ σ 5 r 4 ≤ 6 → (∀ k, 0 ≤ σ 11 0 k ∧ σ 11 0 k < 65536) →  x_G l RX5 cX5_readInto 5 (some .int) 4 n (some (xI (RV_X5_readInto_8 r k e σ q))) (RS_X5_readInto_8 r k e σ q) 8 [(3, xI (e : Int)), (2, xI (q : Int)), (0, xR 10 0), (1, xR 5 r)] [] σ := by
  intro k
  induction k with
  | zero =>
    intro e σ q hk hch
    refine g_iload_n dX5_readInto_8 rfl ?_
    refine g_sipush dX5_readInto_9 (by decide) ?_
    refine g_cmp_ge 47 dX5_readInto_12 rfl (fun c_12 => ?_) (fun c_12 => absurd (by rw [x_nat (by omega), show x_wr 200 = 200 from by decide]; omega) c_12)
    refine g_bipush dX5_readInto_47 (by decide) ?_
    exact f_iret dX5_readInto_49 rfl rfl
  | succ k ih =>
    intro e σ q hk hch
    refine g_iload_n dX5_readInto_8 rfl ?_
    refine g_sipush dX5_readInto_9 (by decide) ?_
    refine g_cmp_ge 47 dX5_readInto_12 rfl (fun c_12 => absurd c_12 (by rw [x_nat (by omega), show x_wr 200 = 200 from by decide]; omega)) (fun c_12 => ?_)
    refine g_iload_n dX5_readInto_15 rfl ?_
    refine g_aload_n dX5_readInto_16 rfl ?_
    refine g_getI dX5_readInto_17 fl_X5_19 (x_vC hn (Nat.le_of_ble_eq_true rfl) (Nat.le_of_ble_eq_true rfl)) rfl rfl ?_
    refine g_cmp_ge 47 dX5_readInto_20 rfl (fun c_20 => ?_) (fun c_20 => ?_)
    · refine g_bipush dX5_readInto_47 (by decide) ?_
      exact f_iret dX5_readInto_49 (by rw [RV_X5_readInto_8, if_pos c_20]) (by rw [RS_X5_readInto_8, if_pos c_20])
    · refine g_aload_n dX5_readInto_23 rfl ?_
      refine g_iload_n dX5_readInto_24 rfl ?_
      refine g_aload_n dX5_readInto_25 rfl ?_
      refine f_V dX5_readInto_26 cs_X5_28 mb_X5_readItem (c_X5_readItem l n _ q r hn (by omega) hr (by omega) hch (by omega)) rfl (x_vC hn (Nat.le_of_ble_eq_true rfl) (Nat.le_of_ble_eq_true rfl)) rfl rfl rfl (Nat.le_of_ble_eq_true rfl) (by decide) (Nat.le_of_ble_eq_true rfl) (Nat.le_refl _) (Nat.le_refl _) ?_
      refine g_istore (lv' := [_, _, _, _, _]) dX5_readInto_29 (Nat.le_of_ble_eq_true rfl) rfl ?_
      refine g_iload dX5_readInto_31 rfl ?_
      refine g_if_ge 38 dX5_readInto_33 rfl (fun c_33 => ?_) (fun c_33 => ?_)
      · refine g_iload dX5_readInto_38 rfl ?_
        have b_E := b_X5_readItem σ q r
        have e_E : V_X5_readItem σ q r = (((V_X5_readItem σ q r).toNat : Nat) : Int) := by rw [x_wr_of (by omega) (by omega)] at c_33; omega
        refine g_eqI (((V_X5_readItem σ q r).toNat : Nat) : Int) e_E ?_
        refine g_istore_n (lv' := [_, _, _, _, _]) dX5_readInto_40 (Nat.le_of_ble_eq_true rfl) rfl ?_
        refine g_iinc (lv' := [(3, xI (((e + 1) : Nat) : Int)), _, _, _, _]) dX5_readInto_41 (Nat.le_of_ble_eq_true rfl) rfl rfl ?_
        refine g_goto 8 dX5_readInto_44 rfl ?_
        refine g_sub (lv2 := [(3, xI (((e + 1) : Nat) : Int)), (2, xI (((V_X5_readItem σ q r).toNat : Nat) : Int)), _, _]) [0, 1, 3, 4] rfl ?_
        exact f_cv (by rw [RV_X5_readInto_8, if_neg c_20, if_pos c_33]) (by rw [RS_X5_readInto_8, if_neg c_20, if_pos c_33]) (ih (e + 1) _ ((V_X5_readItem σ q r).toNat) (by have i_E := i_X5_readItem σ q r (by omega); omega) (by first | exact hch | (simp (disch := omega) only [x_up_o, x_cp_o, fr_S_X5_readItem]; exact hch) | (simp (disch := first | omega | assumption) only [x_up_o, x_cp_o, fr_S_X5_readItem]; exact hch)))
      · refine g_iload_n dX5_readInto_36 rfl ?_
        exact f_iret dX5_readInto_37 (by rw [RV_X5_readInto_8, if_neg c_20, if_neg c_33]) (by rw [RS_X5_readInto_8, if_neg c_20, if_neg c_33])
def V_X5_readInto (σ : xMi) (r : Nat) : Int := (RV_X5_readInto_8 r 200 0 (S_X3_clear σ r) 0)
def S_X5_readInto (σ : xMi) (r : Nat) : xMi := (RS_X5_readInto_8 r 200 0 (S_X3_clear σ r) 0)
theorem fr_S_X5_readInto (σ : xMi) (r : Nat) {t i k : Nat} (h : ¬ (t = 12 ∨ (5 ≤ t ∧ t ≤ 9 ∧ i = r))) : S_X5_readInto σ r t i k = σ t i k := by
  unfold S_X5_readInto
  all_goals ((repeat' split) <;> first | rfl | simp (disch := first | omega | assumption) only [x_up_o, x_cp_o, fr_RS_X5_readInto_8, fr_S_X3_clear])
theorem c_X5_readInto (l : Launch) (n : Nat) (σ : xMi) (r : Nat) (hn : 131 ≤ n) (hr : r < 3) (hch : ∀ k, 0 ≤ σ 11 0 k ∧ σ 11 0 k < 65536) : x_F l yX5_readInto RX5 cX5_readInto 5 (some .int) 4 n σ [xR 10 0, xR 5 r] (some (xI (V_X5_readInto σ r))) (S_X5_readInto σ r) := by
  refine f_of (by decide) rfl (Nat.le_of_ble_eq_true rfl) rfl ?_
  refine g_aload_n dX5_readInto_0 rfl ?_
  refine f_Vv dX5_readInto_1 cs_X5_23 mb_X3_clear (c_X3_clear l n _ r hn hr) rfl (x_vC hn (Nat.le_of_ble_eq_true rfl) hr) rfl rfl rfl (Nat.le_of_ble_eq_true rfl) (by decide) (Nat.le_of_ble_eq_true rfl) (Nat.le_refl _) (Nat.le_refl _) ?_
  refine g_iconst dX5_readInto_4 ?_
  refine g_istore_n (lv' := [_, _, _]) dX5_readInto_5 (Nat.le_of_ble_eq_true rfl) rfl ?_
  refine g_iconst dX5_readInto_6 ?_
  refine g_istore_n (lv' := [_, _, _, _]) dX5_readInto_7 (Nat.le_of_ble_eq_true rfl) rfl ?_
  refine g_sub (lv2 := [(3, xI ((0 : Nat) : Int)), (2, xI ((0 : Nat) : Int)), _, _]) [0, 1, 2, 3] rfl ?_
  exact f_cv rfl rfl (lh_X5_readInto_8 l n r hn hr 200 0 _ 0 (by refine ⟨by omega, by omega, ?_, ?_⟩ <;> simp [S_X3_clear, x_up]) (by first | exact hch | (simp (disch := omega) only [x_up_o, x_cp_o, fr_S_X3_clear]; exact hch) | (simp (disch := first | omega | assumption) only [x_up_o, x_cp_o, fr_S_X3_clear]; exact hch)))
end
section
theorem g_ldcw {l : Launch} {own : String} {cc : ByteArray} {nL : Nat} {ret : Option FieldType} {ini : Bool} {d mc ms : Nat} {Q : xP} {n cu su pc : Nat} {lv : List (Nat × xV)} {st : List xV} {ρ : xMr} {σ : xMi} {idx : Nat} {a : Int} {v : Int32} (hd : decode cc pc = .ok (.ldc_w idx, 3)) (hw : Cond.constant own idx v ∈ x_T) (hv : v = Int32.ofInt a) (kk : xGo l own cc nL ret ini d mc ms Q n cu su (pc + 3) lv (xI a :: st) ρ σ) : xGo l own cc nL ret ini d mc ms Q n cu su pc lv st ρ σ := by
  intro p e s m args below meth c B D cy zz H locs ls hC hR hS hl
  subst hv
  exact lv_ldcw hC.1 hC.2.1 hC.2.2.2.1 (hC.2.2.2.2.1 _ hw) hd (kk p e s m args below meth c B D cy zz H locs ls hC hR hS hl)
theorem x_bnar {b : Int} (h : b = 0 ∨ b = 1) : vp_nar .boolean (Int32.ofInt b) = Int32.ofInt b := by
  rcases h with rfl | rfl <;> rfl
theorem x_max_in {a b lo hi : Int} (h1 : lo ≤ a ∧ a ≤ hi) (h2 : lo ≤ b ∧ b ≤ hi) : lo ≤ x_max a b ∧ x_max a b ≤ hi := by
  unfold x_max; split <;> omega
def x_pf (j τ : Nat) : Nat := if j = 0 then 3 + τ else 11 + τ
theorem x_ln14 (j : Nat) : 0 < x_ln 14 j ∧ x_ln 14 j ≤ 8 ∧ (j ≠ 0 → x_ln 14 j = 2) ∧ (j = 0 → x_ln 14 j = 8) := by
  by_cases h : j = 0 <;> simp [x_ln, h]
theorem x_r14 {j τ : Nat} (h : τ < x_ln 14 j) : x_r0 14 j τ = some (0, x_pf j τ) := by
  have := x_ln14 j
  by_cases hj : j = 0
  · simp [x_r0, x_pf, hj]; omega
  · simp [x_r0, x_pf, hj]; omega
theorem x_pf_lt {j τ : Nat} (h : τ < x_ln 14 j) : x_pf j τ < 20 := by
  have := x_ln14 j
  unfold x_pf; split <;> omega
def V_J6_bitCount_0f7a4 (σ : xMi) (v : Int) : Int := (x_and (((x_and (((x_and (v - (x_and (x_ush v 1) 1431655765)) 858993459) + (x_and (x_ush (v - (x_and (x_ush v 1) 1431655765)) 2) 858993459)) + (x_ush ((x_and (v - (x_and (x_ush v 1) 1431655765)) 858993459) + (x_and (x_ush (v - (x_and (x_ush v 1) 1431655765)) 2) 858993459)) 4)) 252645135) + (x_ush (x_and (((x_and (v - (x_and (x_ush v 1) 1431655765)) 858993459) + (x_and (x_ush (v - (x_and (x_ush v 1) 1431655765)) 2) 858993459)) + (x_ush ((x_and (v - (x_and (x_ush v 1) 1431655765)) 858993459) + (x_and (x_ush (v - (x_and (x_ush v 1) 1431655765)) 2) 858993459)) 4)) 252645135) 8)) + (x_ush ((x_and (((x_and (v - (x_and (x_ush v 1) 1431655765)) 858993459) + (x_and (x_ush (v - (x_and (x_ush v 1) 1431655765)) 2) 858993459)) + (x_ush ((x_and (v - (x_and (x_ush v 1) 1431655765)) 858993459) + (x_and (x_ush (v - (x_and (x_ush v 1) 1431655765)) 2) 858993459)) 4)) 252645135) + (x_ush (x_and (((x_and (v - (x_and (x_ush v 1) 1431655765)) 858993459) + (x_and (x_ush (v - (x_and (x_ush v 1) 1431655765)) 2) 858993459)) + (x_ush ((x_and (v - (x_and (x_ush v 1) 1431655765)) 858993459) + (x_and (x_ush (v - (x_and (x_ush v 1) 1431655765)) 2) 858993459)) 4)) 252645135) 8)) 16)) 63)
theorem c_J6_bitCount_0f7a4 (l : Launch) (n : Nat) (σ : xMi) (v : Int) (hn : 131 ≤ n)   : x_F l yJ6_bitCount_0f7a4 RJ6 cJ6_bitCount_0f7a4 1 (some .int) 0 n σ [xI v] (some (xI (V_J6_bitCount_0f7a4 σ v))) σ := by
  refine f_of (by decide) rfl (Nat.le_of_ble_eq_true rfl) rfl ?_
  refine g_iload_n dJ6_bitCount_0f7a4_0 rfl ?_
  refine g_iload_n dJ6_bitCount_0f7a4_1 rfl ?_
  refine g_iconst dJ6_bitCount_0f7a4_2 ?_
  refine g_iushr dJ6_bitCount_0f7a4_3 ?_
  refine g_ldcw (a := 1431655765) dJ6_bitCount_0f7a4_4 ct_J6_265 (by decide) ?_
  refine g_iand dJ6_bitCount_0f7a4_7 ?_
  refine g_isub dJ6_bitCount_0f7a4_8 ?_
  refine g_istore_n (lv' := [_]) dJ6_bitCount_0f7a4_9 (Nat.le_of_ble_eq_true rfl) rfl ?_
  refine g_iload_n dJ6_bitCount_0f7a4_10 rfl ?_
  refine g_ldcw (a := 858993459) dJ6_bitCount_0f7a4_11 ct_J6_266 (by decide) ?_
  refine g_iand dJ6_bitCount_0f7a4_14 ?_
  refine g_iload_n dJ6_bitCount_0f7a4_15 rfl ?_
  refine g_iconst dJ6_bitCount_0f7a4_16 ?_
  refine g_iushr dJ6_bitCount_0f7a4_17 ?_
  refine g_ldcw (a := 858993459) dJ6_bitCount_0f7a4_18 ct_J6_266 (by decide) ?_
  refine g_iand dJ6_bitCount_0f7a4_21 ?_
  refine g_iadd dJ6_bitCount_0f7a4_22 ?_
  refine g_istore_n (lv' := [_]) dJ6_bitCount_0f7a4_23 (Nat.le_of_ble_eq_true rfl) rfl ?_
  refine g_iload_n dJ6_bitCount_0f7a4_24 rfl ?_
  refine g_iload_n dJ6_bitCount_0f7a4_25 rfl ?_
  refine g_iconst dJ6_bitCount_0f7a4_26 ?_
  refine g_iushr dJ6_bitCount_0f7a4_27 ?_
  refine g_iadd dJ6_bitCount_0f7a4_28 ?_
  refine g_ldcw (a := 252645135) dJ6_bitCount_0f7a4_29 ct_J6_267 (by decide) ?_
  refine g_iand dJ6_bitCount_0f7a4_32 ?_
  refine g_istore_n (lv' := [_]) dJ6_bitCount_0f7a4_33 (Nat.le_of_ble_eq_true rfl) rfl ?_
  refine g_iload_n dJ6_bitCount_0f7a4_34 rfl ?_
  refine g_iload_n dJ6_bitCount_0f7a4_35 rfl ?_
  refine g_bipush dJ6_bitCount_0f7a4_36 (by decide) ?_
  refine g_iushr dJ6_bitCount_0f7a4_38 ?_
  refine g_iadd dJ6_bitCount_0f7a4_39 ?_
  refine g_istore_n (lv' := [_]) dJ6_bitCount_0f7a4_40 (Nat.le_of_ble_eq_true rfl) rfl ?_
  refine g_iload_n dJ6_bitCount_0f7a4_41 rfl ?_
  refine g_iload_n dJ6_bitCount_0f7a4_42 rfl ?_
  refine g_bipush dJ6_bitCount_0f7a4_43 (by decide) ?_
  refine g_iushr dJ6_bitCount_0f7a4_45 ?_
  refine g_iadd dJ6_bitCount_0f7a4_46 ?_
  refine g_istore_n (lv' := [_]) dJ6_bitCount_0f7a4_47 (Nat.le_of_ble_eq_true rfl) rfl ?_
  refine g_iload_n dJ6_bitCount_0f7a4_48 rfl ?_
  refine g_bipush dJ6_bitCount_0f7a4_49 (by decide) ?_
  refine g_iand dJ6_bitCount_0f7a4_51 ?_
  exact f_iret dJ6_bitCount_0f7a4_52 rfl rfl

def S_X4_add (σ : xMi) (n1 : Int) (p1 : Int) (b1 : Int) (z : Nat) : xMi := (if x_wr 6 ≤ x_wr (σ 15 0 3) then σ else (x_up (x_up (x_up (x_up σ 16 0 z n1) 17 0 z p1) 18 0 z b1) 15 0 3 (((x_up (x_up (x_up σ 16 0 z n1) 17 0 z p1) 18 0 z b1) 15 0 3) + 1)))
theorem fr_S_X4_add (σ : xMi) (n1 : Int) (p1 : Int) (b1 : Int) (z : Nat) {t i k : Nat} (h : ¬ (15 ≤ t ∧ t ≤ 18)) : S_X4_add σ n1 p1 b1 z t i k = σ t i k := by
  unfold S_X4_add
  all_goals ((repeat' split) <;> first | rfl | simp (disch := first | omega | assumption) only [x_up_o, x_cp_o])
theorem c_X4_add (l : Launch) (n : Nat) (σ : xMi) (n1 : Int) (p1 : Int) (b1 : Int) (z : Nat) (hn : 131 ≤ n) (hz6 : z ≤ 6) (hb1 : b1 = 0 ∨ b1 = 1) (hz : σ 15 0 3 = (z : Int)) : x_F l yX4_add RX4 cX4_add 4 none 0 n σ [xR 15 0, xI n1, xI p1, xI b1] none (S_X4_add σ n1 p1 b1 z) := by
  refine f_of (by decide) rfl (Nat.le_of_ble_eq_true rfl) rfl ?_
  refine g_aload_n dX4_add_0 rfl ?_
  refine g_getI dX4_add_1 fl_X4_22 (x_vC hn (Nat.le_of_ble_eq_true rfl) (Nat.le_of_ble_eq_true rfl)) rfl rfl ?_
  refine g_bipush dX4_add_4 (by decide) ?_
  refine g_cmp_ge 49 dX4_add_6 rfl (fun c_6 => ?_) (fun c_6 => ?_)
  · exact f_vret dX4_add_49 rfl (by rw [S_X4_add, if_pos c_6])
  · have hz5 : z < 6 := by rw [hz, x_nat (by omega), show x_wr 6 = 6 from by decide] at c_6; omega
    refine g_aload_n dX4_add_9 rfl ?_
    refine g_getR (t2 := 16) (i2 := 0) dX4_add_10 fl_X4_9 (x_vC hn (Nat.le_of_ble_eq_true rfl) (Nat.le_of_ble_eq_true rfl)) rfl rfl rfl ?_
    refine g_aload_n dX4_add_13 rfl ?_
    refine g_getI dX4_add_14 fl_X4_22 (x_vC hn (Nat.le_of_ble_eq_true rfl) (Nat.le_of_ble_eq_true rfl)) rfl rfl ?_
    refine g_eqI ((z : Nat) : Int) hz ?_
    refine g_iload_n dX4_add_17 rfl ?_
    refine g_iast z dX4_add_18 rfl hz5 (x_vC hn (Nat.le_of_ble_eq_true rfl) (Nat.le_of_ble_eq_true rfl)) rfl ?_
    refine g_aload_n dX4_add_19 rfl ?_
    refine g_getR (t2 := 17) (i2 := 0) dX4_add_20 fl_X4_15 (x_vC hn (Nat.le_of_ble_eq_true rfl) (Nat.le_of_ble_eq_true rfl)) rfl rfl rfl ?_
    refine g_aload_n dX4_add_23 rfl ?_
    refine g_getI dX4_add_24 fl_X4_22 (x_vC hn (Nat.le_of_ble_eq_true rfl) (Nat.le_of_ble_eq_true rfl)) rfl rfl ?_
    refine g_eqI ((z : Nat) : Int) (by simp (disch := first | omega | assumption) only [x_up_o, x_cp_o]; exact hz) ?_
    refine g_iload_n dX4_add_27 rfl ?_
    refine g_iast z dX4_add_28 rfl hz5 (x_vC hn (Nat.le_of_ble_eq_true rfl) (Nat.le_of_ble_eq_true rfl)) rfl ?_
    refine g_aload_n dX4_add_29 rfl ?_
    refine g_getR (t2 := 18) (i2 := 0) dX4_add_30 fl_X4_18 (x_vC hn (Nat.le_of_ble_eq_true rfl) (Nat.le_of_ble_eq_true rfl)) rfl rfl rfl ?_
    refine g_aload_n dX4_add_33 rfl ?_
    refine g_getI dX4_add_34 fl_X4_22 (x_vC hn (Nat.le_of_ble_eq_true rfl) (Nat.le_of_ble_eq_true rfl)) rfl rfl ?_
    refine g_eqI ((z : Nat) : Int) (by simp (disch := first | omega | assumption) only [x_up_o, x_cp_o]; exact hz) ?_
    refine g_iload_n dX4_add_37 rfl ?_
    refine g_zast z dX4_add_38 rfl hz5 (x_vC hn (Nat.le_of_ble_eq_true rfl) (Nat.le_of_ble_eq_true rfl)) rfl (x_bnar hb1) ?_
    refine g_aload_n dX4_add_39 rfl ?_
    refine g_dup dX4_add_40 rfl ?_
    refine g_getI dX4_add_41 fl_X4_22 (x_vC hn (Nat.le_of_ble_eq_true rfl) (Nat.le_of_ble_eq_true rfl)) rfl rfl ?_
    refine g_iconst dX4_add_44 ?_
    refine g_iadd dX4_add_45 ?_
    refine g_putI dX4_add_46 fl_X4_22 (x_vC hn (Nat.le_of_ble_eq_true rfl) (Nat.le_of_ble_eq_true rfl)) rfl rfl ?_
    exact f_vret dX4_add_49 rfl (by rw [S_X4_add, if_neg c_6])

def RV_X4_holdAfter_2 (n1 : Int) (f : Nat) (z : Nat) : Nat → Nat → xMi → Int
  | 0, p, σ => 1
  | k + 1, p, σ => (if x_wr (σ 16 0 p) = x_wr n1 then (if x_wr (V_X0_isTold σ f (σ 17 0 p).toNat) = x_wr (σ 18 0 p) then (RV_X4_holdAfter_2 n1 f z k (p + 1) σ ) else 0) else (RV_X4_holdAfter_2 n1 f z k (p + 1) σ ))
theorem lh_X4_holdAfter_2 (l : Launch) (n : Nat) (n1 : Int) (f : Nat) (z : Nat) (hn : 131 ≤ n) (hf : f < 20) (hz6 : z ≤ 6) : ∀ (k p : Nat) (σ : xMi) , p + k = z → (σ 15 0 3 = (z : Int)) → (∀ k, 0 ≤ σ 17 0 k ∧ σ 17 0 k < 6) →  x_G l RX4 cX4_holdAfter 4 (some .boolean) 1 n (some (xI (RV_X4_holdAfter_2 n1 f z k p σ ))) σ 2 [(3, xI (p : Int)), (0, xR 15 0), (1, xI n1), (2, xR 0 f)] [] σ := by
  intro k
  induction k with
  | zero =>
    intro p σ  hk hz hwh
    refine g_iload_n dX4_holdAfter_2 rfl ?_
    refine g_aload_n dX4_holdAfter_3 rfl ?_
    refine g_getI dX4_holdAfter_4 fl_X4_22 (x_vC hn (Nat.le_of_ble_eq_true rfl) (Nat.le_of_ble_eq_true rfl)) rfl rfl ?_
    refine g_cmp_ge 47 dX4_holdAfter_7 rfl (fun c_7 => ?_) (fun c_7 => absurd (by rw [hz, x_nat (by omega), x_nat (by omega)]; omega) c_7)
    refine g_iconst dX4_holdAfter_47 ?_
    exact f_zret dX4_holdAfter_48 (by decide) rfl rfl
  | succ k ih =>
    intro p σ  hk hz hwh
    have hp : p < 6 := by omega
    refine g_iload_n dX4_holdAfter_2 rfl ?_
    refine g_aload_n dX4_holdAfter_3 rfl ?_
    refine g_getI dX4_holdAfter_4 fl_X4_22 (x_vC hn (Nat.le_of_ble_eq_true rfl) (Nat.le_of_ble_eq_true rfl)) rfl rfl ?_
    refine g_cmp_ge 47 dX4_holdAfter_7 rfl (fun c_7 => absurd c_7 (by rw [hz, x_nat (by omega), x_nat (by omega)]; omega)) (fun c_7 => ?_)
    refine g_aload_n dX4_holdAfter_10 rfl ?_
    refine g_getR (t2 := 16) (i2 := 0) dX4_holdAfter_11 fl_X4_9 (x_vC hn (Nat.le_of_ble_eq_true rfl) (Nat.le_of_ble_eq_true rfl)) rfl rfl rfl ?_
    refine g_iload_n dX4_holdAfter_14 rfl ?_
    refine g_iald p dX4_holdAfter_15 rfl hp (x_vC hn (Nat.le_of_ble_eq_true rfl) (Nat.le_of_ble_eq_true rfl)) rfl ?_
    refine g_iload_n dX4_holdAfter_16 rfl ?_
    refine g_cmp_ne 41 dX4_holdAfter_17 rfl (fun c_17 => ?_) (fun c_17 => ?_)
    · refine g_iinc (lv' := [(3, xI (((p + 1) : Nat) : Int)), _, _, _]) dX4_holdAfter_41 (Nat.le_of_ble_eq_true rfl) rfl rfl ?_
      refine g_goto 2 dX4_holdAfter_44 rfl ?_
      refine g_sub (lv2 := [(3, xI (((p + 1) : Nat) : Int)), _, _, _]) [0, 1, 2, 3] rfl ?_
      exact f_cv (by rw [RV_X4_holdAfter_2, if_neg c_17]) rfl (ih (p + 1) _  (by omega) hz hwh)
    · refine g_aload_n dX4_holdAfter_20 rfl ?_
      refine g_aload_n dX4_holdAfter_21 rfl ?_
      refine g_getR (t2 := 17) (i2 := 0) dX4_holdAfter_22 fl_X4_15 (x_vC hn (Nat.le_of_ble_eq_true rfl) (Nat.le_of_ble_eq_true rfl)) rfl rfl rfl ?_
      refine g_iload_n dX4_holdAfter_25 rfl ?_
      refine g_iald p dX4_holdAfter_26 rfl hp (x_vC hn (Nat.le_of_ble_eq_true rfl) (Nat.le_of_ble_eq_true rfl)) rfl ?_
      refine g_eqI (((σ 17 0 p).toNat : Nat) : Int) (by have := hwh p; omega) ?_
      refine f_V dX4_holdAfter_27 cs_X4_42 mb_X0_isTold (c_X0_isTold l n _ f (σ 17 0 p).toNat hn hf (by have := hwh p; omega)) rfl (x_vC hn (Nat.le_of_ble_eq_true rfl) hf) rfl rfl rfl (Nat.le_of_ble_eq_true rfl) (by decide) (Nat.le_of_ble_eq_true rfl) (Nat.le_refl _) (Nat.le_refl _) ?_
      refine g_aload_n dX4_holdAfter_30 rfl ?_
      refine g_getR (t2 := 18) (i2 := 0) dX4_holdAfter_31 fl_X4_18 (x_vC hn (Nat.le_of_ble_eq_true rfl) (Nat.le_of_ble_eq_true rfl)) rfl rfl rfl ?_
      refine g_iload_n dX4_holdAfter_34 rfl ?_
      refine g_zald p dX4_holdAfter_35 rfl hp (x_vC hn (Nat.le_of_ble_eq_true rfl) (Nat.le_of_ble_eq_true rfl)) rfl ?_
      refine g_cmp_eq 41 dX4_holdAfter_36 rfl (fun c_36 => ?_) (fun c_36 => ?_)
      · refine g_iinc (lv' := [(3, xI (((p + 1) : Nat) : Int)), _, _, _]) dX4_holdAfter_41 (Nat.le_of_ble_eq_true rfl) rfl rfl ?_
        refine g_goto 2 dX4_holdAfter_44 rfl ?_
        refine g_sub (lv2 := [(3, xI (((p + 1) : Nat) : Int)), _, _, _]) [0, 1, 2, 3] rfl ?_
        exact f_cv (by rw [RV_X4_holdAfter_2, if_pos c_17, if_pos c_36]) rfl (ih (p + 1) _  (by omega) hz hwh)
      · refine g_iconst dX4_holdAfter_39 ?_
        exact f_zret dX4_holdAfter_40 (by decide) (by rw [RV_X4_holdAfter_2, if_pos c_17, if_neg c_36]) rfl
def V_X4_holdAfter (σ : xMi) (n1 : Int) (f : Nat) (z : Nat) : Int := (RV_X4_holdAfter_2 n1 f z z 0 σ )
theorem c_X4_holdAfter (l : Launch) (n : Nat) (σ : xMi) (n1 : Int) (f : Nat) (z : Nat) (hn : 131 ≤ n) (hf : f < 20) (hz6 : z ≤ 6) (hz : σ 15 0 3 = (z : Int)) (hwh : ∀ k, 0 ≤ σ 17 0 k ∧ σ 17 0 k < 6) : x_F l yX4_holdAfter RX4 cX4_holdAfter 4 (some .boolean) 1 n σ [xR 15 0, xI n1, xR 0 f] (some (xI (V_X4_holdAfter σ n1 f z))) σ := by
  refine f_of (by decide) rfl (Nat.le_of_ble_eq_true rfl) rfl ?_
  refine g_iconst dX4_holdAfter_0 ?_
  refine g_istore_n (lv' := [_, _, _, _]) dX4_holdAfter_1 (Nat.le_of_ble_eq_true rfl) rfl ?_
  refine g_sub (lv2 := [(3, xI ((0 : Nat) : Int)), _, _, _]) [0, 1, 2, 3] rfl ?_
  exact f_cv rfl rfl (lh_X4_holdAfter_2 l n n1 f z hn hf hz6 z 0 _  (by omega) hz hwh)

theorem zh_X4 (n1 : Int) (f z : Nat) : ∀ (k p : Nat) (σ : xMi), RV_X4_holdAfter_2 n1 f z k p σ = 0 ∨ RV_X4_holdAfter_2 n1 f z k p σ = 1 := by
  intro k
  induction k with
  | zero => intro p σ; exact Or.inr rfl
  | succ k ih =>
    intro p σ
    simp only [RV_X4_holdAfter_2]
    (repeat' split) <;> first | exact ih _ _ | exact Or.inl rfl
def RV_X4_allHold_31 (f : Nat) (K : Nat) (z : Nat) : Nat → Nat → xMi → Int → Int
  | 0, e, σ, a => 1
  | k + 1, e, σ, a => (if x_wr (V_X4_holdAfter σ (e : Int) f z) = 0 then 0 else (RV_X4_allHold_31 f K z k (e + 1) (S_X0_passDay σ f 0 K) a))
def RS_X4_allHold_31 (f : Nat) (K : Nat) (z : Nat) : Nat → Nat → xMi → Int → xMi
  | 0, e, σ, a => σ
  | k + 1, e, σ, a => (if x_wr (V_X4_holdAfter σ (e : Int) f z) = 0 then σ else (RS_X4_allHold_31 f K z k (e + 1) (S_X0_passDay σ f 0 K) a))
theorem fr_RS_X4_allHold_31 (f : Nat) (K : Nat) (z : Nat) {t i k' : Nat} (h : ¬ (t ≤ 4 ∧ i = f)) : ∀ (k p : Nat) (σ : xMi) (a : Int), RS_X4_allHold_31 f K z k p σ a t i k' = σ t i k' := by
  intro k
  induction k with
  | zero =>
    intro p σ a
    simp only [RS_X4_allHold_31]
    all_goals ((repeat' split) <;> simp (disch := first | omega | assumption) only [x_up_o, x_cp_o])
  | succ k ih =>
    intro p σ a
    simp only [RS_X4_allHold_31]
    all_goals (repeat' split)
    all_goals (first | rw [ih] | skip)
    all_goals first | done | simp (disch := first | omega | assumption) only [x_up_o, x_cp_o, fr_S_X0_passDay]
theorem lh_X4_allHold_31 (l : Launch) (n : Nat) (f : Nat) (K : Nat) (z : Nat) (hn : 131 ≤ n) (hf : f < 20) (hK : K ≤ 6) (hz6 : z ≤ 6) : ∀ (k e : Nat) (σ : xMi) (a : Int), e + k = a.toNat + 1 ∧ 0 ≤ a ∧ a ≤ 40 → (σ 5 (x_rof f) 4 = (K : Int)) → (σ 15 0 3 = (z : Int)) → (∀ k, 0 ≤ σ 17 0 k ∧ σ 17 0 k < 6) → (∀ k, 0 ≤ σ 16 0 k ∧ σ 16 0 k ≤ 40) →  x_G l RX4 cX4_allHold 4 (some .boolean) 4 n (some (xI (RV_X4_allHold_31 f K z k e σ a))) (RS_X4_allHold_31 f K z k e σ a) 31 [(3, xI (e : Int)), (2, xI a), (0, xR 15 0), (1, xR 0 f)] [] σ := by
  intro k
  induction k with
  | zero =>
    intro e σ a hk hsz hz hwh hdb
    refine g_iload_n dX4_allHold_31 rfl ?_
    refine g_iload_n dX4_allHold_32 rfl ?_
    refine g_cmp_gt 58 dX4_allHold_33 rfl (fun c_33 => ?_) (fun c_33 => absurd (by rw [x_nat (by omega), x_wr_of (by omega) (by omega)]; omega) c_33)
    refine g_iconst dX4_allHold_58 ?_
    exact f_zret dX4_allHold_59 (by decide) rfl rfl
  | succ k ih =>
    intro e σ a hk hsz hz hwh hdb
    refine g_iload_n dX4_allHold_31 rfl ?_
    refine g_iload_n dX4_allHold_32 rfl ?_
    refine g_cmp_gt 58 dX4_allHold_33 rfl (fun c_33 => absurd c_33 (by rw [x_nat (by omega), x_wr_of (by omega) (by omega)]; omega)) (fun c_33 => ?_)
    refine g_aload_n dX4_allHold_36 rfl ?_
    refine g_iload_n dX4_allHold_37 rfl ?_
    refine g_aload_n dX4_allHold_38 rfl ?_
    refine f_V dX4_allHold_39 cs_X4_32 mb_X4_holdAfter (c_X4_holdAfter l n _ (e : Int) f z hn hf hz6 hz hwh) rfl (x_vC hn (Nat.le_of_ble_eq_true rfl) (Nat.le_of_ble_eq_true rfl)) rfl rfl rfl (Nat.le_of_ble_eq_true rfl) (by decide) (Nat.le_of_ble_eq_true rfl) (Nat.le_refl _) (Nat.le_refl _) ?_
    refine g_if_ne 47 dX4_allHold_42 rfl (fun c_42 => ?_) (fun c_42 => ?_)
    · refine g_aload_n dX4_allHold_47 rfl ?_
      refine g_iconst dX4_allHold_48 ?_
      refine f_Vv dX4_allHold_49 cs_X4_36 mb_X0_passDay (c_X0_passDay l n _ f 0 K hn hf hK hsz) rfl (x_vC hn (Nat.le_of_ble_eq_true rfl) hf) rfl rfl rfl (Nat.le_of_ble_eq_true rfl) (by decide) (Nat.le_of_ble_eq_true rfl) (Nat.le_refl _) (Nat.le_refl _) ?_
      refine g_iinc (lv' := [(3, xI (((e + 1) : Nat) : Int)), _, _, _]) dX4_allHold_52 (Nat.le_of_ble_eq_true rfl) rfl rfl ?_
      refine g_goto 31 dX4_allHold_55 rfl ?_
      refine g_sub (lv2 := [(3, xI (((e + 1) : Nat) : Int)), _, _, _]) [0, 1, 2, 3] rfl ?_
      exact f_cv (by rw [RV_X4_allHold_31, if_neg c_42]) (by rw [RS_X4_allHold_31, if_neg c_42]) (ih (e + 1) _ _ (by omega) (by first | exact hsz | (simp (disch := omega) only [x_up_o, x_cp_o, fr_S_X0_passDay]; exact hsz) | (simp (disch := first | omega | assumption) only [x_up_o, x_cp_o, fr_S_X0_passDay]; exact hsz)) (by first | exact hz | (simp (disch := omega) only [x_up_o, x_cp_o, fr_S_X0_passDay]; exact hz) | (simp (disch := first | omega | assumption) only [x_up_o, x_cp_o, fr_S_X0_passDay]; exact hz)) (by first | exact hwh | (simp (disch := omega) only [x_up_o, x_cp_o, fr_S_X0_passDay]; exact hwh) | (simp (disch := first | omega | assumption) only [x_up_o, x_cp_o, fr_S_X0_passDay]; exact hwh)) (by first | exact hdb | (simp (disch := omega) only [x_up_o, x_cp_o, fr_S_X0_passDay]; exact hdb) | (simp (disch := first | omega | assumption) only [x_up_o, x_cp_o, fr_S_X0_passDay]; exact hdb)))
    · refine g_iconst dX4_allHold_45 ?_
      exact f_zret dX4_allHold_46 (by decide) (by rw [RV_X4_allHold_31, if_pos c_42]) (by rw [RS_X4_allHold_31, if_pos c_42])
def RV_X4_allHold_4 (f : Nat) (K : Nat) (z : Nat) : Nat → Nat → xMi → Int → Int
  | 0, p, σ, a => (RV_X4_allHold_31 f K z (a.toNat + 1) 0 σ a)
  | k + 1, p, σ, a => (RV_X4_allHold_4 f K z k (p + 1) σ (x_max a (σ 16 0 p)))
def RS_X4_allHold_4 (f : Nat) (K : Nat) (z : Nat) : Nat → Nat → xMi → Int → xMi
  | 0, p, σ, a => (RS_X4_allHold_31 f K z (a.toNat + 1) 0 σ a)
  | k + 1, p, σ, a => (RS_X4_allHold_4 f K z k (p + 1) σ (x_max a (σ 16 0 p)))
theorem fr_RS_X4_allHold_4 (f : Nat) (K : Nat) (z : Nat) {t i k' : Nat} (h : ¬ (t ≤ 4 ∧ i = f)) : ∀ (k p : Nat) (σ : xMi) (a : Int), RS_X4_allHold_4 f K z k p σ a t i k' = σ t i k' := by
  intro k
  induction k with
  | zero =>
    intro p σ a
    simp only [RS_X4_allHold_4]
    all_goals ((repeat' split) <;> simp (disch := first | omega | assumption) only [x_up_o, x_cp_o, fr_RS_X4_allHold_31])
  | succ k ih =>
    intro p σ a
    simp only [RS_X4_allHold_4]
    all_goals (repeat' split)
    all_goals (first | rw [ih] | skip)
    all_goals first | done | simp (disch := first | omega | assumption) only [x_up_o, x_cp_o]
theorem lh_X4_allHold_4 (l : Launch) (n : Nat) (f : Nat) (K : Nat) (z : Nat) (hn : 131 ≤ n) (hf : f < 20) (hK : K ≤ 6) (hz6 : z ≤ 6) : ∀ (k p : Nat) (σ : xMi) (a : Int), p + k = z ∧ 0 ≤ a ∧ a ≤ 40 → (σ 5 (x_rof f) 4 = (K : Int)) → (σ 15 0 3 = (z : Int)) → (∀ k, 0 ≤ σ 17 0 k ∧ σ 17 0 k < 6) → (∀ k, 0 ≤ σ 16 0 k ∧ σ 16 0 k ≤ 40) →  x_G l RX4 cX4_allHold 4 (some .boolean) 4 n (some (xI (RV_X4_allHold_4 f K z k p σ a))) (RS_X4_allHold_4 f K z k p σ a) 4 [(3, xI (p : Int)), (2, xI a), (0, xR 15 0), (1, xR 0 f)] [] σ := by
  intro k
  induction k with
  | zero =>
    intro p σ a hk hsz hz hwh hdb
    refine g_iload_n dX4_allHold_4 rfl ?_
    refine g_aload_n dX4_allHold_5 rfl ?_
    refine g_getI dX4_allHold_6 fl_X4_22 (x_vC hn (Nat.le_of_ble_eq_true rfl) (Nat.le_of_ble_eq_true rfl)) rfl rfl ?_
    refine g_cmp_ge 29 dX4_allHold_9 rfl (fun c_9 => ?_) (fun c_9 => absurd (by rw [hz, x_nat (by omega), x_nat (by omega)]; omega) c_9)
    refine g_iconst dX4_allHold_29 ?_
    refine g_istore_n (lv' := [_, _, _, _]) dX4_allHold_30 (Nat.le_of_ble_eq_true rfl) rfl ?_
    refine g_sub (lv2 := [(3, xI ((0 : Nat) : Int)), _, _, _]) [0, 1, 2, 3] rfl ?_
    exact f_cv rfl rfl (lh_X4_allHold_31 l n f K z hn hf hK hz6 (a.toNat + 1) 0 _ _ (by omega) hsz hz hwh hdb)
  | succ k ih =>
    intro p σ a hk hsz hz hwh hdb
    have hp : p < 6 := by omega
    refine g_iload_n dX4_allHold_4 rfl ?_
    refine g_aload_n dX4_allHold_5 rfl ?_
    refine g_getI dX4_allHold_6 fl_X4_22 (x_vC hn (Nat.le_of_ble_eq_true rfl) (Nat.le_of_ble_eq_true rfl)) rfl rfl ?_
    refine g_cmp_ge 29 dX4_allHold_9 rfl (fun c_9 => absurd c_9 (by rw [hz, x_nat (by omega), x_nat (by omega)]; omega)) (fun c_9 => ?_)
    refine g_iload_n dX4_allHold_12 rfl ?_
    refine g_aload_n dX4_allHold_13 rfl ?_
    refine g_getR (t2 := 16) (i2 := 0) dX4_allHold_14 fl_X4_9 (x_vC hn (Nat.le_of_ble_eq_true rfl) (Nat.le_of_ble_eq_true rfl)) rfl rfl rfl ?_
    refine g_iload_n dX4_allHold_17 rfl ?_
    refine g_iald p dX4_allHold_18 rfl hp (x_vC hn (Nat.le_of_ble_eq_true rfl) (Nat.le_of_ble_eq_true rfl)) rfl ?_
    refine g_max dX4_allHold_19 cx_X4_26 w_max.1 w_max.2.1 w_max.2.2 (by decide) (Nat.le_of_ble_eq_true rfl) (Nat.le_refl _) (Nat.le_refl _) ?_
    refine g_istore_n (lv' := [_, _, _, _]) dX4_allHold_22 (Nat.le_of_ble_eq_true rfl) rfl ?_
    refine g_iinc (lv' := [(3, xI (((p + 1) : Nat) : Int)), _, _, _]) dX4_allHold_23 (Nat.le_of_ble_eq_true rfl) rfl rfl ?_
    refine g_goto 4 dX4_allHold_26 rfl ?_
    refine g_sub (lv2 := [(3, xI (((p + 1) : Nat) : Int)), _, _, _]) [0, 1, 2, 3] rfl ?_
    exact f_cv rfl rfl (ih (p + 1) _ _ (by have h9 := x_max_in (a := a) (lo := 0) (hi := 40) (by omega) (hdb p); omega) hsz hz hwh hdb)
def V_X4_allHold (σ : xMi) (f : Nat) (K : Nat) (z : Nat) : Int := (RV_X4_allHold_4 f K z z 0 σ 0)
def S_X4_allHold (σ : xMi) (f : Nat) (K : Nat) (z : Nat) : xMi := (RS_X4_allHold_4 f K z z 0 σ 0)
theorem fr_S_X4_allHold (σ : xMi) (f : Nat) (K : Nat) (z : Nat) {t i k : Nat} (h : ¬ (t ≤ 4 ∧ i = f)) : S_X4_allHold σ f K z t i k = σ t i k := by
  unfold S_X4_allHold
  all_goals ((repeat' split) <;> first | rfl | simp (disch := first | omega | assumption) only [x_up_o, x_cp_o, fr_RS_X4_allHold_4])
theorem c_X4_allHold (l : Launch) (n : Nat) (σ : xMi) (f : Nat) (K : Nat) (z : Nat) (hn : 131 ≤ n) (hf : f < 20) (hK : K ≤ 6) (hz6 : z ≤ 6) (hsz : σ 5 (x_rof f) 4 = (K : Int)) (hz : σ 15 0 3 = (z : Int)) (hwh : ∀ k, 0 ≤ σ 17 0 k ∧ σ 17 0 k < 6) (hdb : ∀ k, 0 ≤ σ 16 0 k ∧ σ 16 0 k ≤ 40) : x_F l yX4_allHold RX4 cX4_allHold 4 (some .boolean) 4 n σ [xR 15 0, xR 0 f] (some (xI (V_X4_allHold σ f K z))) (S_X4_allHold σ f K z) := by
  refine f_of (by decide) rfl (Nat.le_of_ble_eq_true rfl) rfl ?_
  refine g_iconst dX4_allHold_0 ?_
  refine g_istore_n (lv' := [_, _, _]) dX4_allHold_1 (Nat.le_of_ble_eq_true rfl) rfl ?_
  refine g_iconst dX4_allHold_2 ?_
  refine g_istore_n (lv' := [_, _, _, _]) dX4_allHold_3 (Nat.le_of_ble_eq_true rfl) rfl ?_
  refine g_sub (lv2 := [(3, xI ((0 : Nat) : Int)), _, _, _]) [0, 1, 2, 3] rfl ?_
  exact f_cv rfl rfl (lh_X4_allHold_4 l n f K z hn hf hK hz6 z 0 _ _ (by omega) hsz hz hwh hdb)

def S_X2_push (σ : xMi) (j : Nat) (f : Nat) (τ : Nat) : xMi := (if x_wr (x_ln 14 j : Int) ≤ x_wr ((σ 13 j 2) + 1) then (x_up (S_X0_copyFrom (x_up σ 13 j 2 0) (x_pf j 0) f) 13 j 1 (x_min (((S_X0_copyFrom (x_up σ 13 j 2 0) (x_pf j 0) f) 13 j 1) + 1) (x_ln 14 j : Int))) else (x_up (S_X0_copyFrom (x_up σ 13 j 2 ((σ 13 j 2) + 1)) (x_pf j (τ + 1)) f) 13 j 1 (x_min (((S_X0_copyFrom (x_up σ 13 j 2 ((σ 13 j 2) + 1)) (x_pf j (τ + 1)) f) 13 j 1) + 1) (x_ln 14 j : Int))))
theorem c_X2_push (l : Launch) (n : Nat) (σ : xMi) (j : Nat) (f : Nat) (τ : Nat) (hn : 131 ≤ n) (hj : j < 2) (hf : f < 20) (hτL : τ < x_ln 14 j) (hτ : σ 13 j 2 = (τ : Int)) : x_F l yX2_push RX2 cX2_push 2 none 2 n σ [xR 13 j, xR 0 f] none (S_X2_push σ j f τ) := by
  refine f_of (by decide) rfl (Nat.le_of_ble_eq_true rfl) rfl ?_
  refine g_aload_n dX2_push_0 rfl ?_
  refine g_aload_n dX2_push_1 rfl ?_
  refine g_getI dX2_push_2 fl_X2_13 (x_vC hn (Nat.le_of_ble_eq_true rfl) hj) rfl rfl ?_
  refine g_iconst dX2_push_5 ?_
  refine g_iadd dX2_push_6 ?_
  refine g_aload_n dX2_push_7 rfl ?_
  refine g_getR (t2 := 14) (i2 := j) dX2_push_8 fl_X2_24 (x_vC hn (Nat.le_of_ble_eq_true rfl) hj) rfl rfl rfl ?_
  refine g_alen (v := (x_ln 14 j : Int)) dX2_push_11 (x_vC hn (Nat.le_of_ble_eq_true rfl) hj) rfl rfl ?_
  refine g_cmp_ge 24 dX2_push_12 rfl (fun c_12 => ?_) (fun c_12 => ?_)
  · refine g_iconst dX2_push_24 ?_
    refine g_putI dX2_push_25 fl_X2_13 (x_vC hn (Nat.le_of_ble_eq_true rfl) hj) rfl rfl ?_
    refine g_aload_n dX2_push_28 rfl ?_
    refine g_getR (t2 := 14) (i2 := j) dX2_push_29 fl_X2_24 (x_vC hn (Nat.le_of_ble_eq_true rfl) hj) rfl rfl rfl ?_
    refine g_aload_n dX2_push_32 rfl ?_
    refine g_getI dX2_push_33 fl_X2_13 (x_vC hn (Nat.le_of_ble_eq_true rfl) hj) rfl rfl ?_
    refine g_eqI ((0 : Nat) : Int) (by simp [x_up]) ?_
    refine g_aald (t2 := 0) (i2 := (x_pf j 0)) 0 dX2_push_36 rfl (x_ln14 j).1 (x_vC hn (Nat.le_of_ble_eq_true rfl) hj) rfl (x_r14 (x_ln14 j).1) ?_
    refine g_aload_n dX2_push_37 rfl ?_
    refine f_Vv dX2_push_38 cs_X2_31 mb_X0_copyFrom (c_X0_copyFrom l n _ (x_pf j 0) f hn (x_pf_lt (x_ln14 j).1) hf) rfl (x_vC hn (Nat.le_of_ble_eq_true rfl) (x_pf_lt (x_ln14 j).1)) rfl rfl rfl (Nat.le_of_ble_eq_true rfl) (by decide) (Nat.le_of_ble_eq_true rfl) (Nat.le_refl _) (Nat.le_refl _) ?_
    refine g_aload_n dX2_push_41 rfl ?_
    refine g_aload_n dX2_push_42 rfl ?_
    refine g_getI dX2_push_43 fl_X2_7 (x_vC hn (Nat.le_of_ble_eq_true rfl) hj) rfl rfl ?_
    refine g_iconst dX2_push_46 ?_
    refine g_iadd dX2_push_47 ?_
    refine g_aload_n dX2_push_48 rfl ?_
    refine g_getR (t2 := 14) (i2 := j) dX2_push_49 fl_X2_24 (x_vC hn (Nat.le_of_ble_eq_true rfl) hj) rfl rfl rfl ?_
    refine g_alen (v := (x_ln 14 j : Int)) dX2_push_52 (x_vC hn (Nat.le_of_ble_eq_true rfl) hj) rfl rfl ?_
    refine g_min dX2_push_53 cx_X2_35 w_min.1 w_min.2.1 w_min.2.2 (by decide) (Nat.le_of_ble_eq_true rfl) (Nat.le_refl _) (Nat.le_refl _) ?_
    refine g_putI dX2_push_56 fl_X2_7 (x_vC hn (Nat.le_of_ble_eq_true rfl) hj) rfl rfl ?_
    exact f_vret dX2_push_59 rfl (by rw [S_X2_push, if_pos c_12])
  · refine g_aload_n dX2_push_15 rfl ?_
    refine g_getI dX2_push_16 fl_X2_13 (x_vC hn (Nat.le_of_ble_eq_true rfl) hj) rfl rfl ?_
    refine g_iconst dX2_push_19 ?_
    refine g_iadd dX2_push_20 ?_
    refine g_goto 25 dX2_push_21 rfl ?_
    refine g_putI dX2_push_25 fl_X2_13 (x_vC hn (Nat.le_of_ble_eq_true rfl) hj) rfl rfl ?_
    refine g_aload_n dX2_push_28 rfl ?_
    refine g_getR (t2 := 14) (i2 := j) dX2_push_29 fl_X2_24 (x_vC hn (Nat.le_of_ble_eq_true rfl) hj) rfl rfl rfl ?_
    refine g_aload_n dX2_push_32 rfl ?_
    refine g_getI dX2_push_33 fl_X2_13 (x_vC hn (Nat.le_of_ble_eq_true rfl) hj) rfl rfl ?_
    have ht1 : τ + 1 < x_ln 14 j := by have h9 := x_ln14 j; rw [show σ 13 j 2 + 1 = ((τ + 1 : Nat) : Int) by rw [hτ]; rfl, x_nat (by omega), x_nat (by omega)] at c_12; omega
    refine g_eqI ((τ + 1 : Nat) : Int) (by simp [x_up, hτ]) ?_
    refine g_aald (t2 := 0) (i2 := (x_pf j (τ + 1))) (τ + 1) dX2_push_36 rfl ht1 (x_vC hn (Nat.le_of_ble_eq_true rfl) hj) rfl (x_r14 ht1) ?_
    refine g_aload_n dX2_push_37 rfl ?_
    refine f_Vv dX2_push_38 cs_X2_31 mb_X0_copyFrom (c_X0_copyFrom l n _ (x_pf j (τ + 1)) f hn (x_pf_lt ht1) hf) rfl (x_vC hn (Nat.le_of_ble_eq_true rfl) (x_pf_lt ht1)) rfl rfl rfl (Nat.le_of_ble_eq_true rfl) (by decide) (Nat.le_of_ble_eq_true rfl) (Nat.le_refl _) (Nat.le_refl _) ?_
    refine g_aload_n dX2_push_41 rfl ?_
    refine g_aload_n dX2_push_42 rfl ?_
    refine g_getI dX2_push_43 fl_X2_7 (x_vC hn (Nat.le_of_ble_eq_true rfl) hj) rfl rfl ?_
    refine g_iconst dX2_push_46 ?_
    refine g_iadd dX2_push_47 ?_
    refine g_aload_n dX2_push_48 rfl ?_
    refine g_getR (t2 := 14) (i2 := j) dX2_push_49 fl_X2_24 (x_vC hn (Nat.le_of_ble_eq_true rfl) hj) rfl rfl rfl ?_
    refine g_alen (v := (x_ln 14 j : Int)) dX2_push_52 (x_vC hn (Nat.le_of_ble_eq_true rfl) hj) rfl rfl ?_
    refine g_min dX2_push_53 cx_X2_35 w_min.1 w_min.2.1 w_min.2.2 (by decide) (Nat.le_of_ble_eq_true rfl) (Nat.le_refl _) (Nat.le_refl _) ?_
    refine g_putI dX2_push_56 fl_X2_7 (x_vC hn (Nat.le_of_ble_eq_true rfl) hj) rfl rfl ?_
    exact f_vret dX2_push_59 rfl (by rw [S_X2_push, if_neg c_12])

def V_X2_popInto (σ : xMi) (j : Nat) (f : Nat) (τ : Nat) : Int := (if x_wr (σ 13 j 1) = 0 then 0 else (if x_wr ((S_X0_copyFrom σ f (x_pf j τ)) 13 j 2) ≤ 0 then 1 else 1))
theorem z_X2_popInto (σ : xMi) (j : Nat) (f : Nat) (τ : Nat) : V_X2_popInto σ j f τ = 0 ∨ V_X2_popInto σ j f τ = 1 := by
  unfold V_X2_popInto
  (repeat' split) <;> first | exact Or.inl rfl | exact Or.inr rfl
def S_X2_popInto (σ : xMi) (j : Nat) (f : Nat) (τ : Nat) : xMi := (if x_wr (σ 13 j 1) = 0 then σ else (if x_wr ((S_X0_copyFrom σ f (x_pf j τ)) 13 j 2) ≤ 0 then (x_up (x_up (S_X0_copyFrom σ f (x_pf j τ)) 13 j 2 ((x_ln 14 j : Int) - 1)) 13 j 1 (((x_up (S_X0_copyFrom σ f (x_pf j τ)) 13 j 2 ((x_ln 14 j : Int) - 1)) 13 j 1) - 1)) else (x_up (x_up (S_X0_copyFrom σ f (x_pf j τ)) 13 j 2 (((S_X0_copyFrom σ f (x_pf j τ)) 13 j 2) - 1)) 13 j 1 (((x_up (S_X0_copyFrom σ f (x_pf j τ)) 13 j 2 (((S_X0_copyFrom σ f (x_pf j τ)) 13 j 2) - 1)) 13 j 1) - 1))))
theorem fr_S_X2_popInto (σ : xMi) (j : Nat) (f : Nat) (τ : Nat) {t i k : Nat} (h : ¬ ((t = 13 ∧ i = j) ∨ (t ≤ 4 ∧ i = f))) : S_X2_popInto σ j f τ t i k = σ t i k := by
  unfold S_X2_popInto
  all_goals ((repeat' split) <;> first | rfl | simp (disch := first | omega | assumption) only [x_up_o, x_cp_o, fr_S_X0_copyFrom])
theorem c_X2_popInto (l : Launch) (n : Nat) (σ : xMi) (j : Nat) (f : Nat) (τ : Nat) (hn : 131 ≤ n) (hj : j < 2) (hf : f < 20) (hτL : τ < x_ln 14 j) (hτ : σ 13 j 2 = (τ : Int)) : x_F l yX2_popInto RX2 cX2_popInto 2 (some .boolean) 2 n σ [xR 13 j, xR 0 f] (some (xI (V_X2_popInto σ j f τ))) (S_X2_popInto σ j f τ) := by
  refine f_of (by decide) rfl (Nat.le_of_ble_eq_true rfl) rfl ?_
  refine g_aload_n dX2_popInto_0 rfl ?_
  refine g_getI dX2_popInto_1 fl_X2_7 (x_vC hn (Nat.le_of_ble_eq_true rfl) hj) rfl rfl ?_
  refine g_if_ne 9 dX2_popInto_4 rfl (fun c_4 => ?_) (fun c_4 => ?_)
  · refine g_aload_n dX2_popInto_9 rfl ?_
    refine g_aload_n dX2_popInto_10 rfl ?_
    refine g_getR (t2 := 14) (i2 := j) dX2_popInto_11 fl_X2_24 (x_vC hn (Nat.le_of_ble_eq_true rfl) hj) rfl rfl rfl ?_
    refine g_aload_n dX2_popInto_14 rfl ?_
    refine g_getI dX2_popInto_15 fl_X2_13 (x_vC hn (Nat.le_of_ble_eq_true rfl) hj) rfl rfl ?_
    refine g_eqI (τ : Int) hτ ?_
    refine g_aald (t2 := 0) (i2 := (x_pf j τ)) τ dX2_popInto_18 rfl hτL (x_vC hn (Nat.le_of_ble_eq_true rfl) hj) rfl (x_r14 hτL) ?_
    refine f_Vv dX2_popInto_19 cs_X2_31 mb_X0_copyFrom (c_X0_copyFrom l n _ f (x_pf j τ) hn hf (x_pf_lt hτL)) rfl (x_vC hn (Nat.le_of_ble_eq_true rfl) hf) rfl rfl rfl (Nat.le_of_ble_eq_true rfl) (by decide) (Nat.le_of_ble_eq_true rfl) (Nat.le_refl _) (Nat.le_refl _) ?_
    refine g_aload_n dX2_popInto_22 rfl ?_
    refine g_aload_n dX2_popInto_23 rfl ?_
    refine g_getI dX2_popInto_24 fl_X2_13 (x_vC hn (Nat.le_of_ble_eq_true rfl) hj) rfl rfl ?_
    refine g_if_le 39 dX2_popInto_27 rfl (fun c_27 => ?_) (fun c_27 => ?_)
    · refine g_aload_n dX2_popInto_39 rfl ?_
      refine g_getR (t2 := 14) (i2 := j) dX2_popInto_40 fl_X2_24 (x_vC hn (Nat.le_of_ble_eq_true rfl) hj) rfl rfl rfl ?_
      refine g_alen (v := (x_ln 14 j : Int)) dX2_popInto_43 (x_vC hn (Nat.le_of_ble_eq_true rfl) hj) rfl rfl ?_
      refine g_iconst dX2_popInto_44 ?_
      refine g_isub dX2_popInto_45 ?_
      refine g_putI dX2_popInto_46 fl_X2_13 (x_vC hn (Nat.le_of_ble_eq_true rfl) hj) rfl rfl ?_
      refine g_aload_n dX2_popInto_49 rfl ?_
      refine g_dup dX2_popInto_50 rfl ?_
      refine g_getI dX2_popInto_51 fl_X2_7 (x_vC hn (Nat.le_of_ble_eq_true rfl) hj) rfl rfl ?_
      refine g_iconst dX2_popInto_54 ?_
      refine g_isub dX2_popInto_55 ?_
      refine g_putI dX2_popInto_56 fl_X2_7 (x_vC hn (Nat.le_of_ble_eq_true rfl) hj) rfl rfl ?_
      refine g_iconst dX2_popInto_59 ?_
      exact f_zret dX2_popInto_60 (by decide) (by rw [V_X2_popInto, if_neg c_4, if_pos c_27]) (by rw [S_X2_popInto, if_neg c_4, if_pos c_27])
    · refine g_aload_n dX2_popInto_30 rfl ?_
      refine g_getI dX2_popInto_31 fl_X2_13 (x_vC hn (Nat.le_of_ble_eq_true rfl) hj) rfl rfl ?_
      refine g_iconst dX2_popInto_34 ?_
      refine g_isub dX2_popInto_35 ?_
      refine g_goto 46 dX2_popInto_36 rfl ?_
      refine g_putI dX2_popInto_46 fl_X2_13 (x_vC hn (Nat.le_of_ble_eq_true rfl) hj) rfl rfl ?_
      refine g_aload_n dX2_popInto_49 rfl ?_
      refine g_dup dX2_popInto_50 rfl ?_
      refine g_getI dX2_popInto_51 fl_X2_7 (x_vC hn (Nat.le_of_ble_eq_true rfl) hj) rfl rfl ?_
      refine g_iconst dX2_popInto_54 ?_
      refine g_isub dX2_popInto_55 ?_
      refine g_putI dX2_popInto_56 fl_X2_7 (x_vC hn (Nat.le_of_ble_eq_true rfl) hj) rfl rfl ?_
      refine g_iconst dX2_popInto_59 ?_
      exact f_zret dX2_popInto_60 (by decide) (by rw [V_X2_popInto, if_neg c_4, if_neg c_27]) (by rw [S_X2_popInto, if_neg c_4, if_neg c_27])
  · refine g_iconst dX2_popInto_7 ?_
    exact f_zret dX2_popInto_8 (by decide) (by rw [V_X2_popInto, if_pos c_4]) (by rw [S_X2_popInto, if_pos c_4])
end
section
theorem x_r20 {k : Nat} (h : k < 7) : x_r0 20 0 k = some (0, 13 + k) := by simp [x_r0, h]
theorem x_rof0 {f : Nat} (h : f ≠ 2) : x_rof f = 0 := if_neg h
theorem g_lveq {l : Launch} {own : String} {cc : ByteArray} {nL : Nat} {ret : Option FieldType} {ini : Bool} {d mc ms : Nat} {Q : xP} {n cu su pc : Nat} {lv lv2 : List (Nat × xV)} {st : List xV} {ρ : xMr} {σ : xMi} (h : lv = lv2) (kk : xGo l own cc nL ret ini d mc ms Q n cu su pc lv2 st ρ σ) : xGo l own cc nL ret ini d mc ms Q n cu su pc lv st ρ σ := by
  subst h; exact kk
def RS_X1_extend_52 (dp : Nat) (b : Int) (m : Nat) (K : Nat) (G : (Int → xMi → xMi)) : Nat → Nat → xMi → xMi
  | 0, p, σ => σ
  | k + 1, p, σ => (if x_wr (x_and (x_shr b (p : Int)) 1) = 0 then (RS_X1_extend_52 dp b m K G k (p + 1) σ ) else (if x_wr (V_X0_canSendNow (S_X0_copyFrom σ (14 + dp) (13 + dp)) (14 + dp) p) = 0 then (if x_wr ((S_X0_passDay (S_X0_copyFrom σ (14 + dp) (13 + dp)) (14 + dp) 0 K) 0 (14 + dp) 9) ≤ 0 then (if x_wr (V_X0_finalWeight (S_X0_passDay (S_X0_copyFrom σ (14 + dp) (13 + dp)) (14 + dp) 0 K) (14 + dp) 0 K) ≤ x_wr ((S_X0_passDay (S_X0_copyFrom σ (14 + dp) (13 + dp)) (14 + dp) 0 K) 19 0 4) then (RS_X1_extend_52 dp b m K G k (p + 1) (S_X0_passDay (S_X0_copyFrom σ (14 + dp) (13 + dp)) (14 + dp) 0 K) ) else (RS_X1_extend_52 dp b m K G k (p + 1) (G (x_and b (x_xor (x_shl 1 (p : Int)) (-1))) (x_up (S_X0_passDay (S_X0_copyFrom σ (14 + dp) (13 + dp)) (14 + dp) 0 K) 21 0 dp (p : Int))) )) else (if x_wr (V_X0_finalWeight (S_X0_passDay (S_X0_copyFrom σ (14 + dp) (13 + dp)) (14 + dp) 0 K) (14 + dp) (x_and b (x_xor (x_shl 1 (p : Int)) (-1))) K) ≤ x_wr ((S_X0_passDay (S_X0_copyFrom σ (14 + dp) (13 + dp)) (14 + dp) 0 K) 19 0 4) then (RS_X1_extend_52 dp b m K G k (p + 1) (S_X0_passDay (S_X0_copyFrom σ (14 + dp) (13 + dp)) (14 + dp) 0 K) ) else (RS_X1_extend_52 dp b m K G k (p + 1) (G (x_and b (x_xor (x_shl 1 (p : Int)) (-1))) (x_up (S_X0_passDay (S_X0_copyFrom σ (14 + dp) (13 + dp)) (14 + dp) 0 K) 21 0 dp (p : Int))) ))) else (if x_wr ((S_X0_passDay (S_X0_dispatch (S_X0_copyFrom σ (14 + dp) (13 + dp)) (14 + dp) p) (14 + dp) 0 K) 0 (14 + dp) 9) ≤ 0 then (if x_wr (V_X0_finalWeight (S_X0_passDay (S_X0_dispatch (S_X0_copyFrom σ (14 + dp) (13 + dp)) (14 + dp) p) (14 + dp) 0 K) (14 + dp) 0 K) ≤ x_wr ((S_X0_passDay (S_X0_dispatch (S_X0_copyFrom σ (14 + dp) (13 + dp)) (14 + dp) p) (14 + dp) 0 K) 19 0 4) then (RS_X1_extend_52 dp b m K G k (p + 1) (S_X0_passDay (S_X0_dispatch (S_X0_copyFrom σ (14 + dp) (13 + dp)) (14 + dp) p) (14 + dp) 0 K) ) else (RS_X1_extend_52 dp b m K G k (p + 1) (G (x_and b (x_xor (x_shl 1 (p : Int)) (-1))) (x_up (S_X0_passDay (S_X0_dispatch (S_X0_copyFrom σ (14 + dp) (13 + dp)) (14 + dp) p) (14 + dp) 0 K) 21 0 dp (p : Int))) )) else (if x_wr (V_X0_finalWeight (S_X0_passDay (S_X0_dispatch (S_X0_copyFrom σ (14 + dp) (13 + dp)) (14 + dp) p) (14 + dp) 0 K) (14 + dp) (x_and b (x_xor (x_shl 1 (p : Int)) (-1))) K) ≤ x_wr ((S_X0_passDay (S_X0_dispatch (S_X0_copyFrom σ (14 + dp) (13 + dp)) (14 + dp) p) (14 + dp) 0 K) 19 0 4) then (RS_X1_extend_52 dp b m K G k (p + 1) (S_X0_passDay (S_X0_dispatch (S_X0_copyFrom σ (14 + dp) (13 + dp)) (14 + dp) p) (14 + dp) 0 K) ) else (RS_X1_extend_52 dp b m K G k (p + 1) (G (x_and b (x_xor (x_shl 1 (p : Int)) (-1))) (x_up (S_X0_passDay (S_X0_dispatch (S_X0_copyFrom σ (14 + dp) (13 + dp)) (14 + dp) p) (14 + dp) 0 K) 21 0 dp (p : Int))) )))))
theorem lh_X1_extend_52 (l : Launch) (n : Nat) (dp : Nat) (b : Int) (m : Nat) (K : Nat) (G : (Int → xMi → xMi)) (hn : 131 ≤ n) (hdp : dp ≤ 1000000) (hK : K ≤ 6) (hd6 : dp ≤ 6) (hG : ∀ {t i k : Nat} (h : ¬ (t = 19 ∨ t = 21 ∨ t = 22 ∨ (t ≤ 4 ∧ 15 + dp ≤ i))) (b : Int) (σ : xMi), G b σ t i k = σ t i k) (hC : dp < 6 → ∀ (b : Int) (σ : xMi), σ 5 0 4 = (K : Int) → x_F l yX1_extend RX1 cX1_extend 6 none (m + 8) n σ [xR 19 0, xI ((dp + 1 : Nat) : Int), xI b] none (G b σ)) : ∀ (k p : Nat) (σ : xMi) , p + k = 6 ∧ dp < 6 → (σ 5 0 4 = (K : Int)) →  x_G l RX1 cX1_extend 6 none (m + 9) n none (RS_X1_extend_52 dp b m K G k p σ ) 52 [(4, xI (p : Int)), (0, xR 19 0), (1, xI (dp : Int)), (2, xI b), (3, xR 0 (14 + dp))] [] σ := by
  intro k
  induction k with
  | zero =>
    intro p σ  hk hsz
    refine g_iload dX1_extend_52 rfl ?_
    refine g_bipush dX1_extend_54 (by decide) ?_
    refine g_cmp_ge 158 dX1_extend_56 rfl (fun c_56 => ?_) (fun c_56 => absurd (by rw [show x_wr 6 = 6 from by decide, x_nat (by omega)]; omega) c_56)
    exact f_vret dX1_extend_158 rfl rfl
  | succ k ih =>
    intro p σ  hk hsz
    have hp : p < 6 := by omega
    have hd5 : dp < 6 := by omega
    refine g_iload dX1_extend_52 rfl ?_
    refine g_bipush dX1_extend_54 (by decide) ?_
    refine g_cmp_ge 158 dX1_extend_56 rfl (fun c_56 => absurd c_56 (by rw [show x_wr 6 = 6 from by decide, x_nat (by omega)]; omega)) (fun c_56 => ?_)
    refine g_iload_n dX1_extend_59 rfl ?_
    refine g_iload dX1_extend_60 rfl ?_
    refine g_ishr dX1_extend_62 ?_
    refine g_iconst dX1_extend_63 ?_
    refine g_iand dX1_extend_64 ?_
    refine g_if_ne 71 dX1_extend_65 rfl (fun c_65 => ?_) (fun c_65 => ?_)
    · refine g_aload_n dX1_extend_71 rfl ?_
      refine g_aload_n dX1_extend_72 rfl ?_
      refine g_getR (t2 := 20) (i2 := 0) dX1_extend_73 fl_X1_11 (x_vC hn (Nat.le_of_ble_eq_true rfl) (Nat.le_of_ble_eq_true rfl)) rfl rfl rfl ?_
      refine g_iload_n dX1_extend_76 rfl ?_
      refine g_aald (t2 := 0) (i2 := (13 + dp)) dp dX1_extend_77 rfl (Nat.lt_succ_of_lt hd5) (x_vC hn (Nat.le_of_ble_eq_true rfl) (Nat.le_of_ble_eq_true rfl)) rfl (x_r20 (by omega)) ?_
      refine f_Vv dX1_extend_78 cs_X1_34 mb_X0_copyFrom (c_X0_copyFrom l n _ (14 + dp) (13 + dp) hn (show 14 + dp < 20 by omega) (show 13 + dp < 20 by omega)) rfl (x_vC hn (Nat.le_of_ble_eq_true rfl) (show 14 + dp < 20 by omega)) rfl rfl rfl (Nat.le_of_ble_eq_true rfl) (by omega) (Nat.le_of_ble_eq_true rfl) (Nat.le_refl _) (Nat.le_refl _) ?_
      refine g_aload_n dX1_extend_81 rfl ?_
      refine g_iload dX1_extend_82 rfl ?_
      refine f_V dX1_extend_84 cs_X1_71 mb_X0_canSendNow (c_X0_canSendNow l n _ (14 + dp) p hn (show 14 + dp < 20 by omega) hp) rfl (x_vC hn (Nat.le_of_ble_eq_true rfl) (show 14 + dp < 20 by omega)) rfl rfl rfl (Nat.le_of_ble_eq_true rfl) (by omega) (Nat.le_of_ble_eq_true rfl) (Nat.le_refl _) (Nat.le_refl _) ?_
      refine g_if_eq 96 dX1_extend_87 rfl (fun c_87 => ?_) (fun c_87 => ?_)
      · refine g_aload_n dX1_extend_96 rfl ?_
        refine g_iconst dX1_extend_97 ?_
        refine f_Vv dX1_extend_98 cs_X1_78 mb_X0_passDay (c_X0_passDay l n _ (14 + dp) 0 K hn (show 14 + dp < 20 by omega) hK (by rw [x_rof0 (by omega)]; first | exact hsz | (simp (disch := first | omega | assumption) only [x_up_o, x_cp_o, fr_S_X0_copyFrom]; exact hsz))) rfl (x_vC hn (Nat.le_of_ble_eq_true rfl) (show 14 + dp < 20 by omega)) rfl rfl rfl (Nat.le_of_ble_eq_true rfl) (by omega) (Nat.le_of_ble_eq_true rfl) (Nat.le_refl _) (Nat.le_refl _) ?_
        refine g_iload_n dX1_extend_101 rfl ?_
        refine g_iconst dX1_extend_102 ?_
        refine g_iload dX1_extend_103 rfl ?_
        refine g_ishl dX1_extend_105 ?_
        refine g_iconst dX1_extend_106 ?_
        refine g_ixor dX1_extend_107 ?_
        refine g_iand dX1_extend_108 ?_
        refine g_istore (lv' := [_, _, _, _, _, _]) dX1_extend_109 (Nat.le_of_ble_eq_true rfl) rfl ?_
        refine g_aload_n dX1_extend_111 rfl ?_
        refine g_aload_n dX1_extend_112 rfl ?_
        refine g_getI dX1_extend_113 fl_X1_38 (x_vC hn (Nat.le_of_ble_eq_true rfl) (show 14 + dp < 20 by omega)) rfl rfl ?_
        refine g_if_le 124 dX1_extend_116 rfl (fun c_116 => ?_) (fun c_116 => ?_)
        · refine g_iconst dX1_extend_124 ?_
          refine f_V dX1_extend_125 cs_X1_62 mb_X0_finalWeight (c_X0_finalWeight l n _ (14 + dp) 0 K hn (show 14 + dp < 20 by omega) hK (by rw [x_rof0 (by omega)]; first | exact hsz | (simp (disch := first | omega | assumption) only [x_up_o, x_cp_o, fr_S_X0_copyFrom, fr_S_X0_passDay]; exact hsz))) rfl (x_vC hn (Nat.le_of_ble_eq_true rfl) (show 14 + dp < 20 by omega)) rfl rfl rfl (Nat.le_of_ble_eq_true rfl) (by omega) (Nat.le_of_ble_eq_true rfl) (Nat.le_refl _) (Nat.le_refl _) ?_
          refine g_aload_n dX1_extend_128 rfl ?_
          refine g_getI dX1_extend_129 fl_X1_28 (x_vC hn (Nat.le_of_ble_eq_true rfl) (Nat.le_of_ble_eq_true rfl)) rfl rfl ?_
          refine g_cmp_le 152 dX1_extend_132 rfl (fun c_132 => ?_) (fun c_132 => ?_)
          · refine g_iinc (lv' := [(4, xI (((p + 1) : Nat) : Int)), _, _, _, _, _]) dX1_extend_152 (Nat.le_of_ble_eq_true rfl) rfl rfl ?_
            refine g_goto 52 dX1_extend_155 rfl ?_
            refine g_sub (lv2 := [(4, xI (((p + 1) : Nat) : Int)), _, _, _, _]) [0, 2, 3, 4, 5] rfl ?_
            exact f_cv rfl (by rw [RS_X1_extend_52, if_neg c_65, if_pos c_87, if_pos c_116, if_pos c_132]) (ih (p + 1) _  (by omega) (by first | exact hsz | (simp (disch := omega) only [x_up_o, x_cp_o, fr_S_X0_copyFrom, fr_S_X0_passDay]; exact hsz) | (simp (disch := first | omega | assumption) only [x_up_o, x_cp_o, fr_S_X0_copyFrom, fr_S_X0_passDay]; exact hsz)))
          · refine g_aload_n dX1_extend_135 rfl ?_
            refine g_getR (t2 := 21) (i2 := 0) dX1_extend_136 fl_X1_17 (x_vC hn (Nat.le_of_ble_eq_true rfl) (Nat.le_of_ble_eq_true rfl)) rfl rfl rfl ?_
            refine g_iload_n dX1_extend_139 rfl ?_
            refine g_iload dX1_extend_140 rfl ?_
            refine g_iast dp dX1_extend_142 rfl hd5 (x_vC hn (Nat.le_of_ble_eq_true rfl) (Nat.le_of_ble_eq_true rfl)) rfl ?_
            refine g_aload_n dX1_extend_143 rfl ?_
            refine g_iload_n dX1_extend_144 rfl ?_
            refine g_iconst dX1_extend_145 ?_
            refine g_iadd dX1_extend_146 ?_
            refine g_eqI ((dp + 1 : Nat) : Int) rfl ?_
            refine g_iload dX1_extend_147 rfl ?_
            refine f_Sv dX1_extend_149 cs_X1_58 mb_X1_extend (hC hd5 _ _ (by simp (disch := first | omega | assumption) only [x_up_o, x_cp_o, fr_S_X0_copyFrom, fr_S_X0_passDay]; exact hsz)) rfl (Nat.lt_of_lt_of_le (by decide) hn) rfl (Nat.le_of_ble_eq_true rfl) (by omega) (Nat.le_of_ble_eq_true rfl) (Nat.le_refl _) (Nat.le_refl _) ?_
            refine g_iinc (lv' := [(4, xI (((p + 1) : Nat) : Int)), _, _, _, _, _]) dX1_extend_152 (Nat.le_of_ble_eq_true rfl) rfl rfl ?_
            refine g_goto 52 dX1_extend_155 rfl ?_
            refine g_sub (lv2 := [(4, xI (((p + 1) : Nat) : Int)), _, _, _, _]) [0, 2, 3, 4, 5] rfl ?_
            exact f_cv rfl (by rw [RS_X1_extend_52, if_neg c_65, if_pos c_87, if_pos c_116, if_neg c_132]) (ih (p + 1) _  (by omega) (by first | exact hsz | (simp (disch := omega) only [x_up_o, x_cp_o, fr_S_X0_copyFrom, fr_S_X0_passDay, hG]; exact hsz) | (simp (disch := first | omega | assumption) only [x_up_o, x_cp_o, fr_S_X0_copyFrom, fr_S_X0_passDay, hG]; exact hsz)))
        · refine g_iload dX1_extend_119 rfl ?_
          refine g_goto 125 dX1_extend_121 rfl ?_
          refine f_V dX1_extend_125 cs_X1_62 mb_X0_finalWeight (c_X0_finalWeight l n _ (14 + dp) (x_and b (x_xor (x_shl 1 (p : Int)) (-1))) K hn (show 14 + dp < 20 by omega) hK (by rw [x_rof0 (by omega)]; first | exact hsz | (simp (disch := first | omega | assumption) only [x_up_o, x_cp_o, fr_S_X0_copyFrom, fr_S_X0_passDay]; exact hsz))) rfl (x_vC hn (Nat.le_of_ble_eq_true rfl) (show 14 + dp < 20 by omega)) rfl rfl rfl (Nat.le_of_ble_eq_true rfl) (by omega) (Nat.le_of_ble_eq_true rfl) (Nat.le_refl _) (Nat.le_refl _) ?_
          refine g_aload_n dX1_extend_128 rfl ?_
          refine g_getI dX1_extend_129 fl_X1_28 (x_vC hn (Nat.le_of_ble_eq_true rfl) (Nat.le_of_ble_eq_true rfl)) rfl rfl ?_
          refine g_cmp_le 152 dX1_extend_132 rfl (fun c_132 => ?_) (fun c_132 => ?_)
          · refine g_iinc (lv' := [(4, xI (((p + 1) : Nat) : Int)), _, _, _, _, _]) dX1_extend_152 (Nat.le_of_ble_eq_true rfl) rfl rfl ?_
            refine g_goto 52 dX1_extend_155 rfl ?_
            refine g_sub (lv2 := [(4, xI (((p + 1) : Nat) : Int)), _, _, _, _]) [0, 2, 3, 4, 5] rfl ?_
            exact f_cv rfl (by rw [RS_X1_extend_52, if_neg c_65, if_pos c_87, if_neg c_116, if_pos c_132]) (ih (p + 1) _  (by omega) (by first | exact hsz | (simp (disch := omega) only [x_up_o, x_cp_o, fr_S_X0_copyFrom, fr_S_X0_passDay]; exact hsz) | (simp (disch := first | omega | assumption) only [x_up_o, x_cp_o, fr_S_X0_copyFrom, fr_S_X0_passDay]; exact hsz)))
          · refine g_aload_n dX1_extend_135 rfl ?_
            refine g_getR (t2 := 21) (i2 := 0) dX1_extend_136 fl_X1_17 (x_vC hn (Nat.le_of_ble_eq_true rfl) (Nat.le_of_ble_eq_true rfl)) rfl rfl rfl ?_
            refine g_iload_n dX1_extend_139 rfl ?_
            refine g_iload dX1_extend_140 rfl ?_
            refine g_iast dp dX1_extend_142 rfl hd5 (x_vC hn (Nat.le_of_ble_eq_true rfl) (Nat.le_of_ble_eq_true rfl)) rfl ?_
            refine g_aload_n dX1_extend_143 rfl ?_
            refine g_iload_n dX1_extend_144 rfl ?_
            refine g_iconst dX1_extend_145 ?_
            refine g_iadd dX1_extend_146 ?_
            refine g_eqI ((dp + 1 : Nat) : Int) rfl ?_
            refine g_iload dX1_extend_147 rfl ?_
            refine f_Sv dX1_extend_149 cs_X1_58 mb_X1_extend (hC hd5 _ _ (by simp (disch := first | omega | assumption) only [x_up_o, x_cp_o, fr_S_X0_copyFrom, fr_S_X0_passDay]; exact hsz)) rfl (Nat.lt_of_lt_of_le (by decide) hn) rfl (Nat.le_of_ble_eq_true rfl) (by omega) (Nat.le_of_ble_eq_true rfl) (Nat.le_refl _) (Nat.le_refl _) ?_
            refine g_iinc (lv' := [(4, xI (((p + 1) : Nat) : Int)), _, _, _, _, _]) dX1_extend_152 (Nat.le_of_ble_eq_true rfl) rfl rfl ?_
            refine g_goto 52 dX1_extend_155 rfl ?_
            refine g_sub (lv2 := [(4, xI (((p + 1) : Nat) : Int)), _, _, _, _]) [0, 2, 3, 4, 5] rfl ?_
            exact f_cv rfl (by rw [RS_X1_extend_52, if_neg c_65, if_pos c_87, if_neg c_116, if_neg c_132]) (ih (p + 1) _  (by omega) (by first | exact hsz | (simp (disch := omega) only [x_up_o, x_cp_o, fr_S_X0_copyFrom, fr_S_X0_passDay, hG]; exact hsz) | (simp (disch := first | omega | assumption) only [x_up_o, x_cp_o, fr_S_X0_copyFrom, fr_S_X0_passDay, hG]; exact hsz)))
      · refine g_aload_n dX1_extend_90 rfl ?_
        refine g_iload dX1_extend_91 rfl ?_
        refine f_Vv dX1_extend_93 cs_X1_74 mb_X0_dispatch (c_X0_dispatch l n _ (14 + dp) p hn (show 14 + dp < 20 by omega) hp) rfl (x_vC hn (Nat.le_of_ble_eq_true rfl) (show 14 + dp < 20 by omega)) rfl rfl rfl (Nat.le_of_ble_eq_true rfl) (by omega) (Nat.le_of_ble_eq_true rfl) (Nat.le_refl _) (Nat.le_refl _) ?_
        refine g_aload_n dX1_extend_96 rfl ?_
        refine g_iconst dX1_extend_97 ?_
        refine f_Vv dX1_extend_98 cs_X1_78 mb_X0_passDay (c_X0_passDay l n _ (14 + dp) 0 K hn (show 14 + dp < 20 by omega) hK (by rw [x_rof0 (by omega)]; first | exact hsz | (simp (disch := first | omega | assumption) only [x_up_o, x_cp_o, fr_S_X0_copyFrom, fr_S_X0_dispatch]; exact hsz))) rfl (x_vC hn (Nat.le_of_ble_eq_true rfl) (show 14 + dp < 20 by omega)) rfl rfl rfl (Nat.le_of_ble_eq_true rfl) (by omega) (Nat.le_of_ble_eq_true rfl) (Nat.le_refl _) (Nat.le_refl _) ?_
        refine g_iload_n dX1_extend_101 rfl ?_
        refine g_iconst dX1_extend_102 ?_
        refine g_iload dX1_extend_103 rfl ?_
        refine g_ishl dX1_extend_105 ?_
        refine g_iconst dX1_extend_106 ?_
        refine g_ixor dX1_extend_107 ?_
        refine g_iand dX1_extend_108 ?_
        refine g_istore (lv' := [_, _, _, _, _, _]) dX1_extend_109 (Nat.le_of_ble_eq_true rfl) rfl ?_
        refine g_aload_n dX1_extend_111 rfl ?_
        refine g_aload_n dX1_extend_112 rfl ?_
        refine g_getI dX1_extend_113 fl_X1_38 (x_vC hn (Nat.le_of_ble_eq_true rfl) (show 14 + dp < 20 by omega)) rfl rfl ?_
        refine g_if_le 124 dX1_extend_116 rfl (fun c_116 => ?_) (fun c_116 => ?_)
        · refine g_iconst dX1_extend_124 ?_
          refine f_V dX1_extend_125 cs_X1_62 mb_X0_finalWeight (c_X0_finalWeight l n _ (14 + dp) 0 K hn (show 14 + dp < 20 by omega) hK (by rw [x_rof0 (by omega)]; first | exact hsz | (simp (disch := first | omega | assumption) only [x_up_o, x_cp_o, fr_S_X0_copyFrom, fr_S_X0_dispatch, fr_S_X0_passDay]; exact hsz))) rfl (x_vC hn (Nat.le_of_ble_eq_true rfl) (show 14 + dp < 20 by omega)) rfl rfl rfl (Nat.le_of_ble_eq_true rfl) (by omega) (Nat.le_of_ble_eq_true rfl) (Nat.le_refl _) (Nat.le_refl _) ?_
          refine g_aload_n dX1_extend_128 rfl ?_
          refine g_getI dX1_extend_129 fl_X1_28 (x_vC hn (Nat.le_of_ble_eq_true rfl) (Nat.le_of_ble_eq_true rfl)) rfl rfl ?_
          refine g_cmp_le 152 dX1_extend_132 rfl (fun c_132 => ?_) (fun c_132 => ?_)
          · refine g_iinc (lv' := [(4, xI (((p + 1) : Nat) : Int)), _, _, _, _, _]) dX1_extend_152 (Nat.le_of_ble_eq_true rfl) rfl rfl ?_
            refine g_goto 52 dX1_extend_155 rfl ?_
            refine g_sub (lv2 := [(4, xI (((p + 1) : Nat) : Int)), _, _, _, _]) [0, 2, 3, 4, 5] rfl ?_
            exact f_cv rfl (by rw [RS_X1_extend_52, if_neg c_65, if_neg c_87, if_pos c_116, if_pos c_132]) (ih (p + 1) _  (by omega) (by first | exact hsz | (simp (disch := omega) only [x_up_o, x_cp_o, fr_S_X0_copyFrom, fr_S_X0_dispatch, fr_S_X0_passDay]; exact hsz) | (simp (disch := first | omega | assumption) only [x_up_o, x_cp_o, fr_S_X0_copyFrom, fr_S_X0_dispatch, fr_S_X0_passDay]; exact hsz)))
          · refine g_aload_n dX1_extend_135 rfl ?_
            refine g_getR (t2 := 21) (i2 := 0) dX1_extend_136 fl_X1_17 (x_vC hn (Nat.le_of_ble_eq_true rfl) (Nat.le_of_ble_eq_true rfl)) rfl rfl rfl ?_
            refine g_iload_n dX1_extend_139 rfl ?_
            refine g_iload dX1_extend_140 rfl ?_
            refine g_iast dp dX1_extend_142 rfl hd5 (x_vC hn (Nat.le_of_ble_eq_true rfl) (Nat.le_of_ble_eq_true rfl)) rfl ?_
            refine g_aload_n dX1_extend_143 rfl ?_
            refine g_iload_n dX1_extend_144 rfl ?_
            refine g_iconst dX1_extend_145 ?_
            refine g_iadd dX1_extend_146 ?_
            refine g_eqI ((dp + 1 : Nat) : Int) rfl ?_
            refine g_iload dX1_extend_147 rfl ?_
            refine f_Sv dX1_extend_149 cs_X1_58 mb_X1_extend (hC hd5 _ _ (by simp (disch := first | omega | assumption) only [x_up_o, x_cp_o, fr_S_X0_copyFrom, fr_S_X0_dispatch, fr_S_X0_passDay]; exact hsz)) rfl (Nat.lt_of_lt_of_le (by decide) hn) rfl (Nat.le_of_ble_eq_true rfl) (by omega) (Nat.le_of_ble_eq_true rfl) (Nat.le_refl _) (Nat.le_refl _) ?_
            refine g_iinc (lv' := [(4, xI (((p + 1) : Nat) : Int)), _, _, _, _, _]) dX1_extend_152 (Nat.le_of_ble_eq_true rfl) rfl rfl ?_
            refine g_goto 52 dX1_extend_155 rfl ?_
            refine g_sub (lv2 := [(4, xI (((p + 1) : Nat) : Int)), _, _, _, _]) [0, 2, 3, 4, 5] rfl ?_
            exact f_cv rfl (by rw [RS_X1_extend_52, if_neg c_65, if_neg c_87, if_pos c_116, if_neg c_132]) (ih (p + 1) _  (by omega) (by first | exact hsz | (simp (disch := omega) only [x_up_o, x_cp_o, fr_S_X0_copyFrom, fr_S_X0_dispatch, fr_S_X0_passDay, hG]; exact hsz) | (simp (disch := first | omega | assumption) only [x_up_o, x_cp_o, fr_S_X0_copyFrom, fr_S_X0_dispatch, fr_S_X0_passDay, hG]; exact hsz)))
        · refine g_iload dX1_extend_119 rfl ?_
          refine g_goto 125 dX1_extend_121 rfl ?_
          refine f_V dX1_extend_125 cs_X1_62 mb_X0_finalWeight (c_X0_finalWeight l n _ (14 + dp) (x_and b (x_xor (x_shl 1 (p : Int)) (-1))) K hn (show 14 + dp < 20 by omega) hK (by rw [x_rof0 (by omega)]; first | exact hsz | (simp (disch := first | omega | assumption) only [x_up_o, x_cp_o, fr_S_X0_copyFrom, fr_S_X0_dispatch, fr_S_X0_passDay]; exact hsz))) rfl (x_vC hn (Nat.le_of_ble_eq_true rfl) (show 14 + dp < 20 by omega)) rfl rfl rfl (Nat.le_of_ble_eq_true rfl) (by omega) (Nat.le_of_ble_eq_true rfl) (Nat.le_refl _) (Nat.le_refl _) ?_
          refine g_aload_n dX1_extend_128 rfl ?_
          refine g_getI dX1_extend_129 fl_X1_28 (x_vC hn (Nat.le_of_ble_eq_true rfl) (Nat.le_of_ble_eq_true rfl)) rfl rfl ?_
          refine g_cmp_le 152 dX1_extend_132 rfl (fun c_132 => ?_) (fun c_132 => ?_)
          · refine g_iinc (lv' := [(4, xI (((p + 1) : Nat) : Int)), _, _, _, _, _]) dX1_extend_152 (Nat.le_of_ble_eq_true rfl) rfl rfl ?_
            refine g_goto 52 dX1_extend_155 rfl ?_
            refine g_sub (lv2 := [(4, xI (((p + 1) : Nat) : Int)), _, _, _, _]) [0, 2, 3, 4, 5] rfl ?_
            exact f_cv rfl (by rw [RS_X1_extend_52, if_neg c_65, if_neg c_87, if_neg c_116, if_pos c_132]) (ih (p + 1) _  (by omega) (by first | exact hsz | (simp (disch := omega) only [x_up_o, x_cp_o, fr_S_X0_copyFrom, fr_S_X0_dispatch, fr_S_X0_passDay]; exact hsz) | (simp (disch := first | omega | assumption) only [x_up_o, x_cp_o, fr_S_X0_copyFrom, fr_S_X0_dispatch, fr_S_X0_passDay]; exact hsz)))
          · refine g_aload_n dX1_extend_135 rfl ?_
            refine g_getR (t2 := 21) (i2 := 0) dX1_extend_136 fl_X1_17 (x_vC hn (Nat.le_of_ble_eq_true rfl) (Nat.le_of_ble_eq_true rfl)) rfl rfl rfl ?_
            refine g_iload_n dX1_extend_139 rfl ?_
            refine g_iload dX1_extend_140 rfl ?_
            refine g_iast dp dX1_extend_142 rfl hd5 (x_vC hn (Nat.le_of_ble_eq_true rfl) (Nat.le_of_ble_eq_true rfl)) rfl ?_
            refine g_aload_n dX1_extend_143 rfl ?_
            refine g_iload_n dX1_extend_144 rfl ?_
            refine g_iconst dX1_extend_145 ?_
            refine g_iadd dX1_extend_146 ?_
            refine g_eqI ((dp + 1 : Nat) : Int) rfl ?_
            refine g_iload dX1_extend_147 rfl ?_
            refine f_Sv dX1_extend_149 cs_X1_58 mb_X1_extend (hC hd5 _ _ (by simp (disch := first | omega | assumption) only [x_up_o, x_cp_o, fr_S_X0_copyFrom, fr_S_X0_dispatch, fr_S_X0_passDay]; exact hsz)) rfl (Nat.lt_of_lt_of_le (by decide) hn) rfl (Nat.le_of_ble_eq_true rfl) (by omega) (Nat.le_of_ble_eq_true rfl) (Nat.le_refl _) (Nat.le_refl _) ?_
            refine g_iinc (lv' := [(4, xI (((p + 1) : Nat) : Int)), _, _, _, _, _]) dX1_extend_152 (Nat.le_of_ble_eq_true rfl) rfl rfl ?_
            refine g_goto 52 dX1_extend_155 rfl ?_
            refine g_sub (lv2 := [(4, xI (((p + 1) : Nat) : Int)), _, _, _, _]) [0, 2, 3, 4, 5] rfl ?_
            exact f_cv rfl (by rw [RS_X1_extend_52, if_neg c_65, if_neg c_87, if_neg c_116, if_neg c_132]) (ih (p + 1) _  (by omega) (by first | exact hsz | (simp (disch := omega) only [x_up_o, x_cp_o, fr_S_X0_copyFrom, fr_S_X0_dispatch, fr_S_X0_passDay, hG]; exact hsz) | (simp (disch := first | omega | assumption) only [x_up_o, x_cp_o, fr_S_X0_copyFrom, fr_S_X0_dispatch, fr_S_X0_passDay, hG]; exact hsz)))
    · refine g_goto 152 dX1_extend_68 rfl ?_
      refine g_iinc (lv' := [(4, xI (((p + 1) : Nat) : Int)), _, _, _, _]) dX1_extend_152 (Nat.le_of_ble_eq_true rfl) rfl rfl ?_
      refine g_goto 52 dX1_extend_155 rfl ?_
      refine g_sub (lv2 := [(4, xI (((p + 1) : Nat) : Int)), _, _, _, _]) [0, 1, 2, 3, 4] rfl ?_
      exact f_cv rfl (by rw [RS_X1_extend_52, if_pos c_65]) (ih (p + 1) _  (by omega) hsz)
def S_X1_extend (σ : xMi) (dp : Nat) (b : Int) (m : Nat) (K : Nat) (G : (Int → xMi → xMi)) : xMi := (if x_wr b = 0 then (x_cp (x_up σ 19 0 4 (V_X0_finalWeight σ (13 + dp) 0 K)) 22 0 21 0 6) else (if x_wr (dp : Int) < x_wr 6 then (RS_X1_extend_52 dp b m K G 6 0 σ ) else (x_cp (x_up σ 19 0 4 (V_X0_finalWeight σ (13 + dp) 0 K)) 22 0 21 0 6)))
theorem c_X1_extend (l : Launch) (n : Nat) (σ : xMi) (dp : Nat) (b : Int) (m : Nat) (K : Nat) (G : (Int → xMi → xMi)) (hn : 131 ≤ n) (hdp : dp ≤ 1000000) (hK : K ≤ 6) (hd6 : dp ≤ 6) (hG : ∀ {t i k : Nat} (h : ¬ (t = 19 ∨ t = 21 ∨ t = 22 ∨ (t ≤ 4 ∧ 15 + dp ≤ i))) (b : Int) (σ : xMi), G b σ t i k = σ t i k) (hC : dp < 6 → ∀ (b : Int) (σ : xMi), σ 5 0 4 = (K : Int) → x_F l yX1_extend RX1 cX1_extend 6 none (m + 8) n σ [xR 19 0, xI ((dp + 1 : Nat) : Int), xI b] none (G b σ)) (hsz : σ 5 0 4 = (K : Int)) : x_F l yX1_extend RX1 cX1_extend 6 none (m + 9) n σ [xR 19 0, xI (dp : Int), xI b] none (S_X1_extend σ dp b m K G) := by
  refine f_of (by decide) rfl (Nat.le_of_ble_eq_true rfl) rfl ?_
  refine g_iload_n dX1_extend_0 rfl ?_
  refine g_if_eq 10 dX1_extend_1 rfl (fun c_1 => ?_) (fun c_1 => ?_)
  · refine g_aload_n dX1_extend_10 rfl ?_
    refine g_aload_n dX1_extend_11 rfl ?_
    refine g_getR (t2 := 20) (i2 := 0) dX1_extend_12 fl_X1_11 (x_vC hn (Nat.le_of_ble_eq_true rfl) (Nat.le_of_ble_eq_true rfl)) rfl rfl rfl ?_
    refine g_iload_n dX1_extend_15 rfl ?_
    refine g_aald (t2 := 0) (i2 := (13 + dp)) dp dX1_extend_16 rfl (Nat.lt_succ_of_le hd6) (x_vC hn (Nat.le_of_ble_eq_true rfl) (Nat.le_of_ble_eq_true rfl)) rfl (x_r20 (Nat.lt_succ_of_le hd6)) ?_
    refine g_iconst dX1_extend_17 ?_
    refine f_V dX1_extend_18 cs_X1_62 mb_X0_finalWeight (c_X0_finalWeight l n _ (13 + dp) 0 K hn (show 13 + dp < 20 by omega) hK (by rw [x_rof0 (by omega)]; first | exact hsz | (simp (disch := first | omega | assumption) only [x_up_o, x_cp_o]; exact hsz))) rfl (x_vC hn (Nat.le_of_ble_eq_true rfl) (show 13 + dp < 20 by omega)) rfl rfl rfl (Nat.le_of_ble_eq_true rfl) (by omega) (Nat.le_of_ble_eq_true rfl) (Nat.le_refl _) (Nat.le_refl _) ?_
    refine g_putI dX1_extend_21 fl_X1_28 (x_vC hn (Nat.le_of_ble_eq_true rfl) (Nat.le_of_ble_eq_true rfl)) rfl rfl ?_
    refine g_aload_n dX1_extend_24 rfl ?_
    refine g_getR (t2 := 21) (i2 := 0) dX1_extend_25 fl_X1_17 (x_vC hn (Nat.le_of_ble_eq_true rfl) (Nat.le_of_ble_eq_true rfl)) rfl rfl rfl ?_
    refine g_iconst dX1_extend_28 ?_
    refine g_aload_n dX1_extend_29 rfl ?_
    refine g_getR (t2 := 22) (i2 := 0) dX1_extend_30 fl_X1_21 (x_vC hn (Nat.le_of_ble_eq_true rfl) (Nat.le_of_ble_eq_true rfl)) rfl rfl rfl ?_
    refine g_iconst dX1_extend_33 ?_
    refine g_bipush dX1_extend_34 (by decide) ?_
    refine g_copy dX1_extend_36 cx_X1_65 w_copy1.1 w_copy1.2.1 w_copy1.2.2 (by omega) (Nat.le_of_ble_eq_true rfl) (x_vC hn (Nat.le_of_ble_eq_true rfl) (Nat.le_of_ble_eq_true rfl)) (x_vC hn (Nat.le_of_ble_eq_true rfl) (Nat.le_of_ble_eq_true rfl)) rfl rfl rfl (Nat.le_of_ble_eq_true rfl) (Nat.le_of_ble_eq_true rfl) ?_
    exact f_vret dX1_extend_39 rfl (by rw [S_X1_extend, if_pos c_1])
  · refine g_iload_n dX1_extend_4 rfl ?_
    refine g_bipush dX1_extend_5 (by decide) ?_
    refine g_cmp_lt 40 dX1_extend_7 rfl (fun c_7 => ?_) (fun c_7 => ?_)
    · refine g_aload_n dX1_extend_40 rfl ?_
      refine g_getR (t2 := 20) (i2 := 0) dX1_extend_41 fl_X1_11 (x_vC hn (Nat.le_of_ble_eq_true rfl) (Nat.le_of_ble_eq_true rfl)) rfl rfl rfl ?_
      refine g_iload_n dX1_extend_44 rfl ?_
      refine g_iconst dX1_extend_45 ?_
      refine g_iadd dX1_extend_46 ?_
      have hd5 : dp < 6 := by rw [x_nat (by omega), show x_wr 6 = 6 from by decide] at c_7; exact Int.ofNat_lt.mp c_7
      refine g_eqI ((dp + 1 : Nat) : Int) rfl ?_
      refine g_aald (t2 := 0) (i2 := (14 + dp)) (dp + 1) dX1_extend_47 rfl (Nat.succ_lt_succ hd5) (x_vC hn (Nat.le_of_ble_eq_true rfl) (Nat.le_of_ble_eq_true rfl)) rfl (by rw [x_r20 (by omega)]; congr 2; omega) ?_
      refine g_astore_n (lv' := [_, _, _, _]) dX1_extend_48 (Nat.le_of_ble_eq_true rfl) rfl ?_
      refine g_iconst dX1_extend_49 ?_
      refine g_istore (lv' := [_, _, _, _, _]) dX1_extend_50 (Nat.le_of_ble_eq_true rfl) rfl ?_
      refine g_sub (lv2 := [(4, xI ((0 : Nat) : Int)), _, _, _, _]) [0, 2, 3, 4, 1] rfl ?_
      exact f_cv rfl (by rw [S_X1_extend, if_neg c_1, if_pos c_7]) (lh_X1_extend_52 l n dp b m K G hn hdp hK hd6 hG h b σ hC b σ K 6 0 _  (by omega) hsz)
    · refine g_aload_n dX1_extend_10 rfl ?_
      refine g_aload_n dX1_extend_11 rfl ?_
      refine g_getR (t2 := 20) (i2 := 0) dX1_extend_12 fl_X1_11 (x_vC hn (Nat.le_of_ble_eq_true rfl) (Nat.le_of_ble_eq_true rfl)) rfl rfl rfl ?_
      refine g_iload_n dX1_extend_15 rfl ?_
      refine g_aald (t2 := 0) (i2 := (13 + dp)) dp dX1_extend_16 rfl (Nat.lt_succ_of_le hd6) (x_vC hn (Nat.le_of_ble_eq_true rfl) (Nat.le_of_ble_eq_true rfl)) rfl (x_r20 (Nat.lt_succ_of_le hd6)) ?_
      refine g_iconst dX1_extend_17 ?_
      refine f_V dX1_extend_18 cs_X1_62 mb_X0_finalWeight (c_X0_finalWeight l n _ (13 + dp) 0 K hn (show 13 + dp < 20 by omega) hK (by rw [x_rof0 (by omega)]; first | exact hsz | (simp (disch := first | omega | assumption) only [x_up_o, x_cp_o]; exact hsz))) rfl (x_vC hn (Nat.le_of_ble_eq_true rfl) (show 13 + dp < 20 by omega)) rfl rfl rfl (Nat.le_of_ble_eq_true rfl) (by omega) (Nat.le_of_ble_eq_true rfl) (Nat.le_refl _) (Nat.le_refl _) ?_
      refine g_putI dX1_extend_21 fl_X1_28 (x_vC hn (Nat.le_of_ble_eq_true rfl) (Nat.le_of_ble_eq_true rfl)) rfl rfl ?_
      refine g_aload_n dX1_extend_24 rfl ?_
      refine g_getR (t2 := 21) (i2 := 0) dX1_extend_25 fl_X1_17 (x_vC hn (Nat.le_of_ble_eq_true rfl) (Nat.le_of_ble_eq_true rfl)) rfl rfl rfl ?_
      refine g_iconst dX1_extend_28 ?_
      refine g_aload_n dX1_extend_29 rfl ?_
      refine g_getR (t2 := 22) (i2 := 0) dX1_extend_30 fl_X1_21 (x_vC hn (Nat.le_of_ble_eq_true rfl) (Nat.le_of_ble_eq_true rfl)) rfl rfl rfl ?_
      refine g_iconst dX1_extend_33 ?_
      refine g_bipush dX1_extend_34 (by decide) ?_
      refine g_copy dX1_extend_36 cx_X1_65 w_copy1.1 w_copy1.2.1 w_copy1.2.2 (by omega) (Nat.le_of_ble_eq_true rfl) (x_vC hn (Nat.le_of_ble_eq_true rfl) (Nat.le_of_ble_eq_true rfl)) (x_vC hn (Nat.le_of_ble_eq_true rfl) (Nat.le_of_ble_eq_true rfl)) rfl rfl rfl (Nat.le_of_ble_eq_true rfl) (Nat.le_of_ble_eq_true rfl) ?_
      exact f_vret dX1_extend_39 rfl (by rw [S_X1_extend, if_neg c_1, if_neg c_7])
end
