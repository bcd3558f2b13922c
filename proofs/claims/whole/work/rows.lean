section
-- ===== PART A: goes FIRST, ahead of the names: the tables' words, and 'selects' of the private methods out of them =====
/-- a private method of a class that the tables say can be made, by its rows of tables_1 -/
def lw_okq (q : MethodName × Nat) : Prop := (q.1.cls ≠ "java/lang/invoke/MethodHandle" ∧ q.1.cls ≠ "java/lang/invoke/VarHandle") ∧ Cond.instantiable q.1.cls q.2 ∈ tables_1 ∧ Cond.privateMethod q.1 ∈ tables_1 ∧ Cond.instanceMethod q.1 ∈ tables_1
theorem lw_p0 : lw_okq (⟨"ShakenParcels", "layText", "()Z"⟩, 13) := ⟨⟨by decide +kernel, by decide +kernel⟩, List.mem_of_getElem? (i := 19) (by decide +kernel), List.mem_of_getElem? (i := 301) (by decide +kernel), List.mem_of_getElem? (i := 302) (by decide +kernel)⟩
theorem lw_p1 : lw_okq (⟨"ShakenParcels$Text", "readNumbers", "(I)I"⟩, 4) := ⟨⟨by decide +kernel, by decide +kernel⟩, List.mem_of_getElem? (i := 27) (by decide +kernel), List.mem_of_getElem? (i := 323) (by decide +kernel), List.mem_of_getElem? (i := 324) (by decide +kernel)⟩
theorem lw_p2 : lw_okq (⟨"ShakenParcels$Text", "figuresAt", "(I)I"⟩, 4) := ⟨⟨by decide +kernel, by decide +kernel⟩, List.mem_of_getElem? (i := 27) (by decide +kernel), List.mem_of_getElem? (i := 327) (by decide +kernel), List.mem_of_getElem? (i := 328) (by decide +kernel)⟩
theorem lw_p3 : lw_okq (⟨"ShakenParcels$Text", "letterAt", "(I)I"⟩, 4) := ⟨⟨by decide +kernel, by decide +kernel⟩, List.mem_of_getElem? (i := 27) (by decide +kernel), List.mem_of_getElem? (i := 331) (by decide +kernel), List.mem_of_getElem? (i := 332) (by decide +kernel)⟩
theorem lw_p4 : lw_okq (⟨"ShakenParcels$Text", "numberAt", "(II)I"⟩, 4) := ⟨⟨by decide +kernel, by decide +kernel⟩, List.mem_of_getElem? (i := 27) (by decide +kernel), List.mem_of_getElem? (i := 341) (by decide +kernel), List.mem_of_getElem? (i := 342) (by decide +kernel)⟩
theorem lw_p5 : lw_okq (⟨"ShakenParcels$Tree", "takesThing", "([I)Z"⟩, 10) := ⟨⟨by decide +kernel, by decide +kernel⟩, List.mem_of_getElem? (i := 49) (by decide +kernel), List.mem_of_getElem? (i := 350) (by decide +kernel), List.mem_of_getElem? (i := 351) (by decide +kernel)⟩
theorem lw_p6 : lw_okq (⟨"ShakenParcels$Things", "sortByKind", "(II)V"⟩, 11) := ⟨⟨by decide +kernel, by decide +kernel⟩, List.mem_of_getElem? (i := 55) (by decide +kernel), List.mem_of_getElem? (i := 363) (by decide +kernel), List.mem_of_getElem? (i := 364) (by decide +kernel)⟩
theorem lw_p7 : lw_okq (⟨"ShakenParcels$Tree", "takesParcel", "([I)Z"⟩, 10) := ⟨⟨by decide +kernel, by decide +kernel⟩, List.mem_of_getElem? (i := 49) (by decide +kernel), List.mem_of_getElem? (i := 367) (by decide +kernel), List.mem_of_getElem? (i := 368) (by decide +kernel)⟩
theorem lw_p8 : lw_okq (⟨"ShakenParcels$Tree", "takesTruth", "(II)Z"⟩, 10) := ⟨⟨by decide +kernel, by decide +kernel⟩, List.mem_of_getElem? (i := 49) (by decide +kernel), List.mem_of_getElem? (i := 372) (by decide +kernel), List.mem_of_getElem? (i := 373) (by decide +kernel)⟩
theorem lw_p9 : lw_okq (⟨"ShakenParcels$Tree", "takesScale", "(I)Z"⟩, 10) := ⟨⟨by decide +kernel, by decide +kernel⟩, List.mem_of_getElem? (i := 49) (by decide +kernel), List.mem_of_getElem? (i := 379) (by decide +kernel), List.mem_of_getElem? (i := 380) (by decide +kernel)⟩
theorem lw_p10 : lw_okq (⟨"ShakenParcels$Tree", "takesApart", "(I)Z"⟩, 10) := ⟨⟨by decide +kernel, by decide +kernel⟩, List.mem_of_getElem? (i := 49) (by decide +kernel), List.mem_of_getElem? (i := 383) (by decide +kernel), List.mem_of_getElem? (i := 384) (by decide +kernel)⟩
theorem lw_p11 : lw_okq (⟨"ShakenParcels$Tree", "takesSort", "(III)Z"⟩, 10) := ⟨⟨by decide +kernel, by decide +kernel⟩, List.mem_of_getElem? (i := 49) (by decide +kernel), List.mem_of_getElem? (i := 387) (by decide +kernel), List.mem_of_getElem? (i := 388) (by decide +kernel)⟩
theorem lw_p12 : lw_okq (⟨"ShakenParcels$Tree", "isFair", "(I)Z"⟩, 10) := ⟨⟨by decide +kernel, by decide +kernel⟩, List.mem_of_getElem? (i := 49) (by decide +kernel), List.mem_of_getElem? (i := 408) (by decide +kernel), List.mem_of_getElem? (i := 409) (by decide +kernel)⟩
theorem lw_p13 : lw_okq (⟨"ShakenParcels$Tree", "hasParcels", "(I)Z"⟩, 10) := ⟨⟨by decide +kernel, by decide +kernel⟩, List.mem_of_getElem? (i := 49) (by decide +kernel), List.mem_of_getElem? (i := 412) (by decide +kernel), List.mem_of_getElem? (i := 413) (by decide +kernel)⟩
theorem lw_p14 : lw_okq (⟨"ShakenParcels", "isThing", "(I)Z"⟩, 13) := ⟨⟨by decide +kernel, by decide +kernel⟩, List.mem_of_getElem? (i := 19) (by decide +kernel), List.mem_of_getElem? (i := 521) (by decide +kernel), List.mem_of_getElem? (i := 522) (by decide +kernel)⟩
theorem lw_p15 : lw_okq (⟨"ShakenParcels", "parcelWith", "(I)I"⟩, 13) := ⟨⟨by decide +kernel, by decide +kernel⟩, List.mem_of_getElem? (i := 19) (by decide +kernel), List.mem_of_getElem? (i := 526) (by decide +kernel), List.mem_of_getElem? (i := 527) (by decide +kernel)⟩
def lw_privs_1 : List (MethodName × Nat) := [(⟨"ShakenParcels", "layText", "()Z"⟩, 13), (⟨"ShakenParcels$Text", "readNumbers", "(I)I"⟩, 4), (⟨"ShakenParcels$Text", "figuresAt", "(I)I"⟩, 4), (⟨"ShakenParcels$Text", "letterAt", "(I)I"⟩, 4), (⟨"ShakenParcels$Text", "numberAt", "(II)I"⟩, 4), (⟨"ShakenParcels$Tree", "takesThing", "([I)Z"⟩, 10), (⟨"ShakenParcels$Things", "sortByKind", "(II)V"⟩, 11), (⟨"ShakenParcels$Tree", "takesParcel", "([I)Z"⟩, 10), (⟨"ShakenParcels$Tree", "takesTruth", "(II)Z"⟩, 10), (⟨"ShakenParcels$Tree", "takesScale", "(I)Z"⟩, 10), (⟨"ShakenParcels$Tree", "takesApart", "(I)Z"⟩, 10), (⟨"ShakenParcels$Tree", "takesSort", "(III)Z"⟩, 10), (⟨"ShakenParcels$Tree", "isFair", "(I)Z"⟩, 10), (⟨"ShakenParcels$Tree", "hasParcels", "(I)Z"⟩, 10), (⟨"ShakenParcels", "isThing", "(I)Z"⟩, 13), (⟨"ShakenParcels", "parcelWith", "(I)I"⟩, 13)]
theorem lw_r1 : ∀ q ∈ lw_privs_1, lw_okq q := List.forall_mem_cons.mpr ⟨lw_p0, List.forall_mem_cons.mpr ⟨lw_p1, List.forall_mem_cons.mpr ⟨lw_p2, List.forall_mem_cons.mpr ⟨lw_p3, List.forall_mem_cons.mpr ⟨lw_p4, List.forall_mem_cons.mpr ⟨lw_p5, List.forall_mem_cons.mpr ⟨lw_p6, List.forall_mem_cons.mpr ⟨lw_p7, List.forall_mem_cons.mpr ⟨lw_p8, List.forall_mem_cons.mpr ⟨lw_p9, List.forall_mem_cons.mpr ⟨lw_p10, List.forall_mem_cons.mpr ⟨lw_p11, List.forall_mem_cons.mpr ⟨lw_p12, List.forall_mem_cons.mpr ⟨lw_p13, List.forall_mem_cons.mpr ⟨lw_p14, List.forall_mem_cons.mpr ⟨lw_p15, fun _ h => absurd h List.not_mem_nil⟩⟩⟩⟩⟩⟩⟩⟩⟩⟩⟩⟩⟩⟩⟩⟩
theorem lw_p16 : lw_okq (⟨"ShakenParcels", "isParcel", "(I)Z"⟩, 13) := ⟨⟨by decide +kernel, by decide +kernel⟩, List.mem_of_getElem? (i := 19) (by decide +kernel), List.mem_of_getElem? (i := 535) (by decide +kernel), List.mem_of_getElem? (i := 536) (by decide +kernel)⟩
theorem lw_p17 : lw_okq (⟨"ShakenParcels$Tree", "inSteps", "(I)I"⟩, 10) := ⟨⟨by decide +kernel, by decide +kernel⟩, List.mem_of_getElem? (i := 49) (by decide +kernel), List.mem_of_getElem? (i := 557) (by decide +kernel), List.mem_of_getElem? (i := 558) (by decide +kernel)⟩
theorem lw_p18 : lw_okq (⟨"ShakenParcels", "note", "(III)V"⟩, 13) := ⟨⟨by decide +kernel, by decide +kernel⟩, List.mem_of_getElem? (i := 19) (by decide +kernel), List.mem_of_getElem? (i := 582) (by decide +kernel), List.mem_of_getElem? (i := 583) (by decide +kernel)⟩
theorem lw_p19 : lw_okq (⟨"ShakenParcels$Scenes", "dropLowest", "()V"⟩, 2) := ⟨⟨by decide +kernel, by decide +kernel⟩, List.mem_of_getElem? (i := 228) (by decide +kernel), List.mem_of_getElem? (i := 594) (by decide +kernel), List.mem_of_getElem? (i := 595) (by decide +kernel)⟩
theorem lw_p20 : lw_okq (⟨"ShakenParcels", "findRemaining", "()LShakenParcels$Worlds;"⟩, 13) := ⟨⟨by decide +kernel, by decide +kernel⟩, List.mem_of_getElem? (i := 19) (by decide +kernel), List.mem_of_getElem? (i := 640) (by decide +kernel), List.mem_of_getElem? (i := 641) (by decide +kernel)⟩
theorem lw_p21 : lw_okq (⟨"ShakenParcels", "sumChances", "(LShakenParcels$Worlds;I)J"⟩, 13) := ⟨⟨by decide +kernel, by decide +kernel⟩, List.mem_of_getElem? (i := 19) (by decide +kernel), List.mem_of_getElem? (i := 694) (by decide +kernel), List.mem_of_getElem? (i := 695) (by decide +kernel)⟩
theorem lw_p22 : lw_okq (⟨"ShakenParcels$Finder", "isKnown", "(LShakenParcels$Worlds;I)Z"⟩, 9) := ⟨⟨by decide +kernel, by decide +kernel⟩, List.mem_of_getElem? (i := 162) (by decide +kernel), List.mem_of_getElem? (i := 735) (by decide +kernel), List.mem_of_getElem? (i := 736) (by decide +kernel)⟩
theorem lw_p23 : lw_okq (⟨"ShakenParcels$Finder", "someTrialTells", "(LShakenParcels$Tree;LShakenParcels$Worlds;III)Z"⟩, 9) := ⟨⟨by decide +kernel, by decide +kernel⟩, List.mem_of_getElem? (i := 162) (by decide +kernel), List.mem_of_getElem? (i := 739) (by decide +kernel), List.mem_of_getElem? (i := 740) (by decide +kernel)⟩
theorem lw_p24 : lw_okq (⟨"ShakenParcels$Finder", "tells", "(LShakenParcels$Tree;LShakenParcels$Worlds;IIII)Z"⟩, 9) := ⟨⟨by decide +kernel, by decide +kernel⟩, List.mem_of_getElem? (i := 162) (by decide +kernel), List.mem_of_getElem? (i := 747) (by decide +kernel), List.mem_of_getElem? (i := 748) (by decide +kernel)⟩
theorem lw_p25 : lw_okq (⟨"ShakenParcels$Finder", "group", "(LShakenParcels$Tree;LShakenParcels$Worlds;LShakenParcels$Worlds;I)V"⟩, 9) := ⟨⟨by decide +kernel, by decide +kernel⟩, List.mem_of_getElem? (i := 162) (by decide +kernel), List.mem_of_getElem? (i := 754) (by decide +kernel), List.mem_of_getElem? (i := 755) (by decide +kernel)⟩
theorem lw_p26 : lw_okq (⟨"ShakenParcels$Finder", "listReplies", "(LShakenParcels$Tree;II)V"⟩, 9) := ⟨⟨by decide +kernel, by decide +kernel⟩, List.mem_of_getElem? (i := 162) (by decide +kernel), List.mem_of_getElem? (i := 758) (by decide +kernel), List.mem_of_getElem? (i := 759) (by decide +kernel)⟩
theorem lw_p27 : lw_okq (⟨"ShakenParcels$Finder", "eachGroupIsTold", "(LShakenParcels$Tree;LShakenParcels$Worlds;I)Z"⟩, 9) := ⟨⟨by decide +kernel, by decide +kernel⟩, List.mem_of_getElem? (i := 162) (by decide +kernel), List.mem_of_getElem? (i := 768) (by decide +kernel), List.mem_of_getElem? (i := 769) (by decide +kernel)⟩
theorem lw_p28 : lw_okq (⟨"ShakenParcels", "solve", "(LShakenParcels$Worlds;II)I"⟩, 13) := ⟨⟨by decide +kernel, by decide +kernel⟩, List.mem_of_getElem? (i := 19) (by decide +kernel), List.mem_of_getElem? (i := 776) (by decide +kernel), List.mem_of_getElem? (i := 777) (by decide +kernel)⟩
theorem lw_p29 : lw_okq (⟨"ShakenParcelsModel", "noTree", "(I)V"⟩, 33) := ⟨⟨by decide +kernel, by decide +kernel⟩, List.mem_of_getElem? (i := 840) (by decide +kernel), List.mem_of_getElem? (i := 846) (by decide +kernel), List.mem_of_getElem? (i := 847) (by decide +kernel)⟩
theorem lw_p30 : lw_okq (⟨"ShakenParcelsModel", "addThing", "(IIIII)V"⟩, 33) := ⟨⟨by decide +kernel, by decide +kernel⟩, List.mem_of_getElem? (i := 840) (by decide +kernel), List.mem_of_getElem? (i := 850) (by decide +kernel), List.mem_of_getElem? (i := 851) (by decide +kernel)⟩
theorem lw_p31 : lw_okq (⟨"ShakenParcelsModel", "addParcel", "(IIII)V"⟩, 33) := ⟨⟨by decide +kernel, by decide +kernel⟩, List.mem_of_getElem? (i := 840) (by decide +kernel), List.mem_of_getElem? (i := 854) (by decide +kernel), List.mem_of_getElem? (i := 855) (by decide +kernel)⟩
def lw_privs_2 : List (MethodName × Nat) := [(⟨"ShakenParcels", "isParcel", "(I)Z"⟩, 13), (⟨"ShakenParcels$Tree", "inSteps", "(I)I"⟩, 10), (⟨"ShakenParcels", "note", "(III)V"⟩, 13), (⟨"ShakenParcels$Scenes", "dropLowest", "()V"⟩, 2), (⟨"ShakenParcels", "findRemaining", "()LShakenParcels$Worlds;"⟩, 13), (⟨"ShakenParcels", "sumChances", "(LShakenParcels$Worlds;I)J"⟩, 13), (⟨"ShakenParcels$Finder", "isKnown", "(LShakenParcels$Worlds;I)Z"⟩, 9), (⟨"ShakenParcels$Finder", "someTrialTells", "(LShakenParcels$Tree;LShakenParcels$Worlds;III)Z"⟩, 9), (⟨"ShakenParcels$Finder", "tells", "(LShakenParcels$Tree;LShakenParcels$Worlds;IIII)Z"⟩, 9), (⟨"ShakenParcels$Finder", "group", "(LShakenParcels$Tree;LShakenParcels$Worlds;LShakenParcels$Worlds;I)V"⟩, 9), (⟨"ShakenParcels$Finder", "listReplies", "(LShakenParcels$Tree;II)V"⟩, 9), (⟨"ShakenParcels$Finder", "eachGroupIsTold", "(LShakenParcels$Tree;LShakenParcels$Worlds;I)Z"⟩, 9), (⟨"ShakenParcels", "solve", "(LShakenParcels$Worlds;II)I"⟩, 13), (⟨"ShakenParcelsModel", "noTree", "(I)V"⟩, 33), (⟨"ShakenParcelsModel", "addThing", "(IIIII)V"⟩, 33), (⟨"ShakenParcelsModel", "addParcel", "(IIII)V"⟩, 33)]
theorem lw_r2 : ∀ q ∈ lw_privs_2, lw_okq q := List.forall_mem_cons.mpr ⟨lw_p16, List.forall_mem_cons.mpr ⟨lw_p17, List.forall_mem_cons.mpr ⟨lw_p18, List.forall_mem_cons.mpr ⟨lw_p19, List.forall_mem_cons.mpr ⟨lw_p20, List.forall_mem_cons.mpr ⟨lw_p21, List.forall_mem_cons.mpr ⟨lw_p22, List.forall_mem_cons.mpr ⟨lw_p23, List.forall_mem_cons.mpr ⟨lw_p24, List.forall_mem_cons.mpr ⟨lw_p25, List.forall_mem_cons.mpr ⟨lw_p26, List.forall_mem_cons.mpr ⟨lw_p27, List.forall_mem_cons.mpr ⟨lw_p28, List.forall_mem_cons.mpr ⟨lw_p29, List.forall_mem_cons.mpr ⟨lw_p30, List.forall_mem_cons.mpr ⟨lw_p31, fun _ h => absurd h List.not_mem_nil⟩⟩⟩⟩⟩⟩⟩⟩⟩⟩⟩⟩⟩⟩⟩⟩
theorem lw_p32 : lw_okq (⟨"ShakenParcelsModel", "begin", "()V"⟩, 33) := ⟨⟨by decide +kernel, by decide +kernel⟩, List.mem_of_getElem? (i := 840) (by decide +kernel), List.mem_of_getElem? (i := 858) (by decide +kernel), List.mem_of_getElem? (i := 859) (by decide +kernel)⟩
theorem lw_p33 : lw_okq (⟨"ShakenParcelsModel", "layWorlds", "()V"⟩, 33) := ⟨⟨by decide +kernel, by decide +kernel⟩, List.mem_of_getElem? (i := 840) (by decide +kernel), List.mem_of_getElem? (i := 862) (by decide +kernel), List.mem_of_getElem? (i := 863) (by decide +kernel)⟩
theorem lw_p34 : lw_okq (⟨"ShakenParcelsModel", "isFair", "(II)Z"⟩, 33) := ⟨⟨by decide +kernel, by decide +kernel⟩, List.mem_of_getElem? (i := 840) (by decide +kernel), List.mem_of_getElem? (i := 869) (by decide +kernel), List.mem_of_getElem? (i := 870) (by decide +kernel)⟩
theorem lw_p35 : lw_okq (⟨"ShakenParcelsModel", "gap", "(II)I"⟩, 33) := ⟨⟨by decide +kernel, by decide +kernel⟩, List.mem_of_getElem? (i := 840) (by decide +kernel), List.mem_of_getElem? (i := 873) (by decide +kernel), List.mem_of_getElem? (i := 874) (by decide +kernel)⟩
theorem lw_p36 : lw_okq (⟨"ShakenParcelsModel", "readAll", "()I"⟩, 33) := ⟨⟨by decide +kernel, by decide +kernel⟩, List.mem_of_getElem? (i := 840) (by decide +kernel), List.mem_of_getElem? (i := 998) (by decide +kernel), List.mem_of_getElem? (i := 999) (by decide +kernel)⟩
theorem lw_p37 : lw_okq (⟨"ShakenParcelsModel", "item", "()Z"⟩, 33) := ⟨⟨by decide +kernel, by decide +kernel⟩, List.mem_of_getElem? (i := 840) (by decide +kernel), List.mem_of_getElem? (i := 1002) (by decide +kernel), List.mem_of_getElem? (i := 1003) (by decide +kernel)⟩
theorem lw_p38 : lw_okq (⟨"ShakenParcelsModel", "letterAt", "(I)I"⟩, 33) := ⟨⟨by decide +kernel, by decide +kernel⟩, List.mem_of_getElem? (i := 840) (by decide +kernel), List.mem_of_getElem? (i := 1006) (by decide +kernel), List.mem_of_getElem? (i := 1007) (by decide +kernel)⟩
theorem lw_p39 : lw_okq (⟨"ShakenParcelsModel", "figures", "(I)Z"⟩, 33) := ⟨⟨by decide +kernel, by decide +kernel⟩, List.mem_of_getElem? (i := 840) (by decide +kernel), List.mem_of_getElem? (i := 1010) (by decide +kernel), List.mem_of_getElem? (i := 1011) (by decide +kernel)⟩
theorem lw_p40 : lw_okq (⟨"ShakenParcelsModel", "isThingTold", "()Z"⟩, 33) := ⟨⟨by decide +kernel, by decide +kernel⟩, List.mem_of_getElem? (i := 840) (by decide +kernel), List.mem_of_getElem? (i := 1017) (by decide +kernel), List.mem_of_getElem? (i := 1018) (by decide +kernel)⟩
theorem lw_p41 : lw_okq (⟨"ShakenParcelsModel", "isTruth", "()Z"⟩, 33) := ⟨⟨by decide +kernel, by decide +kernel⟩, List.mem_of_getElem? (i := 840) (by decide +kernel), List.mem_of_getElem? (i := 1028) (by decide +kernel), List.mem_of_getElem? (i := 1029) (by decide +kernel)⟩
theorem lw_p42 : lw_okq (⟨"ShakenParcelsModel", "codeOf", "(IIII)I"⟩, 33) := ⟨⟨by decide +kernel, by decide +kernel⟩, List.mem_of_getElem? (i := 840) (by decide +kernel), List.mem_of_getElem? (i := 1032) (by decide +kernel), List.mem_of_getElem? (i := 1033) (by decide +kernel)⟩
theorem lw_p43 : lw_okq (⟨"ShakenParcelsModel", "isThing", "(I)Z"⟩, 33) := ⟨⟨by decide +kernel, by decide +kernel⟩, List.mem_of_getElem? (i := 840) (by decide +kernel), List.mem_of_getElem? (i := 1040) (by decide +kernel), List.mem_of_getElem? (i := 1041) (by decide +kernel)⟩
theorem lw_p44 : lw_okq (⟨"ShakenParcelsModel", "isParcel", "(I)Z"⟩, 33) := ⟨⟨by decide +kernel, by decide +kernel⟩, List.mem_of_getElem? (i := 840) (by decide +kernel), List.mem_of_getElem? (i := 1049) (by decide +kernel), List.mem_of_getElem? (i := 1050) (by decide +kernel)⟩
theorem lw_p45 : lw_okq (⟨"ShakenParcelsModel", "answerOf", "(IIII)I"⟩, 33) := ⟨⟨by decide +kernel, by decide +kernel⟩, List.mem_of_getElem? (i := 840) (by decide +kernel), List.mem_of_getElem? (i := 1065) (by decide +kernel), List.mem_of_getElem? (i := 1066) (by decide +kernel)⟩
theorem lw_p46 : lw_okq (⟨"ShakenParcelsModel", "weightOf", "(II)I"⟩, 33) := ⟨⟨by decide +kernel, by decide +kernel⟩, List.mem_of_getElem? (i := 840) (by decide +kernel), List.mem_of_getElem? (i := 1069) (by decide +kernel), List.mem_of_getElem? (i := 1070) (by decide +kernel)⟩
theorem lw_p47 : lw_okq (⟨"ShakenParcelsModel", "manyOf", "(II)I"⟩, 33) := ⟨⟨by decide +kernel, by decide +kernel⟩, List.mem_of_getElem? (i := 840) (by decide +kernel), List.mem_of_getElem? (i := 1073) (by decide +kernel), List.mem_of_getElem? (i := 1074) (by decide +kernel)⟩
def lw_privs_3 : List (MethodName × Nat) := [(⟨"ShakenParcelsModel", "begin", "()V"⟩, 33), (⟨"ShakenParcelsModel", "layWorlds", "()V"⟩, 33), (⟨"ShakenParcelsModel", "isFair", "(II)Z"⟩, 33), (⟨"ShakenParcelsModel", "gap", "(II)I"⟩, 33), (⟨"ShakenParcelsModel", "readAll", "()I"⟩, 33), (⟨"ShakenParcelsModel", "item", "()Z"⟩, 33), (⟨"ShakenParcelsModel", "letterAt", "(I)I"⟩, 33), (⟨"ShakenParcelsModel", "figures", "(I)Z"⟩, 33), (⟨"ShakenParcelsModel", "isThingTold", "()Z"⟩, 33), (⟨"ShakenParcelsModel", "isTruth", "()Z"⟩, 33), (⟨"ShakenParcelsModel", "codeOf", "(IIII)I"⟩, 33), (⟨"ShakenParcelsModel", "isThing", "(I)Z"⟩, 33), (⟨"ShakenParcelsModel", "isParcel", "(I)Z"⟩, 33), (⟨"ShakenParcelsModel", "answerOf", "(IIII)I"⟩, 33), (⟨"ShakenParcelsModel", "weightOf", "(II)I"⟩, 33), (⟨"ShakenParcelsModel", "manyOf", "(II)I"⟩, 33)]
theorem lw_r3 : ∀ q ∈ lw_privs_3, lw_okq q := List.forall_mem_cons.mpr ⟨lw_p32, List.forall_mem_cons.mpr ⟨lw_p33, List.forall_mem_cons.mpr ⟨lw_p34, List.forall_mem_cons.mpr ⟨lw_p35, List.forall_mem_cons.mpr ⟨lw_p36, List.forall_mem_cons.mpr ⟨lw_p37, List.forall_mem_cons.mpr ⟨lw_p38, List.forall_mem_cons.mpr ⟨lw_p39, List.forall_mem_cons.mpr ⟨lw_p40, List.forall_mem_cons.mpr ⟨lw_p41, List.forall_mem_cons.mpr ⟨lw_p42, List.forall_mem_cons.mpr ⟨lw_p43, List.forall_mem_cons.mpr ⟨lw_p44, List.forall_mem_cons.mpr ⟨lw_p45, List.forall_mem_cons.mpr ⟨lw_p46, List.forall_mem_cons.mpr ⟨lw_p47, fun _ h => absurd h List.not_mem_nil⟩⟩⟩⟩⟩⟩⟩⟩⟩⟩⟩⟩⟩⟩⟩⟩
theorem lw_p48 : lw_okq (⟨"ShakenParcelsModel", "addAnswer", "(III)V"⟩, 33) := ⟨⟨by decide +kernel, by decide +kernel⟩, List.mem_of_getElem? (i := 840) (by decide +kernel), List.mem_of_getElem? (i := 1081) (by decide +kernel), List.mem_of_getElem? (i := 1082) (by decide +kernel)⟩
theorem lw_p49 : lw_okq (⟨"ShakenParcelsModel", "note", "()V"⟩, 33) := ⟨⟨by decide +kernel, by decide +kernel⟩, List.mem_of_getElem? (i := 840) (by decide +kernel), List.mem_of_getElem? (i := 1085) (by decide +kernel), List.mem_of_getElem? (i := 1086) (by decide +kernel)⟩
theorem lw_p50 : lw_okq (⟨"ShakenParcelsModel", "truth", "()I"⟩, 33) := ⟨⟨by decide +kernel, by decide +kernel⟩, List.mem_of_getElem? (i := 840) (by decide +kernel), List.mem_of_getElem? (i := 1098) (by decide +kernel), List.mem_of_getElem? (i := 1099) (by decide +kernel)⟩
theorem lw_p51 : lw_okq (⟨"ShakenParcelsModel", "layLeft", "(I)I"⟩, 33) := ⟨⟨by decide +kernel, by decide +kernel⟩, List.mem_of_getElem? (i := 840) (by decide +kernel), List.mem_of_getElem? (i := 1114) (by decide +kernel), List.mem_of_getElem? (i := 1115) (by decide +kernel)⟩
theorem lw_p52 : lw_okq (⟨"ShakenParcelsModel", "fits", "(II)Z"⟩, 33) := ⟨⟨by decide +kernel, by decide +kernel⟩, List.mem_of_getElem? (i := 840) (by decide +kernel), List.mem_of_getElem? (i := 1118) (by decide +kernel), List.mem_of_getElem? (i := 1119) (by decide +kernel)⟩
theorem lw_p53 : lw_okq (⟨"ShakenParcelsModel", "weighs", "(I)J"⟩, 33) := ⟨⟨by decide +kernel, by decide +kernel⟩, List.mem_of_getElem? (i := 840) (by decide +kernel), List.mem_of_getElem? (i := 1128) (by decide +kernel), List.mem_of_getElem? (i := 1129) (by decide +kernel)⟩
theorem lw_p54 : lw_okq (⟨"ShakenParcelsModel", "bestTrial", "()I"⟩, 33) := ⟨⟨by decide +kernel, by decide +kernel⟩, List.mem_of_getElem? (i := 840) (by decide +kernel), List.mem_of_getElem? (i := 1151) (by decide +kernel), List.mem_of_getElem? (i := 1152) (by decide +kernel)⟩
theorem lw_p55 : lw_okq (⟨"ShakenParcelsModel", "worstOf", "(II)I"⟩, 33) := ⟨⟨by decide +kernel, by decide +kernel⟩, List.mem_of_getElem? (i := 840) (by decide +kernel), List.mem_of_getElem? (i := 1155) (by decide +kernel), List.mem_of_getElem? (i := 1156) (by decide +kernel)⟩
theorem lw_p56 : lw_okq (⟨"ShakenParcelsModel", "layTwo", "(III)V"⟩, 33) := ⟨⟨by decide +kernel, by decide +kernel⟩, List.mem_of_getElem? (i := 840) (by decide +kernel), List.mem_of_getElem? (i := 1163) (by decide +kernel), List.mem_of_getElem? (i := 1164) (by decide +kernel)⟩
theorem lw_p57 : lw_okq (⟨"ShakenParcelsModel", "meet", "(II)V"⟩, 33) := ⟨⟨by decide +kernel, by decide +kernel⟩, List.mem_of_getElem? (i := 840) (by decide +kernel), List.mem_of_getElem? (i := 1167) (by decide +kernel), List.mem_of_getElem? (i := 1168) (by decide +kernel)⟩
theorem lw_p58 : lw_okq (⟨"ShakenParcelsModel", "isKnown", "(I)Z"⟩, 33) := ⟨⟨by decide +kernel, by decide +kernel⟩, List.mem_of_getElem? (i := 840) (by decide +kernel), List.mem_of_getElem? (i := 1171) (by decide +kernel), List.mem_of_getElem? (i := 1172) (by decide +kernel)⟩
theorem lw_p59 : lw_okq (⟨"ShakenParcelsModel", "isEnough", "(II)Z"⟩, 33) := ⟨⟨by decide +kernel, by decide +kernel⟩, List.mem_of_getElem? (i := 840) (by decide +kernel), List.mem_of_getElem? (i := 1175) (by decide +kernel), List.mem_of_getElem? (i := 1176) (by decide +kernel)⟩
theorem lw_p60 : lw_okq (⟨"ShakenParcelsModel", "solve", "(I)I"⟩, 33) := ⟨⟨by decide +kernel, by decide +kernel⟩, List.mem_of_getElem? (i := 840) (by decide +kernel), List.mem_of_getElem? (i := 1183) (by decide +kernel), List.mem_of_getElem? (i := 1184) (by decide +kernel)⟩
def lw_privs_4 : List (MethodName × Nat) := [(⟨"ShakenParcelsModel", "addAnswer", "(III)V"⟩, 33), (⟨"ShakenParcelsModel", "note", "()V"⟩, 33), (⟨"ShakenParcelsModel", "truth", "()I"⟩, 33), (⟨"ShakenParcelsModel", "layLeft", "(I)I"⟩, 33), (⟨"ShakenParcelsModel", "fits", "(II)Z"⟩, 33), (⟨"ShakenParcelsModel", "weighs", "(I)J"⟩, 33), (⟨"ShakenParcelsModel", "bestTrial", "()I"⟩, 33), (⟨"ShakenParcelsModel", "worstOf", "(II)I"⟩, 33), (⟨"ShakenParcelsModel", "layTwo", "(III)V"⟩, 33), (⟨"ShakenParcelsModel", "meet", "(II)V"⟩, 33), (⟨"ShakenParcelsModel", "isKnown", "(I)Z"⟩, 33), (⟨"ShakenParcelsModel", "isEnough", "(II)Z"⟩, 33), (⟨"ShakenParcelsModel", "solve", "(I)I"⟩, 33)]
theorem lw_r4 : ∀ q ∈ lw_privs_4, lw_okq q := List.forall_mem_cons.mpr ⟨lw_p48, List.forall_mem_cons.mpr ⟨lw_p49, List.forall_mem_cons.mpr ⟨lw_p50, List.forall_mem_cons.mpr ⟨lw_p51, List.forall_mem_cons.mpr ⟨lw_p52, List.forall_mem_cons.mpr ⟨lw_p53, List.forall_mem_cons.mpr ⟨lw_p54, List.forall_mem_cons.mpr ⟨lw_p55, List.forall_mem_cons.mpr ⟨lw_p56, List.forall_mem_cons.mpr ⟨lw_p57, List.forall_mem_cons.mpr ⟨lw_p58, List.forall_mem_cons.mpr ⟨lw_p59, List.forall_mem_cons.mpr ⟨lw_p60, fun _ h => absurd h List.not_mem_nil⟩⟩⟩⟩⟩⟩⟩⟩⟩⟩⟩⟩⟩
def lw_privs : List (MethodName × Nat) := lw_privs_1 ++ (lw_privs_2 ++ (lw_privs_3 ++ (lw_privs_4)))
def lw_tbl : List Cond := k2_sels lw_privs ++ tables_1
theorem lw_privs_ok : ∀ q ∈ lw_privs, lw_okq q := by
  show ∀ q ∈ lw_privs_1 ++ (lw_privs_2 ++ (lw_privs_3 ++ (lw_privs_4))), lw_okq q
  exact List.forall_mem_append.mpr ⟨lw_r1, List.forall_mem_append.mpr ⟨lw_r2, List.forall_mem_append.mpr ⟨lw_r3, lw_r4⟩⟩⟩
end
section
def RX0 : String := "ShakenParcels$Finder"
def TX0 : u_T := fun k => match k with
  | 0 => ("ShakenParcels$Finder", "trial", "I", false)
  | 1 => ("ShakenParcels$Finder", "worst", "I", false)
  | 2 => ("ShakenParcels$Finder", "trials", "I", false)
  | 3 => ("ShakenParcels$Finder", "spent", "I", false)
  | 4 => ("ShakenParcels$Finder", "bySet", "[I", true)
  | 5 => ("ShakenParcels$Finder", "byReply", "[I", true)
  | 6 => ("ShakenParcels$Finder", "starts", "[I", true)
  | 7 => ("ShakenParcels$Finder", "known", "[I", true)
  | _ => ("ShakenParcels$Finder", "replyOfSet", "[I", true)
def tyX0 : Nat → FieldType := fun k => match k with
  | 0 => .int
  | 1 => .int
  | 2 => .int
  | 3 => .int
  | 4 => .array .int
  | 5 => .array .int
  | 6 => .array .int
  | 7 => .array .int
  | _ => .array .int
abbrev wsX00 : List Cond := u_ws RX0 TX0 9
theorem nmX0 : ∀ a, a < 9 → ∀ b, b < 9 → a ≠ b → (TX0 a).2.1 ≠ (TX0 b).2.1 := by decide +kernel
theorem tyX0_ok : ∀ k, k < 9 → parseFieldDescriptor (TX0 k).2.2.1 = some (tyX0 k) := by decide +kernel
abbrev cX0_init : ByteArray := prog_2_method_1_code
def yX0_init : MethodName := ⟨RX0, "<init>", "()V"⟩
abbrev cX0_choose : ByteArray := prog_2_method_2_code
def yX0_choose : MethodName := ⟨RX0, "choose", "(LShakenParcels$Tree;LShakenParcels$Worlds;)V"⟩
abbrev cX0_countSets : ByteArray := prog_2_method_3_code
def yX0_countSets : MethodName := ⟨RX0, "countSets", "(LShakenParcels$Worlds;I)V"⟩
abbrev cX0_countReplies : ByteArray := prog_2_method_4_code
def yX0_countReplies : MethodName := ⟨RX0, "countReplies", "(LShakenParcels$Tree;II)I"⟩
abbrev cX0_solves : ByteArray := prog_2_method_5_code
def yX0_solves : MethodName := ⟨RX0, "solves", "(LShakenParcels$Tree;LShakenParcels$Worlds;I)Z"⟩
abbrev cX0_fewest : ByteArray := prog_2_method_6_code
def yX0_fewest : MethodName := ⟨RX0, "fewest", "(LShakenParcels$Tree;LShakenParcels$Worlds;LShakenParcels$Worlds;I)I"⟩
abbrev cX0_isKnown : ByteArray := prog_2_method_7_code
def yX0_isKnown : MethodName := ⟨RX0, "isKnown", "(LShakenParcels$Worlds;I)Z"⟩
abbrev cX0_someTrialTells : ByteArray := prog_2_method_8_code
def yX0_someTrialTells : MethodName := ⟨RX0, "someTrialTells", "(LShakenParcels$Tree;LShakenParcels$Worlds;III)Z"⟩
abbrev cX0_tells : ByteArray := prog_2_method_9_code
def yX0_tells : MethodName := ⟨RX0, "tells", "(LShakenParcels$Tree;LShakenParcels$Worlds;IIII)Z"⟩
abbrev cX0_group : ByteArray := prog_2_method_10_code
def yX0_group : MethodName := ⟨RX0, "group", "(LShakenParcels$Tree;LShakenParcels$Worlds;LShakenParcels$Worlds;I)V"⟩
abbrev cX0_listReplies : ByteArray := prog_2_method_11_code
def yX0_listReplies : MethodName := ⟨RX0, "listReplies", "(LShakenParcels$Tree;II)V"⟩
abbrev cX0_eachGroupIsTold : ByteArray := prog_2_method_12_code
def yX0_eachGroupIsTold : MethodName := ⟨RX0, "eachGroupIsTold", "(LShakenParcels$Tree;LShakenParcels$Worlds;I)Z"⟩
def RX1 : String := "ShakenParcels$Scene"
def TX1 : u_T := fun k => match k with
  | 0 => ("ShakenParcels$Scene", "truth", "I", false)
  | 1 => ("ShakenParcels$Scene", "hidden", "[I", true)
  | 2 => ("ShakenParcels$Scene", "trials", "[I", true)
  | 3 => ("ShakenParcels$Scene", "replies", "[I", true)
  | _ => ("ShakenParcels$Scene", "answers", "I", false)
def tyX1 : Nat → FieldType := fun k => match k with
  | 0 => .int
  | 1 => .array .int
  | 2 => .array .int
  | 3 => .array .int
  | _ => .int
abbrev wsX10 : List Cond := u_ws RX1 TX1 5
theorem nmX1 : ∀ a, a < 5 → ∀ b, b < 5 → a ≠ b → (TX1 a).2.1 ≠ (TX1 b).2.1 := by decide +kernel
theorem tyX1_ok : ∀ k, k < 5 → parseFieldDescriptor (TX1 k).2.2.1 = some (tyX1 k) := by decide +kernel
abbrev cX1_init : ByteArray := prog_3_method_1_code
def yX1_init : MethodName := ⟨RX1, "<init>", "()V"⟩
abbrev cX1_begin : ByteArray := prog_3_method_2_code
def yX1_begin : MethodName := ⟨RX1, "begin", "(I)V"⟩
abbrev cX1_copy : ByteArray := prog_3_method_3_code
def yX1_copy : MethodName := ⟨RX1, "copy", "(LShakenParcels$Scene;)V"⟩
abbrev cX1_isFull : ByteArray := prog_3_method_4_code
def yX1_isFull : MethodName := ⟨RX1, "isFull", "()Z"⟩
abbrev cX1_add : ByteArray := prog_3_method_5_code
def yX1_add : MethodName := ⟨RX1, "add", "(II)V"⟩
def RX2 : String := "ShakenParcels$Scenes"
def TX2 : u_T := fun k => match k with
  | 0 => ("ShakenParcels$Scenes", "row", "[LShakenParcels$Scene;", true)
  | _ => ("ShakenParcels$Scenes", "size", "I", false)
def tyX2 : Nat → FieldType := fun k => match k with
  | 0 => .array (.object "ShakenParcels$Scene")
  | _ => .int
abbrev wsX20 : List Cond := u_ws RX2 TX2 2
theorem nmX2 : ∀ a, a < 2 → ∀ b, b < 2 → a ≠ b → (TX2 a).2.1 ≠ (TX2 b).2.1 := by decide +kernel
theorem tyX2_ok : ∀ k, k < 2 → parseFieldDescriptor (TX2 k).2.2.1 = some (tyX2 k) := by decide +kernel
abbrev cX2_init : ByteArray := prog_4_method_1_code
def yX2_init : MethodName := ⟨RX2, "<init>", "(I)V"⟩
abbrev cX2_clear : ByteArray := prog_4_method_2_code
def yX2_clear : MethodName := ⟨RX2, "clear", "()V"⟩
abbrev cX2_isFull : ByteArray := prog_4_method_3_code
def yX2_isFull : MethodName := ⟨RX2, "isFull", "()Z"⟩
abbrev cX2_push : ByteArray := prog_4_method_4_code
def yX2_push : MethodName := ⟨RX2, "push", "(LShakenParcels$Scene;)V"⟩
abbrev cX2_dropLowest : ByteArray := prog_4_method_5_code
def yX2_dropLowest : MethodName := ⟨RX2, "dropLowest", "()V"⟩
abbrev cX2_popInto : ByteArray := prog_4_method_6_code
def yX2_popInto : MethodName := ⟨RX2, "popInto", "(LShakenParcels$Scene;)Z"⟩
def RX3 : String := "ShakenParcels$Text"
def TX3 : u_T := fun k => match k with
  | 0 => ("ShakenParcels$Text", "letters", "[C", true)
  | 1 => ("ShakenParcels$Text", "length", "I", false)
  | 2 => ("ShakenParcels$Text", "numbers", "[I", true)
  | _ => ("ShakenParcels$Text", "amount", "I", false)
def tyX3 : Nat → FieldType := fun k => match k with
  | 0 => .array .char
  | 1 => .int
  | 2 => .array .int
  | _ => .int
abbrev wsX30 : List Cond := u_ws RX3 TX3 4
theorem nmX3 : ∀ a, a < 4 → ∀ b, b < 4 → a ≠ b → (TX3 a).2.1 ≠ (TX3 b).2.1 := by decide +kernel
theorem tyX3_ok : ∀ k, k < 4 → parseFieldDescriptor (TX3 k).2.2.1 = some (tyX3 k) := by decide +kernel
abbrev cX3_init : ByteArray := prog_5_method_1_code
def yX3_init : MethodName := ⟨RX3, "<init>", "()V"⟩
abbrev cX3_add : ByteArray := prog_5_method_2_code
def yX3_add : MethodName := ⟨RX3, "add", "(I)Z"⟩
abbrev cX3_clear : ByteArray := prog_5_method_3_code
def yX3_clear : MethodName := ⟨RX3, "clear", "()V"⟩
abbrev cX3_readInto : ByteArray := prog_5_method_4_code
def yX3_readInto : MethodName := ⟨RX3, "readInto", "(LShakenParcels$Tree;)I"⟩
abbrev cX3_readNumbers : ByteArray := prog_5_method_5_code
def yX3_readNumbers : MethodName := ⟨RX3, "readNumbers", "(I)I"⟩
abbrev cX3_figuresAt : ByteArray := prog_5_method_6_code
def yX3_figuresAt : MethodName := ⟨RX3, "figuresAt", "(I)I"⟩
abbrev cX3_numberAt : ByteArray := prog_5_method_7_code
def yX3_numberAt : MethodName := ⟨RX3, "numberAt", "(II)I"⟩
abbrev cX3_letterAt : ByteArray := prog_5_method_8_code
def yX3_letterAt : MethodName := ⟨RX3, "letterAt", "(I)I"⟩
abbrev cX3_isFigure : ByteArray := prog_5_method_9_code
def yX3_isFigure : MethodName := ⟨RX3, "isFigure", "(I)Z"⟩
def RX4 : String := "ShakenParcels$Things"
def TX4 : u_T := fun k => match k with
  | 0 => ("ShakenParcels$Things", "weight", "[I", true)
  | 1 => ("ShakenParcels$Things", "kind", "[I", true)
  | 2 => ("ShakenParcels$Things", "worth", "[I", true)
  | 3 => ("ShakenParcels$Things", "chance", "[I", true)
  | 4 => ("ShakenParcels$Things", "amount", "I", false)
  | 5 => ("ShakenParcels$Things", "weightOfSet", "[I", true)
  | 6 => ("ShakenParcels$Things", "worthOfSet", "[I", true)
  | 7 => ("ShakenParcels$Things", "chanceOfSet", "[I", true)
  | 8 => ("ShakenParcels$Things", "sliding", "I", false)
  | 9 => ("ShakenParcels$Things", "rolling", "I", false)
  | _ => ("ShakenParcels$Things", "firm", "I", false)
def tyX4 : Nat → FieldType := fun k => match k with
  | 0 => .array .int
  | 1 => .array .int
  | 2 => .array .int
  | 3 => .array .int
  | 4 => .int
  | 5 => .array .int
  | 6 => .array .int
  | 7 => .array .int
  | 8 => .int
  | 9 => .int
  | _ => .int
abbrev wsX40 : List Cond := u_ws RX4 TX4 11
theorem nmX4 : ∀ a, a < 11 → ∀ b, b < 11 → a ≠ b → (TX4 a).2.1 ≠ (TX4 b).2.1 := by decide +kernel
theorem tyX4_ok : ∀ k, k < 11 → parseFieldDescriptor (TX4 k).2.2.1 = some (tyX4 k) := by decide +kernel
abbrev cX4_init : ByteArray := prog_6_method_1_code
def yX4_init : MethodName := ⟨RX4, "<init>", "()V"⟩
abbrev cX4_clear : ByteArray := prog_6_method_2_code
def yX4_clear : MethodName := ⟨RX4, "clear", "()V"⟩
abbrev cX4_add : ByteArray := prog_6_method_3_code
def yX4_add : MethodName := ⟨RX4, "add", "([I)V"⟩
abbrev cX4_sortByKind : ByteArray := prog_6_method_4_code
def yX4_sortByKind : MethodName := ⟨RX4, "sortByKind", "(II)V"⟩
abbrev cX4_tipped : ByteArray := prog_6_method_5_code
def yX4_tipped : MethodName := ⟨RX4, "tipped", "(I)I"⟩
abbrev cX4_shaken : ByteArray := prog_6_method_6_code
def yX4_shaken : MethodName := ⟨RX4, "shaken", "(I)I"⟩
abbrev cX4_pressed : ByteArray := prog_6_method_7_code
def yX4_pressed : MethodName := ⟨RX4, "pressed", "(I)I"⟩
def RX5 : String := "ShakenParcels$Tree"
def TX5 : u_T := fun k => match k with
  | 0 => ("ShakenParcels$Tree", "things", "LShakenParcels$Things;", true)
  | 1 => ("ShakenParcels$Tree", "box", "[I", true)
  | 2 => ("ShakenParcels$Tree", "child", "[I", true)
  | 3 => ("ShakenParcels$Tree", "room", "[I", true)
  | 4 => ("ShakenParcels$Tree", "parcels", "I", false)
  | 5 => ("ShakenParcels$Tree", "told", "I", false)
  | 6 => ("ShakenParcels$Tree", "scale", "I", false)
  | 7 => ("ShakenParcels$Tree", "apart", "I", false)
  | 8 => ("ShakenParcels$Tree", "noticed", "[I", true)
  | _ => ("ShakenParcels$Tree", "lasting", "[I", true)
def tyX5 : Nat → FieldType := fun k => match k with
  | 0 => .object "ShakenParcels$Things"
  | 1 => .array .int
  | 2 => .array .int
  | 3 => .array .int
  | 4 => .int
  | 5 => .int
  | 6 => .int
  | 7 => .int
  | 8 => .array .int
  | _ => .array .int
abbrev wsX50 : List Cond := u_ws RX5 TX5 10
theorem nmX5 : ∀ a, a < 10 → ∀ b, b < 10 → a ≠ b → (TX5 a).2.1 ≠ (TX5 b).2.1 := by decide +kernel
theorem tyX5_ok : ∀ k, k < 10 → parseFieldDescriptor (TX5 k).2.2.1 = some (tyX5 k) := by decide +kernel
abbrev cX5_init : ByteArray := prog_7_method_1_code
def yX5_init : MethodName := ⟨RX5, "<init>", "()V"⟩
abbrev cX5_clear : ByteArray := prog_7_method_2_code
def yX5_clear : MethodName := ⟨RX5, "clear", "()V"⟩
abbrev cX5_takes : ByteArray := prog_7_method_3_code
def yX5_takes : MethodName := ⟨RX5, "takes", "(I[II)Z"⟩
abbrev cX5_takesThing : ByteArray := prog_7_method_4_code
def yX5_takesThing : MethodName := ⟨RX5, "takesThing", "([I)Z"⟩
abbrev cX5_takesParcel : ByteArray := prog_7_method_5_code
def yX5_takesParcel : MethodName := ⟨RX5, "takesParcel", "([I)Z"⟩
abbrev cX5_takesTruth : ByteArray := prog_7_method_6_code
def yX5_takesTruth : MethodName := ⟨RX5, "takesTruth", "(II)Z"⟩
abbrev cX5_takesScale : ByteArray := prog_7_method_7_code
def yX5_takesScale : MethodName := ⟨RX5, "takesScale", "(I)Z"⟩
abbrev cX5_takesApart : ByteArray := prog_7_method_8_code
def yX5_takesApart : MethodName := ⟨RX5, "takesApart", "(I)Z"⟩
abbrev cX5_takesSort : ByteArray := prog_7_method_9_code
def yX5_takesSort : MethodName := ⟨RX5, "takesSort", "(III)Z"⟩
abbrev cX5_isWorld : ByteArray := prog_7_method_10_code
def yX5_isWorld : MethodName := ⟨RX5, "isWorld", "(I)Z"⟩
abbrev cX5_isFair : ByteArray := prog_7_method_11_code
def yX5_isFair : MethodName := ⟨RX5, "isFair", "(I)Z"⟩
abbrev cX5_hasParcels : ByteArray := prog_7_method_12_code
def yX5_hasParcels : MethodName := ⟨RX5, "hasParcels", "(I)Z"⟩
abbrev cX5_worthFor : ByteArray := prog_7_method_13_code
def yX5_worthFor : MethodName := ⟨RX5, "worthFor", "(II)I"⟩
abbrev cX5_chanceOf : ByteArray := prog_7_method_14_code
def yX5_chanceOf : MethodName := ⟨RX5, "chanceOf", "(I)I"⟩
abbrev cX5_weightWithBox : ByteArray := prog_7_method_15_code
def yX5_weightWithBox : MethodName := ⟨RX5, "weightWithBox", "(II)I"⟩
abbrev cX5_reply : ByteArray := prog_7_method_16_code
def yX5_reply : MethodName := ⟨RX5, "reply", "(IIII)I"⟩
abbrev cX5_inSteps : ByteArray := prog_7_method_17_code
def yX5_inSteps : MethodName := ⟨RX5, "inSteps", "(I)I"⟩
abbrev cX5_trials : ByteArray := prog_7_method_18_code
def yX5_trials : MethodName := ⟨RX5, "trials", "()I"⟩
abbrev cX5_mostWorlds : ByteArray := prog_7_method_19_code
def yX5_mostWorlds : MethodName := ⟨RX5, "mostWorlds", "()I"⟩
abbrev cX5_listWorlds : ByteArray := prog_7_method_20_code
def yX5_listWorlds : MethodName := ⟨RX5, "listWorlds", "(LShakenParcels$Worlds;)V"⟩
abbrev cX5_addWorlds : ByteArray := prog_7_method_21_code
def yX5_addWorlds : MethodName := ⟨RX5, "addWorlds", "(LShakenParcels$Tree;LShakenParcels$Worlds;III)V"⟩
def RX6 : String := "ShakenParcels$Worlds"
def TX6 : u_T := fun k => match k with
  | 0 => ("ShakenParcels$Worlds", "rows", "[I", false)
  | _ => ("ShakenParcels$Worlds", "size", "I", false)
def tyX6 : Nat → FieldType := fun k => match k with
  | 0 => .array .int
  | _ => .int
abbrev wsX60 : List Cond := u_ws RX6 TX6 2
theorem nmX6 : ∀ a, a < 2 → ∀ b, b < 2 → a ≠ b → (TX6 a).2.1 ≠ (TX6 b).2.1 := by decide +kernel
theorem tyX6_ok : ∀ k, k < 2 → parseFieldDescriptor (TX6 k).2.2.1 = some (tyX6 k) := by decide +kernel
abbrev cX6_init : ByteArray := prog_8_method_1_code
def yX6_init : MethodName := ⟨RX6, "<init>", "()V"⟩
abbrev cX6_makeRoom : ByteArray := prog_8_method_2_code
def yX6_makeRoom : MethodName := ⟨RX6, "makeRoom", "(I)V"⟩
abbrev cX6_clear : ByteArray := prog_8_method_3_code
def yX6_clear : MethodName := ⟨RX6, "clear", "()V"⟩
abbrev cX6_add : ByteArray := prog_8_method_4_code
def yX6_add : MethodName := ⟨RX6, "add", "(I)V"⟩
abbrev cX6_take : ByteArray := prog_8_method_5_code
def yX6_take : MethodName := ⟨RX6, "take", "(I)I"⟩
abbrev cX6_set : ByteArray := prog_8_method_6_code
def yX6_set : MethodName := ⟨RX6, "set", "(II)V"⟩
abbrev cX6_copy : ByteArray := prog_8_method_7_code
def yX6_copy : MethodName := ⟨RX6, "copy", "(LShakenParcels$Worlds;)V"⟩
abbrev cX6_holds : ByteArray := prog_8_method_8_code
def yX6_holds : MethodName := ⟨RX6, "holds", "(I)Z"⟩
abbrev cX6_narrow : ByteArray := prog_8_method_9_code
def yX6_narrow : MethodName := ⟨RX6, "narrow", "(LShakenParcels$Tree;III)V"⟩
def RX7 : String := "ShakenParcels"
def TX7 : u_T := fun k => match k with
  | 0 => ("ShakenParcels", "text", "LShakenParcels$Text;", true)
  | 1 => ("ShakenParcels", "tree", "LShakenParcels$Tree;", false)
  | 2 => ("ShakenParcels", "spare", "LShakenParcels$Tree;", false)
  | 3 => ("ShakenParcels", "all", "LShakenParcels$Worlds;", true)
  | 4 => ("ShakenParcels", "remaining", "LShakenParcels$Worlds;", true)
  | 5 => ("ShakenParcels", "scratch", "LShakenParcels$Worlds;", true)
  | 6 => ("ShakenParcels", "finder", "LShakenParcels$Finder;", true)
  | 7 => ("ShakenParcels", "now", "LShakenParcels$Scene;", true)
  | 8 => ("ShakenParcels", "undoable", "LShakenParcels$Scenes;", true)
  | 9 => ("ShakenParcels", "kept", "LShakenParcels$Scenes;", true)
  | 10 => ("ShakenParcels", "chanceBySet", "[J", true)
  | 11 => ("ShakenParcels", "stale", "Z", false)
  | _ => ("ShakenParcels", "judged", "I", false)
def tyX7 : Nat → FieldType := fun k => match k with
  | 0 => .object "ShakenParcels$Text"
  | 1 => .object "ShakenParcels$Tree"
  | 2 => .object "ShakenParcels$Tree"
  | 3 => .object "ShakenParcels$Worlds"
  | 4 => .object "ShakenParcels$Worlds"
  | 5 => .object "ShakenParcels$Worlds"
  | 6 => .object "ShakenParcels$Finder"
  | 7 => .object "ShakenParcels$Scene"
  | 8 => .object "ShakenParcels$Scenes"
  | 9 => .object "ShakenParcels$Scenes"
  | 10 => .array .long
  | 11 => .boolean
  | _ => .int
abbrev wsX70 : List Cond := u_ws RX7 TX7 13
theorem nmX7 : ∀ a, a < 13 → ∀ b, b < 13 → a ≠ b → (TX7 a).2.1 ≠ (TX7 b).2.1 := by decide +kernel
theorem tyX7_ok : ∀ k, k < 13 → parseFieldDescriptor (TX7 k).2.2.1 = some (tyX7 k) := by decide +kernel
abbrev cX7_init : ByteArray := prog_1_method_1_code
def yX7_init : MethodName := ⟨RX7, "<init>", "()V"⟩
abbrev cX7_write : ByteArray := prog_1_method_2_code
def yX7_write : MethodName := ⟨RX7, "write", "(I)I"⟩
abbrev cX7_wipe : ByteArray := prog_1_method_3_code
def yX7_wipe : MethodName := ⟨RX7, "wipe", "()I"⟩
abbrev cX7_fault : ByteArray := prog_1_method_4_code
def yX7_fault : MethodName := ⟨RX7, "fault", "()I"⟩
abbrev cX7_lay : ByteArray := prog_1_method_5_code
def yX7_lay : MethodName := ⟨RX7, "lay", "()I"⟩
abbrev cX7_thing : ByteArray := prog_1_method_6_code
def yX7_thing : MethodName := ⟨RX7, "thing", "(II)I"⟩
abbrev cX7_parcel : ByteArray := prog_1_method_7_code
def yX7_parcel : MethodName := ⟨RX7, "parcel", "(II)I"⟩
abbrev cX7_world : ByteArray := prog_1_method_8_code
def yX7_world : MethodName := ⟨RX7, "world", "(II)I"⟩
abbrev cX7_answer : ByteArray := prog_1_method_9_code
def yX7_answer : MethodName := ⟨RX7, "answer", "(III)I"⟩
abbrev cX7_attempt : ByteArray := prog_1_method_10_code
def yX7_attempt : MethodName := ⟨RX7, "attempt", "(II)I"⟩
abbrev cX7_hear : ByteArray := prog_1_method_11_code
def yX7_hear : MethodName := ⟨RX7, "hear", "(III)I"⟩
abbrev cX7_change : ByteArray := prog_1_method_12_code
def yX7_change : MethodName := ⟨RX7, "change", "(II)I"⟩
abbrev cX7_hide : ByteArray := prog_1_method_13_code
def yX7_hide : MethodName := ⟨RX7, "hide", "(II)I"⟩
abbrev cX7_undo : ByteArray := prog_1_method_14_code
def yX7_undo : MethodName := ⟨RX7, "undo", "()I"⟩
abbrev cX7_left : ByteArray := prog_1_method_15_code
def yX7_left : MethodName := ⟨RX7, "left", "()I"⟩
abbrev cX7_likely : ByteArray := prog_1_method_16_code
def yX7_likely : MethodName := ⟨RX7, "likely", "(III)J"⟩
abbrev cX7_sure : ByteArray := prog_1_method_17_code
def yX7_sure : MethodName := ⟨RX7, "sure", "(IZ)I"⟩
abbrev cX7_judge : ByteArray := prog_1_method_18_code
def yX7_judge : MethodName := ⟨RX7, "judge", "()I"⟩
abbrev cX7_guess : ByteArray := prog_1_method_19_code
def yX7_guess : MethodName := ⟨RX7, "guess", "(II)J"⟩
abbrev cX7_next : ByteArray := prog_1_method_20_code
def yX7_next : MethodName := ⟨RX7, "next", "(I)I"⟩
abbrev cX7_few : ByteArray := prog_1_method_21_code
def yX7_few : MethodName := ⟨RX7, "few", "(I)I"⟩
abbrev cX7_solved : ByteArray := prog_1_method_22_code
def yX7_solved : MethodName := ⟨RX7, "solved", "(I)I"⟩
abbrev cX7_risk : ByteArray := prog_1_method_23_code
def yX7_risk : MethodName := ⟨RX7, "risk", "(I)J"⟩
abbrev cX7_seconds : ByteArray := prog_1_method_24_code
def yX7_seconds : MethodName := ⟨RX7, "seconds", "()I"⟩
abbrev cX7_misled : ByteArray := prog_1_method_25_code
def yX7_misled : MethodName := ⟨RX7, "misled", "(II)I"⟩
abbrev cX7_more : ByteArray := prog_1_method_26_code
def yX7_more : MethodName := ⟨RX7, "more", "(I)I"⟩
abbrev cX7_heavier : ByteArray := prog_1_method_27_code
def yX7_heavier : MethodName := ⟨RX7, "heavier", "(II)I"⟩
abbrev cX7_morning : ByteArray := prog_1_method_28_code
def yX7_morning : MethodName := ⟨RX7, "morning", "(II)I"⟩
abbrev cX7_keep : ByteArray := prog_1_method_29_code
def yX7_keep : MethodName := ⟨RX7, "keep", "()I"⟩
abbrev cX7_back : ByteArray := prog_1_method_30_code
def yX7_back : MethodName := ⟨RX7, "back", "()I"⟩
abbrev cX7_count : ByteArray := prog_1_method_31_code
def yX7_count : MethodName := ⟨RX7, "count", "(I)I"⟩
abbrev cX7_layText : ByteArray := prog_1_method_32_code
def yX7_layText : MethodName := ⟨RX7, "layText", "()Z"⟩
abbrev cX7_isThing : ByteArray := prog_1_method_33_code
def yX7_isThing : MethodName := ⟨RX7, "isThing", "(I)Z"⟩
abbrev cX7_isParcel : ByteArray := prog_1_method_34_code
def yX7_isParcel : MethodName := ⟨RX7, "isParcel", "(I)Z"⟩
abbrev cX7_parcelWith : ByteArray := prog_1_method_35_code
def yX7_parcelWith : MethodName := ⟨RX7, "parcelWith", "(I)I"⟩
abbrev cX7_note : ByteArray := prog_1_method_36_code
def yX7_note : MethodName := ⟨RX7, "note", "(III)V"⟩
abbrev cX7_findRemaining : ByteArray := prog_1_method_37_code
def yX7_findRemaining : MethodName := ⟨RX7, "findRemaining", "()LShakenParcels$Worlds;"⟩
abbrev cX7_sumChances : ByteArray := prog_1_method_38_code
def yX7_sumChances : MethodName := ⟨RX7, "sumChances", "(LShakenParcels$Worlds;I)J"⟩
abbrev cX7_solve : ByteArray := prog_1_method_39_code
def yX7_solve : MethodName := ⟨RX7, "solve", "(LShakenParcels$Worlds;II)I"⟩
abbrev cX7_isSort : ByteArray := prog_1_method_40_code
def yX7_isSort : MethodName := ⟨RX7, "isSort", "(I)Z"⟩
abbrev cX7_isBelow : ByteArray := prog_1_method_41_code
def yX7_isBelow : MethodName := ⟨RX7, "isBelow", "(II)Z"⟩
abbrev cX7_isWithin : ByteArray := prog_1_method_42_code
def yX7_isWithin : MethodName := ⟨RX7, "isWithin", "(III)Z"⟩
abbrev cX7_at : ByteArray := prog_1_method_43_code
def yX7_at : MethodName := ⟨RX7, "at", "([II)I"⟩
abbrev cX7_put : ByteArray := prog_1_method_44_code
def yX7_put : MethodName := ⟨RX7, "put", "([III)V"⟩
abbrev cX7_raise : ByteArray := prog_1_method_45_code
def yX7_raise : MethodName := ⟨RX7, "raise", "([III)V"⟩
abbrev cX7_inside : ByteArray := prog_1_method_46_code
def yX7_inside : MethodName := ⟨RX7, "inside", "(II)I"⟩
abbrev cX7_swapped : ByteArray := prog_1_method_47_code
def yX7_swapped : MethodName := ⟨RX7, "swapped", "(III)I"⟩
abbrev cX7_trialOf : ByteArray := prog_1_method_48_code
def yX7_trialOf : MethodName := ⟨RX7, "trialOf", "(II)I"⟩
abbrev cX7_parcelOf : ByteArray := prog_1_method_49_code
def yX7_parcelOf : MethodName := ⟨RX7, "parcelOf", "(I)I"⟩
abbrev cX7_sortOf : ByteArray := prog_1_method_50_code
def yX7_sortOf : MethodName := ⟨RX7, "sortOf", "(I)I"⟩
abbrev cX7_inLowestTerms : ByteArray := prog_1_method_51_code
def yX7_inLowestTerms : MethodName := ⟨RX7, "inLowestTerms", "(JJI)J"⟩
def RX8 : String := "ShakenParcelsModel"
def TX8 : u_T := fun k => match k with
  | 0 => ("ShakenParcelsModel", "length", "I", false)
  | 1 => ("ShakenParcelsModel", "text", "[I", true)
  | 2 => ("ShakenParcelsModel", "things", "[I", true)
  | 3 => ("ShakenParcelsModel", "weights", "[I", true)
  | 4 => ("ShakenParcelsModel", "kinds", "[I", true)
  | 5 => ("ShakenParcelsModel", "values", "[I", true)
  | 6 => ("ShakenParcelsModel", "chances", "[I", true)
  | 7 => ("ShakenParcelsModel", "parcels", "[I", true)
  | 8 => ("ShakenParcelsModel", "boxes", "[I", true)
  | 9 => ("ShakenParcelsModel", "childOf", "[I", true)
  | 10 => ("ShakenParcelsModel", "sizes", "[I", true)
  | 11 => ("ShakenParcelsModel", "scale", "[I", true)
  | 12 => ("ShakenParcelsModel", "apart", "[I", true)
  | 13 => ("ShakenParcelsModel", "noticed", "[I", true)
  | 14 => ("ShakenParcelsModel", "takes", "[I", true)
  | 15 => ("ShakenParcelsModel", "toldIn", "[I", true)
  | 16 => ("ShakenParcelsModel", "worlds", "[I", true)
  | 17 => ("ShakenParcelsModel", "worldMany", "I", false)
  | 18 => ("ShakenParcelsModel", "now", "[I", true)
  | 19 => ("ShakenParcelsModel", "before", "[I", true)
  | 20 => ("ShakenParcelsModel", "undoMany", "I", false)
  | 21 => ("ShakenParcelsModel", "kept", "[I", true)
  | 22 => ("ShakenParcelsModel", "keptMany", "I", false)
  | 23 => ("ShakenParcelsModel", "spot", "I", false)
  | 24 => ("ShakenParcelsModel", "told", "[I", true)
  | 25 => ("ShakenParcelsModel", "partly", "[I", true)
  | 26 => ("ShakenParcelsModel", "may", "[Z", true)
  | 27 => ("ShakenParcelsModel", "bySet", "[J", true)
  | 28 => ("ShakenParcelsModel", "byAnswer", "[I", true)
  | 29 => ("ShakenParcelsModel", "fewest", "I", false)
  | 30 => ("ShakenParcelsModel", "twoIn", "[I", true)
  | 31 => ("ShakenParcelsModel", "known", "[Z", true)
  | _ => ("ShakenParcelsModel", "took", "I", false)
def tyX8 : Nat → FieldType := fun k => match k with
  | 0 => .int
  | 1 => .array .int
  | 2 => .array .int
  | 3 => .array .int
  | 4 => .array .int
  | 5 => .array .int
  | 6 => .array .int
  | 7 => .array .int
  | 8 => .array .int
  | 9 => .array .int
  | 10 => .array .int
  | 11 => .array .int
  | 12 => .array .int
  | 13 => .array .int
  | 14 => .array .int
  | 15 => .array .int
  | 16 => .array .int
  | 17 => .int
  | 18 => .array .int
  | 19 => .array .int
  | 20 => .int
  | 21 => .array .int
  | 22 => .int
  | 23 => .int
  | 24 => .array .int
  | 25 => .array .int
  | 26 => .array .boolean
  | 27 => .array .long
  | 28 => .array .int
  | 29 => .int
  | 30 => .array .int
  | 31 => .array .boolean
  | _ => .int
abbrev wsX80 : List Cond := u_ws RX8 TX8 33
theorem nmX8 : ∀ a, a < 33 → ∀ b, b < 33 → a ≠ b → (TX8 a).2.1 ≠ (TX8 b).2.1 := by decide +kernel
theorem tyX8_ok : ∀ k, k < 33 → parseFieldDescriptor (TX8 k).2.2.1 = some (tyX8 k) := by decide +kernel
abbrev cX8_init : ByteArray := prog_10_method_1_code
def yX8_init : MethodName := ⟨RX8, "<init>", "()V"⟩
abbrev cX8_in : ByteArray := prog_10_method_2_code
def yX8_in : MethodName := ⟨RX8, "in", "(JJJ)Z"⟩
abbrev cX8_has : ByteArray := prog_10_method_3_code
def yX8_has : MethodName := ⟨RX8, "has", "(II)Z"⟩
abbrev cX8_bits : ByteArray := prog_10_method_4_code
def yX8_bits : MethodName := ⟨RX8, "bits", "(I)I"⟩
abbrev cX8_noTree : ByteArray := prog_10_method_5_code
def yX8_noTree : MethodName := ⟨RX8, "noTree", "(I)V"⟩
abbrev cX8_addThing : ByteArray := prog_10_method_6_code
def yX8_addThing : MethodName := ⟨RX8, "addThing", "(IIIII)V"⟩
abbrev cX8_addParcel : ByteArray := prog_10_method_7_code
def yX8_addParcel : MethodName := ⟨RX8, "addParcel", "(IIII)V"⟩
abbrev cX8_write : ByteArray := prog_10_method_8_code
def yX8_write : MethodName := ⟨RX8, "write", "(I)I"⟩
abbrev cX8_wipe : ByteArray := prog_10_method_9_code
def yX8_wipe : MethodName := ⟨RX8, "wipe", "()I"⟩
abbrev cX8_letterAt : ByteArray := prog_10_method_10_code
def yX8_letterAt : MethodName := ⟨RX8, "letterAt", "(I)I"⟩
abbrev cX8_figures : ByteArray := prog_10_method_11_code
def yX8_figures : MethodName := ⟨RX8, "figures", "(I)Z"⟩
abbrev cX8_isThingTold : ByteArray := prog_10_method_12_code
def yX8_isThingTold : MethodName := ⟨RX8, "isThingTold", "()Z"⟩
abbrev cX8_item : ByteArray := prog_10_method_13_code
def yX8_item : MethodName := ⟨RX8, "item", "()Z"⟩
abbrev cX8_readAll : ByteArray := prog_10_method_14_code
def yX8_readAll : MethodName := ⟨RX8, "readAll", "()I"⟩
abbrev cX8_fault : ByteArray := prog_10_method_15_code
def yX8_fault : MethodName := ⟨RX8, "fault", "()I"⟩
abbrev cX8_gap : ByteArray := prog_10_method_16_code
def yX8_gap : MethodName := ⟨RX8, "gap", "(II)I"⟩
abbrev cX8_isFair : ByteArray := prog_10_method_17_code
def yX8_isFair : MethodName := ⟨RX8, "isFair", "(II)Z"⟩
abbrev cX8_codeOf : ByteArray := prog_10_method_18_code
def yX8_codeOf : MethodName := ⟨RX8, "codeOf", "(IIII)I"⟩
abbrev cX8_isTruth : ByteArray := prog_10_method_19_code
def yX8_isTruth : MethodName := ⟨RX8, "isTruth", "()Z"⟩
abbrev cX8_lay : ByteArray := prog_10_method_20_code
def yX8_lay : MethodName := ⟨RX8, "lay", "()I"⟩
abbrev cX8_layWorlds : ByteArray := prog_10_method_21_code
def yX8_layWorlds : MethodName := ⟨RX8, "layWorlds", "()V"⟩
abbrev cX8_begin : ByteArray := prog_10_method_22_code
def yX8_begin : MethodName := ⟨RX8, "begin", "()V"⟩
abbrev cX8_isThing : ByteArray := prog_10_method_23_code
def yX8_isThing : MethodName := ⟨RX8, "isThing", "(I)Z"⟩
abbrev cX8_isParcel : ByteArray := prog_10_method_24_code
def yX8_isParcel : MethodName := ⟨RX8, "isParcel", "(I)Z"⟩
abbrev cX8_thing : ByteArray := prog_10_method_25_code
def yX8_thing : MethodName := ⟨RX8, "thing", "(II)I"⟩
abbrev cX8_parcel : ByteArray := prog_10_method_26_code
def yX8_parcel : MethodName := ⟨RX8, "parcel", "(II)I"⟩
abbrev cX8_setIn : ByteArray := prog_10_method_27_code
def yX8_setIn : MethodName := ⟨RX8, "setIn", "(II)I"⟩
abbrev cX8_world : ByteArray := prog_10_method_28_code
def yX8_world : MethodName := ⟨RX8, "world", "(II)I"⟩
abbrev cX8_weightOf : ByteArray := prog_10_method_29_code
def yX8_weightOf : MethodName := ⟨RX8, "weightOf", "(II)I"⟩
abbrev cX8_manyOf : ByteArray := prog_10_method_30_code
def yX8_manyOf : MethodName := ⟨RX8, "manyOf", "(II)I"⟩
abbrev cX8_answerOf : ByteArray := prog_10_method_31_code
def yX8_answerOf : MethodName := ⟨RX8, "answerOf", "(IIII)I"⟩
abbrev cX8_answer : ByteArray := prog_10_method_32_code
def yX8_answer : MethodName := ⟨RX8, "answer", "(III)I"⟩
abbrev cX8_note : ByteArray := prog_10_method_33_code
def yX8_note : MethodName := ⟨RX8, "note", "()V"⟩
abbrev cX8_addAnswer : ByteArray := prog_10_method_34_code
def yX8_addAnswer : MethodName := ⟨RX8, "addAnswer", "(III)V"⟩
abbrev cX8_attempt : ByteArray := prog_10_method_35_code
def yX8_attempt : MethodName := ⟨RX8, "attempt", "(II)I"⟩
abbrev cX8_hear : ByteArray := prog_10_method_36_code
def yX8_hear : MethodName := ⟨RX8, "hear", "(III)I"⟩
abbrev cX8_truth : ByteArray := prog_10_method_37_code
def yX8_truth : MethodName := ⟨RX8, "truth", "()I"⟩
abbrev cX8_change : ByteArray := prog_10_method_38_code
def yX8_change : MethodName := ⟨RX8, "change", "(II)I"⟩
abbrev cX8_hide : ByteArray := prog_10_method_39_code
def yX8_hide : MethodName := ⟨RX8, "hide", "(II)I"⟩
abbrev cX8_undo : ByteArray := prog_10_method_40_code
def yX8_undo : MethodName := ⟨RX8, "undo", "()I"⟩
abbrev cX8_fits : ByteArray := prog_10_method_41_code
def yX8_fits : MethodName := ⟨RX8, "fits", "(II)Z"⟩
abbrev cX8_layLeft : ByteArray := prog_10_method_42_code
def yX8_layLeft : MethodName := ⟨RX8, "layLeft", "(I)I"⟩
abbrev cX8_left : ByteArray := prog_10_method_43_code
def yX8_left : MethodName := ⟨RX8, "left", "()I"⟩
abbrev cX8_weighs : ByteArray := prog_10_method_44_code
def yX8_weighs : MethodName := ⟨RX8, "weighs", "(I)J"⟩
abbrev cX8_common : ByteArray := prog_10_method_45_code
def yX8_common : MethodName := ⟨RX8, "common", "(JJ)J"⟩
abbrev cX8_likely : ByteArray := prog_10_method_46_code
def yX8_likely : MethodName := ⟨RX8, "likely", "(III)J"⟩
abbrev cX8_sure : ByteArray := prog_10_method_47_code
def yX8_sure : MethodName := ⟨RX8, "sure", "(IZ)I"⟩
abbrev cX8_judge : ByteArray := prog_10_method_48_code
def yX8_judge : MethodName := ⟨RX8, "judge", "()I"⟩
abbrev cX8_guess : ByteArray := prog_10_method_49_code
def yX8_guess : MethodName := ⟨RX8, "guess", "(II)J"⟩
abbrev cX8_worstOf : ByteArray := prog_10_method_50_code
def yX8_worstOf : MethodName := ⟨RX8, "worstOf", "(II)I"⟩
abbrev cX8_bestTrial : ByteArray := prog_10_method_51_code
def yX8_bestTrial : MethodName := ⟨RX8, "bestTrial", "()I"⟩
abbrev cX8_next : ByteArray := prog_10_method_52_code
def yX8_next : MethodName := ⟨RX8, "next", "(I)I"⟩
abbrev cX8_meet : ByteArray := prog_10_method_53_code
def yX8_meet : MethodName := ⟨RX8, "meet", "(II)V"⟩
abbrev cX8_layTwo : ByteArray := prog_10_method_54_code
def yX8_layTwo : MethodName := ⟨RX8, "layTwo", "(III)V"⟩
abbrev cX8_isKnown : ByteArray := prog_10_method_55_code
def yX8_isKnown : MethodName := ⟨RX8, "isKnown", "(I)Z"⟩
abbrev cX8_isEnough : ByteArray := prog_10_method_56_code
def yX8_isEnough : MethodName := ⟨RX8, "isEnough", "(II)Z"⟩
abbrev cX8_few : ByteArray := prog_10_method_57_code
def yX8_few : MethodName := ⟨RX8, "few", "(I)I"⟩
abbrev cX8_solve : ByteArray := prog_10_method_58_code
def yX8_solve : MethodName := ⟨RX8, "solve", "(I)I"⟩
abbrev cX8_solved : ByteArray := prog_10_method_59_code
def yX8_solved : MethodName := ⟨RX8, "solved", "(I)I"⟩
abbrev cX8_risk : ByteArray := prog_10_method_60_code
def yX8_risk : MethodName := ⟨RX8, "risk", "(I)J"⟩
abbrev cX8_seconds : ByteArray := prog_10_method_61_code
def yX8_seconds : MethodName := ⟨RX8, "seconds", "()I"⟩
abbrev cX8_misled : ByteArray := prog_10_method_62_code
def yX8_misled : MethodName := ⟨RX8, "misled", "(II)I"⟩
abbrev cX8_more : ByteArray := prog_10_method_63_code
def yX8_more : MethodName := ⟨RX8, "more", "(I)I"⟩
abbrev cX8_heavier : ByteArray := prog_10_method_64_code
def yX8_heavier : MethodName := ⟨RX8, "heavier", "(II)I"⟩
abbrev cX8_morning : ByteArray := prog_10_method_65_code
def yX8_morning : MethodName := ⟨RX8, "morning", "(II)I"⟩
abbrev cX8_keep : ByteArray := prog_10_method_66_code
def yX8_keep : MethodName := ⟨RX8, "keep", "()I"⟩
abbrev cX8_back : ByteArray := prog_10_method_67_code
def yX8_back : MethodName := ⟨RX8, "back", "()I"⟩
abbrev cX8_count : ByteArray := prog_10_method_68_code
def yX8_count : MethodName := ⟨RX8, "count", "(I)I"⟩
def RJx145de : String := "java/io/Serializable"
def TJx145de : u_T := fun k => match k with
  | _ => ("", "", "", false)
def tyJx145de : Nat → FieldType := fun k => match k with
  | _ => .int
abbrev wsJx145de0 : List Cond := u_ws RJx145de TJx145de 0
theorem nmJx145de : ∀ a, a < 0 → ∀ b, b < 0 → a ≠ b → (TJx145de a).2.1 ≠ (TJx145de b).2.1 := by decide +kernel
theorem tyJx145de_ok : ∀ k, k < 0 → parseFieldDescriptor (TJx145de k).2.2.1 = some (tyJx145de k) := by decide +kernel
def RJx9f9b0 : String := "java/lang/CharSequence"
def TJx9f9b0 : u_T := fun k => match k with
  | _ => ("", "", "", false)
def tyJx9f9b0 : Nat → FieldType := fun k => match k with
  | _ => .int
abbrev wsJx9f9b00 : List Cond := u_ws RJx9f9b0 TJx9f9b0 0
theorem nmJx9f9b0 : ∀ a, a < 0 → ∀ b, b < 0 → a ≠ b → (TJx9f9b0 a).2.1 ≠ (TJx9f9b0 b).2.1 := by decide +kernel
theorem tyJx9f9b0_ok : ∀ k, k < 0 → parseFieldDescriptor (TJx9f9b0 k).2.2.1 = some (tyJx9f9b0 k) := by decide +kernel
def RJxb160c : String := "java/lang/Comparable"
def TJxb160c : u_T := fun k => match k with
  | _ => ("", "", "", false)
def tyJxb160c : Nat → FieldType := fun k => match k with
  | _ => .int
abbrev wsJxb160c0 : List Cond := u_ws RJxb160c TJxb160c 0
theorem nmJxb160c : ∀ a, a < 0 → ∀ b, b < 0 → a ≠ b → (TJxb160c a).2.1 ≠ (TJxb160c b).2.1 := by decide +kernel
theorem tyJxb160c_ok : ∀ k, k < 0 → parseFieldDescriptor (TJxb160c k).2.2.1 = some (tyJxb160c k) := by decide +kernel
def RJ6 : String := "java/lang/Integer"
def TJ6 : u_T := fun k => match k with
  | _ => ("", "", "", false)
def tyJ6 : Nat → FieldType := fun k => match k with
  | _ => .int
abbrev wsJ60 : List Cond := u_ws RJ6 TJ6 0
theorem nmJ6 : ∀ a, a < 0 → ∀ b, b < 0 → a ≠ b → (TJ6 a).2.1 ≠ (TJ6 b).2.1 := by decide +kernel
theorem tyJ6_ok : ∀ k, k < 0 → parseFieldDescriptor (TJ6 k).2.2.1 = some (tyJ6 k) := by decide +kernel
abbrev cJ6_compare_7cf53 : ByteArray := prog_11_method_40_code
def yJ6_compare_7cf53 : MethodName := ⟨RJ6, "compare", "(II)I"⟩
abbrev cJ6_bitCount_0f7a4 : ByteArray := prog_11_method_49_code
def yJ6_bitCount_0f7a4 : MethodName := ⟨RJ6, "bitCount", "(I)I"⟩
def RJ9 : String := "java/lang/Math"
def TJ9 : u_T := fun k => match k with
  | _ => ("", "", "", false)
def tyJ9 : Nat → FieldType := fun k => match k with
  | _ => .int
abbrev wsJ90 : List Cond := u_ws RJ9 TJ9 0
theorem nmJ9 : ∀ a, a < 0 → ∀ b, b < 0 → a ≠ b → (TJ9 a).2.1 ≠ (TJ9 b).2.1 := by decide +kernel
theorem tyJ9_ok : ∀ k, k < 0 → parseFieldDescriptor (TJ9 k).2.2.1 = some (tyJ9 k) := by decide +kernel
abbrev cJ9_abs_0f7a4 : ByteArray := prog_12_method_59_code
def yJ9_abs_0f7a4 : MethodName := ⟨RJ9, "abs", "(I)I"⟩
abbrev cJ9_max_7cf53 : ByteArray := prog_12_method_65_code
def yJ9_max_7cf53 : MethodName := ⟨RJ9, "max", "(II)I"⟩
abbrev cJ9_min_7cf53 : ByteArray := prog_12_method_69_code
def yJ9_min_7cf53 : MethodName := ⟨RJ9, "min", "(II)I"⟩
def RJ0 : String := "java/lang/String"
def TJ0 : u_T := fun k => match k with
  | _ => ("", "", "", false)
def tyJ0 : Nat → FieldType := fun k => match k with
  | _ => .int
abbrev wsJ00 : List Cond := u_ws RJ0 TJ0 0
theorem nmJ0 : ∀ a, a < 0 → ∀ b, b < 0 → a ≠ b → (TJ0 a).2.1 ≠ (TJ0 b).2.1 := by decide +kernel
theorem tyJ0_ok : ∀ k, k < 0 → parseFieldDescriptor (TJ0 k).2.2.1 = some (tyJ0 k) := by decide +kernel
abbrev cJ0_length_8abf5 : ByteArray := prog_13_method_54_code
def yJ0_length_8abf5 : MethodName := ⟨RJ0, "length", "()I"⟩
abbrev cJ0_charAt_5068e : ByteArray := prog_13_method_56_code
def yJ0_charAt_5068e : MethodName := ⟨RJ0, "charAt", "(I)C"⟩
abbrev cJ0_coder_7d493 : ByteArray := prog_13_method_152_code
def yJ0_coder_7d493 : MethodName := ⟨RJ0, "coder", "()B"⟩
abbrev cJ0_isLatin1_aae02 : ByteArray := prog_13_method_154_code
def yJ0_isLatin1_aae02 : MethodName := ⟨RJ0, "isLatin1", "()Z"⟩
abbrev cJ0_checkIndex_df160 : ByteArray := prog_13_method_155_code
def yJ0_checkIndex_df160 : MethodName := ⟨RJ0, "checkIndex", "(II)V"⟩
def RJ1 : String := "java/lang/StringLatin1"
def TJ1 : u_T := fun k => match k with
  | _ => ("", "", "", false)
def tyJ1 : Nat → FieldType := fun k => match k with
  | _ => .int
abbrev wsJ10 : List Cond := u_ws RJ1 TJ1 0
theorem nmJ1 : ∀ a, a < 0 → ∀ b, b < 0 → a ≠ b → (TJ1 a).2.1 ≠ (TJ1 b).2.1 := by decide +kernel
theorem tyJ1_ok : ∀ k, k < 0 → parseFieldDescriptor (TJ1 k).2.2.1 = some (tyJ1 k) := by decide +kernel
abbrev cJ1_charAt_3b067 : ByteArray := prog_14_method_2_code
def yJ1_charAt_3b067 : MethodName := ⟨RJ1, "charAt", "([BI)C"⟩
def RJ2 : String := "java/lang/StringUTF16"
def TJ2 : u_T := fun k => match k with
  | _ => ("", "", "", false)
def tyJ2 : Nat → FieldType := fun k => match k with
  | _ => .int
abbrev wsJ20 : List Cond := u_ws RJ2 TJ2 0
theorem nmJ2 : ∀ a, a < 0 → ∀ b, b < 0 → a ≠ b → (TJ2 a).2.1 ≠ (TJ2 b).2.1 := by decide +kernel
theorem tyJ2_ok : ∀ k, k < 0 → parseFieldDescriptor (TJ2 k).2.2.1 = some (tyJ2 k) := by decide +kernel
abbrev cJ2_getChar_3b067 : ByteArray := prog_15_method_5_code
def yJ2_getChar_3b067 : MethodName := ⟨RJ2, "getChar", "([BI)C"⟩
abbrev cJ2_length_9d52b : ByteArray := prog_15_method_6_code
def yJ2_length_9d52b : MethodName := ⟨RJ2, "length", "([B)I"⟩
abbrev cJ2_charAt_3b067 : ByteArray := prog_15_method_83_code
def yJ2_charAt_3b067 : MethodName := ⟨RJ2, "charAt", "([BI)C"⟩
abbrev cJ2_checkIndex_2214a : ByteArray := prog_15_method_91_code
def yJ2_checkIndex_2214a : MethodName := ⟨RJ2, "checkIndex", "(I[B)V"⟩
def RJ10 : String := "java/lang/System"
def TJ10 : u_T := fun k => match k with
  | _ => ("", "", "", false)
def tyJ10 : Nat → FieldType := fun k => match k with
  | _ => .int
abbrev wsJ100 : List Cond := u_ws RJ10 TJ10 0
theorem nmJ10 : ∀ a, a < 0 → ∀ b, b < 0 → a ≠ b → (TJ10 a).2.1 ≠ (TJ10 b).2.1 := by decide +kernel
theorem tyJ10_ok : ∀ k, k < 0 → parseFieldDescriptor (TJ10 k).2.2.1 = some (tyJ10 k) := by decide +kernel
def RJxfd54e : String := "java/lang/constant/Constable"
def TJxfd54e : u_T := fun k => match k with
  | _ => ("", "", "", false)
def tyJxfd54e : Nat → FieldType := fun k => match k with
  | _ => .int
abbrev wsJxfd54e0 : List Cond := u_ws RJxfd54e TJxfd54e 0
theorem nmJxfd54e : ∀ a, a < 0 → ∀ b, b < 0 → a ≠ b → (TJxfd54e a).2.1 ≠ (TJxfd54e b).2.1 := by decide +kernel
theorem tyJxfd54e_ok : ∀ k, k < 0 → parseFieldDescriptor (TJxfd54e k).2.2.1 = some (tyJxfd54e k) := by decide +kernel
def RJx3cf43 : String := "java/lang/constant/ConstantDesc"
def TJx3cf43 : u_T := fun k => match k with
  | _ => ("", "", "", false)
def tyJx3cf43 : Nat → FieldType := fun k => match k with
  | _ => .int
abbrev wsJx3cf430 : List Cond := u_ws RJx3cf43 TJx3cf43 0
theorem nmJx3cf43 : ∀ a, a < 0 → ∀ b, b < 0 → a ≠ b → (TJx3cf43 a).2.1 ≠ (TJx3cf43 b).2.1 := by decide +kernel
theorem tyJx3cf43_ok : ∀ k, k < 0 → parseFieldDescriptor (TJx3cf43 k).2.2.1 = some (tyJx3cf43 k) := by decide +kernel
def RJ7 : String := "java/util/Arrays"
def TJ7 : u_T := fun k => match k with
  | _ => ("", "", "", false)
def tyJ7 : Nat → FieldType := fun k => match k with
  | _ => .int
abbrev wsJ70 : List Cond := u_ws RJ7 TJ7 0
theorem nmJ7 : ∀ a, a < 0 → ∀ b, b < 0 → a ≠ b → (TJ7 a).2.1 ≠ (TJ7 b).2.1 := by decide +kernel
theorem tyJ7_ok : ∀ k, k < 0 → parseFieldDescriptor (TJ7 k).2.2.1 = some (tyJ7 k) := by decide +kernel
abbrev cJ7_fill_d0a16 : ByteArray := prog_17_method_101_code
def yJ7_fill_d0a16 : MethodName := ⟨RJ7, "fill", "([JJ)V"⟩
abbrev cJ7_fill_53178 : ByteArray := prog_17_method_103_code
def yJ7_fill_53178 : MethodName := ⟨RJ7, "fill", "([II)V"⟩
def RJ3 : String := "jdk/internal/util/Preconditions"
def TJ3 : u_T := fun k => match k with
  | _ => ("", "", "", false)
def tyJ3 : Nat → FieldType := fun k => match k with
  | _ => .int
abbrev wsJ30 : List Cond := u_ws RJ3 TJ3 0
theorem nmJ3 : ∀ a, a < 0 → ∀ b, b < 0 → a ≠ b → (TJ3 a).2.1 ≠ (TJ3 b).2.1 := by decide +kernel
theorem tyJ3_ok : ∀ k, k < 0 → parseFieldDescriptor (TJ3 k).2.2.1 = some (tyJ3 k) := by decide +kernel
abbrev cJ3_checkIndex_8e157 : ByteArray := prog_18_method_11_code
def yJ3_checkIndex_8e157 : MethodName := ⟨RJ3, "checkIndex", "(IILjava/util/function/BiFunction;)I"⟩
def RL : String := "ShakenParcelsLaw"
abbrev cL_law : ByteArray := code
def yL_law : MethodName := ⟨RL, "law", "([I)Z"⟩
end
section
theorem dJ0_length_8abf5_0 : decode cJ0_length_8abf5 0 = .ok (.aload_n 0, 1) := by decide +kernel
theorem dJ0_length_8abf5_1 : decode cJ0_length_8abf5 1 = .ok (.getfield 9, 3) := by decide +kernel
theorem dJ0_length_8abf5_4 : decode cJ0_length_8abf5 4 = .ok (.arraylength, 1) := by decide +kernel
theorem dJ0_length_8abf5_5 : decode cJ0_length_8abf5 5 = .ok (.aload_n 0, 1) := by decide +kernel
theorem dJ0_length_8abf5_6 : decode cJ0_length_8abf5 6 = .ok (.invokevirtual 335, 3) := by decide +kernel
theorem dJ0_length_8abf5_9 : decode cJ0_length_8abf5 9 = .ok (.ishr, 1) := by decide +kernel
theorem dJ0_length_8abf5_10 : decode cJ0_length_8abf5 10 = .ok (.ireturn, 1) := by decide +kernel
theorem dJ0_charAt_5068e_0 : decode cJ0_charAt_5068e 0 = .ok (.aload_n 0, 1) := by decide +kernel
theorem dJ0_charAt_5068e_1 : decode cJ0_charAt_5068e 1 = .ok (.invokevirtual 492, 3) := by decide +kernel
theorem dJ0_charAt_5068e_4 : decode cJ0_charAt_5068e 4 = .ok (.ifCond .eq 12, 3) := by decide +kernel
theorem dJ0_charAt_5068e_7 : decode cJ0_charAt_5068e 7 = .ok (.aload_n 0, 1) := by decide +kernel
theorem dJ0_charAt_5068e_8 : decode cJ0_charAt_5068e 8 = .ok (.getfield 9, 3) := by decide +kernel
theorem dJ0_charAt_5068e_11 : decode cJ0_charAt_5068e 11 = .ok (.iload_n 1, 1) := by decide +kernel
theorem dJ0_charAt_5068e_12 : decode cJ0_charAt_5068e 12 = .ok (.invokestatic 495, 3) := by decide +kernel
theorem dJ0_charAt_5068e_15 : decode cJ0_charAt_5068e 15 = .ok (.ireturn, 1) := by decide +kernel
theorem dJ0_charAt_5068e_16 : decode cJ0_charAt_5068e 16 = .ok (.aload_n 0, 1) := by decide +kernel
theorem dJ0_charAt_5068e_17 : decode cJ0_charAt_5068e 17 = .ok (.getfield 9, 3) := by decide +kernel
theorem dJ0_charAt_5068e_20 : decode cJ0_charAt_5068e 20 = .ok (.iload_n 1, 1) := by decide +kernel
theorem dJ0_charAt_5068e_21 : decode cJ0_charAt_5068e 21 = .ok (.invokestatic 498, 3) := by decide +kernel
theorem dJ0_charAt_5068e_24 : decode cJ0_charAt_5068e 24 = .ok (.ireturn, 1) := by decide +kernel
theorem dJ0_coder_7d493_0 : decode cJ0_coder_7d493 0 = .ok (.getstatic 38, 3) := by decide +kernel
theorem dJ0_coder_7d493_3 : decode cJ0_coder_7d493 3 = .ok (.ifCond .eq 10, 3) := by decide +kernel
theorem dJ0_coder_7d493_6 : decode cJ0_coder_7d493 6 = .ok (.aload_n 0, 1) := by decide +kernel
theorem dJ0_coder_7d493_7 : decode cJ0_coder_7d493 7 = .ok (.getfield 15, 3) := by decide +kernel
theorem dJ0_coder_7d493_10 : decode cJ0_coder_7d493 10 = .ok (.goto 4, 3) := by decide +kernel
theorem dJ0_coder_7d493_13 : decode cJ0_coder_7d493 13 = .ok (.iconst 1, 1) := by decide +kernel
theorem dJ0_coder_7d493_14 : decode cJ0_coder_7d493 14 = .ok (.ireturn, 1) := by decide +kernel
theorem dJ0_isLatin1_aae02_0 : decode cJ0_isLatin1_aae02 0 = .ok (.getstatic 38, 3) := by decide +kernel
theorem dJ0_isLatin1_aae02_3 : decode cJ0_isLatin1_aae02 3 = .ok (.ifCond .eq 14, 3) := by decide +kernel
theorem dJ0_isLatin1_aae02_6 : decode cJ0_isLatin1_aae02 6 = .ok (.aload_n 0, 1) := by decide +kernel
theorem dJ0_isLatin1_aae02_7 : decode cJ0_isLatin1_aae02 7 = .ok (.getfield 15, 3) := by decide +kernel
theorem dJ0_isLatin1_aae02_10 : decode cJ0_isLatin1_aae02 10 = .ok (.ifCond .ne 7, 3) := by decide +kernel
theorem dJ0_isLatin1_aae02_13 : decode cJ0_isLatin1_aae02 13 = .ok (.iconst 1, 1) := by decide +kernel
theorem dJ0_isLatin1_aae02_14 : decode cJ0_isLatin1_aae02 14 = .ok (.goto 4, 3) := by decide +kernel
theorem dJ0_isLatin1_aae02_17 : decode cJ0_isLatin1_aae02 17 = .ok (.iconst 0, 1) := by decide +kernel
theorem dJ0_isLatin1_aae02_18 : decode cJ0_isLatin1_aae02 18 = .ok (.ireturn, 1) := by decide +kernel
theorem dJ0_checkIndex_df160_0 : decode cJ0_checkIndex_df160 0 = .ok (.iload_n 0, 1) := by decide +kernel
theorem dJ0_checkIndex_df160_1 : decode cJ0_checkIndex_df160 1 = .ok (.iload_n 1, 1) := by decide +kernel
theorem dJ0_checkIndex_df160_2 : decode cJ0_checkIndex_df160 2 = .ok (.getstatic 1053, 3) := by decide +kernel
theorem dJ0_checkIndex_df160_5 : decode cJ0_checkIndex_df160 5 = .ok (.invokestatic 1059, 3) := by decide +kernel
theorem dJ0_checkIndex_df160_8 : decode cJ0_checkIndex_df160 8 = .ok (.pop, 1) := by decide +kernel
theorem dJ0_checkIndex_df160_9 : decode cJ0_checkIndex_df160 9 = .ok (.return_, 1) := by decide +kernel
theorem dJ1_charAt_3b067_0 : decode cJ1_charAt_3b067 0 = .ok (.iload_n 1, 1) := by decide +kernel
theorem dJ1_charAt_3b067_1 : decode cJ1_charAt_3b067 1 = .ok (.aload_n 0, 1) := by decide +kernel
theorem dJ1_charAt_3b067_2 : decode cJ1_charAt_3b067 2 = .ok (.arraylength, 1) := by decide +kernel
theorem dJ1_charAt_3b067_3 : decode cJ1_charAt_3b067 3 = .ok (.invokestatic 9, 3) := by decide +kernel
theorem dJ1_charAt_3b067_6 : decode cJ1_charAt_3b067 6 = .ok (.aload_n 0, 1) := by decide +kernel
theorem dJ1_charAt_3b067_7 : decode cJ1_charAt_3b067 7 = .ok (.iload_n 1, 1) := by decide +kernel
theorem dJ1_charAt_3b067_8 : decode cJ1_charAt_3b067 8 = .ok (.baload, 1) := by decide +kernel
theorem dJ1_charAt_3b067_9 : decode cJ1_charAt_3b067 9 = .ok (.sipush 255, 3) := by decide +kernel
theorem dJ1_charAt_3b067_12 : decode cJ1_charAt_3b067 12 = .ok (.iand, 1) := by decide +kernel
theorem dJ1_charAt_3b067_13 : decode cJ1_charAt_3b067 13 = .ok (.i2c, 1) := by decide +kernel
theorem dJ1_charAt_3b067_14 : decode cJ1_charAt_3b067 14 = .ok (.ireturn, 1) := by decide +kernel
theorem dJ2_getChar_3b067_0 : decode cJ2_getChar_3b067 0 = .ok (.getstatic 44, 3) := by decide +kernel
theorem dJ2_getChar_3b067_3 : decode cJ2_getChar_3b067 3 = .ok (.ifCond .ne 25, 3) := by decide +kernel
theorem dJ2_getChar_3b067_6 : decode cJ2_getChar_3b067 6 = .ok (.iload_n 1, 1) := by decide +kernel
theorem dJ2_getChar_3b067_7 : decode cJ2_getChar_3b067 7 = .ok (.ifCond .lt 11, 3) := by decide +kernel
theorem dJ2_getChar_3b067_10 : decode cJ2_getChar_3b067 10 = .ok (.iload_n 1, 1) := by decide +kernel
theorem dJ2_getChar_3b067_11 : decode cJ2_getChar_3b067 11 = .ok (.aload_n 0, 1) := by decide +kernel
theorem dJ2_getChar_3b067_12 : decode cJ2_getChar_3b067 12 = .ok (.invokestatic 48, 3) := by decide +kernel
theorem dJ2_getChar_3b067_15 : decode cJ2_getChar_3b067 15 = .ok (.if_icmp .lt 13, 3) := by decide +kernel
theorem dJ2_getChar_3b067_18 : decode cJ2_getChar_3b067 18 = .ok (.new 52, 3) := by decide +kernel
theorem dJ2_getChar_3b067_21 : decode cJ2_getChar_3b067 21 = .ok (.dup, 1) := by decide +kernel
theorem dJ2_getChar_3b067_22 : decode cJ2_getChar_3b067 22 = .ok (.ldc 54, 2) := by decide +kernel
theorem dJ2_getChar_3b067_24 : decode cJ2_getChar_3b067 24 = .ok (.invokespecial 56, 3) := by decide +kernel
theorem dJ2_getChar_3b067_27 : decode cJ2_getChar_3b067 27 = .ok (.athrow, 1) := by decide +kernel
theorem dJ2_getChar_3b067_28 : decode cJ2_getChar_3b067 28 = .ok (.iload_n 1, 1) := by decide +kernel
theorem dJ2_getChar_3b067_29 : decode cJ2_getChar_3b067 29 = .ok (.iconst 1, 1) := by decide +kernel
theorem dJ2_getChar_3b067_30 : decode cJ2_getChar_3b067 30 = .ok (.ishl, 1) := by decide +kernel
theorem dJ2_getChar_3b067_31 : decode cJ2_getChar_3b067 31 = .ok (.istore_n 1, 1) := by decide +kernel
theorem dJ2_getChar_3b067_32 : decode cJ2_getChar_3b067 32 = .ok (.aload_n 0, 1) := by decide +kernel
theorem dJ2_getChar_3b067_33 : decode cJ2_getChar_3b067 33 = .ok (.iload_n 1, 1) := by decide +kernel
theorem dJ2_getChar_3b067_34 : decode cJ2_getChar_3b067 34 = .ok (.iinc 1 1, 3) := by decide +kernel
theorem dJ2_getChar_3b067_37 : decode cJ2_getChar_3b067 37 = .ok (.baload, 1) := by decide +kernel
theorem dJ2_getChar_3b067_38 : decode cJ2_getChar_3b067 38 = .ok (.sipush 255, 3) := by decide +kernel
theorem dJ2_getChar_3b067_41 : decode cJ2_getChar_3b067 41 = .ok (.iand, 1) := by decide +kernel
theorem dJ2_getChar_3b067_42 : decode cJ2_getChar_3b067 42 = .ok (.getstatic 59, 3) := by decide +kernel
theorem dJ2_getChar_3b067_45 : decode cJ2_getChar_3b067 45 = .ok (.ishl, 1) := by decide +kernel
theorem dJ2_getChar_3b067_46 : decode cJ2_getChar_3b067 46 = .ok (.aload_n 0, 1) := by decide +kernel
theorem dJ2_getChar_3b067_47 : decode cJ2_getChar_3b067 47 = .ok (.iload_n 1, 1) := by decide +kernel
theorem dJ2_getChar_3b067_48 : decode cJ2_getChar_3b067 48 = .ok (.baload, 1) := by decide +kernel
theorem dJ2_getChar_3b067_49 : decode cJ2_getChar_3b067 49 = .ok (.sipush 255, 3) := by decide +kernel
theorem dJ2_getChar_3b067_52 : decode cJ2_getChar_3b067 52 = .ok (.iand, 1) := by decide +kernel
theorem dJ2_getChar_3b067_53 : decode cJ2_getChar_3b067 53 = .ok (.getstatic 63, 3) := by decide +kernel
theorem dJ2_getChar_3b067_56 : decode cJ2_getChar_3b067 56 = .ok (.ishl, 1) := by decide +kernel
theorem dJ2_getChar_3b067_57 : decode cJ2_getChar_3b067 57 = .ok (.ior, 1) := by decide +kernel
theorem dJ2_getChar_3b067_58 : decode cJ2_getChar_3b067 58 = .ok (.i2c, 1) := by decide +kernel
theorem dJ2_getChar_3b067_59 : decode cJ2_getChar_3b067 59 = .ok (.ireturn, 1) := by decide +kernel
theorem dJ2_length_9d52b_0 : decode cJ2_length_9d52b 0 = .ok (.aload_n 0, 1) := by decide +kernel
theorem dJ2_length_9d52b_1 : decode cJ2_length_9d52b 1 = .ok (.arraylength, 1) := by decide +kernel
theorem dJ2_length_9d52b_2 : decode cJ2_length_9d52b 2 = .ok (.iconst 1, 1) := by decide +kernel
theorem dJ2_length_9d52b_3 : decode cJ2_length_9d52b 3 = .ok (.ishr, 1) := by decide +kernel
theorem dJ2_length_9d52b_4 : decode cJ2_length_9d52b 4 = .ok (.ireturn, 1) := by decide +kernel
theorem dJ2_charAt_3b067_0 : decode cJ2_charAt_3b067 0 = .ok (.iload_n 1, 1) := by decide +kernel
theorem dJ2_charAt_3b067_1 : decode cJ2_charAt_3b067 1 = .ok (.aload_n 0, 1) := by decide +kernel
theorem dJ2_charAt_3b067_2 : decode cJ2_charAt_3b067 2 = .ok (.invokestatic 67, 3) := by decide +kernel
theorem dJ2_charAt_3b067_5 : decode cJ2_charAt_3b067 5 = .ok (.aload_n 0, 1) := by decide +kernel
theorem dJ2_charAt_3b067_6 : decode cJ2_charAt_3b067 6 = .ok (.iload_n 1, 1) := by decide +kernel
theorem dJ2_charAt_3b067_7 : decode cJ2_charAt_3b067 7 = .ok (.invokestatic 71, 3) := by decide +kernel
theorem dJ2_charAt_3b067_10 : decode cJ2_charAt_3b067 10 = .ok (.ireturn, 1) := by decide +kernel
theorem dJ2_checkIndex_2214a_0 : decode cJ2_checkIndex_2214a 0 = .ok (.iload_n 0, 1) := by decide +kernel
theorem dJ2_checkIndex_2214a_1 : decode cJ2_checkIndex_2214a 1 = .ok (.aload_n 1, 1) := by decide +kernel
theorem dJ2_checkIndex_2214a_2 : decode cJ2_checkIndex_2214a 2 = .ok (.invokestatic 48, 3) := by decide +kernel
theorem dJ2_checkIndex_2214a_5 : decode cJ2_checkIndex_2214a 5 = .ok (.invokestatic 414, 3) := by decide +kernel
theorem dJ2_checkIndex_2214a_8 : decode cJ2_checkIndex_2214a 8 = .ok (.return_, 1) := by decide +kernel
theorem dJ3_checkIndex_8e157_0 : decode cJ3_checkIndex_8e157 0 = .ok (.iload_n 0, 1) := by decide +kernel
theorem dJ3_checkIndex_8e157_1 : decode cJ3_checkIndex_8e157 1 = .ok (.ifCond .lt 8, 3) := by decide +kernel
theorem dJ3_checkIndex_8e157_4 : decode cJ3_checkIndex_8e157 4 = .ok (.iload_n 0, 1) := by decide +kernel
theorem dJ3_checkIndex_8e157_5 : decode cJ3_checkIndex_8e157 5 = .ok (.iload_n 1, 1) := by decide +kernel
theorem dJ3_checkIndex_8e157_6 : decode cJ3_checkIndex_8e157 6 = .ok (.if_icmp .lt 10, 3) := by decide +kernel
theorem dJ3_checkIndex_8e157_9 : decode cJ3_checkIndex_8e157 9 = .ok (.aload_n 2, 1) := by decide +kernel
theorem dJ3_checkIndex_8e157_10 : decode cJ3_checkIndex_8e157 10 = .ok (.iload_n 0, 1) := by decide +kernel
theorem dJ3_checkIndex_8e157_11 : decode cJ3_checkIndex_8e157 11 = .ok (.iload_n 1, 1) := by decide +kernel
theorem dJ3_checkIndex_8e157_12 : decode cJ3_checkIndex_8e157 12 = .ok (.invokestatic 95, 3) := by decide +kernel
theorem dJ3_checkIndex_8e157_15 : decode cJ3_checkIndex_8e157 15 = .ok (.athrow, 1) := by decide +kernel
theorem dJ3_checkIndex_8e157_16 : decode cJ3_checkIndex_8e157 16 = .ok (.iload_n 0, 1) := by decide +kernel
theorem dJ3_checkIndex_8e157_17 : decode cJ3_checkIndex_8e157 17 = .ok (.ireturn, 1) := by decide +kernel
theorem dJ6_compare_7cf53_0 : decode cJ6_compare_7cf53 0 = .ok (.iload_n 0, 1) := by decide +kernel
theorem dJ6_compare_7cf53_1 : decode cJ6_compare_7cf53 1 = .ok (.iload_n 1, 1) := by decide +kernel
theorem dJ6_compare_7cf53_2 : decode cJ6_compare_7cf53 2 = .ok (.if_icmp .ge 7, 3) := by decide +kernel
theorem dJ6_compare_7cf53_5 : decode cJ6_compare_7cf53 5 = .ok (.iconst (-1), 1) := by decide +kernel
theorem dJ6_compare_7cf53_6 : decode cJ6_compare_7cf53 6 = .ok (.goto 13, 3) := by decide +kernel
theorem dJ6_compare_7cf53_9 : decode cJ6_compare_7cf53 9 = .ok (.iload_n 0, 1) := by decide +kernel
theorem dJ6_compare_7cf53_10 : decode cJ6_compare_7cf53 10 = .ok (.iload_n 1, 1) := by decide +kernel
theorem dJ6_compare_7cf53_11 : decode cJ6_compare_7cf53 11 = .ok (.if_icmp .ne 7, 3) := by decide +kernel
theorem dJ6_compare_7cf53_14 : decode cJ6_compare_7cf53 14 = .ok (.iconst 0, 1) := by decide +kernel
theorem dJ6_compare_7cf53_15 : decode cJ6_compare_7cf53 15 = .ok (.goto 4, 3) := by decide +kernel
theorem dJ6_compare_7cf53_18 : decode cJ6_compare_7cf53 18 = .ok (.iconst 1, 1) := by decide +kernel
theorem dJ6_compare_7cf53_19 : decode cJ6_compare_7cf53 19 = .ok (.ireturn, 1) := by decide +kernel
theorem dJ6_bitCount_0f7a4_0 : decode cJ6_bitCount_0f7a4 0 = .ok (.iload_n 0, 1) := by decide +kernel
theorem dJ6_bitCount_0f7a4_1 : decode cJ6_bitCount_0f7a4 1 = .ok (.iload_n 0, 1) := by decide +kernel
theorem dJ6_bitCount_0f7a4_2 : decode cJ6_bitCount_0f7a4 2 = .ok (.iconst 1, 1) := by decide +kernel
theorem dJ6_bitCount_0f7a4_3 : decode cJ6_bitCount_0f7a4 3 = .ok (.iushr, 1) := by decide +kernel
theorem dJ6_bitCount_0f7a4_4 : decode cJ6_bitCount_0f7a4 4 = .ok (.ldc_w 265, 3) := by decide +kernel
theorem dJ6_bitCount_0f7a4_7 : decode cJ6_bitCount_0f7a4 7 = .ok (.iand, 1) := by decide +kernel
theorem dJ6_bitCount_0f7a4_8 : decode cJ6_bitCount_0f7a4 8 = .ok (.isub, 1) := by decide +kernel
theorem dJ6_bitCount_0f7a4_9 : decode cJ6_bitCount_0f7a4 9 = .ok (.istore_n 0, 1) := by decide +kernel
theorem dJ6_bitCount_0f7a4_10 : decode cJ6_bitCount_0f7a4 10 = .ok (.iload_n 0, 1) := by decide +kernel
theorem dJ6_bitCount_0f7a4_11 : decode cJ6_bitCount_0f7a4 11 = .ok (.ldc_w 266, 3) := by decide +kernel
theorem dJ6_bitCount_0f7a4_14 : decode cJ6_bitCount_0f7a4 14 = .ok (.iand, 1) := by decide +kernel
theorem dJ6_bitCount_0f7a4_15 : decode cJ6_bitCount_0f7a4 15 = .ok (.iload_n 0, 1) := by decide +kernel
theorem dJ6_bitCount_0f7a4_16 : decode cJ6_bitCount_0f7a4 16 = .ok (.iconst 2, 1) := by decide +kernel
theorem dJ6_bitCount_0f7a4_17 : decode cJ6_bitCount_0f7a4 17 = .ok (.iushr, 1) := by decide +kernel
theorem dJ6_bitCount_0f7a4_18 : decode cJ6_bitCount_0f7a4 18 = .ok (.ldc_w 266, 3) := by decide +kernel
theorem dJ6_bitCount_0f7a4_21 : decode cJ6_bitCount_0f7a4 21 = .ok (.iand, 1) := by decide +kernel
theorem dJ6_bitCount_0f7a4_22 : decode cJ6_bitCount_0f7a4 22 = .ok (.iadd, 1) := by decide +kernel
theorem dJ6_bitCount_0f7a4_23 : decode cJ6_bitCount_0f7a4 23 = .ok (.istore_n 0, 1) := by decide +kernel
theorem dJ6_bitCount_0f7a4_24 : decode cJ6_bitCount_0f7a4 24 = .ok (.iload_n 0, 1) := by decide +kernel
theorem dJ6_bitCount_0f7a4_25 : decode cJ6_bitCount_0f7a4 25 = .ok (.iload_n 0, 1) := by decide +kernel
theorem dJ6_bitCount_0f7a4_26 : decode cJ6_bitCount_0f7a4 26 = .ok (.iconst 4, 1) := by decide +kernel
theorem dJ6_bitCount_0f7a4_27 : decode cJ6_bitCount_0f7a4 27 = .ok (.iushr, 1) := by decide +kernel
theorem dJ6_bitCount_0f7a4_28 : decode cJ6_bitCount_0f7a4 28 = .ok (.iadd, 1) := by decide +kernel
theorem dJ6_bitCount_0f7a4_29 : decode cJ6_bitCount_0f7a4 29 = .ok (.ldc_w 267, 3) := by decide +kernel
theorem dJ6_bitCount_0f7a4_32 : decode cJ6_bitCount_0f7a4 32 = .ok (.iand, 1) := by decide +kernel
theorem dJ6_bitCount_0f7a4_33 : decode cJ6_bitCount_0f7a4 33 = .ok (.istore_n 0, 1) := by decide +kernel
theorem dJ6_bitCount_0f7a4_34 : decode cJ6_bitCount_0f7a4 34 = .ok (.iload_n 0, 1) := by decide +kernel
theorem dJ6_bitCount_0f7a4_35 : decode cJ6_bitCount_0f7a4 35 = .ok (.iload_n 0, 1) := by decide +kernel
theorem dJ6_bitCount_0f7a4_36 : decode cJ6_bitCount_0f7a4 36 = .ok (.bipush 8, 2) := by decide +kernel
theorem dJ6_bitCount_0f7a4_38 : decode cJ6_bitCount_0f7a4 38 = .ok (.iushr, 1) := by decide +kernel
theorem dJ6_bitCount_0f7a4_39 : decode cJ6_bitCount_0f7a4 39 = .ok (.iadd, 1) := by decide +kernel
theorem dJ6_bitCount_0f7a4_40 : decode cJ6_bitCount_0f7a4 40 = .ok (.istore_n 0, 1) := by decide +kernel
theorem dJ6_bitCount_0f7a4_41 : decode cJ6_bitCount_0f7a4 41 = .ok (.iload_n 0, 1) := by decide +kernel
theorem dJ6_bitCount_0f7a4_42 : decode cJ6_bitCount_0f7a4 42 = .ok (.iload_n 0, 1) := by decide +kernel
theorem dJ6_bitCount_0f7a4_43 : decode cJ6_bitCount_0f7a4 43 = .ok (.bipush 16, 2) := by decide +kernel
theorem dJ6_bitCount_0f7a4_45 : decode cJ6_bitCount_0f7a4 45 = .ok (.iushr, 1) := by decide +kernel
theorem dJ6_bitCount_0f7a4_46 : decode cJ6_bitCount_0f7a4 46 = .ok (.iadd, 1) := by decide +kernel
theorem dJ6_bitCount_0f7a4_47 : decode cJ6_bitCount_0f7a4 47 = .ok (.istore_n 0, 1) := by decide +kernel
theorem dJ6_bitCount_0f7a4_48 : decode cJ6_bitCount_0f7a4 48 = .ok (.iload_n 0, 1) := by decide +kernel
theorem dJ6_bitCount_0f7a4_49 : decode cJ6_bitCount_0f7a4 49 = .ok (.bipush 63, 2) := by decide +kernel
theorem dJ6_bitCount_0f7a4_51 : decode cJ6_bitCount_0f7a4 51 = .ok (.iand, 1) := by decide +kernel
theorem dJ6_bitCount_0f7a4_52 : decode cJ6_bitCount_0f7a4 52 = .ok (.ireturn, 1) := by decide +kernel
theorem dJ7_fill_d0a16_0 : decode cJ7_fill_d0a16 0 = .ok (.iconst 0, 1) := by decide +kernel
theorem dJ7_fill_d0a16_1 : decode cJ7_fill_d0a16 1 = .ok (.istore_n 3, 1) := by decide +kernel
theorem dJ7_fill_d0a16_2 : decode cJ7_fill_d0a16 2 = .ok (.aload_n 0, 1) := by decide +kernel
theorem dJ7_fill_d0a16_3 : decode cJ7_fill_d0a16 3 = .ok (.arraylength, 1) := by decide +kernel
theorem dJ7_fill_d0a16_4 : decode cJ7_fill_d0a16 4 = .ok (.istore 4, 2) := by decide +kernel
theorem dJ7_fill_d0a16_6 : decode cJ7_fill_d0a16 6 = .ok (.iload_n 3, 1) := by decide +kernel
theorem dJ7_fill_d0a16_7 : decode cJ7_fill_d0a16 7 = .ok (.iload 4, 2) := by decide +kernel
theorem dJ7_fill_d0a16_9 : decode cJ7_fill_d0a16 9 = .ok (.if_icmp .ge 13, 3) := by decide +kernel
theorem dJ7_fill_d0a16_12 : decode cJ7_fill_d0a16 12 = .ok (.aload_n 0, 1) := by decide +kernel
theorem dJ7_fill_d0a16_13 : decode cJ7_fill_d0a16 13 = .ok (.iload_n 3, 1) := by decide +kernel
theorem dJ7_fill_d0a16_14 : decode cJ7_fill_d0a16 14 = .ok (.lload_n 1, 1) := by decide +kernel
theorem dJ7_fill_d0a16_15 : decode cJ7_fill_d0a16 15 = .ok (.lastore, 1) := by decide +kernel
theorem dJ7_fill_d0a16_16 : decode cJ7_fill_d0a16 16 = .ok (.iinc 3 1, 3) := by decide +kernel
theorem dJ7_fill_d0a16_19 : decode cJ7_fill_d0a16 19 = .ok (.goto (-13), 3) := by decide +kernel
theorem dJ7_fill_d0a16_22 : decode cJ7_fill_d0a16 22 = .ok (.return_, 1) := by decide +kernel
theorem dJ7_fill_53178_0 : decode cJ7_fill_53178 0 = .ok (.iconst 0, 1) := by decide +kernel
theorem dJ7_fill_53178_1 : decode cJ7_fill_53178 1 = .ok (.istore_n 2, 1) := by decide +kernel
theorem dJ7_fill_53178_2 : decode cJ7_fill_53178 2 = .ok (.aload_n 0, 1) := by decide +kernel
theorem dJ7_fill_53178_3 : decode cJ7_fill_53178 3 = .ok (.arraylength, 1) := by decide +kernel
theorem dJ7_fill_53178_4 : decode cJ7_fill_53178 4 = .ok (.istore_n 3, 1) := by decide +kernel
theorem dJ7_fill_53178_5 : decode cJ7_fill_53178 5 = .ok (.iload_n 2, 1) := by decide +kernel
theorem dJ7_fill_53178_6 : decode cJ7_fill_53178 6 = .ok (.iload_n 3, 1) := by decide +kernel
theorem dJ7_fill_53178_7 : decode cJ7_fill_53178 7 = .ok (.if_icmp .ge 13, 3) := by decide +kernel
theorem dJ7_fill_53178_10 : decode cJ7_fill_53178 10 = .ok (.aload_n 0, 1) := by decide +kernel
theorem dJ7_fill_53178_11 : decode cJ7_fill_53178 11 = .ok (.iload_n 2, 1) := by decide +kernel
theorem dJ7_fill_53178_12 : decode cJ7_fill_53178 12 = .ok (.iload_n 1, 1) := by decide +kernel
theorem dJ7_fill_53178_13 : decode cJ7_fill_53178 13 = .ok (.iastore, 1) := by decide +kernel
theorem dJ7_fill_53178_14 : decode cJ7_fill_53178 14 = .ok (.iinc 2 1, 3) := by decide +kernel
theorem dJ7_fill_53178_17 : decode cJ7_fill_53178 17 = .ok (.goto (-12), 3) := by decide +kernel
theorem dJ7_fill_53178_20 : decode cJ7_fill_53178 20 = .ok (.return_, 1) := by decide +kernel
theorem dJ9_abs_0f7a4_0 : decode cJ9_abs_0f7a4 0 = .ok (.iload_n 0, 1) := by decide +kernel
theorem dJ9_abs_0f7a4_1 : decode cJ9_abs_0f7a4 1 = .ok (.ifCond .ge 8, 3) := by decide +kernel
theorem dJ9_abs_0f7a4_4 : decode cJ9_abs_0f7a4 4 = .ok (.iload_n 0, 1) := by decide +kernel
theorem dJ9_abs_0f7a4_5 : decode cJ9_abs_0f7a4 5 = .ok (.ineg, 1) := by decide +kernel
theorem dJ9_abs_0f7a4_6 : decode cJ9_abs_0f7a4 6 = .ok (.goto 4, 3) := by decide +kernel
theorem dJ9_abs_0f7a4_9 : decode cJ9_abs_0f7a4 9 = .ok (.iload_n 0, 1) := by decide +kernel
theorem dJ9_abs_0f7a4_10 : decode cJ9_abs_0f7a4 10 = .ok (.ireturn, 1) := by decide +kernel
theorem dJ9_max_7cf53_0 : decode cJ9_max_7cf53 0 = .ok (.iload_n 0, 1) := by decide +kernel
theorem dJ9_max_7cf53_1 : decode cJ9_max_7cf53 1 = .ok (.iload_n 1, 1) := by decide +kernel
theorem dJ9_max_7cf53_2 : decode cJ9_max_7cf53 2 = .ok (.if_icmp .lt 7, 3) := by decide +kernel
theorem dJ9_max_7cf53_5 : decode cJ9_max_7cf53 5 = .ok (.iload_n 0, 1) := by decide +kernel
theorem dJ9_max_7cf53_6 : decode cJ9_max_7cf53 6 = .ok (.goto 4, 3) := by decide +kernel
theorem dJ9_max_7cf53_9 : decode cJ9_max_7cf53 9 = .ok (.iload_n 1, 1) := by decide +kernel
theorem dJ9_max_7cf53_10 : decode cJ9_max_7cf53 10 = .ok (.ireturn, 1) := by decide +kernel
theorem dJ9_min_7cf53_0 : decode cJ9_min_7cf53 0 = .ok (.iload_n 0, 1) := by decide +kernel
theorem dJ9_min_7cf53_1 : decode cJ9_min_7cf53 1 = .ok (.iload_n 1, 1) := by decide +kernel
theorem dJ9_min_7cf53_2 : decode cJ9_min_7cf53 2 = .ok (.if_icmp .gt 7, 3) := by decide +kernel
theorem dJ9_min_7cf53_5 : decode cJ9_min_7cf53 5 = .ok (.iload_n 0, 1) := by decide +kernel
theorem dJ9_min_7cf53_6 : decode cJ9_min_7cf53 6 = .ok (.goto 4, 3) := by decide +kernel
theorem dJ9_min_7cf53_9 : decode cJ9_min_7cf53 9 = .ok (.iload_n 1, 1) := by decide +kernel
theorem dJ9_min_7cf53_10 : decode cJ9_min_7cf53 10 = .ok (.ireturn, 1) := by decide +kernel
theorem dX0_init_0 : decode cX0_init 0 = .ok (.aload_n 0, 1) := by decide +kernel
theorem dX0_init_1 : decode cX0_init 1 = .ok (.invokespecial 3, 3) := by decide +kernel
theorem dX0_init_4 : decode cX0_init 4 = .ok (.aload_n 0, 1) := by decide +kernel
theorem dX0_init_5 : decode cX0_init 5 = .ok (.sipush 256, 3) := by decide +kernel
theorem dX0_init_8 : decode cX0_init 8 = .ok (.newarray .int, 2) := by decide +kernel
theorem dX0_init_10 : decode cX0_init 10 = .ok (.putfield 9, 3) := by decide +kernel
theorem dX0_init_13 : decode cX0_init 13 = .ok (.aload_n 0, 1) := by decide +kernel
theorem dX0_init_14 : decode cX0_init 14 = .ok (.bipush 64, 2) := by decide +kernel
theorem dX0_init_16 : decode cX0_init 16 = .ok (.newarray .int, 2) := by decide +kernel
theorem dX0_init_18 : decode cX0_init 18 = .ok (.putfield 15, 3) := by decide +kernel
theorem dX0_init_21 : decode cX0_init 21 = .ok (.aload_n 0, 1) := by decide +kernel
theorem dX0_init_22 : decode cX0_init 22 = .ok (.bipush 65, 2) := by decide +kernel
theorem dX0_init_24 : decode cX0_init 24 = .ok (.newarray .int, 2) := by decide +kernel
theorem dX0_init_26 : decode cX0_init 26 = .ok (.putfield 18, 3) := by decide +kernel
theorem dX0_init_29 : decode cX0_init 29 = .ok (.aload_n 0, 1) := by decide +kernel
theorem dX0_init_30 : decode cX0_init 30 = .ok (.bipush 64, 2) := by decide +kernel
theorem dX0_init_32 : decode cX0_init 32 = .ok (.newarray .int, 2) := by decide +kernel
theorem dX0_init_34 : decode cX0_init 34 = .ok (.putfield 21, 3) := by decide +kernel
theorem dX0_init_37 : decode cX0_init 37 = .ok (.aload_n 0, 1) := by decide +kernel
theorem dX0_init_38 : decode cX0_init 38 = .ok (.sipush 256, 3) := by decide +kernel
theorem dX0_init_41 : decode cX0_init 41 = .ok (.newarray .int, 2) := by decide +kernel
theorem dX0_init_43 : decode cX0_init 43 = .ok (.putfield 24, 3) := by decide +kernel
theorem dX0_init_46 : decode cX0_init 46 = .ok (.return_, 1) := by decide +kernel
theorem dX0_choose_0 : decode cX0_choose 0 = .ok (.aload_n 0, 1) := by decide +kernel
theorem dX0_choose_1 : decode cX0_choose 1 = .ok (.bipush (-4), 2) := by decide +kernel
theorem dX0_choose_3 : decode cX0_choose 3 = .ok (.putfield 27, 3) := by decide +kernel
theorem dX0_choose_6 : decode cX0_choose 6 = .ok (.aload_n 0, 1) := by decide +kernel
theorem dX0_choose_7 : decode cX0_choose 7 = .ok (.aload_n 2, 1) := by decide +kernel
theorem dX0_choose_8 : decode cX0_choose 8 = .ok (.getfield 31, 3) := by decide +kernel
theorem dX0_choose_11 : decode cX0_choose 11 = .ok (.iconst 1, 1) := by decide +kernel
theorem dX0_choose_12 : decode cX0_choose 12 = .ok (.iadd, 1) := by decide +kernel
theorem dX0_choose_13 : decode cX0_choose 13 = .ok (.putfield 36, 3) := by decide +kernel
theorem dX0_choose_16 : decode cX0_choose 16 = .ok (.iconst 0, 1) := by decide +kernel
theorem dX0_choose_17 : decode cX0_choose 17 = .ok (.istore_n 3, 1) := by decide +kernel
theorem dX0_choose_18 : decode cX0_choose 18 = .ok (.iload_n 3, 1) := by decide +kernel
theorem dX0_choose_19 : decode cX0_choose 19 = .ok (.aload_n 1, 1) := by decide +kernel
theorem dX0_choose_20 : decode cX0_choose 20 = .ok (.getfield 39, 3) := by decide +kernel
theorem dX0_choose_23 : decode cX0_choose 23 = .ok (.if_icmp .ge 65, 3) := by decide +kernel
theorem dX0_choose_26 : decode cX0_choose 26 = .ok (.aload_n 0, 1) := by decide +kernel
theorem dX0_choose_27 : decode cX0_choose 27 = .ok (.aload_n 2, 1) := by decide +kernel
theorem dX0_choose_28 : decode cX0_choose 28 = .ok (.iload_n 3, 1) := by decide +kernel
theorem dX0_choose_29 : decode cX0_choose 29 = .ok (.invokevirtual 44, 3) := by decide +kernel
theorem dX0_choose_32 : decode cX0_choose 32 = .ok (.iconst 0, 1) := by decide +kernel
theorem dX0_choose_33 : decode cX0_choose 33 = .ok (.istore 4, 2) := by decide +kernel
theorem dX0_choose_35 : decode cX0_choose 35 = .ok (.iload 4, 2) := by decide +kernel
theorem dX0_choose_37 : decode cX0_choose 37 = .ok (.iconst 4, 1) := by decide +kernel
theorem dX0_choose_38 : decode cX0_choose 38 = .ok (.if_icmp .ge 44, 3) := by decide +kernel
theorem dX0_choose_41 : decode cX0_choose 41 = .ok (.aload_n 0, 1) := by decide +kernel
theorem dX0_choose_42 : decode cX0_choose 42 = .ok (.aload_n 1, 1) := by decide +kernel
theorem dX0_choose_43 : decode cX0_choose 43 = .ok (.iload_n 3, 1) := by decide +kernel
theorem dX0_choose_44 : decode cX0_choose 44 = .ok (.iload 4, 2) := by decide +kernel
theorem dX0_choose_46 : decode cX0_choose 46 = .ok (.invokevirtual 48, 3) := by decide +kernel
theorem dX0_choose_49 : decode cX0_choose 49 = .ok (.istore 5, 2) := by decide +kernel
theorem dX0_choose_51 : decode cX0_choose 51 = .ok (.iload 5, 2) := by decide +kernel
theorem dX0_choose_53 : decode cX0_choose 53 = .ok (.aload_n 0, 1) := by decide +kernel
theorem dX0_choose_54 : decode cX0_choose 54 = .ok (.getfield 36, 3) := by decide +kernel
theorem dX0_choose_57 : decode cX0_choose 57 = .ok (.if_icmp .ge 19, 3) := by decide +kernel
theorem dX0_choose_60 : decode cX0_choose 60 = .ok (.aload_n 0, 1) := by decide +kernel
theorem dX0_choose_61 : decode cX0_choose 61 = .ok (.iload_n 3, 1) := by decide +kernel
theorem dX0_choose_62 : decode cX0_choose 62 = .ok (.iload 4, 2) := by decide +kernel
theorem dX0_choose_64 : decode cX0_choose 64 = .ok (.invokestatic 52, 3) := by decide +kernel
theorem dX0_choose_67 : decode cX0_choose 67 = .ok (.putfield 27, 3) := by decide +kernel
theorem dX0_choose_70 : decode cX0_choose 70 = .ok (.aload_n 0, 1) := by decide +kernel
theorem dX0_choose_71 : decode cX0_choose 71 = .ok (.iload 5, 2) := by decide +kernel
theorem dX0_choose_73 : decode cX0_choose 73 = .ok (.putfield 36, 3) := by decide +kernel
theorem dX0_choose_76 : decode cX0_choose 76 = .ok (.iinc 4 1, 3) := by decide +kernel
theorem dX0_choose_79 : decode cX0_choose 79 = .ok (.goto (-44), 3) := by decide +kernel
theorem dX0_choose_82 : decode cX0_choose 82 = .ok (.iinc 3 1, 3) := by decide +kernel
theorem dX0_choose_85 : decode cX0_choose 85 = .ok (.goto (-67), 3) := by decide +kernel
theorem dX0_choose_88 : decode cX0_choose 88 = .ok (.return_, 1) := by decide +kernel
theorem dX0_countSets_0 : decode cX0_countSets 0 = .ok (.aload_n 0, 1) := by decide +kernel
theorem dX0_countSets_1 : decode cX0_countSets 1 = .ok (.getfield 9, 3) := by decide +kernel
theorem dX0_countSets_4 : decode cX0_countSets 4 = .ok (.iconst 0, 1) := by decide +kernel
theorem dX0_countSets_5 : decode cX0_countSets 5 = .ok (.invokestatic 56, 3) := by decide +kernel
theorem dX0_countSets_8 : decode cX0_countSets 8 = .ok (.iconst 0, 1) := by decide +kernel
theorem dX0_countSets_9 : decode cX0_countSets 9 = .ok (.istore_n 3, 1) := by decide +kernel
theorem dX0_countSets_10 : decode cX0_countSets 10 = .ok (.iload_n 3, 1) := by decide +kernel
theorem dX0_countSets_11 : decode cX0_countSets 11 = .ok (.aload_n 1, 1) := by decide +kernel
theorem dX0_countSets_12 : decode cX0_countSets 12 = .ok (.getfield 31, 3) := by decide +kernel
theorem dX0_countSets_15 : decode cX0_countSets 15 = .ok (.if_icmp .ge 26, 3) := by decide +kernel
theorem dX0_countSets_18 : decode cX0_countSets 18 = .ok (.aload_n 0, 1) := by decide +kernel
theorem dX0_countSets_19 : decode cX0_countSets 19 = .ok (.getfield 9, 3) := by decide +kernel
theorem dX0_countSets_22 : decode cX0_countSets 22 = .ok (.aload_n 1, 1) := by decide +kernel
theorem dX0_countSets_23 : decode cX0_countSets 23 = .ok (.iload_n 3, 1) := by decide +kernel
theorem dX0_countSets_24 : decode cX0_countSets 24 = .ok (.invokevirtual 62, 3) := by decide +kernel
theorem dX0_countSets_27 : decode cX0_countSets 27 = .ok (.iload_n 2, 1) := by decide +kernel
theorem dX0_countSets_28 : decode cX0_countSets 28 = .ok (.invokestatic 66, 3) := by decide +kernel
theorem dX0_countSets_31 : decode cX0_countSets 31 = .ok (.iconst 1, 1) := by decide +kernel
theorem dX0_countSets_32 : decode cX0_countSets 32 = .ok (.invokestatic 69, 3) := by decide +kernel
theorem dX0_countSets_35 : decode cX0_countSets 35 = .ok (.iinc 3 1, 3) := by decide +kernel
theorem dX0_countSets_38 : decode cX0_countSets 38 = .ok (.goto (-28), 3) := by decide +kernel
theorem dX0_countSets_41 : decode cX0_countSets 41 = .ok (.return_, 1) := by decide +kernel
theorem dX0_countReplies_0 : decode cX0_countReplies 0 = .ok (.aload_n 0, 1) := by decide +kernel
theorem dX0_countReplies_1 : decode cX0_countReplies 1 = .ok (.getfield 15, 3) := by decide +kernel
theorem dX0_countReplies_4 : decode cX0_countReplies 4 = .ok (.iconst 0, 1) := by decide +kernel
theorem dX0_countReplies_5 : decode cX0_countReplies 5 = .ok (.invokestatic 56, 3) := by decide +kernel
theorem dX0_countReplies_8 : decode cX0_countReplies 8 = .ok (.iconst 0, 1) := by decide +kernel
theorem dX0_countReplies_9 : decode cX0_countReplies 9 = .ok (.istore 4, 2) := by decide +kernel
theorem dX0_countReplies_11 : decode cX0_countReplies 11 = .ok (.iconst 1, 1) := by decide +kernel
theorem dX0_countReplies_12 : decode cX0_countReplies 12 = .ok (.istore 5, 2) := by decide +kernel
theorem dX0_countReplies_14 : decode cX0_countReplies 14 = .ok (.iload 5, 2) := by decide +kernel
theorem dX0_countReplies_16 : decode cX0_countReplies 16 = .ok (.aload_n 0, 1) := by decide +kernel
theorem dX0_countReplies_17 : decode cX0_countReplies 17 = .ok (.getfield 9, 3) := by decide +kernel
theorem dX0_countReplies_20 : decode cX0_countReplies 20 = .ok (.arraylength, 1) := by decide +kernel
theorem dX0_countReplies_21 : decode cX0_countReplies 21 = .ok (.if_icmp .ge 62, 3) := by decide +kernel
theorem dX0_countReplies_24 : decode cX0_countReplies 24 = .ok (.aload_n 0, 1) := by decide +kernel
theorem dX0_countReplies_25 : decode cX0_countReplies 25 = .ok (.getfield 9, 3) := by decide +kernel
theorem dX0_countReplies_28 : decode cX0_countReplies 28 = .ok (.iload 5, 2) := by decide +kernel
theorem dX0_countReplies_30 : decode cX0_countReplies 30 = .ok (.iaload, 1) := by decide +kernel
theorem dX0_countReplies_31 : decode cX0_countReplies 31 = .ok (.ifCond .le 46, 3) := by decide +kernel
theorem dX0_countReplies_34 : decode cX0_countReplies 34 = .ok (.aload_n 1, 1) := by decide +kernel
theorem dX0_countReplies_35 : decode cX0_countReplies 35 = .ok (.iload_n 2, 1) := by decide +kernel
theorem dX0_countReplies_36 : decode cX0_countReplies 36 = .ok (.iload_n 3, 1) := by decide +kernel
theorem dX0_countReplies_37 : decode cX0_countReplies 37 = .ok (.iload 5, 2) := by decide +kernel
theorem dX0_countReplies_39 : decode cX0_countReplies 39 = .ok (.iconst 0, 1) := by decide +kernel
theorem dX0_countReplies_40 : decode cX0_countReplies 40 = .ok (.invokevirtual 73, 3) := by decide +kernel
theorem dX0_countReplies_43 : decode cX0_countReplies 43 = .ok (.istore 6, 2) := by decide +kernel
theorem dX0_countReplies_45 : decode cX0_countReplies 45 = .ok (.aload_n 0, 1) := by decide +kernel
theorem dX0_countReplies_46 : decode cX0_countReplies 46 = .ok (.getfield 15, 3) := by decide +kernel
theorem dX0_countReplies_49 : decode cX0_countReplies 49 = .ok (.iload 6, 2) := by decide +kernel
theorem dX0_countReplies_51 : decode cX0_countReplies 51 = .ok (.aload_n 0, 1) := by decide +kernel
theorem dX0_countReplies_52 : decode cX0_countReplies 52 = .ok (.getfield 9, 3) := by decide +kernel
theorem dX0_countReplies_55 : decode cX0_countReplies 55 = .ok (.iload 5, 2) := by decide +kernel
theorem dX0_countReplies_57 : decode cX0_countReplies 57 = .ok (.iaload, 1) := by decide +kernel
theorem dX0_countReplies_58 : decode cX0_countReplies 58 = .ok (.invokestatic 69, 3) := by decide +kernel
theorem dX0_countReplies_61 : decode cX0_countReplies 61 = .ok (.iload 4, 2) := by decide +kernel
theorem dX0_countReplies_63 : decode cX0_countReplies 63 = .ok (.aload_n 0, 1) := by decide +kernel
theorem dX0_countReplies_64 : decode cX0_countReplies 64 = .ok (.getfield 15, 3) := by decide +kernel
theorem dX0_countReplies_67 : decode cX0_countReplies 67 = .ok (.iload 6, 2) := by decide +kernel
theorem dX0_countReplies_69 : decode cX0_countReplies 69 = .ok (.invokestatic 77, 3) := by decide +kernel
theorem dX0_countReplies_72 : decode cX0_countReplies 72 = .ok (.invokestatic 81, 3) := by decide +kernel
theorem dX0_countReplies_75 : decode cX0_countReplies 75 = .ok (.istore 4, 2) := by decide +kernel
theorem dX0_countReplies_77 : decode cX0_countReplies 77 = .ok (.iinc 5 1, 3) := by decide +kernel
theorem dX0_countReplies_80 : decode cX0_countReplies 80 = .ok (.goto (-66), 3) := by decide +kernel
theorem dX0_countReplies_83 : decode cX0_countReplies 83 = .ok (.iload 4, 2) := by decide +kernel
theorem dX0_countReplies_85 : decode cX0_countReplies 85 = .ok (.ireturn, 1) := by decide +kernel
theorem dX0_solves_0 : decode cX0_solves 0 = .ok (.aload_n 0, 1) := by decide +kernel
theorem dX0_solves_1 : decode cX0_solves 1 = .ok (.iconst 0, 1) := by decide +kernel
theorem dX0_solves_2 : decode cX0_solves 2 = .ok (.putfield 86, 3) := by decide +kernel
theorem dX0_solves_5 : decode cX0_solves 5 = .ok (.aload_n 0, 1) := by decide +kernel
theorem dX0_solves_6 : decode cX0_solves 6 = .ok (.iconst 0, 1) := by decide +kernel
theorem dX0_solves_7 : decode cX0_solves 7 = .ok (.putfield 89, 3) := by decide +kernel
theorem dX0_solves_10 : decode cX0_solves 10 = .ok (.aload_n 2, 1) := by decide +kernel
theorem dX0_solves_11 : decode cX0_solves 11 = .ok (.iload_n 3, 1) := by decide +kernel
theorem dX0_solves_12 : decode cX0_solves 12 = .ok (.invokevirtual 92, 3) := by decide +kernel
theorem dX0_solves_15 : decode cX0_solves 15 = .ok (.ifCond .ne 5, 3) := by decide +kernel
theorem dX0_solves_18 : decode cX0_solves 18 = .ok (.iconst 0, 1) := by decide +kernel
theorem dX0_solves_19 : decode cX0_solves 19 = .ok (.ireturn, 1) := by decide +kernel
theorem dX0_solves_20 : decode cX0_solves 20 = .ok (.iconst 0, 1) := by decide +kernel
theorem dX0_solves_21 : decode cX0_solves 21 = .ok (.istore 4, 2) := by decide +kernel
theorem dX0_solves_23 : decode cX0_solves 23 = .ok (.iload 4, 2) := by decide +kernel
theorem dX0_solves_25 : decode cX0_solves 25 = .ok (.bipush 20, 2) := by decide +kernel
theorem dX0_solves_27 : decode cX0_solves 27 = .ok (.if_icmp .ge 106, 3) := by decide +kernel
theorem dX0_solves_30 : decode cX0_solves 30 = .ok (.aload_n 2, 1) := by decide +kernel
theorem dX0_solves_31 : decode cX0_solves 31 = .ok (.getfield 31, 3) := by decide +kernel
theorem dX0_solves_34 : decode cX0_solves 34 = .ok (.iconst 1, 1) := by decide +kernel
theorem dX0_solves_35 : decode cX0_solves 35 = .ok (.if_icmp .le 98, 3) := by decide +kernel
theorem dX0_solves_38 : decode cX0_solves 38 = .ok (.aload_n 0, 1) := by decide +kernel
theorem dX0_solves_39 : decode cX0_solves 39 = .ok (.aload_n 1, 1) := by decide +kernel
theorem dX0_solves_40 : decode cX0_solves 40 = .ok (.aload_n 2, 1) := by decide +kernel
theorem dX0_solves_41 : decode cX0_solves 41 = .ok (.invokevirtual 96, 3) := by decide +kernel
theorem dX0_solves_44 : decode cX0_solves 44 = .ok (.aload_n 0, 1) := by decide +kernel
theorem dX0_solves_45 : decode cX0_solves 45 = .ok (.getfield 36, 3) := by decide +kernel
theorem dX0_solves_48 : decode cX0_solves 48 = .ok (.aload_n 2, 1) := by decide +kernel
theorem dX0_solves_49 : decode cX0_solves 49 = .ok (.getfield 31, 3) := by decide +kernel
theorem dX0_solves_52 : decode cX0_solves 52 = .ok (.if_icmp .lt 5, 3) := by decide +kernel
theorem dX0_solves_55 : decode cX0_solves 55 = .ok (.iconst 0, 1) := by decide +kernel
theorem dX0_solves_56 : decode cX0_solves 56 = .ok (.ireturn, 1) := by decide +kernel
theorem dX0_solves_57 : decode cX0_solves 57 = .ok (.aload_n 0, 1) := by decide +kernel
theorem dX0_solves_58 : decode cX0_solves 58 = .ok (.getfield 27, 3) := by decide +kernel
theorem dX0_solves_61 : decode cX0_solves 61 = .ok (.invokestatic 100, 3) := by decide +kernel
theorem dX0_solves_64 : decode cX0_solves 64 = .ok (.istore 5, 2) := by decide +kernel
theorem dX0_solves_66 : decode cX0_solves 66 = .ok (.aload_n 0, 1) := by decide +kernel
theorem dX0_solves_67 : decode cX0_solves 67 = .ok (.getfield 27, 3) := by decide +kernel
theorem dX0_solves_70 : decode cX0_solves 70 = .ok (.invokestatic 103, 3) := by decide +kernel
theorem dX0_solves_73 : decode cX0_solves 73 = .ok (.istore 6, 2) := by decide +kernel
theorem dX0_solves_75 : decode cX0_solves 75 = .ok (.aload_n 2, 1) := by decide +kernel
theorem dX0_solves_76 : decode cX0_solves 76 = .ok (.aload_n 1, 1) := by decide +kernel
theorem dX0_solves_77 : decode cX0_solves 77 = .ok (.iload 5, 2) := by decide +kernel
theorem dX0_solves_79 : decode cX0_solves 79 = .ok (.iload 6, 2) := by decide +kernel
theorem dX0_solves_81 : decode cX0_solves 81 = .ok (.aload_n 1, 1) := by decide +kernel
theorem dX0_solves_82 : decode cX0_solves 82 = .ok (.iload 5, 2) := by decide +kernel
theorem dX0_solves_84 : decode cX0_solves 84 = .ok (.iload 6, 2) := by decide +kernel
theorem dX0_solves_86 : decode cX0_solves 86 = .ok (.iload_n 3, 1) := by decide +kernel
theorem dX0_solves_87 : decode cX0_solves 87 = .ok (.iload 5, 2) := by decide +kernel
theorem dX0_solves_89 : decode cX0_solves 89 = .ok (.invokestatic 66, 3) := by decide +kernel
theorem dX0_solves_92 : decode cX0_solves 92 = .ok (.iconst 0, 1) := by decide +kernel
theorem dX0_solves_93 : decode cX0_solves 93 = .ok (.invokevirtual 73, 3) := by decide +kernel
theorem dX0_solves_96 : decode cX0_solves 96 = .ok (.invokevirtual 106, 3) := by decide +kernel
theorem dX0_solves_99 : decode cX0_solves 99 = .ok (.aload_n 0, 1) := by decide +kernel
theorem dX0_solves_100 : decode cX0_solves 100 = .ok (.dup, 1) := by decide +kernel
theorem dX0_solves_101 : decode cX0_solves 101 = .ok (.getfield 89, 3) := by decide +kernel
theorem dX0_solves_104 : decode cX0_solves 104 = .ok (.aload_n 1, 1) := by decide +kernel
theorem dX0_solves_105 : decode cX0_solves 105 = .ok (.getfield 110, 3) := by decide +kernel
theorem dX0_solves_108 : decode cX0_solves 108 = .ok (.iload 6, 2) := by decide +kernel
theorem dX0_solves_110 : decode cX0_solves 110 = .ok (.invokestatic 77, 3) := by decide +kernel
theorem dX0_solves_113 : decode cX0_solves 113 = .ok (.iadd, 1) := by decide +kernel
theorem dX0_solves_114 : decode cX0_solves 114 = .ok (.putfield 89, 3) := by decide +kernel
theorem dX0_solves_117 : decode cX0_solves 117 = .ok (.aload_n 0, 1) := by decide +kernel
theorem dX0_solves_118 : decode cX0_solves 118 = .ok (.dup, 1) := by decide +kernel
theorem dX0_solves_119 : decode cX0_solves 119 = .ok (.getfield 86, 3) := by decide +kernel
theorem dX0_solves_122 : decode cX0_solves 122 = .ok (.iconst 1, 1) := by decide +kernel
theorem dX0_solves_123 : decode cX0_solves 123 = .ok (.iadd, 1) := by decide +kernel
theorem dX0_solves_124 : decode cX0_solves 124 = .ok (.putfield 86, 3) := by decide +kernel
theorem dX0_solves_127 : decode cX0_solves 127 = .ok (.iinc 4 1, 3) := by decide +kernel
theorem dX0_solves_130 : decode cX0_solves 130 = .ok (.goto (-107), 3) := by decide +kernel
theorem dX0_solves_133 : decode cX0_solves 133 = .ok (.aload_n 2, 1) := by decide +kernel
theorem dX0_solves_134 : decode cX0_solves 134 = .ok (.getfield 31, 3) := by decide +kernel
theorem dX0_solves_137 : decode cX0_solves 137 = .ok (.iconst 1, 1) := by decide +kernel
theorem dX0_solves_138 : decode cX0_solves 138 = .ok (.if_icmp .ne 7, 3) := by decide +kernel
theorem dX0_solves_141 : decode cX0_solves 141 = .ok (.iconst 1, 1) := by decide +kernel
theorem dX0_solves_142 : decode cX0_solves 142 = .ok (.goto 4, 3) := by decide +kernel
theorem dX0_solves_145 : decode cX0_solves 145 = .ok (.iconst 0, 1) := by decide +kernel
theorem dX0_solves_146 : decode cX0_solves 146 = .ok (.ireturn, 1) := by decide +kernel
theorem dX0_fewest_0 : decode cX0_fewest 0 = .ok (.aload_n 2, 1) := by decide +kernel
theorem dX0_fewest_1 : decode cX0_fewest 1 = .ok (.getfield 31, 3) := by decide +kernel
theorem dX0_fewest_4 : decode cX0_fewest 4 = .ok (.ifCond .ne 6, 3) := by decide +kernel
theorem dX0_fewest_7 : decode cX0_fewest 7 = .ok (.bipush (-4), 2) := by decide +kernel
theorem dX0_fewest_9 : decode cX0_fewest 9 = .ok (.ireturn, 1) := by decide +kernel
theorem dX0_fewest_10 : decode cX0_fewest 10 = .ok (.aload_n 0, 1) := by decide +kernel
theorem dX0_fewest_11 : decode cX0_fewest 11 = .ok (.aload_n 2, 1) := by decide +kernel
theorem dX0_fewest_12 : decode cX0_fewest 12 = .ok (.iload 4, 2) := by decide +kernel
theorem dX0_fewest_14 : decode cX0_fewest 14 = .ok (.invokevirtual 113, 3) := by decide +kernel
theorem dX0_fewest_17 : decode cX0_fewest 17 = .ok (.ifCond .eq 5, 3) := by decide +kernel
theorem dX0_fewest_20 : decode cX0_fewest 20 = .ok (.iconst 0, 1) := by decide +kernel
theorem dX0_fewest_21 : decode cX0_fewest 21 = .ok (.ireturn, 1) := by decide +kernel
theorem dX0_fewest_22 : decode cX0_fewest 22 = .ok (.aload_n 0, 1) := by decide +kernel
theorem dX0_fewest_23 : decode cX0_fewest 23 = .ok (.aload_n 1, 1) := by decide +kernel
theorem dX0_fewest_24 : decode cX0_fewest 24 = .ok (.aload_n 2, 1) := by decide +kernel
theorem dX0_fewest_25 : decode cX0_fewest 25 = .ok (.iload 4, 2) := by decide +kernel
theorem dX0_fewest_27 : decode cX0_fewest 27 = .ok (.iconst 0, 1) := by decide +kernel
theorem dX0_fewest_28 : decode cX0_fewest 28 = .ok (.aload_n 2, 1) := by decide +kernel
theorem dX0_fewest_29 : decode cX0_fewest 29 = .ok (.getfield 31, 3) := by decide +kernel
theorem dX0_fewest_32 : decode cX0_fewest 32 = .ok (.invokevirtual 117, 3) := by decide +kernel
theorem dX0_fewest_35 : decode cX0_fewest 35 = .ok (.ifCond .eq 5, 3) := by decide +kernel
theorem dX0_fewest_38 : decode cX0_fewest 38 = .ok (.iconst 1, 1) := by decide +kernel
theorem dX0_fewest_39 : decode cX0_fewest 39 = .ok (.ireturn, 1) := by decide +kernel
theorem dX0_fewest_40 : decode cX0_fewest 40 = .ok (.iconst 0, 1) := by decide +kernel
theorem dX0_fewest_41 : decode cX0_fewest 41 = .ok (.istore 5, 2) := by decide +kernel
theorem dX0_fewest_43 : decode cX0_fewest 43 = .ok (.iload 5, 2) := by decide +kernel
theorem dX0_fewest_45 : decode cX0_fewest 45 = .ok (.aload_n 1, 1) := by decide +kernel
theorem dX0_fewest_46 : decode cX0_fewest 46 = .ok (.invokevirtual 121, 3) := by decide +kernel
theorem dX0_fewest_49 : decode cX0_fewest 49 = .ok (.if_icmp .ge 31, 3) := by decide +kernel
theorem dX0_fewest_52 : decode cX0_fewest 52 = .ok (.aload_n 0, 1) := by decide +kernel
theorem dX0_fewest_53 : decode cX0_fewest 53 = .ok (.aload_n 1, 1) := by decide +kernel
theorem dX0_fewest_54 : decode cX0_fewest 54 = .ok (.aload_n 2, 1) := by decide +kernel
theorem dX0_fewest_55 : decode cX0_fewest 55 = .ok (.aload_n 3, 1) := by decide +kernel
theorem dX0_fewest_56 : decode cX0_fewest 56 = .ok (.iload 5, 2) := by decide +kernel
theorem dX0_fewest_58 : decode cX0_fewest 58 = .ok (.invokevirtual 124, 3) := by decide +kernel
theorem dX0_fewest_61 : decode cX0_fewest 61 = .ok (.aload_n 0, 1) := by decide +kernel
theorem dX0_fewest_62 : decode cX0_fewest 62 = .ok (.aload_n 1, 1) := by decide +kernel
theorem dX0_fewest_63 : decode cX0_fewest 63 = .ok (.aload_n 3, 1) := by decide +kernel
theorem dX0_fewest_64 : decode cX0_fewest 64 = .ok (.iload 4, 2) := by decide +kernel
theorem dX0_fewest_66 : decode cX0_fewest 66 = .ok (.invokevirtual 128, 3) := by decide +kernel
theorem dX0_fewest_69 : decode cX0_fewest 69 = .ok (.ifCond .eq 5, 3) := by decide +kernel
theorem dX0_fewest_72 : decode cX0_fewest 72 = .ok (.iconst 2, 1) := by decide +kernel
theorem dX0_fewest_73 : decode cX0_fewest 73 = .ok (.ireturn, 1) := by decide +kernel
theorem dX0_fewest_74 : decode cX0_fewest 74 = .ok (.iinc 5 1, 3) := by decide +kernel
theorem dX0_fewest_77 : decode cX0_fewest 77 = .ok (.goto (-34), 3) := by decide +kernel
theorem dX0_fewest_80 : decode cX0_fewest 80 = .ok (.bipush (-4), 2) := by decide +kernel
theorem dX0_fewest_82 : decode cX0_fewest 82 = .ok (.ireturn, 1) := by decide +kernel
theorem dX0_isKnown_0 : decode cX0_isKnown 0 = .ok (.iconst 1, 1) := by decide +kernel
theorem dX0_isKnown_1 : decode cX0_isKnown 1 = .ok (.istore_n 3, 1) := by decide +kernel
theorem dX0_isKnown_2 : decode cX0_isKnown 2 = .ok (.iload_n 3, 1) := by decide +kernel
theorem dX0_isKnown_3 : decode cX0_isKnown 3 = .ok (.aload_n 1, 1) := by decide +kernel
theorem dX0_isKnown_4 : decode cX0_isKnown 4 = .ok (.getfield 31, 3) := by decide +kernel
theorem dX0_isKnown_7 : decode cX0_isKnown 7 = .ok (.if_icmp .ge 32, 3) := by decide +kernel
theorem dX0_isKnown_10 : decode cX0_isKnown 10 = .ok (.aload_n 1, 1) := by decide +kernel
theorem dX0_isKnown_11 : decode cX0_isKnown 11 = .ok (.iload_n 3, 1) := by decide +kernel
theorem dX0_isKnown_12 : decode cX0_isKnown 12 = .ok (.invokevirtual 62, 3) := by decide +kernel
theorem dX0_isKnown_15 : decode cX0_isKnown 15 = .ok (.iload_n 2, 1) := by decide +kernel
theorem dX0_isKnown_16 : decode cX0_isKnown 16 = .ok (.invokestatic 66, 3) := by decide +kernel
theorem dX0_isKnown_19 : decode cX0_isKnown 19 = .ok (.aload_n 1, 1) := by decide +kernel
theorem dX0_isKnown_20 : decode cX0_isKnown 20 = .ok (.iconst 0, 1) := by decide +kernel
theorem dX0_isKnown_21 : decode cX0_isKnown 21 = .ok (.invokevirtual 62, 3) := by decide +kernel
theorem dX0_isKnown_24 : decode cX0_isKnown 24 = .ok (.iload_n 2, 1) := by decide +kernel
theorem dX0_isKnown_25 : decode cX0_isKnown 25 = .ok (.invokestatic 66, 3) := by decide +kernel
theorem dX0_isKnown_28 : decode cX0_isKnown 28 = .ok (.if_icmp .eq 5, 3) := by decide +kernel
theorem dX0_isKnown_31 : decode cX0_isKnown 31 = .ok (.iconst 0, 1) := by decide +kernel
theorem dX0_isKnown_32 : decode cX0_isKnown 32 = .ok (.ireturn, 1) := by decide +kernel
theorem dX0_isKnown_33 : decode cX0_isKnown 33 = .ok (.iinc 3 1, 3) := by decide +kernel
theorem dX0_isKnown_36 : decode cX0_isKnown 36 = .ok (.goto (-34), 3) := by decide +kernel
theorem dX0_isKnown_39 : decode cX0_isKnown 39 = .ok (.iconst 1, 1) := by decide +kernel
theorem dX0_isKnown_40 : decode cX0_isKnown 40 = .ok (.ireturn, 1) := by decide +kernel
theorem dX0_someTrialTells_0 : decode cX0_someTrialTells 0 = .ok (.iconst 0, 1) := by decide +kernel
theorem dX0_someTrialTells_1 : decode cX0_someTrialTells 1 = .ok (.istore 6, 2) := by decide +kernel
theorem dX0_someTrialTells_3 : decode cX0_someTrialTells 3 = .ok (.iload 6, 2) := by decide +kernel
theorem dX0_someTrialTells_5 : decode cX0_someTrialTells 5 = .ok (.aload_n 1, 1) := by decide +kernel
theorem dX0_someTrialTells_6 : decode cX0_someTrialTells 6 = .ok (.invokevirtual 121, 3) := by decide +kernel
theorem dX0_someTrialTells_9 : decode cX0_someTrialTells 9 = .ok (.if_icmp .ge 27, 3) := by decide +kernel
theorem dX0_someTrialTells_12 : decode cX0_someTrialTells 12 = .ok (.aload_n 0, 1) := by decide +kernel
theorem dX0_someTrialTells_13 : decode cX0_someTrialTells 13 = .ok (.aload_n 1, 1) := by decide +kernel
theorem dX0_someTrialTells_14 : decode cX0_someTrialTells 14 = .ok (.aload_n 2, 1) := by decide +kernel
theorem dX0_someTrialTells_15 : decode cX0_someTrialTells 15 = .ok (.iload 6, 2) := by decide +kernel
theorem dX0_someTrialTells_17 : decode cX0_someTrialTells 17 = .ok (.iload_n 3, 1) := by decide +kernel
theorem dX0_someTrialTells_18 : decode cX0_someTrialTells 18 = .ok (.iload 4, 2) := by decide +kernel
theorem dX0_someTrialTells_20 : decode cX0_someTrialTells 20 = .ok (.iload 5, 2) := by decide +kernel
theorem dX0_someTrialTells_22 : decode cX0_someTrialTells 22 = .ok (.invokevirtual 132, 3) := by decide +kernel
theorem dX0_someTrialTells_25 : decode cX0_someTrialTells 25 = .ok (.ifCond .eq 5, 3) := by decide +kernel
theorem dX0_someTrialTells_28 : decode cX0_someTrialTells 28 = .ok (.iconst 1, 1) := by decide +kernel
theorem dX0_someTrialTells_29 : decode cX0_someTrialTells 29 = .ok (.ireturn, 1) := by decide +kernel
theorem dX0_someTrialTells_30 : decode cX0_someTrialTells 30 = .ok (.iinc 6 1, 3) := by decide +kernel
theorem dX0_someTrialTells_33 : decode cX0_someTrialTells 33 = .ok (.goto (-30), 3) := by decide +kernel
theorem dX0_someTrialTells_36 : decode cX0_someTrialTells 36 = .ok (.iconst 0, 1) := by decide +kernel
theorem dX0_someTrialTells_37 : decode cX0_someTrialTells 37 = .ok (.ireturn, 1) := by decide +kernel
theorem dX0_tells_0 : decode cX0_tells 0 = .ok (.aload_n 0, 1) := by decide +kernel
theorem dX0_tells_1 : decode cX0_tells 1 = .ok (.getfield 21, 3) := by decide +kernel
theorem dX0_tells_4 : decode cX0_tells 4 = .ok (.iconst 0, 1) := by decide +kernel
theorem dX0_tells_5 : decode cX0_tells 5 = .ok (.invokestatic 56, 3) := by decide +kernel
theorem dX0_tells_8 : decode cX0_tells 8 = .ok (.iload_n 3, 1) := by decide +kernel
theorem dX0_tells_9 : decode cX0_tells 9 = .ok (.invokestatic 100, 3) := by decide +kernel
theorem dX0_tells_12 : decode cX0_tells 12 = .ok (.istore 7, 2) := by decide +kernel
theorem dX0_tells_14 : decode cX0_tells 14 = .ok (.iload_n 3, 1) := by decide +kernel
theorem dX0_tells_15 : decode cX0_tells 15 = .ok (.invokestatic 103, 3) := by decide +kernel
theorem dX0_tells_18 : decode cX0_tells 18 = .ok (.istore 8, 2) := by decide +kernel
theorem dX0_tells_20 : decode cX0_tells 20 = .ok (.iload 5, 2) := by decide +kernel
theorem dX0_tells_22 : decode cX0_tells 22 = .ok (.istore 9, 2) := by decide +kernel
theorem dX0_tells_24 : decode cX0_tells 24 = .ok (.iload 9, 2) := by decide +kernel
theorem dX0_tells_26 : decode cX0_tells 26 = .ok (.iload 6, 2) := by decide +kernel
theorem dX0_tells_28 : decode cX0_tells 28 = .ok (.if_icmp .ge 80, 3) := by decide +kernel
theorem dX0_tells_31 : decode cX0_tells 31 = .ok (.aload_n 2, 1) := by decide +kernel
theorem dX0_tells_32 : decode cX0_tells 32 = .ok (.iload 9, 2) := by decide +kernel
theorem dX0_tells_34 : decode cX0_tells 34 = .ok (.invokevirtual 62, 3) := by decide +kernel
theorem dX0_tells_37 : decode cX0_tells 37 = .ok (.istore 10, 2) := by decide +kernel
theorem dX0_tells_39 : decode cX0_tells 39 = .ok (.aload_n 1, 1) := by decide +kernel
theorem dX0_tells_40 : decode cX0_tells 40 = .ok (.iload 7, 2) := by decide +kernel
theorem dX0_tells_42 : decode cX0_tells 42 = .ok (.iload 8, 2) := by decide +kernel
theorem dX0_tells_44 : decode cX0_tells 44 = .ok (.iload 10, 2) := by decide +kernel
theorem dX0_tells_46 : decode cX0_tells 46 = .ok (.iload 7, 2) := by decide +kernel
theorem dX0_tells_48 : decode cX0_tells 48 = .ok (.invokestatic 66, 3) := by decide +kernel
theorem dX0_tells_51 : decode cX0_tells 51 = .ok (.iconst 0, 1) := by decide +kernel
theorem dX0_tells_52 : decode cX0_tells 52 = .ok (.invokevirtual 73, 3) := by decide +kernel
theorem dX0_tells_55 : decode cX0_tells 55 = .ok (.istore 11, 2) := by decide +kernel
theorem dX0_tells_57 : decode cX0_tells 57 = .ok (.iload 10, 2) := by decide +kernel
theorem dX0_tells_59 : decode cX0_tells 59 = .ok (.iload 4, 2) := by decide +kernel
theorem dX0_tells_61 : decode cX0_tells 61 = .ok (.invokestatic 66, 3) := by decide +kernel
theorem dX0_tells_64 : decode cX0_tells 64 = .ok (.istore 12, 2) := by decide +kernel
theorem dX0_tells_66 : decode cX0_tells 66 = .ok (.aload_n 0, 1) := by decide +kernel
theorem dX0_tells_67 : decode cX0_tells 67 = .ok (.getfield 21, 3) := by decide +kernel
theorem dX0_tells_70 : decode cX0_tells 70 = .ok (.iload 11, 2) := by decide +kernel
theorem dX0_tells_72 : decode cX0_tells 72 = .ok (.invokestatic 77, 3) := by decide +kernel
theorem dX0_tells_75 : decode cX0_tells 75 = .ok (.istore 13, 2) := by decide +kernel
theorem dX0_tells_77 : decode cX0_tells 77 = .ok (.iload 13, 2) := by decide +kernel
theorem dX0_tells_79 : decode cX0_tells 79 = .ok (.ifCond .eq 12, 3) := by decide +kernel
theorem dX0_tells_82 : decode cX0_tells 82 = .ok (.iload 13, 2) := by decide +kernel
theorem dX0_tells_84 : decode cX0_tells 84 = .ok (.iload 12, 2) := by decide +kernel
theorem dX0_tells_86 : decode cX0_tells 86 = .ok (.if_icmp .eq 5, 3) := by decide +kernel
theorem dX0_tells_89 : decode cX0_tells 89 = .ok (.iconst 0, 1) := by decide +kernel
theorem dX0_tells_90 : decode cX0_tells 90 = .ok (.ireturn, 1) := by decide +kernel
theorem dX0_tells_91 : decode cX0_tells 91 = .ok (.aload_n 0, 1) := by decide +kernel
theorem dX0_tells_92 : decode cX0_tells 92 = .ok (.getfield 21, 3) := by decide +kernel
theorem dX0_tells_95 : decode cX0_tells 95 = .ok (.iload 11, 2) := by decide +kernel
theorem dX0_tells_97 : decode cX0_tells 97 = .ok (.iload 12, 2) := by decide +kernel
theorem dX0_tells_99 : decode cX0_tells 99 = .ok (.invokestatic 136, 3) := by decide +kernel
theorem dX0_tells_102 : decode cX0_tells 102 = .ok (.iinc 9 1, 3) := by decide +kernel
theorem dX0_tells_105 : decode cX0_tells 105 = .ok (.goto (-81), 3) := by decide +kernel
theorem dX0_tells_108 : decode cX0_tells 108 = .ok (.iconst 1, 1) := by decide +kernel
theorem dX0_tells_109 : decode cX0_tells 109 = .ok (.ireturn, 1) := by decide +kernel
theorem dX0_group_0 : decode cX0_group 0 = .ok (.iload 4, 2) := by decide +kernel
theorem dX0_group_2 : decode cX0_group 2 = .ok (.invokestatic 100, 3) := by decide +kernel
theorem dX0_group_5 : decode cX0_group 5 = .ok (.istore 5, 2) := by decide +kernel
theorem dX0_group_7 : decode cX0_group 7 = .ok (.aload_n 0, 1) := by decide +kernel
theorem dX0_group_8 : decode cX0_group 8 = .ok (.aload_n 1, 1) := by decide +kernel
theorem dX0_group_9 : decode cX0_group 9 = .ok (.iload 5, 2) := by decide +kernel
theorem dX0_group_11 : decode cX0_group 11 = .ok (.iload 4, 2) := by decide +kernel
theorem dX0_group_13 : decode cX0_group 13 = .ok (.invokestatic 103, 3) := by decide +kernel
theorem dX0_group_16 : decode cX0_group 16 = .ok (.invokevirtual 139, 3) := by decide +kernel
theorem dX0_group_19 : decode cX0_group 19 = .ok (.aload_n 0, 1) := by decide +kernel
theorem dX0_group_20 : decode cX0_group 20 = .ok (.getfield 18, 3) := by decide +kernel
theorem dX0_group_23 : decode cX0_group 23 = .ok (.iconst 0, 1) := by decide +kernel
theorem dX0_group_24 : decode cX0_group 24 = .ok (.invokestatic 56, 3) := by decide +kernel
theorem dX0_group_27 : decode cX0_group 27 = .ok (.iconst 0, 1) := by decide +kernel
theorem dX0_group_28 : decode cX0_group 28 = .ok (.istore 6, 2) := by decide +kernel
theorem dX0_group_30 : decode cX0_group 30 = .ok (.iload 6, 2) := by decide +kernel
theorem dX0_group_32 : decode cX0_group 32 = .ok (.aload_n 2, 1) := by decide +kernel
theorem dX0_group_33 : decode cX0_group 33 = .ok (.getfield 31, 3) := by decide +kernel
theorem dX0_group_36 : decode cX0_group 36 = .ok (.if_icmp .ge 35, 3) := by decide +kernel
theorem dX0_group_39 : decode cX0_group 39 = .ok (.aload_n 0, 1) := by decide +kernel
theorem dX0_group_40 : decode cX0_group 40 = .ok (.getfield 18, 3) := by decide +kernel
theorem dX0_group_43 : decode cX0_group 43 = .ok (.aload_n 0, 1) := by decide +kernel
theorem dX0_group_44 : decode cX0_group 44 = .ok (.getfield 24, 3) := by decide +kernel
theorem dX0_group_47 : decode cX0_group 47 = .ok (.aload_n 2, 1) := by decide +kernel
theorem dX0_group_48 : decode cX0_group 48 = .ok (.iload 6, 2) := by decide +kernel
theorem dX0_group_50 : decode cX0_group 50 = .ok (.invokevirtual 62, 3) := by decide +kernel
theorem dX0_group_53 : decode cX0_group 53 = .ok (.iload 5, 2) := by decide +kernel
theorem dX0_group_55 : decode cX0_group 55 = .ok (.invokestatic 66, 3) := by decide +kernel
theorem dX0_group_58 : decode cX0_group 58 = .ok (.invokestatic 77, 3) := by decide +kernel
theorem dX0_group_61 : decode cX0_group 61 = .ok (.iconst 1, 1) := by decide +kernel
theorem dX0_group_62 : decode cX0_group 62 = .ok (.invokestatic 69, 3) := by decide +kernel
theorem dX0_group_65 : decode cX0_group 65 = .ok (.iinc 6 1, 3) := by decide +kernel
theorem dX0_group_68 : decode cX0_group 68 = .ok (.goto (-38), 3) := by decide +kernel
theorem dX0_group_71 : decode cX0_group 71 = .ok (.iconst 1, 1) := by decide +kernel
theorem dX0_group_72 : decode cX0_group 72 = .ok (.istore 6, 2) := by decide +kernel
theorem dX0_group_74 : decode cX0_group 74 = .ok (.iload 6, 2) := by decide +kernel
theorem dX0_group_76 : decode cX0_group 76 = .ok (.aload_n 0, 1) := by decide +kernel
theorem dX0_group_77 : decode cX0_group 77 = .ok (.getfield 18, 3) := by decide +kernel
theorem dX0_group_80 : decode cX0_group 80 = .ok (.arraylength, 1) := by decide +kernel
theorem dX0_group_81 : decode cX0_group 81 = .ok (.if_icmp .ge 28, 3) := by decide +kernel
theorem dX0_group_84 : decode cX0_group 84 = .ok (.aload_n 0, 1) := by decide +kernel
theorem dX0_group_85 : decode cX0_group 85 = .ok (.getfield 18, 3) := by decide +kernel
theorem dX0_group_88 : decode cX0_group 88 = .ok (.iload 6, 2) := by decide +kernel
theorem dX0_group_90 : decode cX0_group 90 = .ok (.dup2, 1) := by decide +kernel
theorem dX0_group_91 : decode cX0_group 91 = .ok (.iaload, 1) := by decide +kernel
theorem dX0_group_92 : decode cX0_group 92 = .ok (.aload_n 0, 1) := by decide +kernel
theorem dX0_group_93 : decode cX0_group 93 = .ok (.getfield 18, 3) := by decide +kernel
theorem dX0_group_96 : decode cX0_group 96 = .ok (.iload 6, 2) := by decide +kernel
theorem dX0_group_98 : decode cX0_group 98 = .ok (.iconst 1, 1) := by decide +kernel
theorem dX0_group_99 : decode cX0_group 99 = .ok (.isub, 1) := by decide +kernel
theorem dX0_group_100 : decode cX0_group 100 = .ok (.iaload, 1) := by decide +kernel
theorem dX0_group_101 : decode cX0_group 101 = .ok (.iadd, 1) := by decide +kernel
theorem dX0_group_102 : decode cX0_group 102 = .ok (.iastore, 1) := by decide +kernel
theorem dX0_group_103 : decode cX0_group 103 = .ok (.iinc 6 1, 3) := by decide +kernel
theorem dX0_group_106 : decode cX0_group 106 = .ok (.goto (-32), 3) := by decide +kernel
theorem dX0_group_109 : decode cX0_group 109 = .ok (.aload_n 3, 1) := by decide +kernel
theorem dX0_group_110 : decode cX0_group 110 = .ok (.aload_n 2, 1) := by decide +kernel
theorem dX0_group_111 : decode cX0_group 111 = .ok (.invokevirtual 143, 3) := by decide +kernel
theorem dX0_group_114 : decode cX0_group 114 = .ok (.iconst 0, 1) := by decide +kernel
theorem dX0_group_115 : decode cX0_group 115 = .ok (.istore 6, 2) := by decide +kernel
theorem dX0_group_117 : decode cX0_group 117 = .ok (.iload 6, 2) := by decide +kernel
theorem dX0_group_119 : decode cX0_group 119 = .ok (.aload_n 2, 1) := by decide +kernel
theorem dX0_group_120 : decode cX0_group 120 = .ok (.getfield 31, 3) := by decide +kernel
theorem dX0_group_123 : decode cX0_group 123 = .ok (.if_icmp .ge 58, 3) := by decide +kernel
theorem dX0_group_126 : decode cX0_group 126 = .ok (.aload_n 2, 1) := by decide +kernel
theorem dX0_group_127 : decode cX0_group 127 = .ok (.iload 6, 2) := by decide +kernel
theorem dX0_group_129 : decode cX0_group 129 = .ok (.invokevirtual 62, 3) := by decide +kernel
theorem dX0_group_132 : decode cX0_group 132 = .ok (.istore 7, 2) := by decide +kernel
theorem dX0_group_134 : decode cX0_group 134 = .ok (.aload_n 0, 1) := by decide +kernel
theorem dX0_group_135 : decode cX0_group 135 = .ok (.getfield 24, 3) := by decide +kernel
theorem dX0_group_138 : decode cX0_group 138 = .ok (.iload 7, 2) := by decide +kernel
theorem dX0_group_140 : decode cX0_group 140 = .ok (.iload 5, 2) := by decide +kernel
theorem dX0_group_142 : decode cX0_group 142 = .ok (.invokestatic 66, 3) := by decide +kernel
theorem dX0_group_145 : decode cX0_group 145 = .ok (.invokestatic 77, 3) := by decide +kernel
theorem dX0_group_148 : decode cX0_group 148 = .ok (.istore 8, 2) := by decide +kernel
theorem dX0_group_150 : decode cX0_group 150 = .ok (.aload_n 0, 1) := by decide +kernel
theorem dX0_group_151 : decode cX0_group 151 = .ok (.getfield 18, 3) := by decide +kernel
theorem dX0_group_154 : decode cX0_group 154 = .ok (.iload 8, 2) := by decide +kernel
theorem dX0_group_156 : decode cX0_group 156 = .ok (.iconst (-1), 1) := by decide +kernel
theorem dX0_group_157 : decode cX0_group 157 = .ok (.invokestatic 69, 3) := by decide +kernel
theorem dX0_group_160 : decode cX0_group 160 = .ok (.aload_n 3, 1) := by decide +kernel
theorem dX0_group_161 : decode cX0_group 161 = .ok (.aload_n 0, 1) := by decide +kernel
theorem dX0_group_162 : decode cX0_group 162 = .ok (.getfield 18, 3) := by decide +kernel
theorem dX0_group_165 : decode cX0_group 165 = .ok (.iload 8, 2) := by decide +kernel
theorem dX0_group_167 : decode cX0_group 167 = .ok (.invokestatic 77, 3) := by decide +kernel
theorem dX0_group_170 : decode cX0_group 170 = .ok (.iload 7, 2) := by decide +kernel
theorem dX0_group_172 : decode cX0_group 172 = .ok (.invokevirtual 147, 3) := by decide +kernel
theorem dX0_group_175 : decode cX0_group 175 = .ok (.iinc 6 1, 3) := by decide +kernel
theorem dX0_group_178 : decode cX0_group 178 = .ok (.goto (-61), 3) := by decide +kernel
theorem dX0_group_181 : decode cX0_group 181 = .ok (.return_, 1) := by decide +kernel
theorem dX0_listReplies_0 : decode cX0_listReplies 0 = .ok (.iconst 1, 1) := by decide +kernel
theorem dX0_listReplies_1 : decode cX0_listReplies 1 = .ok (.istore 4, 2) := by decide +kernel
theorem dX0_listReplies_3 : decode cX0_listReplies 3 = .ok (.iload 4, 2) := by decide +kernel
theorem dX0_listReplies_5 : decode cX0_listReplies 5 = .ok (.iconst 1, 1) := by decide +kernel
theorem dX0_listReplies_6 : decode cX0_listReplies 6 = .ok (.aload_n 1, 1) := by decide +kernel
theorem dX0_listReplies_7 : decode cX0_listReplies 7 = .ok (.getfield 151, 3) := by decide +kernel
theorem dX0_listReplies_10 : decode cX0_listReplies 10 = .ok (.getfield 155, 3) := by decide +kernel
theorem dX0_listReplies_13 : decode cX0_listReplies 13 = .ok (.ishl, 1) := by decide +kernel
theorem dX0_listReplies_14 : decode cX0_listReplies 14 = .ok (.if_icmp .ge 27, 3) := by decide +kernel
theorem dX0_listReplies_17 : decode cX0_listReplies 17 = .ok (.aload_n 0, 1) := by decide +kernel
theorem dX0_listReplies_18 : decode cX0_listReplies 18 = .ok (.getfield 24, 3) := by decide +kernel
theorem dX0_listReplies_21 : decode cX0_listReplies 21 = .ok (.iload 4, 2) := by decide +kernel
theorem dX0_listReplies_23 : decode cX0_listReplies 23 = .ok (.aload_n 1, 1) := by decide +kernel
theorem dX0_listReplies_24 : decode cX0_listReplies 24 = .ok (.iload_n 2, 1) := by decide +kernel
theorem dX0_listReplies_25 : decode cX0_listReplies 25 = .ok (.iload_n 3, 1) := by decide +kernel
theorem dX0_listReplies_26 : decode cX0_listReplies 26 = .ok (.iload 4, 2) := by decide +kernel
theorem dX0_listReplies_28 : decode cX0_listReplies 28 = .ok (.iconst 0, 1) := by decide +kernel
theorem dX0_listReplies_29 : decode cX0_listReplies 29 = .ok (.invokevirtual 73, 3) := by decide +kernel
theorem dX0_listReplies_32 : decode cX0_listReplies 32 = .ok (.invokestatic 136, 3) := by decide +kernel
theorem dX0_listReplies_35 : decode cX0_listReplies 35 = .ok (.iinc 4 1, 3) := by decide +kernel
theorem dX0_listReplies_38 : decode cX0_listReplies 38 = .ok (.goto (-35), 3) := by decide +kernel
theorem dX0_listReplies_41 : decode cX0_listReplies 41 = .ok (.return_, 1) := by decide +kernel
theorem dX0_eachGroupIsTold_0 : decode cX0_eachGroupIsTold 0 = .ok (.iconst 0, 1) := by decide +kernel
theorem dX0_eachGroupIsTold_1 : decode cX0_eachGroupIsTold 1 = .ok (.istore 4, 2) := by decide +kernel
theorem dX0_eachGroupIsTold_3 : decode cX0_eachGroupIsTold 3 = .ok (.iload 4, 2) := by decide +kernel
theorem dX0_eachGroupIsTold_5 : decode cX0_eachGroupIsTold 5 = .ok (.bipush 64, 2) := by decide +kernel
theorem dX0_eachGroupIsTold_7 : decode cX0_eachGroupIsTold 7 = .ok (.if_icmp .ge 56, 3) := by decide +kernel
theorem dX0_eachGroupIsTold_10 : decode cX0_eachGroupIsTold 10 = .ok (.aload_n 0, 1) := by decide +kernel
theorem dX0_eachGroupIsTold_11 : decode cX0_eachGroupIsTold 11 = .ok (.getfield 18, 3) := by decide +kernel
theorem dX0_eachGroupIsTold_14 : decode cX0_eachGroupIsTold 14 = .ok (.iload 4, 2) := by decide +kernel
theorem dX0_eachGroupIsTold_16 : decode cX0_eachGroupIsTold 16 = .ok (.invokestatic 77, 3) := by decide +kernel
theorem dX0_eachGroupIsTold_19 : decode cX0_eachGroupIsTold 19 = .ok (.istore 5, 2) := by decide +kernel
theorem dX0_eachGroupIsTold_21 : decode cX0_eachGroupIsTold 21 = .ok (.aload_n 0, 1) := by decide +kernel
theorem dX0_eachGroupIsTold_22 : decode cX0_eachGroupIsTold 22 = .ok (.getfield 18, 3) := by decide +kernel
theorem dX0_eachGroupIsTold_25 : decode cX0_eachGroupIsTold 25 = .ok (.iload 4, 2) := by decide +kernel
theorem dX0_eachGroupIsTold_27 : decode cX0_eachGroupIsTold 27 = .ok (.iconst 1, 1) := by decide +kernel
theorem dX0_eachGroupIsTold_28 : decode cX0_eachGroupIsTold 28 = .ok (.iadd, 1) := by decide +kernel
theorem dX0_eachGroupIsTold_29 : decode cX0_eachGroupIsTold 29 = .ok (.invokestatic 77, 3) := by decide +kernel
theorem dX0_eachGroupIsTold_32 : decode cX0_eachGroupIsTold 32 = .ok (.istore 6, 2) := by decide +kernel
theorem dX0_eachGroupIsTold_34 : decode cX0_eachGroupIsTold 34 = .ok (.iload 5, 2) := by decide +kernel
theorem dX0_eachGroupIsTold_36 : decode cX0_eachGroupIsTold 36 = .ok (.iload 6, 2) := by decide +kernel
theorem dX0_eachGroupIsTold_38 : decode cX0_eachGroupIsTold 38 = .ok (.if_icmp .ge 19, 3) := by decide +kernel
theorem dX0_eachGroupIsTold_41 : decode cX0_eachGroupIsTold 41 = .ok (.aload_n 0, 1) := by decide +kernel
theorem dX0_eachGroupIsTold_42 : decode cX0_eachGroupIsTold 42 = .ok (.aload_n 1, 1) := by decide +kernel
theorem dX0_eachGroupIsTold_43 : decode cX0_eachGroupIsTold 43 = .ok (.aload_n 2, 1) := by decide +kernel
theorem dX0_eachGroupIsTold_44 : decode cX0_eachGroupIsTold 44 = .ok (.iload_n 3, 1) := by decide +kernel
theorem dX0_eachGroupIsTold_45 : decode cX0_eachGroupIsTold 45 = .ok (.iload 5, 2) := by decide +kernel
theorem dX0_eachGroupIsTold_47 : decode cX0_eachGroupIsTold 47 = .ok (.iload 6, 2) := by decide +kernel
theorem dX0_eachGroupIsTold_49 : decode cX0_eachGroupIsTold 49 = .ok (.invokevirtual 117, 3) := by decide +kernel
theorem dX0_eachGroupIsTold_52 : decode cX0_eachGroupIsTold 52 = .ok (.ifCond .ne 5, 3) := by decide +kernel
theorem dX0_eachGroupIsTold_55 : decode cX0_eachGroupIsTold 55 = .ok (.iconst 0, 1) := by decide +kernel
theorem dX0_eachGroupIsTold_56 : decode cX0_eachGroupIsTold 56 = .ok (.ireturn, 1) := by decide +kernel
theorem dX0_eachGroupIsTold_57 : decode cX0_eachGroupIsTold 57 = .ok (.iinc 4 1, 3) := by decide +kernel
theorem dX0_eachGroupIsTold_60 : decode cX0_eachGroupIsTold 60 = .ok (.goto (-57), 3) := by decide +kernel
theorem dX0_eachGroupIsTold_63 : decode cX0_eachGroupIsTold 63 = .ok (.iconst 1, 1) := by decide +kernel
theorem dX0_eachGroupIsTold_64 : decode cX0_eachGroupIsTold 64 = .ok (.ireturn, 1) := by decide +kernel
theorem dX1_init_0 : decode cX1_init 0 = .ok (.aload_n 0, 1) := by decide +kernel
theorem dX1_init_1 : decode cX1_init 1 = .ok (.invokespecial 3, 3) := by decide +kernel
theorem dX1_init_4 : decode cX1_init 4 = .ok (.aload_n 0, 1) := by decide +kernel
theorem dX1_init_5 : decode cX1_init 5 = .ok (.iconst 4, 1) := by decide +kernel
theorem dX1_init_6 : decode cX1_init 6 = .ok (.newarray .int, 2) := by decide +kernel
theorem dX1_init_8 : decode cX1_init 8 = .ok (.putfield 9, 3) := by decide +kernel
theorem dX1_init_11 : decode cX1_init 11 = .ok (.aload_n 0, 1) := by decide +kernel
theorem dX1_init_12 : decode cX1_init 12 = .ok (.bipush 12, 2) := by decide +kernel
theorem dX1_init_14 : decode cX1_init 14 = .ok (.newarray .int, 2) := by decide +kernel
theorem dX1_init_16 : decode cX1_init 16 = .ok (.putfield 15, 3) := by decide +kernel
theorem dX1_init_19 : decode cX1_init 19 = .ok (.aload_n 0, 1) := by decide +kernel
theorem dX1_init_20 : decode cX1_init 20 = .ok (.bipush 12, 2) := by decide +kernel
theorem dX1_init_22 : decode cX1_init 22 = .ok (.newarray .int, 2) := by decide +kernel
theorem dX1_init_24 : decode cX1_init 24 = .ok (.putfield 18, 3) := by decide +kernel
theorem dX1_init_27 : decode cX1_init 27 = .ok (.return_, 1) := by decide +kernel
theorem dX1_begin_0 : decode cX1_begin 0 = .ok (.aload_n 0, 1) := by decide +kernel
theorem dX1_begin_1 : decode cX1_begin 1 = .ok (.iload_n 1, 1) := by decide +kernel
theorem dX1_begin_2 : decode cX1_begin 2 = .ok (.putfield 21, 3) := by decide +kernel
theorem dX1_begin_5 : decode cX1_begin 5 = .ok (.aload_n 0, 1) := by decide +kernel
theorem dX1_begin_6 : decode cX1_begin 6 = .ok (.getfield 9, 3) := by decide +kernel
theorem dX1_begin_9 : decode cX1_begin 9 = .ok (.iconst 0, 1) := by decide +kernel
theorem dX1_begin_10 : decode cX1_begin 10 = .ok (.invokestatic 25, 3) := by decide +kernel
theorem dX1_begin_13 : decode cX1_begin 13 = .ok (.aload_n 0, 1) := by decide +kernel
theorem dX1_begin_14 : decode cX1_begin 14 = .ok (.iconst 0, 1) := by decide +kernel
theorem dX1_begin_15 : decode cX1_begin 15 = .ok (.putfield 31, 3) := by decide +kernel
theorem dX1_begin_18 : decode cX1_begin 18 = .ok (.return_, 1) := by decide +kernel
theorem dX1_copy_0 : decode cX1_copy 0 = .ok (.aload_n 0, 1) := by decide +kernel
theorem dX1_copy_1 : decode cX1_copy 1 = .ok (.aload_n 1, 1) := by decide +kernel
theorem dX1_copy_2 : decode cX1_copy 2 = .ok (.getfield 21, 3) := by decide +kernel
theorem dX1_copy_5 : decode cX1_copy 5 = .ok (.putfield 21, 3) := by decide +kernel
theorem dX1_copy_8 : decode cX1_copy 8 = .ok (.iconst 0, 1) := by decide +kernel
theorem dX1_copy_9 : decode cX1_copy 9 = .ok (.istore_n 2, 1) := by decide +kernel
theorem dX1_copy_10 : decode cX1_copy 10 = .ok (.iload_n 2, 1) := by decide +kernel
theorem dX1_copy_11 : decode cX1_copy 11 = .ok (.iconst 4, 1) := by decide +kernel
theorem dX1_copy_12 : decode cX1_copy 12 = .ok (.if_icmp .ge 25, 3) := by decide +kernel
theorem dX1_copy_15 : decode cX1_copy 15 = .ok (.aload_n 0, 1) := by decide +kernel
theorem dX1_copy_16 : decode cX1_copy 16 = .ok (.getfield 9, 3) := by decide +kernel
theorem dX1_copy_19 : decode cX1_copy 19 = .ok (.iload_n 2, 1) := by decide +kernel
theorem dX1_copy_20 : decode cX1_copy 20 = .ok (.aload_n 1, 1) := by decide +kernel
theorem dX1_copy_21 : decode cX1_copy 21 = .ok (.getfield 9, 3) := by decide +kernel
theorem dX1_copy_24 : decode cX1_copy 24 = .ok (.iload_n 2, 1) := by decide +kernel
theorem dX1_copy_25 : decode cX1_copy 25 = .ok (.invokestatic 34, 3) := by decide +kernel
theorem dX1_copy_28 : decode cX1_copy 28 = .ok (.invokestatic 38, 3) := by decide +kernel
theorem dX1_copy_31 : decode cX1_copy 31 = .ok (.iinc 2 1, 3) := by decide +kernel
theorem dX1_copy_34 : decode cX1_copy 34 = .ok (.goto (-24), 3) := by decide +kernel
theorem dX1_copy_37 : decode cX1_copy 37 = .ok (.iconst 0, 1) := by decide +kernel
theorem dX1_copy_38 : decode cX1_copy 38 = .ok (.istore_n 2, 1) := by decide +kernel
theorem dX1_copy_39 : decode cX1_copy 39 = .ok (.iload_n 2, 1) := by decide +kernel
theorem dX1_copy_40 : decode cX1_copy 40 = .ok (.bipush 12, 2) := by decide +kernel
theorem dX1_copy_42 : decode cX1_copy 42 = .ok (.if_icmp .ge 41, 3) := by decide +kernel
theorem dX1_copy_45 : decode cX1_copy 45 = .ok (.aload_n 0, 1) := by decide +kernel
theorem dX1_copy_46 : decode cX1_copy 46 = .ok (.getfield 15, 3) := by decide +kernel
theorem dX1_copy_49 : decode cX1_copy 49 = .ok (.iload_n 2, 1) := by decide +kernel
theorem dX1_copy_50 : decode cX1_copy 50 = .ok (.aload_n 1, 1) := by decide +kernel
theorem dX1_copy_51 : decode cX1_copy 51 = .ok (.getfield 15, 3) := by decide +kernel
theorem dX1_copy_54 : decode cX1_copy 54 = .ok (.iload_n 2, 1) := by decide +kernel
theorem dX1_copy_55 : decode cX1_copy 55 = .ok (.invokestatic 34, 3) := by decide +kernel
theorem dX1_copy_58 : decode cX1_copy 58 = .ok (.invokestatic 38, 3) := by decide +kernel
theorem dX1_copy_61 : decode cX1_copy 61 = .ok (.aload_n 0, 1) := by decide +kernel
theorem dX1_copy_62 : decode cX1_copy 62 = .ok (.getfield 18, 3) := by decide +kernel
theorem dX1_copy_65 : decode cX1_copy 65 = .ok (.iload_n 2, 1) := by decide +kernel
theorem dX1_copy_66 : decode cX1_copy 66 = .ok (.aload_n 1, 1) := by decide +kernel
theorem dX1_copy_67 : decode cX1_copy 67 = .ok (.getfield 18, 3) := by decide +kernel
theorem dX1_copy_70 : decode cX1_copy 70 = .ok (.iload_n 2, 1) := by decide +kernel
theorem dX1_copy_71 : decode cX1_copy 71 = .ok (.invokestatic 34, 3) := by decide +kernel
theorem dX1_copy_74 : decode cX1_copy 74 = .ok (.invokestatic 38, 3) := by decide +kernel
theorem dX1_copy_77 : decode cX1_copy 77 = .ok (.iinc 2 1, 3) := by decide +kernel
theorem dX1_copy_80 : decode cX1_copy 80 = .ok (.goto (-41), 3) := by decide +kernel
theorem dX1_copy_83 : decode cX1_copy 83 = .ok (.aload_n 0, 1) := by decide +kernel
theorem dX1_copy_84 : decode cX1_copy 84 = .ok (.aload_n 1, 1) := by decide +kernel
theorem dX1_copy_85 : decode cX1_copy 85 = .ok (.getfield 31, 3) := by decide +kernel
theorem dX1_copy_88 : decode cX1_copy 88 = .ok (.putfield 31, 3) := by decide +kernel
theorem dX1_copy_91 : decode cX1_copy 91 = .ok (.return_, 1) := by decide +kernel
theorem dX1_isFull_0 : decode cX1_isFull 0 = .ok (.aload_n 0, 1) := by decide +kernel
theorem dX1_isFull_1 : decode cX1_isFull 1 = .ok (.getfield 31, 3) := by decide +kernel
theorem dX1_isFull_4 : decode cX1_isFull 4 = .ok (.bipush 12, 2) := by decide +kernel
theorem dX1_isFull_6 : decode cX1_isFull 6 = .ok (.if_icmp .lt 7, 3) := by decide +kernel
theorem dX1_isFull_9 : decode cX1_isFull 9 = .ok (.iconst 1, 1) := by decide +kernel
theorem dX1_isFull_10 : decode cX1_isFull 10 = .ok (.goto 4, 3) := by decide +kernel
theorem dX1_isFull_13 : decode cX1_isFull 13 = .ok (.iconst 0, 1) := by decide +kernel
theorem dX1_isFull_14 : decode cX1_isFull 14 = .ok (.ireturn, 1) := by decide +kernel
theorem dX1_add_0 : decode cX1_add 0 = .ok (.aload_n 0, 1) := by decide +kernel
theorem dX1_add_1 : decode cX1_add 1 = .ok (.invokevirtual 42, 3) := by decide +kernel
theorem dX1_add_4 : decode cX1_add 4 = .ok (.ifCond .ne 37, 3) := by decide +kernel
theorem dX1_add_7 : decode cX1_add 7 = .ok (.aload_n 0, 1) := by decide +kernel
theorem dX1_add_8 : decode cX1_add 8 = .ok (.getfield 15, 3) := by decide +kernel
theorem dX1_add_11 : decode cX1_add 11 = .ok (.aload_n 0, 1) := by decide +kernel
theorem dX1_add_12 : decode cX1_add 12 = .ok (.getfield 31, 3) := by decide +kernel
theorem dX1_add_15 : decode cX1_add 15 = .ok (.iload_n 1, 1) := by decide +kernel
theorem dX1_add_16 : decode cX1_add 16 = .ok (.invokestatic 38, 3) := by decide +kernel
theorem dX1_add_19 : decode cX1_add 19 = .ok (.aload_n 0, 1) := by decide +kernel
theorem dX1_add_20 : decode cX1_add 20 = .ok (.getfield 18, 3) := by decide +kernel
theorem dX1_add_23 : decode cX1_add 23 = .ok (.aload_n 0, 1) := by decide +kernel
theorem dX1_add_24 : decode cX1_add 24 = .ok (.getfield 31, 3) := by decide +kernel
theorem dX1_add_27 : decode cX1_add 27 = .ok (.iload_n 2, 1) := by decide +kernel
theorem dX1_add_28 : decode cX1_add 28 = .ok (.invokestatic 38, 3) := by decide +kernel
theorem dX1_add_31 : decode cX1_add 31 = .ok (.aload_n 0, 1) := by decide +kernel
theorem dX1_add_32 : decode cX1_add 32 = .ok (.dup, 1) := by decide +kernel
theorem dX1_add_33 : decode cX1_add 33 = .ok (.getfield 31, 3) := by decide +kernel
theorem dX1_add_36 : decode cX1_add 36 = .ok (.iconst 1, 1) := by decide +kernel
theorem dX1_add_37 : decode cX1_add 37 = .ok (.iadd, 1) := by decide +kernel
theorem dX1_add_38 : decode cX1_add 38 = .ok (.putfield 31, 3) := by decide +kernel
theorem dX1_add_41 : decode cX1_add 41 = .ok (.return_, 1) := by decide +kernel
theorem dX2_init_0 : decode cX2_init 0 = .ok (.aload_n 0, 1) := by decide +kernel
theorem dX2_init_1 : decode cX2_init 1 = .ok (.invokespecial 1, 3) := by decide +kernel
theorem dX2_init_4 : decode cX2_init 4 = .ok (.aload_n 0, 1) := by decide +kernel
theorem dX2_init_5 : decode cX2_init 5 = .ok (.iconst 0, 1) := by decide +kernel
theorem dX2_init_6 : decode cX2_init 6 = .ok (.iload_n 1, 1) := by decide +kernel
theorem dX2_init_7 : decode cX2_init 7 = .ok (.invokestatic 7, 3) := by decide +kernel
theorem dX2_init_10 : decode cX2_init 10 = .ok (.anewarray 13, 3) := by decide +kernel
theorem dX2_init_13 : decode cX2_init 13 = .ok (.putfield 15, 3) := by decide +kernel
theorem dX2_init_16 : decode cX2_init 16 = .ok (.iconst 0, 1) := by decide +kernel
theorem dX2_init_17 : decode cX2_init 17 = .ok (.istore_n 2, 1) := by decide +kernel
theorem dX2_init_18 : decode cX2_init 18 = .ok (.iload_n 2, 1) := by decide +kernel
theorem dX2_init_19 : decode cX2_init 19 = .ok (.aload_n 0, 1) := by decide +kernel
theorem dX2_init_20 : decode cX2_init 20 = .ok (.getfield 15, 3) := by decide +kernel
theorem dX2_init_23 : decode cX2_init 23 = .ok (.arraylength, 1) := by decide +kernel
theorem dX2_init_24 : decode cX2_init 24 = .ok (.if_icmp .ge 22, 3) := by decide +kernel
theorem dX2_init_27 : decode cX2_init 27 = .ok (.aload_n 0, 1) := by decide +kernel
theorem dX2_init_28 : decode cX2_init 28 = .ok (.getfield 15, 3) := by decide +kernel
theorem dX2_init_31 : decode cX2_init 31 = .ok (.iload_n 2, 1) := by decide +kernel
theorem dX2_init_32 : decode cX2_init 32 = .ok (.new 13, 3) := by decide +kernel
theorem dX2_init_35 : decode cX2_init 35 = .ok (.dup, 1) := by decide +kernel
theorem dX2_init_36 : decode cX2_init 36 = .ok (.invokespecial 21, 3) := by decide +kernel
theorem dX2_init_39 : decode cX2_init 39 = .ok (.aastore, 1) := by decide +kernel
theorem dX2_init_40 : decode cX2_init 40 = .ok (.iinc 2 1, 3) := by decide +kernel
theorem dX2_init_43 : decode cX2_init 43 = .ok (.goto (-25), 3) := by decide +kernel
theorem dX2_init_46 : decode cX2_init 46 = .ok (.return_, 1) := by decide +kernel
theorem dX2_clear_0 : decode cX2_clear 0 = .ok (.aload_n 0, 1) := by decide +kernel
theorem dX2_clear_1 : decode cX2_clear 1 = .ok (.iconst 0, 1) := by decide +kernel
theorem dX2_clear_2 : decode cX2_clear 2 = .ok (.putfield 22, 3) := by decide +kernel
theorem dX2_clear_5 : decode cX2_clear 5 = .ok (.return_, 1) := by decide +kernel
theorem dX2_isFull_0 : decode cX2_isFull 0 = .ok (.aload_n 0, 1) := by decide +kernel
theorem dX2_isFull_1 : decode cX2_isFull 1 = .ok (.getfield 22, 3) := by decide +kernel
theorem dX2_isFull_4 : decode cX2_isFull 4 = .ok (.aload_n 0, 1) := by decide +kernel
theorem dX2_isFull_5 : decode cX2_isFull 5 = .ok (.getfield 15, 3) := by decide +kernel
theorem dX2_isFull_8 : decode cX2_isFull 8 = .ok (.arraylength, 1) := by decide +kernel
theorem dX2_isFull_9 : decode cX2_isFull 9 = .ok (.if_icmp .lt 7, 3) := by decide +kernel
theorem dX2_isFull_12 : decode cX2_isFull 12 = .ok (.iconst 1, 1) := by decide +kernel
theorem dX2_isFull_13 : decode cX2_isFull 13 = .ok (.goto 4, 3) := by decide +kernel
theorem dX2_isFull_16 : decode cX2_isFull 16 = .ok (.iconst 0, 1) := by decide +kernel
theorem dX2_isFull_17 : decode cX2_isFull 17 = .ok (.ireturn, 1) := by decide +kernel
theorem dX2_push_0 : decode cX2_push 0 = .ok (.aload_n 0, 1) := by decide +kernel
theorem dX2_push_1 : decode cX2_push 1 = .ok (.invokevirtual 26, 3) := by decide +kernel
theorem dX2_push_4 : decode cX2_push 4 = .ok (.ifCond .eq 7, 3) := by decide +kernel
theorem dX2_push_7 : decode cX2_push 7 = .ok (.aload_n 0, 1) := by decide +kernel
theorem dX2_push_8 : decode cX2_push 8 = .ok (.invokevirtual 30, 3) := by decide +kernel
theorem dX2_push_11 : decode cX2_push 11 = .ok (.aload_n 0, 1) := by decide +kernel
theorem dX2_push_12 : decode cX2_push 12 = .ok (.getfield 22, 3) := by decide +kernel
theorem dX2_push_15 : decode cX2_push 15 = .ok (.aload_n 0, 1) := by decide +kernel
theorem dX2_push_16 : decode cX2_push 16 = .ok (.getfield 15, 3) := by decide +kernel
theorem dX2_push_19 : decode cX2_push 19 = .ok (.arraylength, 1) := by decide +kernel
theorem dX2_push_20 : decode cX2_push 20 = .ok (.if_icmp .ge 38, 3) := by decide +kernel
theorem dX2_push_23 : decode cX2_push 23 = .ok (.aload_n 0, 1) := by decide +kernel
theorem dX2_push_24 : decode cX2_push 24 = .ok (.getfield 15, 3) := by decide +kernel
theorem dX2_push_27 : decode cX2_push 27 = .ok (.aload_n 0, 1) := by decide +kernel
theorem dX2_push_28 : decode cX2_push 28 = .ok (.getfield 22, 3) := by decide +kernel
theorem dX2_push_31 : decode cX2_push 31 = .ok (.aaload, 1) := by decide +kernel
theorem dX2_push_32 : decode cX2_push 32 = .ok (.ifnull 26, 3) := by decide +kernel
theorem dX2_push_35 : decode cX2_push 35 = .ok (.aload_n 0, 1) := by decide +kernel
theorem dX2_push_36 : decode cX2_push 36 = .ok (.getfield 15, 3) := by decide +kernel
theorem dX2_push_39 : decode cX2_push 39 = .ok (.aload_n 0, 1) := by decide +kernel
theorem dX2_push_40 : decode cX2_push 40 = .ok (.getfield 22, 3) := by decide +kernel
theorem dX2_push_43 : decode cX2_push 43 = .ok (.aaload, 1) := by decide +kernel
theorem dX2_push_44 : decode cX2_push 44 = .ok (.aload_n 1, 1) := by decide +kernel
theorem dX2_push_45 : decode cX2_push 45 = .ok (.invokevirtual 33, 3) := by decide +kernel
theorem dX2_push_48 : decode cX2_push 48 = .ok (.aload_n 0, 1) := by decide +kernel
theorem dX2_push_49 : decode cX2_push 49 = .ok (.dup, 1) := by decide +kernel
theorem dX2_push_50 : decode cX2_push 50 = .ok (.getfield 22, 3) := by decide +kernel
theorem dX2_push_53 : decode cX2_push 53 = .ok (.iconst 1, 1) := by decide +kernel
theorem dX2_push_54 : decode cX2_push 54 = .ok (.iadd, 1) := by decide +kernel
theorem dX2_push_55 : decode cX2_push 55 = .ok (.putfield 22, 3) := by decide +kernel
theorem dX2_push_58 : decode cX2_push 58 = .ok (.return_, 1) := by decide +kernel
theorem dX2_dropLowest_0 : decode cX2_dropLowest 0 = .ok (.aload_n 0, 1) := by decide +kernel
theorem dX2_dropLowest_1 : decode cX2_dropLowest 1 = .ok (.getfield 15, 3) := by decide +kernel
theorem dX2_dropLowest_4 : decode cX2_dropLowest 4 = .ok (.arraylength, 1) := by decide +kernel
theorem dX2_dropLowest_5 : decode cX2_dropLowest 5 = .ok (.ifCond .eq 10, 3) := by decide +kernel
theorem dX2_dropLowest_8 : decode cX2_dropLowest 8 = .ok (.aload_n 0, 1) := by decide +kernel
theorem dX2_dropLowest_9 : decode cX2_dropLowest 9 = .ok (.getfield 22, 3) := by decide +kernel
theorem dX2_dropLowest_12 : decode cX2_dropLowest 12 = .ok (.ifCond .ne 4, 3) := by decide +kernel
theorem dX2_dropLowest_15 : decode cX2_dropLowest 15 = .ok (.return_, 1) := by decide +kernel
theorem dX2_dropLowest_16 : decode cX2_dropLowest 16 = .ok (.aload_n 0, 1) := by decide +kernel
theorem dX2_dropLowest_17 : decode cX2_dropLowest 17 = .ok (.getfield 15, 3) := by decide +kernel
theorem dX2_dropLowest_20 : decode cX2_dropLowest 20 = .ok (.iconst 0, 1) := by decide +kernel
theorem dX2_dropLowest_21 : decode cX2_dropLowest 21 = .ok (.aaload, 1) := by decide +kernel
theorem dX2_dropLowest_22 : decode cX2_dropLowest 22 = .ok (.astore_n 1, 1) := by decide +kernel
theorem dX2_dropLowest_23 : decode cX2_dropLowest 23 = .ok (.iconst 1, 1) := by decide +kernel
theorem dX2_dropLowest_24 : decode cX2_dropLowest 24 = .ok (.istore_n 2, 1) := by decide +kernel
theorem dX2_dropLowest_25 : decode cX2_dropLowest 25 = .ok (.iload_n 2, 1) := by decide +kernel
theorem dX2_dropLowest_26 : decode cX2_dropLowest 26 = .ok (.aload_n 0, 1) := by decide +kernel
theorem dX2_dropLowest_27 : decode cX2_dropLowest 27 = .ok (.getfield 15, 3) := by decide +kernel
theorem dX2_dropLowest_30 : decode cX2_dropLowest 30 = .ok (.arraylength, 1) := by decide +kernel
theorem dX2_dropLowest_31 : decode cX2_dropLowest 31 = .ok (.if_icmp .ge 23, 3) := by decide +kernel
theorem dX2_dropLowest_34 : decode cX2_dropLowest 34 = .ok (.aload_n 0, 1) := by decide +kernel
theorem dX2_dropLowest_35 : decode cX2_dropLowest 35 = .ok (.getfield 15, 3) := by decide +kernel
theorem dX2_dropLowest_38 : decode cX2_dropLowest 38 = .ok (.iload_n 2, 1) := by decide +kernel
theorem dX2_dropLowest_39 : decode cX2_dropLowest 39 = .ok (.iconst 1, 1) := by decide +kernel
theorem dX2_dropLowest_40 : decode cX2_dropLowest 40 = .ok (.isub, 1) := by decide +kernel
theorem dX2_dropLowest_41 : decode cX2_dropLowest 41 = .ok (.aload_n 0, 1) := by decide +kernel
theorem dX2_dropLowest_42 : decode cX2_dropLowest 42 = .ok (.getfield 15, 3) := by decide +kernel
theorem dX2_dropLowest_45 : decode cX2_dropLowest 45 = .ok (.iload_n 2, 1) := by decide +kernel
theorem dX2_dropLowest_46 : decode cX2_dropLowest 46 = .ok (.aaload, 1) := by decide +kernel
theorem dX2_dropLowest_47 : decode cX2_dropLowest 47 = .ok (.aastore, 1) := by decide +kernel
theorem dX2_dropLowest_48 : decode cX2_dropLowest 48 = .ok (.iinc 2 1, 3) := by decide +kernel
theorem dX2_dropLowest_51 : decode cX2_dropLowest 51 = .ok (.goto (-26), 3) := by decide +kernel
theorem dX2_dropLowest_54 : decode cX2_dropLowest 54 = .ok (.aload_n 0, 1) := by decide +kernel
theorem dX2_dropLowest_55 : decode cX2_dropLowest 55 = .ok (.getfield 15, 3) := by decide +kernel
theorem dX2_dropLowest_58 : decode cX2_dropLowest 58 = .ok (.aload_n 0, 1) := by decide +kernel
theorem dX2_dropLowest_59 : decode cX2_dropLowest 59 = .ok (.getfield 15, 3) := by decide +kernel
theorem dX2_dropLowest_62 : decode cX2_dropLowest 62 = .ok (.arraylength, 1) := by decide +kernel
theorem dX2_dropLowest_63 : decode cX2_dropLowest 63 = .ok (.iconst 1, 1) := by decide +kernel
theorem dX2_dropLowest_64 : decode cX2_dropLowest 64 = .ok (.isub, 1) := by decide +kernel
theorem dX2_dropLowest_65 : decode cX2_dropLowest 65 = .ok (.aload_n 1, 1) := by decide +kernel
theorem dX2_dropLowest_66 : decode cX2_dropLowest 66 = .ok (.aastore, 1) := by decide +kernel
theorem dX2_dropLowest_67 : decode cX2_dropLowest 67 = .ok (.aload_n 0, 1) := by decide +kernel
theorem dX2_dropLowest_68 : decode cX2_dropLowest 68 = .ok (.dup, 1) := by decide +kernel
theorem dX2_dropLowest_69 : decode cX2_dropLowest 69 = .ok (.getfield 22, 3) := by decide +kernel
theorem dX2_dropLowest_72 : decode cX2_dropLowest 72 = .ok (.iconst 1, 1) := by decide +kernel
theorem dX2_dropLowest_73 : decode cX2_dropLowest 73 = .ok (.isub, 1) := by decide +kernel
theorem dX2_dropLowest_74 : decode cX2_dropLowest 74 = .ok (.putfield 22, 3) := by decide +kernel
theorem dX2_dropLowest_77 : decode cX2_dropLowest 77 = .ok (.return_, 1) := by decide +kernel
theorem dX2_popInto_0 : decode cX2_popInto 0 = .ok (.aload_n 0, 1) := by decide +kernel
theorem dX2_popInto_1 : decode cX2_popInto 1 = .ok (.getfield 22, 3) := by decide +kernel
theorem dX2_popInto_4 : decode cX2_popInto 4 = .ok (.ifCond .le 29, 3) := by decide +kernel
theorem dX2_popInto_7 : decode cX2_popInto 7 = .ok (.aload_n 0, 1) := by decide +kernel
theorem dX2_popInto_8 : decode cX2_popInto 8 = .ok (.getfield 22, 3) := by decide +kernel
theorem dX2_popInto_11 : decode cX2_popInto 11 = .ok (.aload_n 0, 1) := by decide +kernel
theorem dX2_popInto_12 : decode cX2_popInto 12 = .ok (.getfield 15, 3) := by decide +kernel
theorem dX2_popInto_15 : decode cX2_popInto 15 = .ok (.arraylength, 1) := by decide +kernel
theorem dX2_popInto_16 : decode cX2_popInto 16 = .ok (.if_icmp .gt 17, 3) := by decide +kernel
theorem dX2_popInto_19 : decode cX2_popInto 19 = .ok (.aload_n 0, 1) := by decide +kernel
theorem dX2_popInto_20 : decode cX2_popInto 20 = .ok (.getfield 15, 3) := by decide +kernel
theorem dX2_popInto_23 : decode cX2_popInto 23 = .ok (.aload_n 0, 1) := by decide +kernel
theorem dX2_popInto_24 : decode cX2_popInto 24 = .ok (.getfield 22, 3) := by decide +kernel
theorem dX2_popInto_27 : decode cX2_popInto 27 = .ok (.iconst 1, 1) := by decide +kernel
theorem dX2_popInto_28 : decode cX2_popInto 28 = .ok (.isub, 1) := by decide +kernel
theorem dX2_popInto_29 : decode cX2_popInto 29 = .ok (.aaload, 1) := by decide +kernel
theorem dX2_popInto_30 : decode cX2_popInto 30 = .ok (.ifnonnull 5, 3) := by decide +kernel
theorem dX2_popInto_33 : decode cX2_popInto 33 = .ok (.iconst 0, 1) := by decide +kernel
theorem dX2_popInto_34 : decode cX2_popInto 34 = .ok (.ireturn, 1) := by decide +kernel
theorem dX2_popInto_35 : decode cX2_popInto 35 = .ok (.aload_n 0, 1) := by decide +kernel
theorem dX2_popInto_36 : decode cX2_popInto 36 = .ok (.dup, 1) := by decide +kernel
theorem dX2_popInto_37 : decode cX2_popInto 37 = .ok (.getfield 22, 3) := by decide +kernel
theorem dX2_popInto_40 : decode cX2_popInto 40 = .ok (.iconst 1, 1) := by decide +kernel
theorem dX2_popInto_41 : decode cX2_popInto 41 = .ok (.isub, 1) := by decide +kernel
theorem dX2_popInto_42 : decode cX2_popInto 42 = .ok (.putfield 22, 3) := by decide +kernel
theorem dX2_popInto_45 : decode cX2_popInto 45 = .ok (.aload_n 1, 1) := by decide +kernel
theorem dX2_popInto_46 : decode cX2_popInto 46 = .ok (.aload_n 0, 1) := by decide +kernel
theorem dX2_popInto_47 : decode cX2_popInto 47 = .ok (.getfield 15, 3) := by decide +kernel
theorem dX2_popInto_50 : decode cX2_popInto 50 = .ok (.aload_n 0, 1) := by decide +kernel
theorem dX2_popInto_51 : decode cX2_popInto 51 = .ok (.getfield 22, 3) := by decide +kernel
theorem dX2_popInto_54 : decode cX2_popInto 54 = .ok (.aaload, 1) := by decide +kernel
theorem dX2_popInto_55 : decode cX2_popInto 55 = .ok (.invokevirtual 33, 3) := by decide +kernel
theorem dX2_popInto_58 : decode cX2_popInto 58 = .ok (.iconst 1, 1) := by decide +kernel
theorem dX2_popInto_59 : decode cX2_popInto 59 = .ok (.ireturn, 1) := by decide +kernel
theorem dX3_init_0 : decode cX3_init 0 = .ok (.aload_n 0, 1) := by decide +kernel
theorem dX3_init_1 : decode cX3_init 1 = .ok (.invokespecial 3, 3) := by decide +kernel
theorem dX3_init_4 : decode cX3_init 4 = .ok (.aload_n 0, 1) := by decide +kernel
theorem dX3_init_5 : decode cX3_init 5 = .ok (.sipush 200, 3) := by decide +kernel
theorem dX3_init_8 : decode cX3_init 8 = .ok (.newarray .char, 2) := by decide +kernel
theorem dX3_init_10 : decode cX3_init 10 = .ok (.putfield 9, 3) := by decide +kernel
theorem dX3_init_13 : decode cX3_init 13 = .ok (.aload_n 0, 1) := by decide +kernel
theorem dX3_init_14 : decode cX3_init 14 = .ok (.iconst 4, 1) := by decide +kernel
theorem dX3_init_15 : decode cX3_init 15 = .ok (.newarray .int, 2) := by decide +kernel
theorem dX3_init_17 : decode cX3_init 17 = .ok (.putfield 15, 3) := by decide +kernel
theorem dX3_init_20 : decode cX3_init 20 = .ok (.return_, 1) := by decide +kernel
theorem dX3_add_0 : decode cX3_add 0 = .ok (.aload_n 0, 1) := by decide +kernel
theorem dX3_add_1 : decode cX3_add 1 = .ok (.getfield 19, 3) := by decide +kernel
theorem dX3_add_4 : decode cX3_add 4 = .ok (.aload_n 0, 1) := by decide +kernel
theorem dX3_add_5 : decode cX3_add 5 = .ok (.getfield 9, 3) := by decide +kernel
theorem dX3_add_8 : decode cX3_add 8 = .ok (.arraylength, 1) := by decide +kernel
theorem dX3_add_9 : decode cX3_add 9 = .ok (.if_icmp .lt 5, 3) := by decide +kernel
theorem dX3_add_12 : decode cX3_add 12 = .ok (.iconst 0, 1) := by decide +kernel
theorem dX3_add_13 : decode cX3_add 13 = .ok (.ireturn, 1) := by decide +kernel
theorem dX3_add_14 : decode cX3_add 14 = .ok (.aload_n 0, 1) := by decide +kernel
theorem dX3_add_15 : decode cX3_add 15 = .ok (.getfield 9, 3) := by decide +kernel
theorem dX3_add_18 : decode cX3_add 18 = .ok (.aload_n 0, 1) := by decide +kernel
theorem dX3_add_19 : decode cX3_add 19 = .ok (.getfield 19, 3) := by decide +kernel
theorem dX3_add_22 : decode cX3_add 22 = .ok (.iload_n 1, 1) := by decide +kernel
theorem dX3_add_23 : decode cX3_add 23 = .ok (.i2c, 1) := by decide +kernel
theorem dX3_add_24 : decode cX3_add 24 = .ok (.castore, 1) := by decide +kernel
theorem dX3_add_25 : decode cX3_add 25 = .ok (.aload_n 0, 1) := by decide +kernel
theorem dX3_add_26 : decode cX3_add 26 = .ok (.dup, 1) := by decide +kernel
theorem dX3_add_27 : decode cX3_add 27 = .ok (.getfield 19, 3) := by decide +kernel
theorem dX3_add_30 : decode cX3_add 30 = .ok (.iconst 1, 1) := by decide +kernel
theorem dX3_add_31 : decode cX3_add 31 = .ok (.iadd, 1) := by decide +kernel
theorem dX3_add_32 : decode cX3_add 32 = .ok (.putfield 19, 3) := by decide +kernel
theorem dX3_add_35 : decode cX3_add 35 = .ok (.iconst 1, 1) := by decide +kernel
theorem dX3_add_36 : decode cX3_add 36 = .ok (.ireturn, 1) := by decide +kernel
theorem dX3_clear_0 : decode cX3_clear 0 = .ok (.aload_n 0, 1) := by decide +kernel
theorem dX3_clear_1 : decode cX3_clear 1 = .ok (.iconst 0, 1) := by decide +kernel
theorem dX3_clear_2 : decode cX3_clear 2 = .ok (.putfield 19, 3) := by decide +kernel
theorem dX3_clear_5 : decode cX3_clear 5 = .ok (.return_, 1) := by decide +kernel
theorem dX3_readInto_0 : decode cX3_readInto 0 = .ok (.aload_n 1, 1) := by decide +kernel
theorem dX3_readInto_1 : decode cX3_readInto 1 = .ok (.invokevirtual 23, 3) := by decide +kernel
theorem dX3_readInto_4 : decode cX3_readInto 4 = .ok (.iconst 0, 1) := by decide +kernel
theorem dX3_readInto_5 : decode cX3_readInto 5 = .ok (.istore_n 2, 1) := by decide +kernel
theorem dX3_readInto_6 : decode cX3_readInto 6 = .ok (.iconst 0, 1) := by decide +kernel
theorem dX3_readInto_7 : decode cX3_readInto 7 = .ok (.istore_n 3, 1) := by decide +kernel
theorem dX3_readInto_8 : decode cX3_readInto 8 = .ok (.iload_n 3, 1) := by decide +kernel
theorem dX3_readInto_9 : decode cX3_readInto 9 = .ok (.sipush 200, 3) := by decide +kernel
theorem dX3_readInto_12 : decode cX3_readInto 12 = .ok (.if_icmp .ge 58, 3) := by decide +kernel
theorem dX3_readInto_15 : decode cX3_readInto 15 = .ok (.iload_n 2, 1) := by decide +kernel
theorem dX3_readInto_16 : decode cX3_readInto 16 = .ok (.aload_n 0, 1) := by decide +kernel
theorem dX3_readInto_17 : decode cX3_readInto 17 = .ok (.getfield 19, 3) := by decide +kernel
theorem dX3_readInto_20 : decode cX3_readInto 20 = .ok (.if_icmp .ge 50, 3) := by decide +kernel
theorem dX3_readInto_23 : decode cX3_readInto 23 = .ok (.aload_n 0, 1) := by decide +kernel
theorem dX3_readInto_24 : decode cX3_readInto 24 = .ok (.iload_n 2, 1) := by decide +kernel
theorem dX3_readInto_25 : decode cX3_readInto 25 = .ok (.iconst 1, 1) := by decide +kernel
theorem dX3_readInto_26 : decode cX3_readInto 26 = .ok (.iadd, 1) := by decide +kernel
theorem dX3_readInto_27 : decode cX3_readInto 27 = .ok (.invokevirtual 28, 3) := by decide +kernel
theorem dX3_readInto_30 : decode cX3_readInto 30 = .ok (.istore 4, 2) := by decide +kernel
theorem dX3_readInto_32 : decode cX3_readInto 32 = .ok (.iload 4, 2) := by decide +kernel
theorem dX3_readInto_34 : decode cX3_readInto 34 = .ok (.bipush (-4), 2) := by decide +kernel
theorem dX3_readInto_36 : decode cX3_readInto 36 = .ok (.if_icmp .eq 23, 3) := by decide +kernel
theorem dX3_readInto_39 : decode cX3_readInto 39 = .ok (.aload_n 1, 1) := by decide +kernel
theorem dX3_readInto_40 : decode cX3_readInto 40 = .ok (.aload_n 0, 1) := by decide +kernel
theorem dX3_readInto_41 : decode cX3_readInto 41 = .ok (.iload_n 2, 1) := by decide +kernel
theorem dX3_readInto_42 : decode cX3_readInto 42 = .ok (.invokevirtual 32, 3) := by decide +kernel
theorem dX3_readInto_45 : decode cX3_readInto 45 = .ok (.aload_n 0, 1) := by decide +kernel
theorem dX3_readInto_46 : decode cX3_readInto 46 = .ok (.getfield 15, 3) := by decide +kernel
theorem dX3_readInto_49 : decode cX3_readInto 49 = .ok (.aload_n 0, 1) := by decide +kernel
theorem dX3_readInto_50 : decode cX3_readInto 50 = .ok (.getfield 35, 3) := by decide +kernel
theorem dX3_readInto_53 : decode cX3_readInto 53 = .ok (.invokevirtual 38, 3) := by decide +kernel
theorem dX3_readInto_56 : decode cX3_readInto 56 = .ok (.ifCond .ne 5, 3) := by decide +kernel
theorem dX3_readInto_59 : decode cX3_readInto 59 = .ok (.iload_n 2, 1) := by decide +kernel
theorem dX3_readInto_60 : decode cX3_readInto 60 = .ok (.ireturn, 1) := by decide +kernel
theorem dX3_readInto_61 : decode cX3_readInto 61 = .ok (.iload 4, 2) := by decide +kernel
theorem dX3_readInto_63 : decode cX3_readInto 63 = .ok (.istore_n 2, 1) := by decide +kernel
theorem dX3_readInto_64 : decode cX3_readInto 64 = .ok (.iinc 3 1, 3) := by decide +kernel
theorem dX3_readInto_67 : decode cX3_readInto 67 = .ok (.goto (-59), 3) := by decide +kernel
theorem dX3_readInto_70 : decode cX3_readInto 70 = .ok (.bipush (-4), 2) := by decide +kernel
theorem dX3_readInto_72 : decode cX3_readInto 72 = .ok (.ireturn, 1) := by decide +kernel
theorem dX3_readNumbers_0 : decode cX3_readNumbers 0 = .ok (.iload_n 1, 1) := by decide +kernel
theorem dX3_readNumbers_1 : decode cX3_readNumbers 1 = .ok (.istore_n 2, 1) := by decide +kernel
theorem dX3_readNumbers_2 : decode cX3_readNumbers 2 = .ok (.iconst 0, 1) := by decide +kernel
theorem dX3_readNumbers_3 : decode cX3_readNumbers 3 = .ok (.istore_n 3, 1) := by decide +kernel
theorem dX3_readNumbers_4 : decode cX3_readNumbers 4 = .ok (.iload_n 3, 1) := by decide +kernel
theorem dX3_readNumbers_5 : decode cX3_readNumbers 5 = .ok (.iconst 4, 1) := by decide +kernel
theorem dX3_readNumbers_6 : decode cX3_readNumbers 6 = .ok (.if_icmp .ge 82, 3) := by decide +kernel
theorem dX3_readNumbers_9 : decode cX3_readNumbers 9 = .ok (.aload_n 0, 1) := by decide +kernel
theorem dX3_readNumbers_10 : decode cX3_readNumbers 10 = .ok (.iload_n 2, 1) := by decide +kernel
theorem dX3_readNumbers_11 : decode cX3_readNumbers 11 = .ok (.invokevirtual 42, 3) := by decide +kernel
theorem dX3_readNumbers_14 : decode cX3_readNumbers 14 = .ok (.istore 4, 2) := by decide +kernel
theorem dX3_readNumbers_16 : decode cX3_readNumbers 16 = .ok (.iload 4, 2) := by decide +kernel
theorem dX3_readNumbers_18 : decode cX3_readNumbers 18 = .ok (.ifCond .ne 6, 3) := by decide +kernel
theorem dX3_readNumbers_21 : decode cX3_readNumbers 21 = .ok (.bipush (-4), 2) := by decide +kernel
theorem dX3_readNumbers_23 : decode cX3_readNumbers 23 = .ok (.ireturn, 1) := by decide +kernel
theorem dX3_readNumbers_24 : decode cX3_readNumbers 24 = .ok (.aload_n 0, 1) := by decide +kernel
theorem dX3_readNumbers_25 : decode cX3_readNumbers 25 = .ok (.getfield 15, 3) := by decide +kernel
theorem dX3_readNumbers_28 : decode cX3_readNumbers 28 = .ok (.iload_n 3, 1) := by decide +kernel
theorem dX3_readNumbers_29 : decode cX3_readNumbers 29 = .ok (.aload_n 0, 1) := by decide +kernel
theorem dX3_readNumbers_30 : decode cX3_readNumbers 30 = .ok (.iload_n 2, 1) := by decide +kernel
theorem dX3_readNumbers_31 : decode cX3_readNumbers 31 = .ok (.iload 4, 2) := by decide +kernel
theorem dX3_readNumbers_33 : decode cX3_readNumbers 33 = .ok (.invokevirtual 45, 3) := by decide +kernel
theorem dX3_readNumbers_36 : decode cX3_readNumbers 36 = .ok (.invokestatic 49, 3) := by decide +kernel
theorem dX3_readNumbers_39 : decode cX3_readNumbers 39 = .ok (.aload_n 0, 1) := by decide +kernel
theorem dX3_readNumbers_40 : decode cX3_readNumbers 40 = .ok (.iload_n 3, 1) := by decide +kernel
theorem dX3_readNumbers_41 : decode cX3_readNumbers 41 = .ok (.iconst 1, 1) := by decide +kernel
theorem dX3_readNumbers_42 : decode cX3_readNumbers 42 = .ok (.iadd, 1) := by decide +kernel
theorem dX3_readNumbers_43 : decode cX3_readNumbers 43 = .ok (.putfield 35, 3) := by decide +kernel
theorem dX3_readNumbers_46 : decode cX3_readNumbers 46 = .ok (.aload_n 0, 1) := by decide +kernel
theorem dX3_readNumbers_47 : decode cX3_readNumbers 47 = .ok (.iload_n 2, 1) := by decide +kernel
theorem dX3_readNumbers_48 : decode cX3_readNumbers 48 = .ok (.iload 4, 2) := by decide +kernel
theorem dX3_readNumbers_50 : decode cX3_readNumbers 50 = .ok (.iadd, 1) := by decide +kernel
theorem dX3_readNumbers_51 : decode cX3_readNumbers 51 = .ok (.invokevirtual 32, 3) := by decide +kernel
theorem dX3_readNumbers_54 : decode cX3_readNumbers 54 = .ok (.istore 5, 2) := by decide +kernel
theorem dX3_readNumbers_56 : decode cX3_readNumbers 56 = .ok (.iload_n 2, 1) := by decide +kernel
theorem dX3_readNumbers_57 : decode cX3_readNumbers 57 = .ok (.iload 4, 2) := by decide +kernel
theorem dX3_readNumbers_59 : decode cX3_readNumbers 59 = .ok (.iconst 1, 1) := by decide +kernel
theorem dX3_readNumbers_60 : decode cX3_readNumbers 60 = .ok (.iadd, 1) := by decide +kernel
theorem dX3_readNumbers_61 : decode cX3_readNumbers 61 = .ok (.iadd, 1) := by decide +kernel
theorem dX3_readNumbers_62 : decode cX3_readNumbers 62 = .ok (.istore_n 2, 1) := by decide +kernel
theorem dX3_readNumbers_63 : decode cX3_readNumbers 63 = .ok (.iload 5, 2) := by decide +kernel
theorem dX3_readNumbers_65 : decode cX3_readNumbers 65 = .ok (.bipush 59, 2) := by decide +kernel
theorem dX3_readNumbers_67 : decode cX3_readNumbers 67 = .ok (.if_icmp .ne 5, 3) := by decide +kernel
theorem dX3_readNumbers_70 : decode cX3_readNumbers 70 = .ok (.iload_n 2, 1) := by decide +kernel
theorem dX3_readNumbers_71 : decode cX3_readNumbers 71 = .ok (.ireturn, 1) := by decide +kernel
theorem dX3_readNumbers_72 : decode cX3_readNumbers 72 = .ok (.iload 5, 2) := by decide +kernel
theorem dX3_readNumbers_74 : decode cX3_readNumbers 74 = .ok (.bipush 44, 2) := by decide +kernel
theorem dX3_readNumbers_76 : decode cX3_readNumbers 76 = .ok (.if_icmp .eq 6, 3) := by decide +kernel
theorem dX3_readNumbers_79 : decode cX3_readNumbers 79 = .ok (.bipush (-4), 2) := by decide +kernel
theorem dX3_readNumbers_81 : decode cX3_readNumbers 81 = .ok (.ireturn, 1) := by decide +kernel
theorem dX3_readNumbers_82 : decode cX3_readNumbers 82 = .ok (.iinc 3 1, 3) := by decide +kernel
theorem dX3_readNumbers_85 : decode cX3_readNumbers 85 = .ok (.goto (-81), 3) := by decide +kernel
theorem dX3_readNumbers_88 : decode cX3_readNumbers 88 = .ok (.bipush (-4), 2) := by decide +kernel
theorem dX3_readNumbers_90 : decode cX3_readNumbers 90 = .ok (.ireturn, 1) := by decide +kernel
theorem dX3_figuresAt_0 : decode cX3_figuresAt 0 = .ok (.aload_n 0, 1) := by decide +kernel
theorem dX3_figuresAt_1 : decode cX3_figuresAt 1 = .ok (.iload_n 1, 1) := by decide +kernel
theorem dX3_figuresAt_2 : decode cX3_figuresAt 2 = .ok (.invokevirtual 32, 3) := by decide +kernel
theorem dX3_figuresAt_5 : decode cX3_figuresAt 5 = .ok (.invokestatic 53, 3) := by decide +kernel
theorem dX3_figuresAt_8 : decode cX3_figuresAt 8 = .ok (.ifCond .ne 5, 3) := by decide +kernel
theorem dX3_figuresAt_11 : decode cX3_figuresAt 11 = .ok (.iconst 0, 1) := by decide +kernel
theorem dX3_figuresAt_12 : decode cX3_figuresAt 12 = .ok (.ireturn, 1) := by decide +kernel
theorem dX3_figuresAt_13 : decode cX3_figuresAt 13 = .ok (.aload_n 0, 1) := by decide +kernel
theorem dX3_figuresAt_14 : decode cX3_figuresAt 14 = .ok (.iload_n 1, 1) := by decide +kernel
theorem dX3_figuresAt_15 : decode cX3_figuresAt 15 = .ok (.iconst 1, 1) := by decide +kernel
theorem dX3_figuresAt_16 : decode cX3_figuresAt 16 = .ok (.iadd, 1) := by decide +kernel
theorem dX3_figuresAt_17 : decode cX3_figuresAt 17 = .ok (.invokevirtual 32, 3) := by decide +kernel
theorem dX3_figuresAt_20 : decode cX3_figuresAt 20 = .ok (.invokestatic 53, 3) := by decide +kernel
theorem dX3_figuresAt_23 : decode cX3_figuresAt 23 = .ok (.ifCond .eq 7, 3) := by decide +kernel
theorem dX3_figuresAt_26 : decode cX3_figuresAt 26 = .ok (.iconst 2, 1) := by decide +kernel
theorem dX3_figuresAt_27 : decode cX3_figuresAt 27 = .ok (.goto 4, 3) := by decide +kernel
theorem dX3_figuresAt_30 : decode cX3_figuresAt 30 = .ok (.iconst 1, 1) := by decide +kernel
theorem dX3_figuresAt_31 : decode cX3_figuresAt 31 = .ok (.ireturn, 1) := by decide +kernel
theorem dX3_numberAt_0 : decode cX3_numberAt 0 = .ok (.aload_n 0, 1) := by decide +kernel
theorem dX3_numberAt_1 : decode cX3_numberAt 1 = .ok (.iload_n 1, 1) := by decide +kernel
theorem dX3_numberAt_2 : decode cX3_numberAt 2 = .ok (.invokevirtual 32, 3) := by decide +kernel
theorem dX3_numberAt_5 : decode cX3_numberAt 5 = .ok (.bipush 48, 2) := by decide +kernel
theorem dX3_numberAt_7 : decode cX3_numberAt 7 = .ok (.isub, 1) := by decide +kernel
theorem dX3_numberAt_8 : decode cX3_numberAt 8 = .ok (.istore_n 3, 1) := by decide +kernel
theorem dX3_numberAt_9 : decode cX3_numberAt 9 = .ok (.iload_n 2, 1) := by decide +kernel
theorem dX3_numberAt_10 : decode cX3_numberAt 10 = .ok (.iconst 1, 1) := by decide +kernel
theorem dX3_numberAt_11 : decode cX3_numberAt 11 = .ok (.if_icmp .ne 7, 3) := by decide +kernel
theorem dX3_numberAt_14 : decode cX3_numberAt 14 = .ok (.iload_n 3, 1) := by decide +kernel
theorem dX3_numberAt_15 : decode cX3_numberAt 15 = .ok (.goto 18, 3) := by decide +kernel
theorem dX3_numberAt_18 : decode cX3_numberAt 18 = .ok (.bipush 10, 2) := by decide +kernel
theorem dX3_numberAt_20 : decode cX3_numberAt 20 = .ok (.iload_n 3, 1) := by decide +kernel
theorem dX3_numberAt_21 : decode cX3_numberAt 21 = .ok (.imul, 1) := by decide +kernel
theorem dX3_numberAt_22 : decode cX3_numberAt 22 = .ok (.aload_n 0, 1) := by decide +kernel
theorem dX3_numberAt_23 : decode cX3_numberAt 23 = .ok (.iload_n 1, 1) := by decide +kernel
theorem dX3_numberAt_24 : decode cX3_numberAt 24 = .ok (.iconst 1, 1) := by decide +kernel
theorem dX3_numberAt_25 : decode cX3_numberAt 25 = .ok (.iadd, 1) := by decide +kernel
theorem dX3_numberAt_26 : decode cX3_numberAt 26 = .ok (.invokevirtual 32, 3) := by decide +kernel
theorem dX3_numberAt_29 : decode cX3_numberAt 29 = .ok (.iadd, 1) := by decide +kernel
theorem dX3_numberAt_30 : decode cX3_numberAt 30 = .ok (.bipush 48, 2) := by decide +kernel
theorem dX3_numberAt_32 : decode cX3_numberAt 32 = .ok (.isub, 1) := by decide +kernel
theorem dX3_numberAt_33 : decode cX3_numberAt 33 = .ok (.ireturn, 1) := by decide +kernel
theorem dX3_letterAt_0 : decode cX3_letterAt 0 = .ok (.iload_n 1, 1) := by decide +kernel
theorem dX3_letterAt_1 : decode cX3_letterAt 1 = .ok (.ifCond .lt 29, 3) := by decide +kernel
theorem dX3_letterAt_4 : decode cX3_letterAt 4 = .ok (.iload_n 1, 1) := by decide +kernel
theorem dX3_letterAt_5 : decode cX3_letterAt 5 = .ok (.aload_n 0, 1) := by decide +kernel
theorem dX3_letterAt_6 : decode cX3_letterAt 6 = .ok (.getfield 19, 3) := by decide +kernel
theorem dX3_letterAt_9 : decode cX3_letterAt 9 = .ok (.if_icmp .ge 21, 3) := by decide +kernel
theorem dX3_letterAt_12 : decode cX3_letterAt 12 = .ok (.iload_n 1, 1) := by decide +kernel
theorem dX3_letterAt_13 : decode cX3_letterAt 13 = .ok (.aload_n 0, 1) := by decide +kernel
theorem dX3_letterAt_14 : decode cX3_letterAt 14 = .ok (.getfield 9, 3) := by decide +kernel
theorem dX3_letterAt_17 : decode cX3_letterAt 17 = .ok (.arraylength, 1) := by decide +kernel
theorem dX3_letterAt_18 : decode cX3_letterAt 18 = .ok (.if_icmp .ge 12, 3) := by decide +kernel
theorem dX3_letterAt_21 : decode cX3_letterAt 21 = .ok (.aload_n 0, 1) := by decide +kernel
theorem dX3_letterAt_22 : decode cX3_letterAt 22 = .ok (.getfield 9, 3) := by decide +kernel
theorem dX3_letterAt_25 : decode cX3_letterAt 25 = .ok (.iload_n 1, 1) := by decide +kernel
theorem dX3_letterAt_26 : decode cX3_letterAt 26 = .ok (.caload, 1) := by decide +kernel
theorem dX3_letterAt_27 : decode cX3_letterAt 27 = .ok (.goto 4, 3) := by decide +kernel
theorem dX3_letterAt_30 : decode cX3_letterAt 30 = .ok (.iconst 0, 1) := by decide +kernel
theorem dX3_letterAt_31 : decode cX3_letterAt 31 = .ok (.ireturn, 1) := by decide +kernel
theorem dX3_isFigure_0 : decode cX3_isFigure 0 = .ok (.iload_n 0, 1) := by decide +kernel
theorem dX3_isFigure_1 : decode cX3_isFigure 1 = .ok (.bipush 48, 2) := by decide +kernel
theorem dX3_isFigure_3 : decode cX3_isFigure 3 = .ok (.bipush 57, 2) := by decide +kernel
theorem dX3_isFigure_5 : decode cX3_isFigure 5 = .ok (.invokestatic 57, 3) := by decide +kernel
theorem dX3_isFigure_8 : decode cX3_isFigure 8 = .ok (.ireturn, 1) := by decide +kernel
theorem dX4_init_0 : decode cX4_init 0 = .ok (.aload_n 0, 1) := by decide +kernel
theorem dX4_init_1 : decode cX4_init 1 = .ok (.invokespecial 3, 3) := by decide +kernel
theorem dX4_init_4 : decode cX4_init 4 = .ok (.aload_n 0, 1) := by decide +kernel
theorem dX4_init_5 : decode cX4_init 5 = .ok (.bipush 8, 2) := by decide +kernel
theorem dX4_init_7 : decode cX4_init 7 = .ok (.newarray .int, 2) := by decide +kernel
theorem dX4_init_9 : decode cX4_init 9 = .ok (.putfield 9, 3) := by decide +kernel
theorem dX4_init_12 : decode cX4_init 12 = .ok (.aload_n 0, 1) := by decide +kernel
theorem dX4_init_13 : decode cX4_init 13 = .ok (.bipush 8, 2) := by decide +kernel
theorem dX4_init_15 : decode cX4_init 15 = .ok (.newarray .int, 2) := by decide +kernel
theorem dX4_init_17 : decode cX4_init 17 = .ok (.putfield 15, 3) := by decide +kernel
theorem dX4_init_20 : decode cX4_init 20 = .ok (.aload_n 0, 1) := by decide +kernel
theorem dX4_init_21 : decode cX4_init 21 = .ok (.bipush 8, 2) := by decide +kernel
theorem dX4_init_23 : decode cX4_init 23 = .ok (.newarray .int, 2) := by decide +kernel
theorem dX4_init_25 : decode cX4_init 25 = .ok (.putfield 18, 3) := by decide +kernel
theorem dX4_init_28 : decode cX4_init 28 = .ok (.aload_n 0, 1) := by decide +kernel
theorem dX4_init_29 : decode cX4_init 29 = .ok (.bipush 8, 2) := by decide +kernel
theorem dX4_init_31 : decode cX4_init 31 = .ok (.newarray .int, 2) := by decide +kernel
theorem dX4_init_33 : decode cX4_init 33 = .ok (.putfield 21, 3) := by decide +kernel
theorem dX4_init_36 : decode cX4_init 36 = .ok (.aload_n 0, 1) := by decide +kernel
theorem dX4_init_37 : decode cX4_init 37 = .ok (.sipush 256, 3) := by decide +kernel
theorem dX4_init_40 : decode cX4_init 40 = .ok (.newarray .int, 2) := by decide +kernel
theorem dX4_init_42 : decode cX4_init 42 = .ok (.putfield 24, 3) := by decide +kernel
theorem dX4_init_45 : decode cX4_init 45 = .ok (.aload_n 0, 1) := by decide +kernel
theorem dX4_init_46 : decode cX4_init 46 = .ok (.sipush 256, 3) := by decide +kernel
theorem dX4_init_49 : decode cX4_init 49 = .ok (.newarray .int, 2) := by decide +kernel
theorem dX4_init_51 : decode cX4_init 51 = .ok (.putfield 27, 3) := by decide +kernel
theorem dX4_init_54 : decode cX4_init 54 = .ok (.aload_n 0, 1) := by decide +kernel
theorem dX4_init_55 : decode cX4_init 55 = .ok (.sipush 256, 3) := by decide +kernel
theorem dX4_init_58 : decode cX4_init 58 = .ok (.newarray .int, 2) := by decide +kernel
theorem dX4_init_60 : decode cX4_init 60 = .ok (.putfield 30, 3) := by decide +kernel
theorem dX4_init_63 : decode cX4_init 63 = .ok (.return_, 1) := by decide +kernel
theorem dX4_clear_0 : decode cX4_clear 0 = .ok (.aload_n 0, 1) := by decide +kernel
theorem dX4_clear_1 : decode cX4_clear 1 = .ok (.iconst 0, 1) := by decide +kernel
theorem dX4_clear_2 : decode cX4_clear 2 = .ok (.putfield 33, 3) := by decide +kernel
theorem dX4_clear_5 : decode cX4_clear 5 = .ok (.aload_n 0, 1) := by decide +kernel
theorem dX4_clear_6 : decode cX4_clear 6 = .ok (.iconst 0, 1) := by decide +kernel
theorem dX4_clear_7 : decode cX4_clear 7 = .ok (.putfield 37, 3) := by decide +kernel
theorem dX4_clear_10 : decode cX4_clear 10 = .ok (.aload_n 0, 1) := by decide +kernel
theorem dX4_clear_11 : decode cX4_clear 11 = .ok (.iconst 0, 1) := by decide +kernel
theorem dX4_clear_12 : decode cX4_clear 12 = .ok (.putfield 40, 3) := by decide +kernel
theorem dX4_clear_15 : decode cX4_clear 15 = .ok (.aload_n 0, 1) := by decide +kernel
theorem dX4_clear_16 : decode cX4_clear 16 = .ok (.iconst 0, 1) := by decide +kernel
theorem dX4_clear_17 : decode cX4_clear 17 = .ok (.putfield 43, 3) := by decide +kernel
theorem dX4_clear_20 : decode cX4_clear 20 = .ok (.aload_n 0, 1) := by decide +kernel
theorem dX4_clear_21 : decode cX4_clear 21 = .ok (.getfield 30, 3) := by decide +kernel
theorem dX4_clear_24 : decode cX4_clear 24 = .ok (.iconst 0, 1) := by decide +kernel
theorem dX4_clear_25 : decode cX4_clear 25 = .ok (.iconst 1, 1) := by decide +kernel
theorem dX4_clear_26 : decode cX4_clear 26 = .ok (.invokestatic 46, 3) := by decide +kernel
theorem dX4_clear_29 : decode cX4_clear 29 = .ok (.return_, 1) := by decide +kernel
theorem dX4_add_0 : decode cX4_add 0 = .ok (.aload_n 0, 1) := by decide +kernel
theorem dX4_add_1 : decode cX4_add 1 = .ok (.getfield 33, 3) := by decide +kernel
theorem dX4_add_4 : decode cX4_add 4 = .ok (.bipush 8, 2) := by decide +kernel
theorem dX4_add_6 : decode cX4_add 6 = .ok (.if_icmp .lt 4, 3) := by decide +kernel
theorem dX4_add_9 : decode cX4_add 9 = .ok (.return_, 1) := by decide +kernel
theorem dX4_add_10 : decode cX4_add 10 = .ok (.aload_n 0, 1) := by decide +kernel
theorem dX4_add_11 : decode cX4_add 11 = .ok (.getfield 9, 3) := by decide +kernel
theorem dX4_add_14 : decode cX4_add 14 = .ok (.aload_n 0, 1) := by decide +kernel
theorem dX4_add_15 : decode cX4_add 15 = .ok (.getfield 33, 3) := by decide +kernel
theorem dX4_add_18 : decode cX4_add 18 = .ok (.aload_n 1, 1) := by decide +kernel
theorem dX4_add_19 : decode cX4_add 19 = .ok (.iconst 0, 1) := by decide +kernel
theorem dX4_add_20 : decode cX4_add 20 = .ok (.invokestatic 50, 3) := by decide +kernel
theorem dX4_add_23 : decode cX4_add 23 = .ok (.invokestatic 46, 3) := by decide +kernel
theorem dX4_add_26 : decode cX4_add 26 = .ok (.aload_n 0, 1) := by decide +kernel
theorem dX4_add_27 : decode cX4_add 27 = .ok (.getfield 15, 3) := by decide +kernel
theorem dX4_add_30 : decode cX4_add 30 = .ok (.aload_n 0, 1) := by decide +kernel
theorem dX4_add_31 : decode cX4_add 31 = .ok (.getfield 33, 3) := by decide +kernel
theorem dX4_add_34 : decode cX4_add 34 = .ok (.aload_n 1, 1) := by decide +kernel
theorem dX4_add_35 : decode cX4_add 35 = .ok (.iconst 1, 1) := by decide +kernel
theorem dX4_add_36 : decode cX4_add 36 = .ok (.invokestatic 50, 3) := by decide +kernel
theorem dX4_add_39 : decode cX4_add 39 = .ok (.invokestatic 46, 3) := by decide +kernel
theorem dX4_add_42 : decode cX4_add 42 = .ok (.aload_n 0, 1) := by decide +kernel
theorem dX4_add_43 : decode cX4_add 43 = .ok (.getfield 18, 3) := by decide +kernel
theorem dX4_add_46 : decode cX4_add 46 = .ok (.aload_n 0, 1) := by decide +kernel
theorem dX4_add_47 : decode cX4_add 47 = .ok (.getfield 33, 3) := by decide +kernel
theorem dX4_add_50 : decode cX4_add 50 = .ok (.aload_n 1, 1) := by decide +kernel
theorem dX4_add_51 : decode cX4_add 51 = .ok (.iconst 2, 1) := by decide +kernel
theorem dX4_add_52 : decode cX4_add 52 = .ok (.invokestatic 50, 3) := by decide +kernel
theorem dX4_add_55 : decode cX4_add 55 = .ok (.invokestatic 46, 3) := by decide +kernel
theorem dX4_add_58 : decode cX4_add 58 = .ok (.aload_n 0, 1) := by decide +kernel
theorem dX4_add_59 : decode cX4_add 59 = .ok (.getfield 21, 3) := by decide +kernel
theorem dX4_add_62 : decode cX4_add 62 = .ok (.aload_n 0, 1) := by decide +kernel
theorem dX4_add_63 : decode cX4_add 63 = .ok (.getfield 33, 3) := by decide +kernel
theorem dX4_add_66 : decode cX4_add 66 = .ok (.aload_n 1, 1) := by decide +kernel
theorem dX4_add_67 : decode cX4_add 67 = .ok (.iconst 3, 1) := by decide +kernel
theorem dX4_add_68 : decode cX4_add 68 = .ok (.invokestatic 50, 3) := by decide +kernel
theorem dX4_add_71 : decode cX4_add 71 = .ok (.invokestatic 46, 3) := by decide +kernel
theorem dX4_add_74 : decode cX4_add 74 = .ok (.iconst 1, 1) := by decide +kernel
theorem dX4_add_75 : decode cX4_add 75 = .ok (.aload_n 0, 1) := by decide +kernel
theorem dX4_add_76 : decode cX4_add 76 = .ok (.getfield 33, 3) := by decide +kernel
theorem dX4_add_79 : decode cX4_add 79 = .ok (.ishl, 1) := by decide +kernel
theorem dX4_add_80 : decode cX4_add 80 = .ok (.istore_n 2, 1) := by decide +kernel
theorem dX4_add_81 : decode cX4_add 81 = .ok (.aload_n 0, 1) := by decide +kernel
theorem dX4_add_82 : decode cX4_add 82 = .ok (.iload_n 2, 1) := by decide +kernel
theorem dX4_add_83 : decode cX4_add 83 = .ok (.aload_n 1, 1) := by decide +kernel
theorem dX4_add_84 : decode cX4_add 84 = .ok (.iconst 1, 1) := by decide +kernel
theorem dX4_add_85 : decode cX4_add 85 = .ok (.invokestatic 50, 3) := by decide +kernel
theorem dX4_add_88 : decode cX4_add 88 = .ok (.invokevirtual 54, 3) := by decide +kernel
theorem dX4_add_91 : decode cX4_add 91 = .ok (.iconst 0, 1) := by decide +kernel
theorem dX4_add_92 : decode cX4_add 92 = .ok (.istore_n 3, 1) := by decide +kernel
theorem dX4_add_93 : decode cX4_add 93 = .ok (.iload_n 3, 1) := by decide +kernel
theorem dX4_add_94 : decode cX4_add 94 = .ok (.iload_n 2, 1) := by decide +kernel
theorem dX4_add_95 : decode cX4_add 95 = .ok (.if_icmp .ge 81, 3) := by decide +kernel
theorem dX4_add_98 : decode cX4_add 98 = .ok (.aload_n 0, 1) := by decide +kernel
theorem dX4_add_99 : decode cX4_add 99 = .ok (.getfield 24, 3) := by decide +kernel
theorem dX4_add_102 : decode cX4_add 102 = .ok (.iload_n 3, 1) := by decide +kernel
theorem dX4_add_103 : decode cX4_add 103 = .ok (.iload_n 2, 1) := by decide +kernel
theorem dX4_add_104 : decode cX4_add 104 = .ok (.ior, 1) := by decide +kernel
theorem dX4_add_105 : decode cX4_add 105 = .ok (.aload_n 0, 1) := by decide +kernel
theorem dX4_add_106 : decode cX4_add 106 = .ok (.getfield 24, 3) := by decide +kernel
theorem dX4_add_109 : decode cX4_add 109 = .ok (.iload_n 3, 1) := by decide +kernel
theorem dX4_add_110 : decode cX4_add 110 = .ok (.invokestatic 50, 3) := by decide +kernel
theorem dX4_add_113 : decode cX4_add 113 = .ok (.aload_n 1, 1) := by decide +kernel
theorem dX4_add_114 : decode cX4_add 114 = .ok (.iconst 0, 1) := by decide +kernel
theorem dX4_add_115 : decode cX4_add 115 = .ok (.invokestatic 50, 3) := by decide +kernel
theorem dX4_add_118 : decode cX4_add 118 = .ok (.iadd, 1) := by decide +kernel
theorem dX4_add_119 : decode cX4_add 119 = .ok (.invokestatic 46, 3) := by decide +kernel
theorem dX4_add_122 : decode cX4_add 122 = .ok (.aload_n 0, 1) := by decide +kernel
theorem dX4_add_123 : decode cX4_add 123 = .ok (.getfield 27, 3) := by decide +kernel
theorem dX4_add_126 : decode cX4_add 126 = .ok (.iload_n 3, 1) := by decide +kernel
theorem dX4_add_127 : decode cX4_add 127 = .ok (.iload_n 2, 1) := by decide +kernel
theorem dX4_add_128 : decode cX4_add 128 = .ok (.ior, 1) := by decide +kernel
theorem dX4_add_129 : decode cX4_add 129 = .ok (.aload_n 0, 1) := by decide +kernel
theorem dX4_add_130 : decode cX4_add 130 = .ok (.getfield 27, 3) := by decide +kernel
end
section
theorem dX4_add_133 : decode cX4_add 133 = .ok (.iload_n 3, 1) := by decide +kernel
theorem dX4_add_134 : decode cX4_add 134 = .ok (.invokestatic 50, 3) := by decide +kernel
theorem dX4_add_137 : decode cX4_add 137 = .ok (.aload_n 1, 1) := by decide +kernel
theorem dX4_add_138 : decode cX4_add 138 = .ok (.iconst 2, 1) := by decide +kernel
theorem dX4_add_139 : decode cX4_add 139 = .ok (.invokestatic 50, 3) := by decide +kernel
theorem dX4_add_142 : decode cX4_add 142 = .ok (.iadd, 1) := by decide +kernel
theorem dX4_add_143 : decode cX4_add 143 = .ok (.invokestatic 46, 3) := by decide +kernel
theorem dX4_add_146 : decode cX4_add 146 = .ok (.aload_n 0, 1) := by decide +kernel
theorem dX4_add_147 : decode cX4_add 147 = .ok (.getfield 30, 3) := by decide +kernel
theorem dX4_add_150 : decode cX4_add 150 = .ok (.iload_n 3, 1) := by decide +kernel
theorem dX4_add_151 : decode cX4_add 151 = .ok (.iload_n 2, 1) := by decide +kernel
theorem dX4_add_152 : decode cX4_add 152 = .ok (.ior, 1) := by decide +kernel
theorem dX4_add_153 : decode cX4_add 153 = .ok (.aload_n 0, 1) := by decide +kernel
theorem dX4_add_154 : decode cX4_add 154 = .ok (.getfield 30, 3) := by decide +kernel
theorem dX4_add_157 : decode cX4_add 157 = .ok (.iload_n 3, 1) := by decide +kernel
theorem dX4_add_158 : decode cX4_add 158 = .ok (.invokestatic 50, 3) := by decide +kernel
theorem dX4_add_161 : decode cX4_add 161 = .ok (.aload_n 1, 1) := by decide +kernel
theorem dX4_add_162 : decode cX4_add 162 = .ok (.iconst 3, 1) := by decide +kernel
theorem dX4_add_163 : decode cX4_add 163 = .ok (.invokestatic 50, 3) := by decide +kernel
theorem dX4_add_166 : decode cX4_add 166 = .ok (.imul, 1) := by decide +kernel
theorem dX4_add_167 : decode cX4_add 167 = .ok (.invokestatic 46, 3) := by decide +kernel
theorem dX4_add_170 : decode cX4_add 170 = .ok (.iinc 3 1, 3) := by decide +kernel
theorem dX4_add_173 : decode cX4_add 173 = .ok (.goto (-80), 3) := by decide +kernel
theorem dX4_add_176 : decode cX4_add 176 = .ok (.aload_n 0, 1) := by decide +kernel
theorem dX4_add_177 : decode cX4_add 177 = .ok (.dup, 1) := by decide +kernel
theorem dX4_add_178 : decode cX4_add 178 = .ok (.getfield 33, 3) := by decide +kernel
theorem dX4_add_181 : decode cX4_add 181 = .ok (.iconst 1, 1) := by decide +kernel
theorem dX4_add_182 : decode cX4_add 182 = .ok (.iadd, 1) := by decide +kernel
theorem dX4_add_183 : decode cX4_add 183 = .ok (.putfield 33, 3) := by decide +kernel
theorem dX4_add_186 : decode cX4_add 186 = .ok (.return_, 1) := by decide +kernel
theorem dX4_sortByKind_0 : decode cX4_sortByKind 0 = .ok (.iload_n 2, 1) := by decide +kernel
theorem dX4_sortByKind_1 : decode cX4_sortByKind 1 = .ok (.iconst 1, 1) := by decide +kernel
theorem dX4_sortByKind_2 : decode cX4_sortByKind 2 = .ok (.if_icmp .ne 13, 3) := by decide +kernel
theorem dX4_sortByKind_5 : decode cX4_sortByKind 5 = .ok (.aload_n 0, 1) := by decide +kernel
theorem dX4_sortByKind_6 : decode cX4_sortByKind 6 = .ok (.dup, 1) := by decide +kernel
theorem dX4_sortByKind_7 : decode cX4_sortByKind 7 = .ok (.getfield 37, 3) := by decide +kernel
theorem dX4_sortByKind_10 : decode cX4_sortByKind 10 = .ok (.iload_n 1, 1) := by decide +kernel
theorem dX4_sortByKind_11 : decode cX4_sortByKind 11 = .ok (.ior, 1) := by decide +kernel
theorem dX4_sortByKind_12 : decode cX4_sortByKind 12 = .ok (.putfield 37, 3) := by decide +kernel
theorem dX4_sortByKind_15 : decode cX4_sortByKind 15 = .ok (.iload_n 2, 1) := by decide +kernel
theorem dX4_sortByKind_16 : decode cX4_sortByKind 16 = .ok (.iconst 2, 1) := by decide +kernel
theorem dX4_sortByKind_17 : decode cX4_sortByKind 17 = .ok (.if_icmp .ne 13, 3) := by decide +kernel
theorem dX4_sortByKind_20 : decode cX4_sortByKind 20 = .ok (.aload_n 0, 1) := by decide +kernel
theorem dX4_sortByKind_21 : decode cX4_sortByKind 21 = .ok (.dup, 1) := by decide +kernel
theorem dX4_sortByKind_22 : decode cX4_sortByKind 22 = .ok (.getfield 40, 3) := by decide +kernel
theorem dX4_sortByKind_25 : decode cX4_sortByKind 25 = .ok (.iload_n 1, 1) := by decide +kernel
theorem dX4_sortByKind_26 : decode cX4_sortByKind 26 = .ok (.ior, 1) := by decide +kernel
theorem dX4_sortByKind_27 : decode cX4_sortByKind 27 = .ok (.putfield 40, 3) := by decide +kernel
theorem dX4_sortByKind_30 : decode cX4_sortByKind 30 = .ok (.iload_n 2, 1) := by decide +kernel
theorem dX4_sortByKind_31 : decode cX4_sortByKind 31 = .ok (.ifCond .eq 13, 3) := by decide +kernel
theorem dX4_sortByKind_34 : decode cX4_sortByKind 34 = .ok (.aload_n 0, 1) := by decide +kernel
theorem dX4_sortByKind_35 : decode cX4_sortByKind 35 = .ok (.dup, 1) := by decide +kernel
theorem dX4_sortByKind_36 : decode cX4_sortByKind 36 = .ok (.getfield 43, 3) := by decide +kernel
theorem dX4_sortByKind_39 : decode cX4_sortByKind 39 = .ok (.iload_n 1, 1) := by decide +kernel
theorem dX4_sortByKind_40 : decode cX4_sortByKind 40 = .ok (.ior, 1) := by decide +kernel
theorem dX4_sortByKind_41 : decode cX4_sortByKind 41 = .ok (.putfield 43, 3) := by decide +kernel
theorem dX4_sortByKind_44 : decode cX4_sortByKind 44 = .ok (.return_, 1) := by decide +kernel
theorem dX4_tipped_0 : decode cX4_tipped 0 = .ok (.iload_n 1, 1) := by decide +kernel
theorem dX4_tipped_1 : decode cX4_tipped 1 = .ok (.aload_n 0, 1) := by decide +kernel
theorem dX4_tipped_2 : decode cX4_tipped 2 = .ok (.getfield 40, 3) := by decide +kernel
theorem dX4_tipped_5 : decode cX4_tipped 5 = .ok (.iand, 1) := by decide +kernel
theorem dX4_tipped_6 : decode cX4_tipped 6 = .ok (.ifCond .eq 7, 3) := by decide +kernel
theorem dX4_tipped_9 : decode cX4_tipped 9 = .ok (.iconst 2, 1) := by decide +kernel
theorem dX4_tipped_10 : decode cX4_tipped 10 = .ok (.goto 4, 3) := by decide +kernel
theorem dX4_tipped_13 : decode cX4_tipped 13 = .ok (.iconst 0, 1) := by decide +kernel
theorem dX4_tipped_14 : decode cX4_tipped 14 = .ok (.iload_n 1, 1) := by decide +kernel
theorem dX4_tipped_15 : decode cX4_tipped 15 = .ok (.aload_n 0, 1) := by decide +kernel
theorem dX4_tipped_16 : decode cX4_tipped 16 = .ok (.getfield 37, 3) := by decide +kernel
theorem dX4_tipped_19 : decode cX4_tipped 19 = .ok (.iand, 1) := by decide +kernel
theorem dX4_tipped_20 : decode cX4_tipped 20 = .ok (.ifCond .eq 7, 3) := by decide +kernel
theorem dX4_tipped_23 : decode cX4_tipped 23 = .ok (.iconst 1, 1) := by decide +kernel
theorem dX4_tipped_24 : decode cX4_tipped 24 = .ok (.goto 4, 3) := by decide +kernel
theorem dX4_tipped_27 : decode cX4_tipped 27 = .ok (.iconst 0, 1) := by decide +kernel
theorem dX4_tipped_28 : decode cX4_tipped 28 = .ok (.iadd, 1) := by decide +kernel
theorem dX4_tipped_29 : decode cX4_tipped 29 = .ok (.ireturn, 1) := by decide +kernel
theorem dX4_shaken_0 : decode cX4_shaken 0 = .ok (.iload_n 1, 1) := by decide +kernel
theorem dX4_shaken_1 : decode cX4_shaken 1 = .ok (.aload_n 0, 1) := by decide +kernel
theorem dX4_shaken_2 : decode cX4_shaken 2 = .ok (.getfield 43, 3) := by decide +kernel
theorem dX4_shaken_5 : decode cX4_shaken 5 = .ok (.iand, 1) := by decide +kernel
theorem dX4_shaken_6 : decode cX4_shaken 6 = .ok (.invokestatic 58, 3) := by decide +kernel
theorem dX4_shaken_9 : decode cX4_shaken 9 = .ok (.ireturn, 1) := by decide +kernel
theorem dX4_pressed_0 : decode cX4_pressed 0 = .ok (.iload_n 1, 1) := by decide +kernel
theorem dX4_pressed_1 : decode cX4_pressed 1 = .ok (.aload_n 0, 1) := by decide +kernel
theorem dX4_pressed_2 : decode cX4_pressed 2 = .ok (.getfield 43, 3) := by decide +kernel
theorem dX4_pressed_5 : decode cX4_pressed 5 = .ok (.iand, 1) := by decide +kernel
theorem dX4_pressed_6 : decode cX4_pressed 6 = .ok (.ifCond .ne 7, 3) := by decide +kernel
theorem dX4_pressed_9 : decode cX4_pressed 9 = .ok (.iconst 1, 1) := by decide +kernel
theorem dX4_pressed_10 : decode cX4_pressed 10 = .ok (.goto 4, 3) := by decide +kernel
theorem dX4_pressed_13 : decode cX4_pressed 13 = .ok (.iconst 0, 1) := by decide +kernel
theorem dX4_pressed_14 : decode cX4_pressed 14 = .ok (.ireturn, 1) := by decide +kernel
theorem dX5_init_0 : decode cX5_init 0 = .ok (.aload_n 0, 1) := by decide +kernel
theorem dX5_init_1 : decode cX5_init 1 = .ok (.invokespecial 3, 3) := by decide +kernel
theorem dX5_init_4 : decode cX5_init 4 = .ok (.aload_n 0, 1) := by decide +kernel
theorem dX5_init_5 : decode cX5_init 5 = .ok (.new 9, 3) := by decide +kernel
theorem dX5_init_8 : decode cX5_init 8 = .ok (.dup, 1) := by decide +kernel
theorem dX5_init_9 : decode cX5_init 9 = .ok (.invokespecial 11, 3) := by decide +kernel
theorem dX5_init_12 : decode cX5_init 12 = .ok (.putfield 12, 3) := by decide +kernel
theorem dX5_init_15 : decode cX5_init 15 = .ok (.aload_n 0, 1) := by decide +kernel
theorem dX5_init_16 : decode cX5_init 16 = .ok (.iconst 4, 1) := by decide +kernel
theorem dX5_init_17 : decode cX5_init 17 = .ok (.newarray .int, 2) := by decide +kernel
theorem dX5_init_19 : decode cX5_init 19 = .ok (.putfield 18, 3) := by decide +kernel
theorem dX5_init_22 : decode cX5_init 22 = .ok (.aload_n 0, 1) := by decide +kernel
theorem dX5_init_23 : decode cX5_init 23 = .ok (.iconst 4, 1) := by decide +kernel
theorem dX5_init_24 : decode cX5_init 24 = .ok (.newarray .int, 2) := by decide +kernel
theorem dX5_init_26 : decode cX5_init 26 = .ok (.putfield 22, 3) := by decide +kernel
theorem dX5_init_29 : decode cX5_init 29 = .ok (.aload_n 0, 1) := by decide +kernel
theorem dX5_init_30 : decode cX5_init 30 = .ok (.iconst 4, 1) := by decide +kernel
theorem dX5_init_31 : decode cX5_init 31 = .ok (.newarray .int, 2) := by decide +kernel
theorem dX5_init_33 : decode cX5_init 33 = .ok (.putfield 25, 3) := by decide +kernel
theorem dX5_init_36 : decode cX5_init 36 = .ok (.aload_n 0, 1) := by decide +kernel
theorem dX5_init_37 : decode cX5_init 37 = .ok (.iconst 1, 1) := by decide +kernel
theorem dX5_init_38 : decode cX5_init 38 = .ok (.putfield 28, 3) := by decide +kernel
theorem dX5_init_41 : decode cX5_init 41 = .ok (.aload_n 0, 1) := by decide +kernel
theorem dX5_init_42 : decode cX5_init 42 = .ok (.iconst 4, 1) := by decide +kernel
theorem dX5_init_43 : decode cX5_init 43 = .ok (.newarray .int, 2) := by decide +kernel
theorem dX5_init_45 : decode cX5_init 45 = .ok (.putfield 32, 3) := by decide +kernel
theorem dX5_init_48 : decode cX5_init 48 = .ok (.aload_n 0, 1) := by decide +kernel
theorem dX5_init_49 : decode cX5_init 49 = .ok (.iconst 4, 1) := by decide +kernel
theorem dX5_init_50 : decode cX5_init 50 = .ok (.newarray .int, 2) := by decide +kernel
theorem dX5_init_52 : decode cX5_init 52 = .ok (.putfield 35, 3) := by decide +kernel
theorem dX5_init_55 : decode cX5_init 55 = .ok (.return_, 1) := by decide +kernel
theorem dX5_clear_0 : decode cX5_clear 0 = .ok (.aload_n 0, 1) := by decide +kernel
theorem dX5_clear_1 : decode cX5_clear 1 = .ok (.getfield 12, 3) := by decide +kernel
theorem dX5_clear_4 : decode cX5_clear 4 = .ok (.invokevirtual 38, 3) := by decide +kernel
theorem dX5_clear_7 : decode cX5_clear 7 = .ok (.aload_n 0, 1) := by decide +kernel
theorem dX5_clear_8 : decode cX5_clear 8 = .ok (.iconst 0, 1) := by decide +kernel
theorem dX5_clear_9 : decode cX5_clear 9 = .ok (.putfield 41, 3) := by decide +kernel
theorem dX5_clear_12 : decode cX5_clear 12 = .ok (.aload_n 0, 1) := by decide +kernel
theorem dX5_clear_13 : decode cX5_clear 13 = .ok (.iconst 0, 1) := by decide +kernel
theorem dX5_clear_14 : decode cX5_clear 14 = .ok (.putfield 44, 3) := by decide +kernel
theorem dX5_clear_17 : decode cX5_clear 17 = .ok (.aload_n 0, 1) := by decide +kernel
theorem dX5_clear_18 : decode cX5_clear 18 = .ok (.iconst 1, 1) := by decide +kernel
theorem dX5_clear_19 : decode cX5_clear 19 = .ok (.putfield 28, 3) := by decide +kernel
theorem dX5_clear_22 : decode cX5_clear 22 = .ok (.aload_n 0, 1) := by decide +kernel
theorem dX5_clear_23 : decode cX5_clear 23 = .ok (.bipush 40, 2) := by decide +kernel
theorem dX5_clear_25 : decode cX5_clear 25 = .ok (.putfield 47, 3) := by decide +kernel
theorem dX5_clear_28 : decode cX5_clear 28 = .ok (.aload_n 0, 1) := by decide +kernel
theorem dX5_clear_29 : decode cX5_clear 29 = .ok (.getfield 32, 3) := by decide +kernel
theorem dX5_clear_32 : decode cX5_clear 32 = .ok (.iconst 0, 1) := by decide +kernel
theorem dX5_clear_33 : decode cX5_clear 33 = .ok (.invokestatic 50, 3) := by decide +kernel
theorem dX5_clear_36 : decode cX5_clear 36 = .ok (.aload_n 0, 1) := by decide +kernel
theorem dX5_clear_37 : decode cX5_clear 37 = .ok (.getfield 35, 3) := by decide +kernel
theorem dX5_clear_40 : decode cX5_clear 40 = .ok (.bipush 10, 2) := by decide +kernel
theorem dX5_clear_42 : decode cX5_clear 42 = .ok (.invokestatic 50, 3) := by decide +kernel
theorem dX5_clear_45 : decode cX5_clear 45 = .ok (.return_, 1) := by decide +kernel
theorem dX5_takes_0 : decode cX5_takes 0 = .ok (.iload_n 1, 1) := by decide +kernel
theorem dX5_takes_1 : decode cX5_takes 1 = .ok (.tableswitch 228 100 116 #[172, 228, 228, 149, 228, 121, 228, 228, 228, 228, 195, 228, 102, 228, 228, 228, 83], 83) := by decide +kernel
theorem dX5_takes_84 : decode cX5_takes 84 = .ok (.iload_n 3, 1) := by decide +kernel
theorem dX5_takes_85 : decode cX5_takes 85 = .ok (.iconst 4, 1) := by decide +kernel
theorem dX5_takes_86 : decode cX5_takes 86 = .ok (.if_icmp .ne 15, 3) := by decide +kernel
theorem dX5_takes_89 : decode cX5_takes 89 = .ok (.aload_n 0, 1) := by decide +kernel
theorem dX5_takes_90 : decode cX5_takes 90 = .ok (.aload_n 2, 1) := by decide +kernel
theorem dX5_takes_91 : decode cX5_takes 91 = .ok (.invokevirtual 56, 3) := by decide +kernel
theorem dX5_takes_94 : decode cX5_takes 94 = .ok (.ifCond .eq 7, 3) := by decide +kernel
theorem dX5_takes_97 : decode cX5_takes 97 = .ok (.iconst 1, 1) := by decide +kernel
theorem dX5_takes_98 : decode cX5_takes 98 = .ok (.goto 4, 3) := by decide +kernel
theorem dX5_takes_101 : decode cX5_takes 101 = .ok (.iconst 0, 1) := by decide +kernel
theorem dX5_takes_102 : decode cX5_takes 102 = .ok (.ireturn, 1) := by decide +kernel
theorem dX5_takes_103 : decode cX5_takes 103 = .ok (.iload_n 3, 1) := by decide +kernel
theorem dX5_takes_104 : decode cX5_takes 104 = .ok (.iconst 3, 1) := by decide +kernel
theorem dX5_takes_105 : decode cX5_takes 105 = .ok (.if_icmp .ne 15, 3) := by decide +kernel
theorem dX5_takes_108 : decode cX5_takes 108 = .ok (.aload_n 0, 1) := by decide +kernel
theorem dX5_takes_109 : decode cX5_takes 109 = .ok (.aload_n 2, 1) := by decide +kernel
theorem dX5_takes_110 : decode cX5_takes 110 = .ok (.invokevirtual 60, 3) := by decide +kernel
theorem dX5_takes_113 : decode cX5_takes 113 = .ok (.ifCond .eq 7, 3) := by decide +kernel
theorem dX5_takes_116 : decode cX5_takes 116 = .ok (.iconst 1, 1) := by decide +kernel
theorem dX5_takes_117 : decode cX5_takes 117 = .ok (.goto 4, 3) := by decide +kernel
theorem dX5_takes_120 : decode cX5_takes 120 = .ok (.iconst 0, 1) := by decide +kernel
theorem dX5_takes_121 : decode cX5_takes 121 = .ok (.ireturn, 1) := by decide +kernel
theorem dX5_takes_122 : decode cX5_takes 122 = .ok (.iload_n 3, 1) := by decide +kernel
theorem dX5_takes_123 : decode cX5_takes 123 = .ok (.iconst 2, 1) := by decide +kernel
theorem dX5_takes_124 : decode cX5_takes 124 = .ok (.if_icmp .ne 24, 3) := by decide +kernel
theorem dX5_takes_127 : decode cX5_takes 127 = .ok (.aload_n 0, 1) := by decide +kernel
theorem dX5_takes_128 : decode cX5_takes 128 = .ok (.aload_n 2, 1) := by decide +kernel
theorem dX5_takes_129 : decode cX5_takes 129 = .ok (.iconst 0, 1) := by decide +kernel
theorem dX5_takes_130 : decode cX5_takes 130 = .ok (.invokestatic 63, 3) := by decide +kernel
theorem dX5_takes_133 : decode cX5_takes 133 = .ok (.aload_n 2, 1) := by decide +kernel
theorem dX5_takes_134 : decode cX5_takes 134 = .ok (.iconst 1, 1) := by decide +kernel
theorem dX5_takes_135 : decode cX5_takes 135 = .ok (.invokestatic 63, 3) := by decide +kernel
theorem dX5_takes_138 : decode cX5_takes 138 = .ok (.invokevirtual 67, 3) := by decide +kernel
theorem dX5_takes_141 : decode cX5_takes 141 = .ok (.ifCond .eq 7, 3) := by decide +kernel
theorem dX5_takes_144 : decode cX5_takes 144 = .ok (.iconst 1, 1) := by decide +kernel
theorem dX5_takes_145 : decode cX5_takes 145 = .ok (.goto 4, 3) := by decide +kernel
theorem dX5_takes_148 : decode cX5_takes 148 = .ok (.iconst 0, 1) := by decide +kernel
theorem dX5_takes_149 : decode cX5_takes 149 = .ok (.ireturn, 1) := by decide +kernel
theorem dX5_takes_150 : decode cX5_takes 150 = .ok (.iload_n 3, 1) := by decide +kernel
theorem dX5_takes_151 : decode cX5_takes 151 = .ok (.iconst 1, 1) := by decide +kernel
theorem dX5_takes_152 : decode cX5_takes 152 = .ok (.if_icmp .ne 19, 3) := by decide +kernel
theorem dX5_takes_155 : decode cX5_takes 155 = .ok (.aload_n 0, 1) := by decide +kernel
theorem dX5_takes_156 : decode cX5_takes 156 = .ok (.aload_n 2, 1) := by decide +kernel
theorem dX5_takes_157 : decode cX5_takes 157 = .ok (.iconst 0, 1) := by decide +kernel
theorem dX5_takes_158 : decode cX5_takes 158 = .ok (.invokestatic 63, 3) := by decide +kernel
theorem dX5_takes_161 : decode cX5_takes 161 = .ok (.invokevirtual 71, 3) := by decide +kernel
theorem dX5_takes_164 : decode cX5_takes 164 = .ok (.ifCond .eq 7, 3) := by decide +kernel
theorem dX5_takes_167 : decode cX5_takes 167 = .ok (.iconst 1, 1) := by decide +kernel
theorem dX5_takes_168 : decode cX5_takes 168 = .ok (.goto 4, 3) := by decide +kernel
theorem dX5_takes_171 : decode cX5_takes 171 = .ok (.iconst 0, 1) := by decide +kernel
theorem dX5_takes_172 : decode cX5_takes 172 = .ok (.ireturn, 1) := by decide +kernel
theorem dX5_takes_173 : decode cX5_takes 173 = .ok (.iload_n 3, 1) := by decide +kernel
theorem dX5_takes_174 : decode cX5_takes 174 = .ok (.iconst 1, 1) := by decide +kernel
theorem dX5_takes_175 : decode cX5_takes 175 = .ok (.if_icmp .ne 19, 3) := by decide +kernel
theorem dX5_takes_178 : decode cX5_takes 178 = .ok (.aload_n 0, 1) := by decide +kernel
theorem dX5_takes_179 : decode cX5_takes 179 = .ok (.aload_n 2, 1) := by decide +kernel
theorem dX5_takes_180 : decode cX5_takes 180 = .ok (.iconst 0, 1) := by decide +kernel
theorem dX5_takes_181 : decode cX5_takes 181 = .ok (.invokestatic 63, 3) := by decide +kernel
theorem dX5_takes_184 : decode cX5_takes 184 = .ok (.invokevirtual 75, 3) := by decide +kernel
theorem dX5_takes_187 : decode cX5_takes 187 = .ok (.ifCond .eq 7, 3) := by decide +kernel
theorem dX5_takes_190 : decode cX5_takes 190 = .ok (.iconst 1, 1) := by decide +kernel
theorem dX5_takes_191 : decode cX5_takes 191 = .ok (.goto 4, 3) := by decide +kernel
theorem dX5_takes_194 : decode cX5_takes 194 = .ok (.iconst 0, 1) := by decide +kernel
theorem dX5_takes_195 : decode cX5_takes 195 = .ok (.ireturn, 1) := by decide +kernel
theorem dX5_takes_196 : decode cX5_takes 196 = .ok (.iload_n 3, 1) := by decide +kernel
theorem dX5_takes_197 : decode cX5_takes 197 = .ok (.iconst 3, 1) := by decide +kernel
theorem dX5_takes_198 : decode cX5_takes 198 = .ok (.if_icmp .ne 29, 3) := by decide +kernel
theorem dX5_takes_201 : decode cX5_takes 201 = .ok (.aload_n 0, 1) := by decide +kernel
theorem dX5_takes_202 : decode cX5_takes 202 = .ok (.aload_n 2, 1) := by decide +kernel
theorem dX5_takes_203 : decode cX5_takes 203 = .ok (.iconst 0, 1) := by decide +kernel
theorem dX5_takes_204 : decode cX5_takes 204 = .ok (.invokestatic 63, 3) := by decide +kernel
theorem dX5_takes_207 : decode cX5_takes 207 = .ok (.aload_n 2, 1) := by decide +kernel
theorem dX5_takes_208 : decode cX5_takes 208 = .ok (.iconst 1, 1) := by decide +kernel
theorem dX5_takes_209 : decode cX5_takes 209 = .ok (.invokestatic 63, 3) := by decide +kernel
theorem dX5_takes_212 : decode cX5_takes 212 = .ok (.aload_n 2, 1) := by decide +kernel
theorem dX5_takes_213 : decode cX5_takes 213 = .ok (.iconst 2, 1) := by decide +kernel
theorem dX5_takes_214 : decode cX5_takes 214 = .ok (.invokestatic 63, 3) := by decide +kernel
theorem dX5_takes_217 : decode cX5_takes 217 = .ok (.invokevirtual 78, 3) := by decide +kernel
theorem dX5_takes_220 : decode cX5_takes 220 = .ok (.ifCond .eq 7, 3) := by decide +kernel
theorem dX5_takes_223 : decode cX5_takes 223 = .ok (.iconst 1, 1) := by decide +kernel
theorem dX5_takes_224 : decode cX5_takes 224 = .ok (.goto 4, 3) := by decide +kernel
theorem dX5_takes_227 : decode cX5_takes 227 = .ok (.iconst 0, 1) := by decide +kernel
theorem dX5_takes_228 : decode cX5_takes 228 = .ok (.ireturn, 1) := by decide +kernel
theorem dX5_takes_229 : decode cX5_takes 229 = .ok (.iconst 0, 1) := by decide +kernel
theorem dX5_takes_230 : decode cX5_takes 230 = .ok (.ireturn, 1) := by decide +kernel
theorem dX5_takesThing_0 : decode cX5_takesThing 0 = .ok (.aload_n 0, 1) := by decide +kernel
theorem dX5_takesThing_1 : decode cX5_takesThing 1 = .ok (.getfield 12, 3) := by decide +kernel
theorem dX5_takesThing_4 : decode cX5_takesThing 4 = .ok (.getfield 82, 3) := by decide +kernel
theorem dX5_takesThing_7 : decode cX5_takesThing 7 = .ok (.bipush 8, 2) := by decide +kernel
theorem dX5_takesThing_9 : decode cX5_takesThing 9 = .ok (.if_icmp .ge 58, 3) := by decide +kernel
theorem dX5_takesThing_12 : decode cX5_takesThing 12 = .ok (.aload_n 1, 1) := by decide +kernel
theorem dX5_takesThing_13 : decode cX5_takesThing 13 = .ok (.iconst 0, 1) := by decide +kernel
theorem dX5_takesThing_14 : decode cX5_takesThing 14 = .ok (.invokestatic 63, 3) := by decide +kernel
theorem dX5_takesThing_17 : decode cX5_takesThing 17 = .ok (.iconst 1, 1) := by decide +kernel
theorem dX5_takesThing_18 : decode cX5_takesThing 18 = .ok (.bipush 20, 2) := by decide +kernel
theorem dX5_takesThing_20 : decode cX5_takesThing 20 = .ok (.invokestatic 85, 3) := by decide +kernel
theorem dX5_takesThing_23 : decode cX5_takesThing 23 = .ok (.ifCond .eq 44, 3) := by decide +kernel
theorem dX5_takesThing_26 : decode cX5_takesThing 26 = .ok (.aload_n 1, 1) := by decide +kernel
theorem dX5_takesThing_27 : decode cX5_takesThing 27 = .ok (.iconst 1, 1) := by decide +kernel
theorem dX5_takesThing_28 : decode cX5_takesThing 28 = .ok (.invokestatic 63, 3) := by decide +kernel
theorem dX5_takesThing_31 : decode cX5_takesThing 31 = .ok (.iconst 0, 1) := by decide +kernel
theorem dX5_takesThing_32 : decode cX5_takesThing 32 = .ok (.iconst 3, 1) := by decide +kernel
theorem dX5_takesThing_33 : decode cX5_takesThing 33 = .ok (.invokestatic 85, 3) := by decide +kernel
theorem dX5_takesThing_36 : decode cX5_takesThing 36 = .ok (.ifCond .eq 31, 3) := by decide +kernel
theorem dX5_takesThing_39 : decode cX5_takesThing 39 = .ok (.aload_n 1, 1) := by decide +kernel
theorem dX5_takesThing_40 : decode cX5_takesThing 40 = .ok (.iconst 2, 1) := by decide +kernel
theorem dX5_takesThing_41 : decode cX5_takesThing 41 = .ok (.invokestatic 63, 3) := by decide +kernel
theorem dX5_takesThing_44 : decode cX5_takesThing 44 = .ok (.iconst 0, 1) := by decide +kernel
theorem dX5_takesThing_45 : decode cX5_takesThing 45 = .ok (.bipush 9, 2) := by decide +kernel
theorem dX5_takesThing_47 : decode cX5_takesThing 47 = .ok (.invokestatic 85, 3) := by decide +kernel
theorem dX5_takesThing_50 : decode cX5_takesThing 50 = .ok (.ifCond .eq 17, 3) := by decide +kernel
theorem dX5_takesThing_53 : decode cX5_takesThing 53 = .ok (.aload_n 1, 1) := by decide +kernel
theorem dX5_takesThing_54 : decode cX5_takesThing 54 = .ok (.iconst 3, 1) := by decide +kernel
theorem dX5_takesThing_55 : decode cX5_takesThing 55 = .ok (.invokestatic 63, 3) := by decide +kernel
theorem dX5_takesThing_58 : decode cX5_takesThing 58 = .ok (.iconst 1, 1) := by decide +kernel
theorem dX5_takesThing_59 : decode cX5_takesThing 59 = .ok (.bipush 9, 2) := by decide +kernel
theorem dX5_takesThing_61 : decode cX5_takesThing 61 = .ok (.invokestatic 85, 3) := by decide +kernel
theorem dX5_takesThing_64 : decode cX5_takesThing 64 = .ok (.ifCond .ne 5, 3) := by decide +kernel
theorem dX5_takesThing_67 : decode cX5_takesThing 67 = .ok (.iconst 0, 1) := by decide +kernel
theorem dX5_takesThing_68 : decode cX5_takesThing 68 = .ok (.ireturn, 1) := by decide +kernel
theorem dX5_takesThing_69 : decode cX5_takesThing 69 = .ok (.aload_n 0, 1) := by decide +kernel
theorem dX5_takesThing_70 : decode cX5_takesThing 70 = .ok (.getfield 12, 3) := by decide +kernel
theorem dX5_takesThing_73 : decode cX5_takesThing 73 = .ok (.aload_n 1, 1) := by decide +kernel
theorem dX5_takesThing_74 : decode cX5_takesThing 74 = .ok (.invokevirtual 88, 3) := by decide +kernel
theorem dX5_takesThing_77 : decode cX5_takesThing 77 = .ok (.iconst 1, 1) := by decide +kernel
theorem dX5_takesThing_78 : decode cX5_takesThing 78 = .ok (.ireturn, 1) := by decide +kernel
theorem dX5_takesParcel_0 : decode cX5_takesParcel 0 = .ok (.aload_n 0, 1) := by decide +kernel
theorem dX5_takesParcel_1 : decode cX5_takesParcel 1 = .ok (.getfield 41, 3) := by decide +kernel
theorem dX5_takesParcel_4 : decode cX5_takesParcel 4 = .ok (.iconst 4, 1) := by decide +kernel
theorem dX5_takesParcel_5 : decode cX5_takesParcel 5 = .ok (.if_icmp .ge 43, 3) := by decide +kernel
theorem dX5_takesParcel_8 : decode cX5_takesParcel 8 = .ok (.aload_n 1, 1) := by decide +kernel
theorem dX5_takesParcel_9 : decode cX5_takesParcel 9 = .ok (.iconst 0, 1) := by decide +kernel
theorem dX5_takesParcel_10 : decode cX5_takesParcel 10 = .ok (.invokestatic 63, 3) := by decide +kernel
theorem dX5_takesParcel_13 : decode cX5_takesParcel 13 = .ok (.iconst 0, 1) := by decide +kernel
theorem dX5_takesParcel_14 : decode cX5_takesParcel 14 = .ok (.bipush 9, 2) := by decide +kernel
theorem dX5_takesParcel_16 : decode cX5_takesParcel 16 = .ok (.invokestatic 85, 3) := by decide +kernel
theorem dX5_takesParcel_19 : decode cX5_takesParcel 19 = .ok (.ifCond .eq 29, 3) := by decide +kernel
theorem dX5_takesParcel_22 : decode cX5_takesParcel 22 = .ok (.aload_n 1, 1) := by decide +kernel
theorem dX5_takesParcel_23 : decode cX5_takesParcel 23 = .ok (.iconst 1, 1) := by decide +kernel
theorem dX5_takesParcel_24 : decode cX5_takesParcel 24 = .ok (.invokestatic 63, 3) := by decide +kernel
theorem dX5_takesParcel_27 : decode cX5_takesParcel 27 = .ok (.iconst 0, 1) := by decide +kernel
theorem dX5_takesParcel_28 : decode cX5_takesParcel 28 = .ok (.iconst 1, 1) := by decide +kernel
theorem dX5_takesParcel_29 : decode cX5_takesParcel 29 = .ok (.invokestatic 85, 3) := by decide +kernel
theorem dX5_takesParcel_32 : decode cX5_takesParcel 32 = .ok (.ifCond .eq 16, 3) := by decide +kernel
theorem dX5_takesParcel_35 : decode cX5_takesParcel 35 = .ok (.aload_n 1, 1) := by decide +kernel
theorem dX5_takesParcel_36 : decode cX5_takesParcel 36 = .ok (.iconst 2, 1) := by decide +kernel
theorem dX5_takesParcel_37 : decode cX5_takesParcel 37 = .ok (.invokestatic 63, 3) := by decide +kernel
theorem dX5_takesParcel_40 : decode cX5_takesParcel 40 = .ok (.iconst 1, 1) := by decide +kernel
theorem dX5_takesParcel_41 : decode cX5_takesParcel 41 = .ok (.iconst 2, 1) := by decide +kernel
theorem dX5_takesParcel_42 : decode cX5_takesParcel 42 = .ok (.invokestatic 85, 3) := by decide +kernel
theorem dX5_takesParcel_45 : decode cX5_takesParcel 45 = .ok (.ifCond .ne 5, 3) := by decide +kernel
theorem dX5_takesParcel_48 : decode cX5_takesParcel 48 = .ok (.iconst 0, 1) := by decide +kernel
theorem dX5_takesParcel_49 : decode cX5_takesParcel 49 = .ok (.ireturn, 1) := by decide +kernel
theorem dX5_takesParcel_50 : decode cX5_takesParcel 50 = .ok (.aload_n 0, 1) := by decide +kernel
theorem dX5_takesParcel_51 : decode cX5_takesParcel 51 = .ok (.getfield 18, 3) := by decide +kernel
theorem dX5_takesParcel_54 : decode cX5_takesParcel 54 = .ok (.aload_n 0, 1) := by decide +kernel
theorem dX5_takesParcel_55 : decode cX5_takesParcel 55 = .ok (.getfield 41, 3) := by decide +kernel
theorem dX5_takesParcel_58 : decode cX5_takesParcel 58 = .ok (.aload_n 1, 1) := by decide +kernel
theorem dX5_takesParcel_59 : decode cX5_takesParcel 59 = .ok (.iconst 0, 1) := by decide +kernel
theorem dX5_takesParcel_60 : decode cX5_takesParcel 60 = .ok (.invokestatic 63, 3) := by decide +kernel
theorem dX5_takesParcel_63 : decode cX5_takesParcel 63 = .ok (.invokestatic 92, 3) := by decide +kernel
theorem dX5_takesParcel_66 : decode cX5_takesParcel 66 = .ok (.aload_n 0, 1) := by decide +kernel
theorem dX5_takesParcel_67 : decode cX5_takesParcel 67 = .ok (.getfield 22, 3) := by decide +kernel
theorem dX5_takesParcel_70 : decode cX5_takesParcel 70 = .ok (.aload_n 0, 1) := by decide +kernel
theorem dX5_takesParcel_71 : decode cX5_takesParcel 71 = .ok (.getfield 41, 3) := by decide +kernel
theorem dX5_takesParcel_74 : decode cX5_takesParcel 74 = .ok (.aload_n 1, 1) := by decide +kernel
theorem dX5_takesParcel_75 : decode cX5_takesParcel 75 = .ok (.iconst 1, 1) := by decide +kernel
theorem dX5_takesParcel_76 : decode cX5_takesParcel 76 = .ok (.invokestatic 63, 3) := by decide +kernel
theorem dX5_takesParcel_79 : decode cX5_takesParcel 79 = .ok (.invokestatic 92, 3) := by decide +kernel
theorem dX5_takesParcel_82 : decode cX5_takesParcel 82 = .ok (.aload_n 0, 1) := by decide +kernel
theorem dX5_takesParcel_83 : decode cX5_takesParcel 83 = .ok (.getfield 25, 3) := by decide +kernel
theorem dX5_takesParcel_86 : decode cX5_takesParcel 86 = .ok (.aload_n 0, 1) := by decide +kernel
theorem dX5_takesParcel_87 : decode cX5_takesParcel 87 = .ok (.getfield 41, 3) := by decide +kernel
theorem dX5_takesParcel_90 : decode cX5_takesParcel 90 = .ok (.aload_n 1, 1) := by decide +kernel
theorem dX5_takesParcel_91 : decode cX5_takesParcel 91 = .ok (.iconst 2, 1) := by decide +kernel
theorem dX5_takesParcel_92 : decode cX5_takesParcel 92 = .ok (.invokestatic 63, 3) := by decide +kernel
theorem dX5_takesParcel_95 : decode cX5_takesParcel 95 = .ok (.invokestatic 92, 3) := by decide +kernel
theorem dX5_takesParcel_98 : decode cX5_takesParcel 98 = .ok (.aload_n 0, 1) := by decide +kernel
theorem dX5_takesParcel_99 : decode cX5_takesParcel 99 = .ok (.dup, 1) := by decide +kernel
theorem dX5_takesParcel_100 : decode cX5_takesParcel 100 = .ok (.getfield 41, 3) := by decide +kernel
theorem dX5_takesParcel_103 : decode cX5_takesParcel 103 = .ok (.iconst 1, 1) := by decide +kernel
theorem dX5_takesParcel_104 : decode cX5_takesParcel 104 = .ok (.iadd, 1) := by decide +kernel
theorem dX5_takesParcel_105 : decode cX5_takesParcel 105 = .ok (.putfield 41, 3) := by decide +kernel
theorem dX5_takesParcel_108 : decode cX5_takesParcel 108 = .ok (.iconst 1, 1) := by decide +kernel
theorem dX5_takesParcel_109 : decode cX5_takesParcel 109 = .ok (.ireturn, 1) := by decide +kernel
theorem dX5_takesTruth_0 : decode cX5_takesTruth 0 = .ok (.iload_n 1, 1) := by decide +kernel
theorem dX5_takesTruth_1 : decode cX5_takesTruth 1 = .ok (.aload_n 0, 1) := by decide +kernel
theorem dX5_takesTruth_2 : decode cX5_takesTruth 2 = .ok (.getfield 41, 3) := by decide +kernel
theorem dX5_takesTruth_5 : decode cX5_takesTruth 5 = .ok (.invokestatic 96, 3) := by decide +kernel
theorem dX5_takesTruth_8 : decode cX5_takesTruth 8 = .ok (.ifCond .eq 17, 3) := by decide +kernel
theorem dX5_takesTruth_11 : decode cX5_takesTruth 11 = .ok (.iload_n 2, 1) := by decide +kernel
theorem dX5_takesTruth_12 : decode cX5_takesTruth 12 = .ok (.aload_n 0, 1) := by decide +kernel
theorem dX5_takesTruth_13 : decode cX5_takesTruth 13 = .ok (.getfield 12, 3) := by decide +kernel
theorem dX5_takesTruth_16 : decode cX5_takesTruth 16 = .ok (.getfield 82, 3) := by decide +kernel
theorem dX5_takesTruth_19 : decode cX5_takesTruth 19 = .ok (.invokestatic 96, 3) := by decide +kernel
theorem dX5_takesTruth_22 : decode cX5_takesTruth 22 = .ok (.ifCond .ne 5, 3) := by decide +kernel
theorem dX5_takesTruth_25 : decode cX5_takesTruth 25 = .ok (.iconst 0, 1) := by decide +kernel
theorem dX5_takesTruth_26 : decode cX5_takesTruth 26 = .ok (.ireturn, 1) := by decide +kernel
theorem dX5_takesTruth_27 : decode cX5_takesTruth 27 = .ok (.aload_n 0, 1) := by decide +kernel
theorem dX5_takesTruth_28 : decode cX5_takesTruth 28 = .ok (.dup, 1) := by decide +kernel
theorem dX5_takesTruth_29 : decode cX5_takesTruth 29 = .ok (.getfield 44, 3) := by decide +kernel
theorem dX5_takesTruth_32 : decode cX5_takesTruth 32 = .ok (.iconst 1, 1) := by decide +kernel
theorem dX5_takesTruth_33 : decode cX5_takesTruth 33 = .ok (.bipush 8, 2) := by decide +kernel
theorem dX5_takesTruth_35 : decode cX5_takesTruth 35 = .ok (.iload_n 1, 1) := by decide +kernel
theorem dX5_takesTruth_36 : decode cX5_takesTruth 36 = .ok (.imul, 1) := by decide +kernel
theorem dX5_takesTruth_37 : decode cX5_takesTruth 37 = .ok (.iload_n 2, 1) := by decide +kernel
theorem dX5_takesTruth_38 : decode cX5_takesTruth 38 = .ok (.iadd, 1) := by decide +kernel
theorem dX5_takesTruth_39 : decode cX5_takesTruth 39 = .ok (.ishl, 1) := by decide +kernel
theorem dX5_takesTruth_40 : decode cX5_takesTruth 40 = .ok (.ior, 1) := by decide +kernel
theorem dX5_takesTruth_41 : decode cX5_takesTruth 41 = .ok (.putfield 44, 3) := by decide +kernel
theorem dX5_takesTruth_44 : decode cX5_takesTruth 44 = .ok (.iconst 1, 1) := by decide +kernel
theorem dX5_takesTruth_45 : decode cX5_takesTruth 45 = .ok (.ireturn, 1) := by decide +kernel
theorem dX5_takesScale_0 : decode cX5_takesScale 0 = .ok (.iload_n 1, 1) := by decide +kernel
theorem dX5_takesScale_1 : decode cX5_takesScale 1 = .ok (.iconst 1, 1) := by decide +kernel
theorem dX5_takesScale_2 : decode cX5_takesScale 2 = .ok (.bipush 9, 2) := by decide +kernel
theorem dX5_takesScale_4 : decode cX5_takesScale 4 = .ok (.invokestatic 85, 3) := by decide +kernel
theorem dX5_takesScale_7 : decode cX5_takesScale 7 = .ok (.ifCond .ne 5, 3) := by decide +kernel
theorem dX5_takesScale_10 : decode cX5_takesScale 10 = .ok (.iconst 0, 1) := by decide +kernel
theorem dX5_takesScale_11 : decode cX5_takesScale 11 = .ok (.ireturn, 1) := by decide +kernel
theorem dX5_takesScale_12 : decode cX5_takesScale 12 = .ok (.aload_n 0, 1) := by decide +kernel
theorem dX5_takesScale_13 : decode cX5_takesScale 13 = .ok (.iload_n 1, 1) := by decide +kernel
theorem dX5_takesScale_14 : decode cX5_takesScale 14 = .ok (.putfield 28, 3) := by decide +kernel
theorem dX5_takesScale_17 : decode cX5_takesScale 17 = .ok (.iconst 1, 1) := by decide +kernel
theorem dX5_takesScale_18 : decode cX5_takesScale 18 = .ok (.ireturn, 1) := by decide +kernel
theorem dX5_takesApart_0 : decode cX5_takesApart 0 = .ok (.iload_n 1, 1) := by decide +kernel
theorem dX5_takesApart_1 : decode cX5_takesApart 1 = .ok (.iconst 0, 1) := by decide +kernel
theorem dX5_takesApart_2 : decode cX5_takesApart 2 = .ok (.bipush 40, 2) := by decide +kernel
theorem dX5_takesApart_4 : decode cX5_takesApart 4 = .ok (.invokestatic 85, 3) := by decide +kernel
theorem dX5_takesApart_7 : decode cX5_takesApart 7 = .ok (.ifCond .ne 5, 3) := by decide +kernel
theorem dX5_takesApart_10 : decode cX5_takesApart 10 = .ok (.iconst 0, 1) := by decide +kernel
theorem dX5_takesApart_11 : decode cX5_takesApart 11 = .ok (.ireturn, 1) := by decide +kernel
theorem dX5_takesApart_12 : decode cX5_takesApart 12 = .ok (.aload_n 0, 1) := by decide +kernel
theorem dX5_takesApart_13 : decode cX5_takesApart 13 = .ok (.iload_n 1, 1) := by decide +kernel
theorem dX5_takesApart_14 : decode cX5_takesApart 14 = .ok (.putfield 47, 3) := by decide +kernel
theorem dX5_takesApart_17 : decode cX5_takesApart 17 = .ok (.iconst 1, 1) := by decide +kernel
theorem dX5_takesApart_18 : decode cX5_takesApart 18 = .ok (.ireturn, 1) := by decide +kernel
theorem dX5_takesSort_0 : decode cX5_takesSort 0 = .ok (.iload_n 1, 1) := by decide +kernel
theorem dX5_takesSort_1 : decode cX5_takesSort 1 = .ok (.invokestatic 99, 3) := by decide +kernel
theorem dX5_takesSort_4 : decode cX5_takesSort 4 = .ok (.ifCond .eq 23, 3) := by decide +kernel
theorem dX5_takesSort_7 : decode cX5_takesSort 7 = .ok (.iload_n 2, 1) := by decide +kernel
theorem dX5_takesSort_8 : decode cX5_takesSort 8 = .ok (.iconst 0, 1) := by decide +kernel
theorem dX5_takesSort_9 : decode cX5_takesSort 9 = .ok (.bipush 9, 2) := by decide +kernel
theorem dX5_takesSort_11 : decode cX5_takesSort 11 = .ok (.invokestatic 85, 3) := by decide +kernel
theorem dX5_takesSort_14 : decode cX5_takesSort 14 = .ok (.ifCond .eq 13, 3) := by decide +kernel
theorem dX5_takesSort_17 : decode cX5_takesSort 17 = .ok (.iload_n 3, 1) := by decide +kernel
theorem dX5_takesSort_18 : decode cX5_takesSort 18 = .ok (.iconst 1, 1) := by decide +kernel
theorem dX5_takesSort_19 : decode cX5_takesSort 19 = .ok (.bipush 60, 2) := by decide +kernel
theorem dX5_takesSort_21 : decode cX5_takesSort 21 = .ok (.invokestatic 85, 3) := by decide +kernel
theorem dX5_takesSort_24 : decode cX5_takesSort 24 = .ok (.ifCond .ne 5, 3) := by decide +kernel
theorem dX5_takesSort_27 : decode cX5_takesSort 27 = .ok (.iconst 0, 1) := by decide +kernel
theorem dX5_takesSort_28 : decode cX5_takesSort 28 = .ok (.ireturn, 1) := by decide +kernel
theorem dX5_takesSort_29 : decode cX5_takesSort 29 = .ok (.aload_n 0, 1) := by decide +kernel
theorem dX5_takesSort_30 : decode cX5_takesSort 30 = .ok (.getfield 32, 3) := by decide +kernel
theorem dX5_takesSort_33 : decode cX5_takesSort 33 = .ok (.iload_n 1, 1) := by decide +kernel
theorem dX5_takesSort_34 : decode cX5_takesSort 34 = .ok (.iload_n 2, 1) := by decide +kernel
theorem dX5_takesSort_35 : decode cX5_takesSort 35 = .ok (.invokestatic 92, 3) := by decide +kernel
theorem dX5_takesSort_38 : decode cX5_takesSort 38 = .ok (.aload_n 0, 1) := by decide +kernel
theorem dX5_takesSort_39 : decode cX5_takesSort 39 = .ok (.getfield 35, 3) := by decide +kernel
theorem dX5_takesSort_42 : decode cX5_takesSort 42 = .ok (.iload_n 1, 1) := by decide +kernel
theorem dX5_takesSort_43 : decode cX5_takesSort 43 = .ok (.iload_n 3, 1) := by decide +kernel
theorem dX5_takesSort_44 : decode cX5_takesSort 44 = .ok (.invokestatic 92, 3) := by decide +kernel
theorem dX5_takesSort_47 : decode cX5_takesSort 47 = .ok (.iconst 1, 1) := by decide +kernel
theorem dX5_takesSort_48 : decode cX5_takesSort 48 = .ok (.ireturn, 1) := by decide +kernel
theorem dX5_isWorld_0 : decode cX5_isWorld 0 = .ok (.iconst 0, 1) := by decide +kernel
theorem dX5_isWorld_1 : decode cX5_isWorld 1 = .ok (.istore_n 2, 1) := by decide +kernel
theorem dX5_isWorld_2 : decode cX5_isWorld 2 = .ok (.iconst 0, 1) := by decide +kernel
theorem dX5_isWorld_3 : decode cX5_isWorld 3 = .ok (.istore_n 3, 1) := by decide +kernel
theorem dX5_isWorld_4 : decode cX5_isWorld 4 = .ok (.iload_n 3, 1) := by decide +kernel
theorem dX5_isWorld_5 : decode cX5_isWorld 5 = .ok (.aload_n 0, 1) := by decide +kernel
theorem dX5_isWorld_6 : decode cX5_isWorld 6 = .ok (.getfield 41, 3) := by decide +kernel
theorem dX5_isWorld_9 : decode cX5_isWorld 9 = .ok (.if_icmp .ge 46, 3) := by decide +kernel
theorem dX5_isWorld_12 : decode cX5_isWorld 12 = .ok (.iload_n 1, 1) := by decide +kernel
theorem dX5_isWorld_13 : decode cX5_isWorld 13 = .ok (.iload_n 3, 1) := by decide +kernel
theorem dX5_isWorld_14 : decode cX5_isWorld 14 = .ok (.invokestatic 102, 3) := by decide +kernel
theorem dX5_isWorld_17 : decode cX5_isWorld 17 = .ok (.istore 4, 2) := by decide +kernel
theorem dX5_isWorld_19 : decode cX5_isWorld 19 = .ok (.iload 4, 2) := by decide +kernel
theorem dX5_isWorld_21 : decode cX5_isWorld 21 = .ok (.invokestatic 106, 3) := by decide +kernel
theorem dX5_isWorld_24 : decode cX5_isWorld 24 = .ok (.aload_n 0, 1) := by decide +kernel
theorem dX5_isWorld_25 : decode cX5_isWorld 25 = .ok (.getfield 25, 3) := by decide +kernel
theorem dX5_isWorld_28 : decode cX5_isWorld 28 = .ok (.iload_n 3, 1) := by decide +kernel
theorem dX5_isWorld_29 : decode cX5_isWorld 29 = .ok (.invokestatic 63, 3) := by decide +kernel
theorem dX5_isWorld_32 : decode cX5_isWorld 32 = .ok (.if_icmp .ne 10, 3) := by decide +kernel
theorem dX5_isWorld_35 : decode cX5_isWorld 35 = .ok (.iload 4, 2) := by decide +kernel
theorem dX5_isWorld_37 : decode cX5_isWorld 37 = .ok (.iload_n 2, 1) := by decide +kernel
theorem dX5_isWorld_38 : decode cX5_isWorld 38 = .ok (.iand, 1) := by decide +kernel
theorem dX5_isWorld_39 : decode cX5_isWorld 39 = .ok (.ifCond .eq 5, 3) := by decide +kernel
theorem dX5_isWorld_42 : decode cX5_isWorld 42 = .ok (.iconst 0, 1) := by decide +kernel
theorem dX5_isWorld_43 : decode cX5_isWorld 43 = .ok (.ireturn, 1) := by decide +kernel
theorem dX5_isWorld_44 : decode cX5_isWorld 44 = .ok (.iload_n 2, 1) := by decide +kernel
theorem dX5_isWorld_45 : decode cX5_isWorld 45 = .ok (.iload 4, 2) := by decide +kernel
theorem dX5_isWorld_47 : decode cX5_isWorld 47 = .ok (.ior, 1) := by decide +kernel
theorem dX5_isWorld_48 : decode cX5_isWorld 48 = .ok (.istore_n 2, 1) := by decide +kernel
theorem dX5_isWorld_49 : decode cX5_isWorld 49 = .ok (.iinc 3 1, 3) := by decide +kernel
theorem dX5_isWorld_52 : decode cX5_isWorld 52 = .ok (.goto (-48), 3) := by decide +kernel
theorem dX5_isWorld_55 : decode cX5_isWorld 55 = .ok (.aload_n 0, 1) := by decide +kernel
theorem dX5_isWorld_56 : decode cX5_isWorld 56 = .ok (.iload_n 1, 1) := by decide +kernel
theorem dX5_isWorld_57 : decode cX5_isWorld 57 = .ok (.invokevirtual 112, 3) := by decide +kernel
theorem dX5_isWorld_60 : decode cX5_isWorld 60 = .ok (.ireturn, 1) := by decide +kernel
theorem dX5_isFair_0 : decode cX5_isFair 0 = .ok (.aload_n 0, 1) := by decide +kernel
theorem dX5_isFair_1 : decode cX5_isFair 1 = .ok (.iconst 0, 1) := by decide +kernel
theorem dX5_isFair_2 : decode cX5_isFair 2 = .ok (.invokevirtual 115, 3) := by decide +kernel
theorem dX5_isFair_5 : decode cX5_isFair 5 = .ok (.ifCond .eq 34, 3) := by decide +kernel
theorem dX5_isFair_8 : decode cX5_isFair 8 = .ok (.aload_n 0, 1) := by decide +kernel
theorem dX5_isFair_9 : decode cX5_isFair 9 = .ok (.iconst 1, 1) := by decide +kernel
theorem dX5_isFair_10 : decode cX5_isFair 10 = .ok (.invokevirtual 115, 3) := by decide +kernel
theorem dX5_isFair_13 : decode cX5_isFair 13 = .ok (.ifCond .eq 26, 3) := by decide +kernel
theorem dX5_isFair_16 : decode cX5_isFair 16 = .ok (.aload_n 0, 1) := by decide +kernel
theorem dX5_isFair_17 : decode cX5_isFair 17 = .ok (.iload_n 1, 1) := by decide +kernel
theorem dX5_isFair_18 : decode cX5_isFair 18 = .ok (.iconst 0, 1) := by decide +kernel
theorem dX5_isFair_19 : decode cX5_isFair 19 = .ok (.invokevirtual 118, 3) := by decide +kernel
theorem dX5_isFair_22 : decode cX5_isFair 22 = .ok (.aload_n 0, 1) := by decide +kernel
theorem dX5_isFair_23 : decode cX5_isFair 23 = .ok (.iload_n 1, 1) := by decide +kernel
theorem dX5_isFair_24 : decode cX5_isFair 24 = .ok (.iconst 1, 1) := by decide +kernel
theorem dX5_isFair_25 : decode cX5_isFair 25 = .ok (.invokevirtual 118, 3) := by decide +kernel
theorem dX5_isFair_28 : decode cX5_isFair 28 = .ok (.isub, 1) := by decide +kernel
theorem dX5_isFair_29 : decode cX5_isFair 29 = .ok (.invokestatic 121, 3) := by decide +kernel
theorem dX5_isFair_32 : decode cX5_isFair 32 = .ok (.aload_n 0, 1) := by decide +kernel
theorem dX5_isFair_33 : decode cX5_isFair 33 = .ok (.getfield 47, 3) := by decide +kernel
theorem dX5_isFair_36 : decode cX5_isFair 36 = .ok (.if_icmp .gt 7, 3) := by decide +kernel
theorem dX5_isFair_39 : decode cX5_isFair 39 = .ok (.iconst 1, 1) := by decide +kernel
theorem dX5_isFair_40 : decode cX5_isFair 40 = .ok (.goto 4, 3) := by decide +kernel
theorem dX5_isFair_43 : decode cX5_isFair 43 = .ok (.iconst 0, 1) := by decide +kernel
theorem dX5_isFair_44 : decode cX5_isFair 44 = .ok (.ireturn, 1) := by decide +kernel
theorem dX5_hasParcels_0 : decode cX5_hasParcels 0 = .ok (.iconst 0, 1) := by decide +kernel
theorem dX5_hasParcels_1 : decode cX5_hasParcels 1 = .ok (.istore_n 2, 1) := by decide +kernel
theorem dX5_hasParcels_2 : decode cX5_hasParcels 2 = .ok (.iload_n 2, 1) := by decide +kernel
theorem dX5_hasParcels_3 : decode cX5_hasParcels 3 = .ok (.aload_n 0, 1) := by decide +kernel
theorem dX5_hasParcels_4 : decode cX5_hasParcels 4 = .ok (.getfield 41, 3) := by decide +kernel
theorem dX5_hasParcels_7 : decode cX5_hasParcels 7 = .ok (.if_icmp .ge 23, 3) := by decide +kernel
theorem dX5_hasParcels_10 : decode cX5_hasParcels 10 = .ok (.aload_n 0, 1) := by decide +kernel
theorem dX5_hasParcels_11 : decode cX5_hasParcels 11 = .ok (.getfield 22, 3) := by decide +kernel
theorem dX5_hasParcels_14 : decode cX5_hasParcels 14 = .ok (.iload_n 2, 1) := by decide +kernel
theorem dX5_hasParcels_15 : decode cX5_hasParcels 15 = .ok (.invokestatic 63, 3) := by decide +kernel
theorem dX5_hasParcels_18 : decode cX5_hasParcels 18 = .ok (.iload_n 1, 1) := by decide +kernel
theorem dX5_hasParcels_19 : decode cX5_hasParcels 19 = .ok (.if_icmp .ne 5, 3) := by decide +kernel
theorem dX5_hasParcels_22 : decode cX5_hasParcels 22 = .ok (.iconst 1, 1) := by decide +kernel
theorem dX5_hasParcels_23 : decode cX5_hasParcels 23 = .ok (.ireturn, 1) := by decide +kernel
theorem dX5_hasParcels_24 : decode cX5_hasParcels 24 = .ok (.iinc 2 1, 3) := by decide +kernel
theorem dX5_hasParcels_27 : decode cX5_hasParcels 27 = .ok (.goto (-25), 3) := by decide +kernel
theorem dX5_hasParcels_30 : decode cX5_hasParcels 30 = .ok (.iconst 0, 1) := by decide +kernel
theorem dX5_hasParcels_31 : decode cX5_hasParcels 31 = .ok (.ireturn, 1) := by decide +kernel
theorem dX5_worthFor_0 : decode cX5_worthFor 0 = .ok (.iconst 0, 1) := by decide +kernel
theorem dX5_worthFor_1 : decode cX5_worthFor 1 = .ok (.istore_n 3, 1) := by decide +kernel
theorem dX5_worthFor_2 : decode cX5_worthFor 2 = .ok (.iconst 0, 1) := by decide +kernel
theorem dX5_worthFor_3 : decode cX5_worthFor 3 = .ok (.istore 4, 2) := by decide +kernel
theorem dX5_worthFor_5 : decode cX5_worthFor 5 = .ok (.iload 4, 2) := by decide +kernel
theorem dX5_worthFor_7 : decode cX5_worthFor 7 = .ok (.aload_n 0, 1) := by decide +kernel
theorem dX5_worthFor_8 : decode cX5_worthFor 8 = .ok (.getfield 41, 3) := by decide +kernel
theorem dX5_worthFor_11 : decode cX5_worthFor 11 = .ok (.if_icmp .ge 31, 3) := by decide +kernel
theorem dX5_worthFor_14 : decode cX5_worthFor 14 = .ok (.aload_n 0, 1) := by decide +kernel
theorem dX5_worthFor_15 : decode cX5_worthFor 15 = .ok (.getfield 22, 3) := by decide +kernel
theorem dX5_worthFor_18 : decode cX5_worthFor 18 = .ok (.iload 4, 2) := by decide +kernel
theorem dX5_worthFor_20 : decode cX5_worthFor 20 = .ok (.invokestatic 63, 3) := by decide +kernel
theorem dX5_worthFor_23 : decode cX5_worthFor 23 = .ok (.iload_n 2, 1) := by decide +kernel
theorem dX5_worthFor_24 : decode cX5_worthFor 24 = .ok (.if_icmp .ne 12, 3) := by decide +kernel
theorem dX5_worthFor_27 : decode cX5_worthFor 27 = .ok (.iload_n 3, 1) := by decide +kernel
theorem dX5_worthFor_28 : decode cX5_worthFor 28 = .ok (.iload_n 1, 1) := by decide +kernel
theorem dX5_worthFor_29 : decode cX5_worthFor 29 = .ok (.iload 4, 2) := by decide +kernel
theorem dX5_worthFor_31 : decode cX5_worthFor 31 = .ok (.invokestatic 102, 3) := by decide +kernel
theorem dX5_worthFor_34 : decode cX5_worthFor 34 = .ok (.ior, 1) := by decide +kernel
theorem dX5_worthFor_35 : decode cX5_worthFor 35 = .ok (.istore_n 3, 1) := by decide +kernel
theorem dX5_worthFor_36 : decode cX5_worthFor 36 = .ok (.iinc 4 1, 3) := by decide +kernel
theorem dX5_worthFor_39 : decode cX5_worthFor 39 = .ok (.goto (-34), 3) := by decide +kernel
theorem dX5_worthFor_42 : decode cX5_worthFor 42 = .ok (.aload_n 0, 1) := by decide +kernel
theorem dX5_worthFor_43 : decode cX5_worthFor 43 = .ok (.getfield 12, 3) := by decide +kernel
theorem dX5_worthFor_46 : decode cX5_worthFor 46 = .ok (.getfield 126, 3) := by decide +kernel
theorem dX5_worthFor_49 : decode cX5_worthFor 49 = .ok (.iload_n 3, 1) := by decide +kernel
theorem dX5_worthFor_50 : decode cX5_worthFor 50 = .ok (.invokestatic 63, 3) := by decide +kernel
theorem dX5_worthFor_53 : decode cX5_worthFor 53 = .ok (.ireturn, 1) := by decide +kernel
theorem dX5_chanceOf_0 : decode cX5_chanceOf 0 = .ok (.iconst 0, 1) := by decide +kernel
theorem dX5_chanceOf_1 : decode cX5_chanceOf 1 = .ok (.istore_n 2, 1) := by decide +kernel
theorem dX5_chanceOf_2 : decode cX5_chanceOf 2 = .ok (.iconst 0, 1) := by decide +kernel
theorem dX5_chanceOf_3 : decode cX5_chanceOf 3 = .ok (.istore_n 3, 1) := by decide +kernel
theorem dX5_chanceOf_4 : decode cX5_chanceOf 4 = .ok (.iload_n 3, 1) := by decide +kernel
theorem dX5_chanceOf_5 : decode cX5_chanceOf 5 = .ok (.aload_n 0, 1) := by decide +kernel
theorem dX5_chanceOf_6 : decode cX5_chanceOf 6 = .ok (.getfield 41, 3) := by decide +kernel
theorem dX5_chanceOf_9 : decode cX5_chanceOf 9 = .ok (.if_icmp .ge 17, 3) := by decide +kernel
theorem dX5_chanceOf_12 : decode cX5_chanceOf 12 = .ok (.iload_n 2, 1) := by decide +kernel
theorem dX5_chanceOf_13 : decode cX5_chanceOf 13 = .ok (.iload_n 1, 1) := by decide +kernel
theorem dX5_chanceOf_14 : decode cX5_chanceOf 14 = .ok (.iload_n 3, 1) := by decide +kernel
theorem dX5_chanceOf_15 : decode cX5_chanceOf 15 = .ok (.invokestatic 102, 3) := by decide +kernel
theorem dX5_chanceOf_18 : decode cX5_chanceOf 18 = .ok (.ior, 1) := by decide +kernel
theorem dX5_chanceOf_19 : decode cX5_chanceOf 19 = .ok (.istore_n 2, 1) := by decide +kernel
theorem dX5_chanceOf_20 : decode cX5_chanceOf 20 = .ok (.iinc 3 1, 3) := by decide +kernel
theorem dX5_chanceOf_23 : decode cX5_chanceOf 23 = .ok (.goto (-19), 3) := by decide +kernel
theorem dX5_chanceOf_26 : decode cX5_chanceOf 26 = .ok (.aload_n 0, 1) := by decide +kernel
theorem dX5_chanceOf_27 : decode cX5_chanceOf 27 = .ok (.getfield 12, 3) := by decide +kernel
theorem dX5_chanceOf_30 : decode cX5_chanceOf 30 = .ok (.getfield 129, 3) := by decide +kernel
theorem dX5_chanceOf_33 : decode cX5_chanceOf 33 = .ok (.iload_n 2, 1) := by decide +kernel
theorem dX5_chanceOf_34 : decode cX5_chanceOf 34 = .ok (.invokestatic 63, 3) := by decide +kernel
theorem dX5_chanceOf_37 : decode cX5_chanceOf 37 = .ok (.ireturn, 1) := by decide +kernel
theorem dX5_weightWithBox_0 : decode cX5_weightWithBox 0 = .ok (.aload_n 0, 1) := by decide +kernel
theorem dX5_weightWithBox_1 : decode cX5_weightWithBox 1 = .ok (.getfield 18, 3) := by decide +kernel
theorem dX5_weightWithBox_4 : decode cX5_weightWithBox 4 = .ok (.iload_n 1, 1) := by decide +kernel
theorem dX5_weightWithBox_5 : decode cX5_weightWithBox 5 = .ok (.invokestatic 63, 3) := by decide +kernel
theorem dX5_weightWithBox_8 : decode cX5_weightWithBox 8 = .ok (.aload_n 0, 1) := by decide +kernel
theorem dX5_weightWithBox_9 : decode cX5_weightWithBox 9 = .ok (.getfield 12, 3) := by decide +kernel
theorem dX5_weightWithBox_12 : decode cX5_weightWithBox 12 = .ok (.getfield 132, 3) := by decide +kernel
theorem dX5_weightWithBox_15 : decode cX5_weightWithBox 15 = .ok (.iload_n 2, 1) := by decide +kernel
theorem dX5_weightWithBox_16 : decode cX5_weightWithBox 16 = .ok (.invokestatic 63, 3) := by decide +kernel
theorem dX5_weightWithBox_19 : decode cX5_weightWithBox 19 = .ok (.iadd, 1) := by decide +kernel
theorem dX5_weightWithBox_20 : decode cX5_weightWithBox 20 = .ok (.ireturn, 1) := by decide +kernel
theorem dX5_reply_0 : decode cX5_reply 0 = .ok (.iload_n 2, 1) := by decide +kernel
theorem dX5_reply_1 : decode cX5_reply 1 = .ok (.tableswitch 73 0 2 #[27, 55, 64], 27) := by decide +kernel
theorem dX5_reply_28 : decode cX5_reply 28 = .ok (.aload_n 0, 1) := by decide +kernel
theorem dX5_reply_29 : decode cX5_reply 29 = .ok (.aload_n 0, 1) := by decide +kernel
theorem dX5_reply_30 : decode cX5_reply 30 = .ok (.getfield 18, 3) := by decide +kernel
theorem dX5_reply_33 : decode cX5_reply 33 = .ok (.iload_n 1, 1) := by decide +kernel
theorem dX5_reply_34 : decode cX5_reply 34 = .ok (.invokestatic 63, 3) := by decide +kernel
theorem dX5_reply_37 : decode cX5_reply 37 = .ok (.aload_n 0, 1) := by decide +kernel
theorem dX5_reply_38 : decode cX5_reply 38 = .ok (.getfield 12, 3) := by decide +kernel
theorem dX5_reply_41 : decode cX5_reply 41 = .ok (.getfield 132, 3) := by decide +kernel
theorem dX5_reply_44 : decode cX5_reply 44 = .ok (.iload_n 3, 1) := by decide +kernel
theorem dX5_reply_45 : decode cX5_reply 45 = .ok (.invokestatic 63, 3) := by decide +kernel
theorem dX5_reply_48 : decode cX5_reply 48 = .ok (.iadd, 1) := by decide +kernel
theorem dX5_reply_49 : decode cX5_reply 49 = .ok (.iload 4, 2) := by decide +kernel
theorem dX5_reply_51 : decode cX5_reply 51 = .ok (.iadd, 1) := by decide +kernel
theorem dX5_reply_52 : decode cX5_reply 52 = .ok (.invokevirtual 135, 3) := by decide +kernel
theorem dX5_reply_55 : decode cX5_reply 55 = .ok (.ireturn, 1) := by decide +kernel
theorem dX5_reply_56 : decode cX5_reply 56 = .ok (.aload_n 0, 1) := by decide +kernel
theorem dX5_reply_57 : decode cX5_reply 57 = .ok (.getfield 12, 3) := by decide +kernel
theorem dX5_reply_60 : decode cX5_reply 60 = .ok (.iload_n 3, 1) := by decide +kernel
theorem dX5_reply_61 : decode cX5_reply 61 = .ok (.invokevirtual 138, 3) := by decide +kernel
theorem dX5_reply_64 : decode cX5_reply 64 = .ok (.ireturn, 1) := by decide +kernel
theorem dX5_reply_65 : decode cX5_reply 65 = .ok (.aload_n 0, 1) := by decide +kernel
theorem dX5_reply_66 : decode cX5_reply 66 = .ok (.getfield 12, 3) := by decide +kernel
theorem dX5_reply_69 : decode cX5_reply 69 = .ok (.iload_n 3, 1) := by decide +kernel
theorem dX5_reply_70 : decode cX5_reply 70 = .ok (.invokevirtual 141, 3) := by decide +kernel
theorem dX5_reply_73 : decode cX5_reply 73 = .ok (.ireturn, 1) := by decide +kernel
theorem dX5_reply_74 : decode cX5_reply 74 = .ok (.aload_n 0, 1) := by decide +kernel
theorem dX5_reply_75 : decode cX5_reply 75 = .ok (.getfield 12, 3) := by decide +kernel
theorem dX5_reply_78 : decode cX5_reply 78 = .ok (.iload_n 3, 1) := by decide +kernel
theorem dX5_reply_79 : decode cX5_reply 79 = .ok (.invokevirtual 144, 3) := by decide +kernel
theorem dX5_reply_82 : decode cX5_reply 82 = .ok (.ireturn, 1) := by decide +kernel
theorem dX5_inSteps_0 : decode cX5_inSteps 0 = .ok (.aload_n 0, 1) := by decide +kernel
theorem dX5_inSteps_1 : decode cX5_inSteps 1 = .ok (.getfield 28, 3) := by decide +kernel
theorem dX5_inSteps_4 : decode cX5_inSteps 4 = .ok (.ifCond .le 12, 3) := by decide +kernel
theorem dX5_inSteps_7 : decode cX5_inSteps 7 = .ok (.iload_n 1, 1) := by decide +kernel
theorem dX5_inSteps_8 : decode cX5_inSteps 8 = .ok (.aload_n 0, 1) := by decide +kernel
theorem dX5_inSteps_9 : decode cX5_inSteps 9 = .ok (.getfield 28, 3) := by decide +kernel
theorem dX5_inSteps_12 : decode cX5_inSteps 12 = .ok (.idiv, 1) := by decide +kernel
theorem dX5_inSteps_13 : decode cX5_inSteps 13 = .ok (.goto 4, 3) := by decide +kernel
theorem dX5_inSteps_16 : decode cX5_inSteps 16 = .ok (.iload_n 1, 1) := by decide +kernel
theorem dX5_inSteps_17 : decode cX5_inSteps 17 = .ok (.ireturn, 1) := by decide +kernel
theorem dX5_trials_0 : decode cX5_trials 0 = .ok (.iconst 4, 1) := by decide +kernel
theorem dX5_trials_1 : decode cX5_trials 1 = .ok (.aload_n 0, 1) := by decide +kernel
theorem dX5_trials_2 : decode cX5_trials 2 = .ok (.getfield 41, 3) := by decide +kernel
theorem dX5_trials_5 : decode cX5_trials 5 = .ok (.imul, 1) := by decide +kernel
theorem dX5_trials_6 : decode cX5_trials 6 = .ok (.ireturn, 1) := by decide +kernel
theorem dX5_mostWorlds_0 : decode cX5_mostWorlds 0 = .ok (.iconst 1, 1) := by decide +kernel
theorem dX5_mostWorlds_1 : decode cX5_mostWorlds 1 = .ok (.istore_n 1, 1) := by decide +kernel
theorem dX5_mostWorlds_2 : decode cX5_mostWorlds 2 = .ok (.aload_n 0, 1) := by decide +kernel
theorem dX5_mostWorlds_3 : decode cX5_mostWorlds 3 = .ok (.getfield 12, 3) := by decide +kernel
theorem dX5_mostWorlds_6 : decode cX5_mostWorlds 6 = .ok (.getfield 82, 3) := by decide +kernel
theorem dX5_mostWorlds_9 : decode cX5_mostWorlds 9 = .ok (.istore_n 2, 1) := by decide +kernel
theorem dX5_mostWorlds_10 : decode cX5_mostWorlds 10 = .ok (.iconst 0, 1) := by decide +kernel
theorem dX5_mostWorlds_11 : decode cX5_mostWorlds 11 = .ok (.istore_n 3, 1) := by decide +kernel
theorem dX5_mostWorlds_12 : decode cX5_mostWorlds 12 = .ok (.iload_n 3, 1) := by decide +kernel
theorem dX5_mostWorlds_13 : decode cX5_mostWorlds 13 = .ok (.aload_n 0, 1) := by decide +kernel
theorem dX5_mostWorlds_14 : decode cX5_mostWorlds 14 = .ok (.getfield 41, 3) := by decide +kernel
theorem dX5_mostWorlds_17 : decode cX5_mostWorlds 17 = .ok (.if_icmp .ge 46, 3) := by decide +kernel
theorem dX5_mostWorlds_20 : decode cX5_mostWorlds 20 = .ok (.iload_n 1, 1) := by decide +kernel
theorem dX5_mostWorlds_21 : decode cX5_mostWorlds 21 = .ok (.aload_n 0, 1) := by decide +kernel
theorem dX5_mostWorlds_22 : decode cX5_mostWorlds 22 = .ok (.getfield 25, 3) := by decide +kernel
theorem dX5_mostWorlds_25 : decode cX5_mostWorlds 25 = .ok (.iload_n 3, 1) := by decide +kernel
theorem dX5_mostWorlds_26 : decode cX5_mostWorlds 26 = .ok (.invokestatic 63, 3) := by decide +kernel
theorem dX5_mostWorlds_29 : decode cX5_mostWorlds 29 = .ok (.iconst 1, 1) := by decide +kernel
theorem dX5_mostWorlds_30 : decode cX5_mostWorlds 30 = .ok (.if_icmp .ne 7, 3) := by decide +kernel
theorem dX5_mostWorlds_33 : decode cX5_mostWorlds 33 = .ok (.iload_n 2, 1) := by decide +kernel
theorem dX5_mostWorlds_34 : decode cX5_mostWorlds 34 = .ok (.goto 10, 3) := by decide +kernel
theorem dX5_mostWorlds_37 : decode cX5_mostWorlds 37 = .ok (.iload_n 2, 1) := by decide +kernel
theorem dX5_mostWorlds_38 : decode cX5_mostWorlds 38 = .ok (.iload_n 2, 1) := by decide +kernel
theorem dX5_mostWorlds_39 : decode cX5_mostWorlds 39 = .ok (.iconst 1, 1) := by decide +kernel
theorem dX5_mostWorlds_40 : decode cX5_mostWorlds 40 = .ok (.isub, 1) := by decide +kernel
theorem dX5_mostWorlds_41 : decode cX5_mostWorlds 41 = .ok (.imul, 1) := by decide +kernel
theorem dX5_mostWorlds_42 : decode cX5_mostWorlds 42 = .ok (.iconst 2, 1) := by decide +kernel
theorem dX5_mostWorlds_43 : decode cX5_mostWorlds 43 = .ok (.idiv, 1) := by decide +kernel
theorem dX5_mostWorlds_44 : decode cX5_mostWorlds 44 = .ok (.imul, 1) := by decide +kernel
theorem dX5_mostWorlds_45 : decode cX5_mostWorlds 45 = .ok (.istore_n 1, 1) := by decide +kernel
theorem dX5_mostWorlds_46 : decode cX5_mostWorlds 46 = .ok (.iload_n 2, 1) := by decide +kernel
theorem dX5_mostWorlds_47 : decode cX5_mostWorlds 47 = .ok (.aload_n 0, 1) := by decide +kernel
theorem dX5_mostWorlds_48 : decode cX5_mostWorlds 48 = .ok (.getfield 25, 3) := by decide +kernel
theorem dX5_mostWorlds_51 : decode cX5_mostWorlds 51 = .ok (.iload_n 3, 1) := by decide +kernel
theorem dX5_mostWorlds_52 : decode cX5_mostWorlds 52 = .ok (.invokestatic 63, 3) := by decide +kernel
theorem dX5_mostWorlds_55 : decode cX5_mostWorlds 55 = .ok (.isub, 1) := by decide +kernel
theorem dX5_mostWorlds_56 : decode cX5_mostWorlds 56 = .ok (.istore_n 2, 1) := by decide +kernel
theorem dX5_mostWorlds_57 : decode cX5_mostWorlds 57 = .ok (.iinc 3 1, 3) := by decide +kernel
theorem dX5_mostWorlds_60 : decode cX5_mostWorlds 60 = .ok (.goto (-48), 3) := by decide +kernel
theorem dX5_mostWorlds_63 : decode cX5_mostWorlds 63 = .ok (.iload_n 1, 1) := by decide +kernel
theorem dX5_mostWorlds_64 : decode cX5_mostWorlds 64 = .ok (.ireturn, 1) := by decide +kernel
theorem dX5_listWorlds_0 : decode cX5_listWorlds 0 = .ok (.aload_n 1, 1) := by decide +kernel
theorem dX5_listWorlds_1 : decode cX5_listWorlds 1 = .ok (.invokevirtual 147, 3) := by decide +kernel
theorem dX5_listWorlds_4 : decode cX5_listWorlds 4 = .ok (.aload_n 0, 1) := by decide +kernel
theorem dX5_listWorlds_5 : decode cX5_listWorlds 5 = .ok (.aload_n 1, 1) := by decide +kernel
theorem dX5_listWorlds_6 : decode cX5_listWorlds 6 = .ok (.iconst 0, 1) := by decide +kernel
theorem dX5_listWorlds_7 : decode cX5_listWorlds 7 = .ok (.iconst 0, 1) := by decide +kernel
theorem dX5_listWorlds_8 : decode cX5_listWorlds 8 = .ok (.iconst 0, 1) := by decide +kernel
theorem dX5_listWorlds_9 : decode cX5_listWorlds 9 = .ok (.invokestatic 150, 3) := by decide +kernel
theorem dX5_listWorlds_12 : decode cX5_listWorlds 12 = .ok (.return_, 1) := by decide +kernel
theorem dX5_addWorlds_0 : decode cX5_addWorlds 0 = .ok (.iload_n 2, 1) := by decide +kernel
theorem dX5_addWorlds_1 : decode cX5_addWorlds 1 = .ok (.aload_n 0, 1) := by decide +kernel
theorem dX5_addWorlds_2 : decode cX5_addWorlds 2 = .ok (.getfield 41, 3) := by decide +kernel
theorem dX5_addWorlds_5 : decode cX5_addWorlds 5 = .ok (.if_icmp .ge 8, 3) := by decide +kernel
theorem dX5_addWorlds_8 : decode cX5_addWorlds 8 = .ok (.iload_n 2, 1) := by decide +kernel
theorem dX5_addWorlds_9 : decode cX5_addWorlds 9 = .ok (.iconst 4, 1) := by decide +kernel
theorem dX5_addWorlds_10 : decode cX5_addWorlds 10 = .ok (.if_icmp .lt 19, 3) := by decide +kernel
theorem dX5_addWorlds_13 : decode cX5_addWorlds 13 = .ok (.aload_n 0, 1) := by decide +kernel
theorem dX5_addWorlds_14 : decode cX5_addWorlds 14 = .ok (.iload 4, 2) := by decide +kernel
theorem dX5_addWorlds_16 : decode cX5_addWorlds 16 = .ok (.invokevirtual 112, 3) := by decide +kernel
theorem dX5_addWorlds_19 : decode cX5_addWorlds 19 = .ok (.ifCond .eq 9, 3) := by decide +kernel
theorem dX5_addWorlds_22 : decode cX5_addWorlds 22 = .ok (.aload_n 1, 1) := by decide +kernel
theorem dX5_addWorlds_23 : decode cX5_addWorlds 23 = .ok (.iload 4, 2) := by decide +kernel
theorem dX5_addWorlds_25 : decode cX5_addWorlds 25 = .ok (.invokevirtual 154, 3) := by decide +kernel
theorem dX5_addWorlds_28 : decode cX5_addWorlds 28 = .ok (.return_, 1) := by decide +kernel
theorem dX5_addWorlds_29 : decode cX5_addWorlds 29 = .ok (.iconst 0, 1) := by decide +kernel
theorem dX5_addWorlds_30 : decode cX5_addWorlds 30 = .ok (.istore 5, 2) := by decide +kernel
theorem dX5_addWorlds_32 : decode cX5_addWorlds 32 = .ok (.iload 5, 2) := by decide +kernel
theorem dX5_addWorlds_34 : decode cX5_addWorlds 34 = .ok (.aload_n 0, 1) := by decide +kernel
theorem dX5_addWorlds_35 : decode cX5_addWorlds 35 = .ok (.getfield 12, 3) := by decide +kernel
theorem dX5_addWorlds_38 : decode cX5_addWorlds 38 = .ok (.getfield 82, 3) := by decide +kernel
theorem dX5_addWorlds_41 : decode cX5_addWorlds 41 = .ok (.if_icmp .ge 81, 3) := by decide +kernel
theorem dX5_addWorlds_44 : decode cX5_addWorlds 44 = .ok (.iconst 0, 1) := by decide +kernel
theorem dX5_addWorlds_45 : decode cX5_addWorlds 45 = .ok (.istore 6, 2) := by decide +kernel
theorem dX5_addWorlds_47 : decode cX5_addWorlds 47 = .ok (.iload 6, 2) := by decide +kernel
theorem dX5_addWorlds_49 : decode cX5_addWorlds 49 = .ok (.iload 5, 2) := by decide +kernel
theorem dX5_addWorlds_51 : decode cX5_addWorlds 51 = .ok (.if_icmp .gt 65, 3) := by decide +kernel
theorem dX5_addWorlds_54 : decode cX5_addWorlds 54 = .ok (.iconst 1, 1) := by decide +kernel
theorem dX5_addWorlds_55 : decode cX5_addWorlds 55 = .ok (.iload 5, 2) := by decide +kernel
theorem dX5_addWorlds_57 : decode cX5_addWorlds 57 = .ok (.ishl, 1) := by decide +kernel
theorem dX5_addWorlds_58 : decode cX5_addWorlds 58 = .ok (.iconst 1, 1) := by decide +kernel
theorem dX5_addWorlds_59 : decode cX5_addWorlds 59 = .ok (.iload 6, 2) := by decide +kernel
theorem dX5_addWorlds_61 : decode cX5_addWorlds 61 = .ok (.ishl, 1) := by decide +kernel
theorem dX5_addWorlds_62 : decode cX5_addWorlds 62 = .ok (.ior, 1) := by decide +kernel
theorem dX5_addWorlds_63 : decode cX5_addWorlds 63 = .ok (.istore 7, 2) := by decide +kernel
theorem dX5_addWorlds_65 : decode cX5_addWorlds 65 = .ok (.iload 7, 2) := by decide +kernel
theorem dX5_addWorlds_67 : decode cX5_addWorlds 67 = .ok (.iload_n 3, 1) := by decide +kernel
theorem dX5_addWorlds_68 : decode cX5_addWorlds 68 = .ok (.iand, 1) := by decide +kernel
theorem dX5_addWorlds_69 : decode cX5_addWorlds 69 = .ok (.ifCond .ne 41, 3) := by decide +kernel
theorem dX5_addWorlds_72 : decode cX5_addWorlds 72 = .ok (.iload 7, 2) := by decide +kernel
theorem dX5_addWorlds_74 : decode cX5_addWorlds 74 = .ok (.invokestatic 106, 3) := by decide +kernel
theorem dX5_addWorlds_77 : decode cX5_addWorlds 77 = .ok (.aload_n 0, 1) := by decide +kernel
theorem dX5_addWorlds_78 : decode cX5_addWorlds 78 = .ok (.getfield 25, 3) := by decide +kernel
theorem dX5_addWorlds_81 : decode cX5_addWorlds 81 = .ok (.iload_n 2, 1) := by decide +kernel
theorem dX5_addWorlds_82 : decode cX5_addWorlds 82 = .ok (.invokestatic 63, 3) := by decide +kernel
theorem dX5_addWorlds_85 : decode cX5_addWorlds 85 = .ok (.if_icmp .ne 25, 3) := by decide +kernel
theorem dX5_addWorlds_88 : decode cX5_addWorlds 88 = .ok (.aload_n 0, 1) := by decide +kernel
theorem dX5_addWorlds_89 : decode cX5_addWorlds 89 = .ok (.aload_n 1, 1) := by decide +kernel
theorem dX5_addWorlds_90 : decode cX5_addWorlds 90 = .ok (.iload_n 2, 1) := by decide +kernel
theorem dX5_addWorlds_91 : decode cX5_addWorlds 91 = .ok (.iconst 1, 1) := by decide +kernel
theorem dX5_addWorlds_92 : decode cX5_addWorlds 92 = .ok (.iadd, 1) := by decide +kernel
theorem dX5_addWorlds_93 : decode cX5_addWorlds 93 = .ok (.iload_n 3, 1) := by decide +kernel
theorem dX5_addWorlds_94 : decode cX5_addWorlds 94 = .ok (.iload 7, 2) := by decide +kernel
theorem dX5_addWorlds_96 : decode cX5_addWorlds 96 = .ok (.ior, 1) := by decide +kernel
theorem dX5_addWorlds_97 : decode cX5_addWorlds 97 = .ok (.iload 4, 2) := by decide +kernel
theorem dX5_addWorlds_99 : decode cX5_addWorlds 99 = .ok (.iload 7, 2) := by decide +kernel
theorem dX5_addWorlds_101 : decode cX5_addWorlds 101 = .ok (.bipush 8, 2) := by decide +kernel
theorem dX5_addWorlds_103 : decode cX5_addWorlds 103 = .ok (.iload_n 2, 1) := by decide +kernel
theorem dX5_addWorlds_104 : decode cX5_addWorlds 104 = .ok (.imul, 1) := by decide +kernel
theorem dX5_addWorlds_105 : decode cX5_addWorlds 105 = .ok (.ishl, 1) := by decide +kernel
theorem dX5_addWorlds_106 : decode cX5_addWorlds 106 = .ok (.ior, 1) := by decide +kernel
theorem dX5_addWorlds_107 : decode cX5_addWorlds 107 = .ok (.invokestatic 150, 3) := by decide +kernel
theorem dX5_addWorlds_110 : decode cX5_addWorlds 110 = .ok (.iinc 6 1, 3) := by decide +kernel
theorem dX5_addWorlds_113 : decode cX5_addWorlds 113 = .ok (.goto (-66), 3) := by decide +kernel
theorem dX5_addWorlds_116 : decode cX5_addWorlds 116 = .ok (.iinc 5 1, 3) := by decide +kernel
theorem dX5_addWorlds_119 : decode cX5_addWorlds 119 = .ok (.goto (-87), 3) := by decide +kernel
theorem dX5_addWorlds_122 : decode cX5_addWorlds 122 = .ok (.return_, 1) := by decide +kernel
theorem dX6_init_0 : decode cX6_init 0 = .ok (.aload_n 0, 1) := by decide +kernel
theorem dX6_init_1 : decode cX6_init 1 = .ok (.invokespecial 1, 3) := by decide +kernel
theorem dX6_init_4 : decode cX6_init 4 = .ok (.aload_n 0, 1) := by decide +kernel
theorem dX6_init_5 : decode cX6_init 5 = .ok (.iconst 0, 1) := by decide +kernel
theorem dX6_init_6 : decode cX6_init 6 = .ok (.newarray .int, 2) := by decide +kernel
theorem dX6_init_8 : decode cX6_init 8 = .ok (.putfield 7, 3) := by decide +kernel
theorem dX6_init_11 : decode cX6_init 11 = .ok (.return_, 1) := by decide +kernel
theorem dX6_makeRoom_0 : decode cX6_makeRoom 0 = .ok (.iload_n 1, 1) := by decide +kernel
theorem dX6_makeRoom_1 : decode cX6_makeRoom 1 = .ok (.aload_n 0, 1) := by decide +kernel
theorem dX6_makeRoom_2 : decode cX6_makeRoom 2 = .ok (.getfield 7, 3) := by decide +kernel
theorem dX6_makeRoom_5 : decode cX6_makeRoom 5 = .ok (.arraylength, 1) := by decide +kernel
theorem dX6_makeRoom_6 : decode cX6_makeRoom 6 = .ok (.if_icmp .le 15, 3) := by decide +kernel
theorem dX6_makeRoom_9 : decode cX6_makeRoom 9 = .ok (.aload_n 0, 1) := by decide +kernel
theorem dX6_makeRoom_10 : decode cX6_makeRoom 10 = .ok (.iload_n 1, 1) := by decide +kernel
theorem dX6_makeRoom_11 : decode cX6_makeRoom 11 = .ok (.newarray .int, 2) := by decide +kernel
theorem dX6_makeRoom_13 : decode cX6_makeRoom 13 = .ok (.putfield 7, 3) := by decide +kernel
theorem dX6_makeRoom_16 : decode cX6_makeRoom 16 = .ok (.aload_n 0, 1) := by decide +kernel
theorem dX6_makeRoom_17 : decode cX6_makeRoom 17 = .ok (.iconst 0, 1) := by decide +kernel
theorem dX6_makeRoom_18 : decode cX6_makeRoom 18 = .ok (.putfield 13, 3) := by decide +kernel
theorem dX6_makeRoom_21 : decode cX6_makeRoom 21 = .ok (.return_, 1) := by decide +kernel
theorem dX6_clear_0 : decode cX6_clear 0 = .ok (.aload_n 0, 1) := by decide +kernel
theorem dX6_clear_1 : decode cX6_clear 1 = .ok (.iconst 0, 1) := by decide +kernel
theorem dX6_clear_2 : decode cX6_clear 2 = .ok (.putfield 13, 3) := by decide +kernel
theorem dX6_clear_5 : decode cX6_clear 5 = .ok (.return_, 1) := by decide +kernel
theorem dX6_add_0 : decode cX6_add 0 = .ok (.aload_n 0, 1) := by decide +kernel
theorem dX6_add_1 : decode cX6_add 1 = .ok (.getfield 13, 3) := by decide +kernel
theorem dX6_add_4 : decode cX6_add 4 = .ok (.aload_n 0, 1) := by decide +kernel
theorem dX6_add_5 : decode cX6_add 5 = .ok (.getfield 7, 3) := by decide +kernel
theorem dX6_add_8 : decode cX6_add 8 = .ok (.arraylength, 1) := by decide +kernel
theorem dX6_add_9 : decode cX6_add 9 = .ok (.if_icmp .ge 23, 3) := by decide +kernel
theorem dX6_add_12 : decode cX6_add 12 = .ok (.aload_n 0, 1) := by decide +kernel
theorem dX6_add_13 : decode cX6_add 13 = .ok (.getfield 7, 3) := by decide +kernel
theorem dX6_add_16 : decode cX6_add 16 = .ok (.aload_n 0, 1) := by decide +kernel
theorem dX6_add_17 : decode cX6_add 17 = .ok (.getfield 13, 3) := by decide +kernel
theorem dX6_add_20 : decode cX6_add 20 = .ok (.iload_n 1, 1) := by decide +kernel
theorem dX6_add_21 : decode cX6_add 21 = .ok (.iastore, 1) := by decide +kernel
theorem dX6_add_22 : decode cX6_add 22 = .ok (.aload_n 0, 1) := by decide +kernel
theorem dX6_add_23 : decode cX6_add 23 = .ok (.dup, 1) := by decide +kernel
theorem dX6_add_24 : decode cX6_add 24 = .ok (.getfield 13, 3) := by decide +kernel
theorem dX6_add_27 : decode cX6_add 27 = .ok (.iconst 1, 1) := by decide +kernel
theorem dX6_add_28 : decode cX6_add 28 = .ok (.iadd, 1) := by decide +kernel
theorem dX6_add_29 : decode cX6_add 29 = .ok (.putfield 13, 3) := by decide +kernel
theorem dX6_add_32 : decode cX6_add 32 = .ok (.return_, 1) := by decide +kernel
theorem dX6_take_0 : decode cX6_take 0 = .ok (.aload_n 0, 1) := by decide +kernel
theorem dX6_take_1 : decode cX6_take 1 = .ok (.getfield 7, 3) := by decide +kernel
theorem dX6_take_4 : decode cX6_take 4 = .ok (.iload_n 1, 1) := by decide +kernel
theorem dX6_take_5 : decode cX6_take 5 = .ok (.invokestatic 17, 3) := by decide +kernel
theorem dX6_take_8 : decode cX6_take 8 = .ok (.ireturn, 1) := by decide +kernel
theorem dX6_set_0 : decode cX6_set 0 = .ok (.aload_n 0, 1) := by decide +kernel
theorem dX6_set_1 : decode cX6_set 1 = .ok (.getfield 7, 3) := by decide +kernel
theorem dX6_set_4 : decode cX6_set 4 = .ok (.iload_n 1, 1) := by decide +kernel
theorem dX6_set_5 : decode cX6_set 5 = .ok (.iload_n 2, 1) := by decide +kernel
theorem dX6_set_6 : decode cX6_set 6 = .ok (.invokestatic 23, 3) := by decide +kernel
theorem dX6_set_9 : decode cX6_set 9 = .ok (.return_, 1) := by decide +kernel
theorem dX6_copy_0 : decode cX6_copy 0 = .ok (.aload_n 0, 1) := by decide +kernel
theorem dX6_copy_1 : decode cX6_copy 1 = .ok (.aload_n 1, 1) := by decide +kernel
theorem dX6_copy_2 : decode cX6_copy 2 = .ok (.getfield 13, 3) := by decide +kernel
theorem dX6_copy_5 : decode cX6_copy 5 = .ok (.aload_n 1, 1) := by decide +kernel
theorem dX6_copy_6 : decode cX6_copy 6 = .ok (.getfield 7, 3) := by decide +kernel
theorem dX6_copy_9 : decode cX6_copy 9 = .ok (.arraylength, 1) := by decide +kernel
theorem dX6_copy_10 : decode cX6_copy 10 = .ok (.aload_n 0, 1) := by decide +kernel
theorem dX6_copy_11 : decode cX6_copy 11 = .ok (.getfield 7, 3) := by decide +kernel
theorem dX6_copy_14 : decode cX6_copy 14 = .ok (.arraylength, 1) := by decide +kernel
theorem dX6_copy_15 : decode cX6_copy 15 = .ok (.invokestatic 27, 3) := by decide +kernel
theorem dX6_copy_18 : decode cX6_copy 18 = .ok (.invokestatic 27, 3) := by decide +kernel
theorem dX6_copy_21 : decode cX6_copy 21 = .ok (.putfield 13, 3) := by decide +kernel
theorem dX6_copy_24 : decode cX6_copy 24 = .ok (.aload_n 1, 1) := by decide +kernel
theorem dX6_copy_25 : decode cX6_copy 25 = .ok (.getfield 7, 3) := by decide +kernel
theorem dX6_copy_28 : decode cX6_copy 28 = .ok (.iconst 0, 1) := by decide +kernel
theorem dX6_copy_29 : decode cX6_copy 29 = .ok (.aload_n 0, 1) := by decide +kernel
theorem dX6_copy_30 : decode cX6_copy 30 = .ok (.getfield 7, 3) := by decide +kernel
theorem dX6_copy_33 : decode cX6_copy 33 = .ok (.iconst 0, 1) := by decide +kernel
theorem dX6_copy_34 : decode cX6_copy 34 = .ok (.aload_n 0, 1) := by decide +kernel
theorem dX6_copy_35 : decode cX6_copy 35 = .ok (.getfield 13, 3) := by decide +kernel
theorem dX6_copy_38 : decode cX6_copy 38 = .ok (.invokestatic 33, 3) := by decide +kernel
theorem dX6_copy_41 : decode cX6_copy 41 = .ok (.return_, 1) := by decide +kernel
theorem dX6_holds_0 : decode cX6_holds 0 = .ok (.iconst 0, 1) := by decide +kernel
theorem dX6_holds_1 : decode cX6_holds 1 = .ok (.istore_n 2, 1) := by decide +kernel
theorem dX6_holds_2 : decode cX6_holds 2 = .ok (.iload_n 2, 1) := by decide +kernel
theorem dX6_holds_3 : decode cX6_holds 3 = .ok (.aload_n 0, 1) := by decide +kernel
theorem dX6_holds_4 : decode cX6_holds 4 = .ok (.getfield 13, 3) := by decide +kernel
theorem dX6_holds_7 : decode cX6_holds 7 = .ok (.if_icmp .ge 20, 3) := by decide +kernel
theorem dX6_holds_10 : decode cX6_holds 10 = .ok (.aload_n 0, 1) := by decide +kernel
theorem dX6_holds_11 : decode cX6_holds 11 = .ok (.iload_n 2, 1) := by decide +kernel
theorem dX6_holds_12 : decode cX6_holds 12 = .ok (.invokevirtual 39, 3) := by decide +kernel
theorem dX6_holds_15 : decode cX6_holds 15 = .ok (.iload_n 1, 1) := by decide +kernel
theorem dX6_holds_16 : decode cX6_holds 16 = .ok (.if_icmp .ne 5, 3) := by decide +kernel
theorem dX6_holds_19 : decode cX6_holds 19 = .ok (.iconst 1, 1) := by decide +kernel
theorem dX6_holds_20 : decode cX6_holds 20 = .ok (.ireturn, 1) := by decide +kernel
theorem dX6_holds_21 : decode cX6_holds 21 = .ok (.iinc 2 1, 3) := by decide +kernel
theorem dX6_holds_24 : decode cX6_holds 24 = .ok (.goto (-22), 3) := by decide +kernel
theorem dX6_holds_27 : decode cX6_holds 27 = .ok (.iconst 0, 1) := by decide +kernel
theorem dX6_holds_28 : decode cX6_holds 28 = .ok (.ireturn, 1) := by decide +kernel
theorem dX6_narrow_0 : decode cX6_narrow 0 = .ok (.aload_n 0, 1) := by decide +kernel
theorem dX6_narrow_1 : decode cX6_narrow 1 = .ok (.getfield 13, 3) := by decide +kernel
theorem dX6_narrow_4 : decode cX6_narrow 4 = .ok (.istore 5, 2) := by decide +kernel
theorem dX6_narrow_6 : decode cX6_narrow 6 = .ok (.aload_n 0, 1) := by decide +kernel
theorem dX6_narrow_7 : decode cX6_narrow 7 = .ok (.invokevirtual 43, 3) := by decide +kernel
theorem dX6_narrow_10 : decode cX6_narrow 10 = .ok (.iconst 0, 1) := by decide +kernel
theorem dX6_narrow_11 : decode cX6_narrow 11 = .ok (.istore 6, 2) := by decide +kernel
theorem dX6_narrow_13 : decode cX6_narrow 13 = .ok (.iload 6, 2) := by decide +kernel
theorem dX6_narrow_15 : decode cX6_narrow 15 = .ok (.iload 5, 2) := by decide +kernel
theorem dX6_narrow_17 : decode cX6_narrow 17 = .ok (.if_icmp .ge 41, 3) := by decide +kernel
theorem dX6_narrow_20 : decode cX6_narrow 20 = .ok (.aload_n 0, 1) := by decide +kernel
theorem dX6_narrow_21 : decode cX6_narrow 21 = .ok (.iload 6, 2) := by decide +kernel
theorem dX6_narrow_23 : decode cX6_narrow 23 = .ok (.invokevirtual 39, 3) := by decide +kernel
theorem dX6_narrow_26 : decode cX6_narrow 26 = .ok (.istore 7, 2) := by decide +kernel
theorem dX6_narrow_28 : decode cX6_narrow 28 = .ok (.aload_n 1, 1) := by decide +kernel
theorem dX6_narrow_29 : decode cX6_narrow 29 = .ok (.iload_n 2, 1) := by decide +kernel
theorem dX6_narrow_30 : decode cX6_narrow 30 = .ok (.iload_n 3, 1) := by decide +kernel
theorem dX6_narrow_31 : decode cX6_narrow 31 = .ok (.iload 7, 2) := by decide +kernel
theorem dX6_narrow_33 : decode cX6_narrow 33 = .ok (.iload_n 2, 1) := by decide +kernel
theorem dX6_narrow_34 : decode cX6_narrow 34 = .ok (.invokestatic 46, 3) := by decide +kernel
theorem dX6_narrow_37 : decode cX6_narrow 37 = .ok (.iconst 0, 1) := by decide +kernel
theorem dX6_narrow_38 : decode cX6_narrow 38 = .ok (.invokevirtual 49, 3) := by decide +kernel
theorem dX6_narrow_41 : decode cX6_narrow 41 = .ok (.iload 4, 2) := by decide +kernel
theorem dX6_narrow_43 : decode cX6_narrow 43 = .ok (.if_icmp .ne 9, 3) := by decide +kernel
theorem dX6_narrow_46 : decode cX6_narrow 46 = .ok (.aload_n 0, 1) := by decide +kernel
theorem dX6_narrow_47 : decode cX6_narrow 47 = .ok (.iload 7, 2) := by decide +kernel
theorem dX6_narrow_49 : decode cX6_narrow 49 = .ok (.invokevirtual 55, 3) := by decide +kernel
theorem dX6_narrow_52 : decode cX6_narrow 52 = .ok (.iinc 6 1, 3) := by decide +kernel
theorem dX6_narrow_55 : decode cX6_narrow 55 = .ok (.goto (-42), 3) := by decide +kernel
theorem dX6_narrow_58 : decode cX6_narrow 58 = .ok (.return_, 1) := by decide +kernel
theorem dX7_init_0 : decode cX7_init 0 = .ok (.aload_n 0, 1) := by decide +kernel
theorem dX7_init_1 : decode cX7_init 1 = .ok (.invokespecial 3, 3) := by decide +kernel
theorem dX7_init_4 : decode cX7_init 4 = .ok (.aload_n 0, 1) := by decide +kernel
theorem dX7_init_5 : decode cX7_init 5 = .ok (.new 9, 3) := by decide +kernel
theorem dX7_init_8 : decode cX7_init 8 = .ok (.dup, 1) := by decide +kernel
theorem dX7_init_9 : decode cX7_init 9 = .ok (.invokespecial 11, 3) := by decide +kernel
theorem dX7_init_12 : decode cX7_init 12 = .ok (.putfield 12, 3) := by decide +kernel
theorem dX7_init_15 : decode cX7_init 15 = .ok (.aload_n 0, 1) := by decide +kernel
theorem dX7_init_16 : decode cX7_init 16 = .ok (.new 16, 3) := by decide +kernel
theorem dX7_init_19 : decode cX7_init 19 = .ok (.dup, 1) := by decide +kernel
theorem dX7_init_20 : decode cX7_init 20 = .ok (.invokespecial 18, 3) := by decide +kernel
theorem dX7_init_23 : decode cX7_init 23 = .ok (.putfield 19, 3) := by decide +kernel
theorem dX7_init_26 : decode cX7_init 26 = .ok (.aload_n 0, 1) := by decide +kernel
theorem dX7_init_27 : decode cX7_init 27 = .ok (.new 16, 3) := by decide +kernel
theorem dX7_init_30 : decode cX7_init 30 = .ok (.dup, 1) := by decide +kernel
theorem dX7_init_31 : decode cX7_init 31 = .ok (.invokespecial 18, 3) := by decide +kernel
theorem dX7_init_34 : decode cX7_init 34 = .ok (.putfield 23, 3) := by decide +kernel
theorem dX7_init_37 : decode cX7_init 37 = .ok (.aload_n 0, 1) := by decide +kernel
theorem dX7_init_38 : decode cX7_init 38 = .ok (.new 26, 3) := by decide +kernel
theorem dX7_init_41 : decode cX7_init 41 = .ok (.dup, 1) := by decide +kernel
theorem dX7_init_42 : decode cX7_init 42 = .ok (.invokespecial 28, 3) := by decide +kernel
theorem dX7_init_45 : decode cX7_init 45 = .ok (.putfield 29, 3) := by decide +kernel
theorem dX7_init_48 : decode cX7_init 48 = .ok (.aload_n 0, 1) := by decide +kernel
theorem dX7_init_49 : decode cX7_init 49 = .ok (.new 26, 3) := by decide +kernel
theorem dX7_init_52 : decode cX7_init 52 = .ok (.dup, 1) := by decide +kernel
theorem dX7_init_53 : decode cX7_init 53 = .ok (.invokespecial 28, 3) := by decide +kernel
theorem dX7_init_56 : decode cX7_init 56 = .ok (.putfield 33, 3) := by decide +kernel
theorem dX7_init_59 : decode cX7_init 59 = .ok (.aload_n 0, 1) := by decide +kernel
theorem dX7_init_60 : decode cX7_init 60 = .ok (.new 26, 3) := by decide +kernel
theorem dX7_init_63 : decode cX7_init 63 = .ok (.dup, 1) := by decide +kernel
theorem dX7_init_64 : decode cX7_init 64 = .ok (.invokespecial 28, 3) := by decide +kernel
theorem dX7_init_67 : decode cX7_init 67 = .ok (.putfield 36, 3) := by decide +kernel
theorem dX7_init_70 : decode cX7_init 70 = .ok (.aload_n 0, 1) := by decide +kernel
theorem dX7_init_71 : decode cX7_init 71 = .ok (.new 39, 3) := by decide +kernel
theorem dX7_init_74 : decode cX7_init 74 = .ok (.dup, 1) := by decide +kernel
theorem dX7_init_75 : decode cX7_init 75 = .ok (.invokespecial 41, 3) := by decide +kernel
theorem dX7_init_78 : decode cX7_init 78 = .ok (.putfield 42, 3) := by decide +kernel
theorem dX7_init_81 : decode cX7_init 81 = .ok (.aload_n 0, 1) := by decide +kernel
theorem dX7_init_82 : decode cX7_init 82 = .ok (.new 46, 3) := by decide +kernel
theorem dX7_init_85 : decode cX7_init 85 = .ok (.dup, 1) := by decide +kernel
theorem dX7_init_86 : decode cX7_init 86 = .ok (.invokespecial 48, 3) := by decide +kernel
theorem dX7_init_89 : decode cX7_init 89 = .ok (.putfield 49, 3) := by decide +kernel
theorem dX7_init_92 : decode cX7_init 92 = .ok (.aload_n 0, 1) := by decide +kernel
theorem dX7_init_93 : decode cX7_init 93 = .ok (.new 53, 3) := by decide +kernel
theorem dX7_init_96 : decode cX7_init 96 = .ok (.dup, 1) := by decide +kernel
theorem dX7_init_97 : decode cX7_init 97 = .ok (.bipush 8, 2) := by decide +kernel
theorem dX7_init_99 : decode cX7_init 99 = .ok (.invokespecial 55, 3) := by decide +kernel
theorem dX7_init_102 : decode cX7_init 102 = .ok (.putfield 58, 3) := by decide +kernel
theorem dX7_init_105 : decode cX7_init 105 = .ok (.aload_n 0, 1) := by decide +kernel
theorem dX7_init_106 : decode cX7_init 106 = .ok (.new 53, 3) := by decide +kernel
theorem dX7_init_109 : decode cX7_init 109 = .ok (.dup, 1) := by decide +kernel
theorem dX7_init_110 : decode cX7_init 110 = .ok (.iconst 2, 1) := by decide +kernel
theorem dX7_init_111 : decode cX7_init 111 = .ok (.invokespecial 55, 3) := by decide +kernel
theorem dX7_init_114 : decode cX7_init 114 = .ok (.putfield 62, 3) := by decide +kernel
theorem dX7_init_117 : decode cX7_init 117 = .ok (.aload_n 0, 1) := by decide +kernel
theorem dX7_init_118 : decode cX7_init 118 = .ok (.sipush 256, 3) := by decide +kernel
theorem dX7_init_121 : decode cX7_init 121 = .ok (.newarray .long, 2) := by decide +kernel
theorem dX7_init_123 : decode cX7_init 123 = .ok (.putfield 65, 3) := by decide +kernel
theorem dX7_init_126 : decode cX7_init 126 = .ok (.aload_n 0, 1) := by decide +kernel
theorem dX7_init_127 : decode cX7_init 127 = .ok (.iconst 1, 1) := by decide +kernel
theorem dX7_init_128 : decode cX7_init 128 = .ok (.putfield 69, 3) := by decide +kernel
theorem dX7_init_131 : decode cX7_init 131 = .ok (.aload_n 0, 1) := by decide +kernel
theorem dX7_init_132 : decode cX7_init 132 = .ok (.bipush (-4), 2) := by decide +kernel
theorem dX7_init_134 : decode cX7_init 134 = .ok (.putfield 73, 3) := by decide +kernel
theorem dX7_init_137 : decode cX7_init 137 = .ok (.iconst 0, 1) := by decide +kernel
theorem dX7_init_138 : decode cX7_init 138 = .ok (.istore_n 1, 1) := by decide +kernel
theorem dX7_init_139 : decode cX7_init 139 = .ok (.iload_n 1, 1) := by decide +kernel
theorem dX7_init_140 : decode cX7_init 140 = .ok (.ldc 77, 2) := by decide +kernel
theorem dX7_init_142 : decode cX7_init 142 = .ok (.invokevirtual 79, 3) := by decide +kernel
theorem dX7_init_145 : decode cX7_init 145 = .ok (.if_icmp .ge 23, 3) := by decide +kernel
theorem dX7_init_148 : decode cX7_init 148 = .ok (.aload_n 0, 1) := by decide +kernel
theorem dX7_init_149 : decode cX7_init 149 = .ok (.getfield 12, 3) := by decide +kernel
theorem dX7_init_152 : decode cX7_init 152 = .ok (.ldc 77, 2) := by decide +kernel
theorem dX7_init_154 : decode cX7_init 154 = .ok (.iload_n 1, 1) := by decide +kernel
theorem dX7_init_155 : decode cX7_init 155 = .ok (.invokevirtual 85, 3) := by decide +kernel
theorem dX7_init_158 : decode cX7_init 158 = .ok (.invokevirtual 89, 3) := by decide +kernel
theorem dX7_init_161 : decode cX7_init 161 = .ok (.pop, 1) := by decide +kernel
theorem dX7_init_162 : decode cX7_init 162 = .ok (.iinc 1 1, 3) := by decide +kernel
theorem dX7_init_165 : decode cX7_init 165 = .ok (.goto (-26), 3) := by decide +kernel
theorem dX7_init_168 : decode cX7_init 168 = .ok (.aload_n 0, 1) := by decide +kernel
theorem dX7_init_169 : decode cX7_init 169 = .ok (.invokevirtual 93, 3) := by decide +kernel
theorem dX7_init_172 : decode cX7_init 172 = .ok (.pop, 1) := by decide +kernel
theorem dX7_init_173 : decode cX7_init 173 = .ok (.aload_n 0, 1) := by decide +kernel
theorem dX7_init_174 : decode cX7_init 174 = .ok (.getfield 12, 3) := by decide +kernel
theorem dX7_init_177 : decode cX7_init 177 = .ok (.invokevirtual 97, 3) := by decide +kernel
theorem dX7_init_180 : decode cX7_init 180 = .ok (.return_, 1) := by decide +kernel
theorem dX7_write_0 : decode cX7_write 0 = .ok (.iload_n 1, 1) := by decide +kernel
theorem dX7_write_1 : decode cX7_write 1 = .ok (.bipush 32, 2) := by decide +kernel
theorem dX7_write_3 : decode cX7_write 3 = .ok (.if_icmp .lt 9, 3) := by decide +kernel
theorem dX7_write_6 : decode cX7_write 6 = .ok (.iload_n 1, 1) := by decide +kernel
theorem dX7_write_7 : decode cX7_write 7 = .ok (.bipush 126, 2) := by decide +kernel
theorem dX7_write_9 : decode cX7_write 9 = .ok (.if_icmp .le 5, 3) := by decide +kernel
theorem dX7_write_12 : decode cX7_write 12 = .ok (.iconst (-1), 1) := by decide +kernel
theorem dX7_write_13 : decode cX7_write 13 = .ok (.ireturn, 1) := by decide +kernel
theorem dX7_write_14 : decode cX7_write 14 = .ok (.aload_n 0, 1) := by decide +kernel
theorem dX7_write_15 : decode cX7_write 15 = .ok (.getfield 12, 3) := by decide +kernel
theorem dX7_write_18 : decode cX7_write 18 = .ok (.iload_n 1, 1) := by decide +kernel
theorem dX7_write_19 : decode cX7_write 19 = .ok (.invokevirtual 89, 3) := by decide +kernel
theorem dX7_write_22 : decode cX7_write 22 = .ok (.ifCond .eq 13, 3) := by decide +kernel
theorem dX7_write_25 : decode cX7_write 25 = .ok (.aload_n 0, 1) := by decide +kernel
theorem dX7_write_26 : decode cX7_write 26 = .ok (.getfield 12, 3) := by decide +kernel
theorem dX7_write_29 : decode cX7_write 29 = .ok (.getfield 100, 3) := by decide +kernel
theorem dX7_write_32 : decode cX7_write 32 = .ok (.goto 5, 3) := by decide +kernel
theorem dX7_write_35 : decode cX7_write 35 = .ok (.bipush (-3), 2) := by decide +kernel
theorem dX7_write_37 : decode cX7_write 37 = .ok (.ireturn, 1) := by decide +kernel
theorem dX7_wipe_0 : decode cX7_wipe 0 = .ok (.aload_n 0, 1) := by decide +kernel
theorem dX7_wipe_1 : decode cX7_wipe 1 = .ok (.getfield 12, 3) := by decide +kernel
theorem dX7_wipe_4 : decode cX7_wipe 4 = .ok (.getfield 100, 3) := by decide +kernel
theorem dX7_wipe_7 : decode cX7_wipe 7 = .ok (.istore_n 1, 1) := by decide +kernel
theorem dX7_wipe_8 : decode cX7_wipe 8 = .ok (.aload_n 0, 1) := by decide +kernel
theorem dX7_wipe_9 : decode cX7_wipe 9 = .ok (.getfield 12, 3) := by decide +kernel
theorem dX7_wipe_12 : decode cX7_wipe 12 = .ok (.invokevirtual 97, 3) := by decide +kernel
theorem dX7_wipe_15 : decode cX7_wipe 15 = .ok (.iload_n 1, 1) := by decide +kernel
theorem dX7_wipe_16 : decode cX7_wipe 16 = .ok (.ireturn, 1) := by decide +kernel
theorem dX7_fault_0 : decode cX7_fault 0 = .ok (.aload_n 0, 1) := by decide +kernel
theorem dX7_fault_1 : decode cX7_fault 1 = .ok (.getfield 12, 3) := by decide +kernel
theorem dX7_fault_4 : decode cX7_fault 4 = .ok (.aload_n 0, 1) := by decide +kernel
theorem dX7_fault_5 : decode cX7_fault 5 = .ok (.getfield 23, 3) := by decide +kernel
theorem dX7_fault_8 : decode cX7_fault 8 = .ok (.invokevirtual 102, 3) := by decide +kernel
theorem dX7_fault_11 : decode cX7_fault 11 = .ok (.ireturn, 1) := by decide +kernel
theorem dX7_lay_0 : decode cX7_lay 0 = .ok (.aload_n 0, 1) := by decide +kernel
theorem dX7_lay_1 : decode cX7_lay 1 = .ok (.invokevirtual 93, 3) := by decide +kernel
theorem dX7_lay_4 : decode cX7_lay 4 = .ok (.ifCond .eq 13, 3) := by decide +kernel
theorem dX7_lay_7 : decode cX7_lay 7 = .ok (.aload_n 0, 1) := by decide +kernel
theorem dX7_lay_8 : decode cX7_lay 8 = .ok (.getfield 29, 3) := by decide +kernel
theorem dX7_lay_11 : decode cX7_lay 11 = .ok (.getfield 106, 3) := by decide +kernel
theorem dX7_lay_14 : decode cX7_lay 14 = .ok (.goto 5, 3) := by decide +kernel
theorem dX7_lay_17 : decode cX7_lay 17 = .ok (.bipush (-2), 2) := by decide +kernel
theorem dX7_lay_19 : decode cX7_lay 19 = .ok (.ireturn, 1) := by decide +kernel
theorem dX7_thing_0 : decode cX7_thing 0 = .ok (.aload_n 0, 1) := by decide +kernel
theorem dX7_thing_1 : decode cX7_thing 1 = .ok (.iload_n 1, 1) := by decide +kernel
theorem dX7_thing_2 : decode cX7_thing 2 = .ok (.invokevirtual 109, 3) := by decide +kernel
theorem dX7_thing_5 : decode cX7_thing 5 = .ok (.ifCond .ne 5, 3) := by decide +kernel
theorem dX7_thing_8 : decode cX7_thing 8 = .ok (.iconst (-1), 1) := by decide +kernel
theorem dX7_thing_9 : decode cX7_thing 9 = .ok (.ireturn, 1) := by decide +kernel
theorem dX7_thing_10 : decode cX7_thing 10 = .ok (.iload_n 2, 1) := by decide +kernel
theorem dX7_thing_11 : decode cX7_thing 11 = .ok (.tableswitch 99 0 4 #[33, 48, 63, 78, 93], 33) := by decide +kernel
theorem dX7_thing_44 : decode cX7_thing 44 = .ok (.aload_n 0, 1) := by decide +kernel
theorem dX7_thing_45 : decode cX7_thing 45 = .ok (.getfield 19, 3) := by decide +kernel
theorem dX7_thing_48 : decode cX7_thing 48 = .ok (.getfield 112, 3) := by decide +kernel
theorem dX7_thing_51 : decode cX7_thing 51 = .ok (.getfield 116, 3) := by decide +kernel
theorem dX7_thing_54 : decode cX7_thing 54 = .ok (.iload_n 1, 1) := by decide +kernel
theorem dX7_thing_55 : decode cX7_thing 55 = .ok (.invokestatic 122, 3) := by decide +kernel
theorem dX7_thing_58 : decode cX7_thing 58 = .ok (.ireturn, 1) := by decide +kernel
theorem dX7_thing_59 : decode cX7_thing 59 = .ok (.aload_n 0, 1) := by decide +kernel
theorem dX7_thing_60 : decode cX7_thing 60 = .ok (.getfield 19, 3) := by decide +kernel
theorem dX7_thing_63 : decode cX7_thing 63 = .ok (.getfield 112, 3) := by decide +kernel
theorem dX7_thing_66 : decode cX7_thing 66 = .ok (.getfield 126, 3) := by decide +kernel
theorem dX7_thing_69 : decode cX7_thing 69 = .ok (.iload_n 1, 1) := by decide +kernel
theorem dX7_thing_70 : decode cX7_thing 70 = .ok (.invokestatic 122, 3) := by decide +kernel
theorem dX7_thing_73 : decode cX7_thing 73 = .ok (.ireturn, 1) := by decide +kernel
theorem dX7_thing_74 : decode cX7_thing 74 = .ok (.aload_n 0, 1) := by decide +kernel
theorem dX7_thing_75 : decode cX7_thing 75 = .ok (.getfield 19, 3) := by decide +kernel
theorem dX7_thing_78 : decode cX7_thing 78 = .ok (.getfield 112, 3) := by decide +kernel
theorem dX7_thing_81 : decode cX7_thing 81 = .ok (.getfield 129, 3) := by decide +kernel
theorem dX7_thing_84 : decode cX7_thing 84 = .ok (.iload_n 1, 1) := by decide +kernel
theorem dX7_thing_85 : decode cX7_thing 85 = .ok (.invokestatic 122, 3) := by decide +kernel
theorem dX7_thing_88 : decode cX7_thing 88 = .ok (.ireturn, 1) := by decide +kernel
theorem dX7_thing_89 : decode cX7_thing 89 = .ok (.aload_n 0, 1) := by decide +kernel
theorem dX7_thing_90 : decode cX7_thing 90 = .ok (.getfield 19, 3) := by decide +kernel
theorem dX7_thing_93 : decode cX7_thing 93 = .ok (.getfield 112, 3) := by decide +kernel
theorem dX7_thing_96 : decode cX7_thing 96 = .ok (.getfield 132, 3) := by decide +kernel
theorem dX7_thing_99 : decode cX7_thing 99 = .ok (.iload_n 1, 1) := by decide +kernel
theorem dX7_thing_100 : decode cX7_thing 100 = .ok (.invokestatic 122, 3) := by decide +kernel
theorem dX7_thing_103 : decode cX7_thing 103 = .ok (.ireturn, 1) := by decide +kernel
theorem dX7_thing_104 : decode cX7_thing 104 = .ok (.aload_n 0, 1) := by decide +kernel
theorem dX7_thing_105 : decode cX7_thing 105 = .ok (.iload_n 1, 1) := by decide +kernel
theorem dX7_thing_106 : decode cX7_thing 106 = .ok (.invokevirtual 135, 3) := by decide +kernel
theorem dX7_thing_109 : decode cX7_thing 109 = .ok (.ireturn, 1) := by decide +kernel
theorem dX7_thing_110 : decode cX7_thing 110 = .ok (.iconst (-1), 1) := by decide +kernel
theorem dX7_thing_111 : decode cX7_thing 111 = .ok (.ireturn, 1) := by decide +kernel
theorem dX7_parcel_0 : decode cX7_parcel 0 = .ok (.aload_n 0, 1) := by decide +kernel
theorem dX7_parcel_1 : decode cX7_parcel 1 = .ok (.iload_n 1, 1) := by decide +kernel
theorem dX7_parcel_2 : decode cX7_parcel 2 = .ok (.invokevirtual 139, 3) := by decide +kernel
theorem dX7_parcel_5 : decode cX7_parcel 5 = .ok (.ifCond .ne 5, 3) := by decide +kernel
theorem dX7_parcel_8 : decode cX7_parcel 8 = .ok (.iconst (-1), 1) := by decide +kernel
theorem dX7_parcel_9 : decode cX7_parcel 9 = .ok (.ireturn, 1) := by decide +kernel
theorem dX7_parcel_10 : decode cX7_parcel 10 = .ok (.iload_n 2, 1) := by decide +kernel
theorem dX7_parcel_11 : decode cX7_parcel 11 = .ok (.tableswitch 93 0 4 #[33, 45, 57, 69, 81], 33) := by decide +kernel
theorem dX7_parcel_44 : decode cX7_parcel 44 = .ok (.aload_n 0, 1) := by decide +kernel
theorem dX7_parcel_45 : decode cX7_parcel 45 = .ok (.getfield 19, 3) := by decide +kernel
theorem dX7_parcel_48 : decode cX7_parcel 48 = .ok (.getfield 142, 3) := by decide +kernel
theorem dX7_parcel_51 : decode cX7_parcel 51 = .ok (.iload_n 1, 1) := by decide +kernel
theorem dX7_parcel_52 : decode cX7_parcel 52 = .ok (.invokestatic 122, 3) := by decide +kernel
theorem dX7_parcel_55 : decode cX7_parcel 55 = .ok (.ireturn, 1) := by decide +kernel
theorem dX7_parcel_56 : decode cX7_parcel 56 = .ok (.aload_n 0, 1) := by decide +kernel
theorem dX7_parcel_57 : decode cX7_parcel 57 = .ok (.getfield 19, 3) := by decide +kernel
theorem dX7_parcel_60 : decode cX7_parcel 60 = .ok (.getfield 145, 3) := by decide +kernel
theorem dX7_parcel_63 : decode cX7_parcel 63 = .ok (.iload_n 1, 1) := by decide +kernel
theorem dX7_parcel_64 : decode cX7_parcel 64 = .ok (.invokestatic 122, 3) := by decide +kernel
theorem dX7_parcel_67 : decode cX7_parcel 67 = .ok (.ireturn, 1) := by decide +kernel
theorem dX7_parcel_68 : decode cX7_parcel 68 = .ok (.aload_n 0, 1) := by decide +kernel
theorem dX7_parcel_69 : decode cX7_parcel 69 = .ok (.getfield 19, 3) := by decide +kernel
theorem dX7_parcel_72 : decode cX7_parcel 72 = .ok (.getfield 148, 3) := by decide +kernel
theorem dX7_parcel_75 : decode cX7_parcel 75 = .ok (.iload_n 1, 1) := by decide +kernel
theorem dX7_parcel_76 : decode cX7_parcel 76 = .ok (.invokestatic 122, 3) := by decide +kernel
theorem dX7_parcel_79 : decode cX7_parcel 79 = .ok (.ireturn, 1) := by decide +kernel
theorem dX7_parcel_80 : decode cX7_parcel 80 = .ok (.aload_n 0, 1) := by decide +kernel
theorem dX7_parcel_81 : decode cX7_parcel 81 = .ok (.getfield 49, 3) := by decide +kernel
theorem dX7_parcel_84 : decode cX7_parcel 84 = .ok (.getfield 151, 3) := by decide +kernel
theorem dX7_parcel_87 : decode cX7_parcel 87 = .ok (.iload_n 1, 1) := by decide +kernel
theorem dX7_parcel_88 : decode cX7_parcel 88 = .ok (.invokestatic 154, 3) := by decide +kernel
theorem dX7_parcel_91 : decode cX7_parcel 91 = .ok (.ireturn, 1) := by decide +kernel
theorem dX7_parcel_92 : decode cX7_parcel 92 = .ok (.aload_n 0, 1) := by decide +kernel
theorem dX7_parcel_93 : decode cX7_parcel 93 = .ok (.getfield 49, 3) := by decide +kernel
theorem dX7_parcel_96 : decode cX7_parcel 96 = .ok (.getfield 158, 3) := by decide +kernel
theorem dX7_parcel_99 : decode cX7_parcel 99 = .ok (.iload_n 1, 1) := by decide +kernel
theorem dX7_parcel_100 : decode cX7_parcel 100 = .ok (.invokestatic 122, 3) := by decide +kernel
theorem dX7_parcel_103 : decode cX7_parcel 103 = .ok (.ireturn, 1) := by decide +kernel
theorem dX7_parcel_104 : decode cX7_parcel 104 = .ok (.iconst (-1), 1) := by decide +kernel
theorem dX7_parcel_105 : decode cX7_parcel 105 = .ok (.ireturn, 1) := by decide +kernel
theorem dX7_world_0 : decode cX7_world 0 = .ok (.iload_n 1, 1) := by decide +kernel
theorem dX7_world_1 : decode cX7_world 1 = .ok (.ifCond .lt 11, 3) := by decide +kernel
theorem dX7_world_4 : decode cX7_world 4 = .ok (.aload_n 0, 1) := by decide +kernel
theorem dX7_world_5 : decode cX7_world 5 = .ok (.iload_n 2, 1) := by decide +kernel
theorem dX7_world_6 : decode cX7_world 6 = .ok (.invokevirtual 139, 3) := by decide +kernel
theorem dX7_world_9 : decode cX7_world 9 = .ok (.ifCond .ne 5, 3) := by decide +kernel
theorem dX7_world_12 : decode cX7_world 12 = .ok (.iconst (-1), 1) := by decide +kernel
theorem dX7_world_13 : decode cX7_world 13 = .ok (.ireturn, 1) := by decide +kernel
theorem dX7_world_14 : decode cX7_world 14 = .ok (.iload_n 1, 1) := by decide +kernel
theorem dX7_world_15 : decode cX7_world 15 = .ok (.aload_n 0, 1) := by decide +kernel
theorem dX7_world_16 : decode cX7_world 16 = .ok (.getfield 29, 3) := by decide +kernel
theorem dX7_world_19 : decode cX7_world 19 = .ok (.getfield 106, 3) := by decide +kernel
theorem dX7_world_22 : decode cX7_world 22 = .ok (.if_icmp .ge 18, 3) := by decide +kernel
theorem dX7_world_25 : decode cX7_world 25 = .ok (.aload_n 0, 1) := by decide +kernel
theorem dX7_world_26 : decode cX7_world 26 = .ok (.getfield 29, 3) := by decide +kernel
theorem dX7_world_29 : decode cX7_world 29 = .ok (.iload_n 1, 1) := by decide +kernel
theorem dX7_world_30 : decode cX7_world 30 = .ok (.invokevirtual 161, 3) := by decide +kernel
theorem dX7_world_33 : decode cX7_world 33 = .ok (.iload_n 2, 1) := by decide +kernel
theorem dX7_world_34 : decode cX7_world 34 = .ok (.invokestatic 154, 3) := by decide +kernel
theorem dX7_world_37 : decode cX7_world 37 = .ok (.goto 5, 3) := by decide +kernel
theorem dX7_world_40 : decode cX7_world 40 = .ok (.bipush (-4), 2) := by decide +kernel
theorem dX7_world_42 : decode cX7_world 42 = .ok (.ireturn, 1) := by decide +kernel
theorem dX7_answer_0 : decode cX7_answer 0 = .ok (.aload_n 0, 1) := by decide +kernel
theorem dX7_answer_1 : decode cX7_answer 1 = .ok (.iload_n 1, 1) := by decide +kernel
theorem dX7_answer_2 : decode cX7_answer 2 = .ok (.invokevirtual 139, 3) := by decide +kernel
theorem dX7_answer_5 : decode cX7_answer 5 = .ok (.ifCond .eq 29, 3) := by decide +kernel
theorem dX7_answer_8 : decode cX7_answer 8 = .ok (.iload_n 2, 1) := by decide +kernel
theorem dX7_answer_9 : decode cX7_answer 9 = .ok (.invokestatic 164, 3) := by decide +kernel
theorem dX7_answer_12 : decode cX7_answer 12 = .ok (.ifCond .eq 22, 3) := by decide +kernel
theorem dX7_answer_15 : decode cX7_answer 15 = .ok (.iload_n 3, 1) := by decide +kernel
theorem dX7_answer_16 : decode cX7_answer 16 = .ok (.iconst 1, 1) := by decide +kernel
theorem dX7_answer_17 : decode cX7_answer 17 = .ok (.aload_n 0, 1) := by decide +kernel
theorem dX7_answer_18 : decode cX7_answer 18 = .ok (.getfield 19, 3) := by decide +kernel
theorem dX7_answer_21 : decode cX7_answer 21 = .ok (.getfield 112, 3) := by decide +kernel
theorem dX7_answer_24 : decode cX7_answer 24 = .ok (.getfield 167, 3) := by decide +kernel
theorem dX7_answer_27 : decode cX7_answer 27 = .ok (.ishl, 1) := by decide +kernel
theorem dX7_answer_28 : decode cX7_answer 28 = .ok (.invokestatic 170, 3) := by decide +kernel
theorem dX7_answer_31 : decode cX7_answer 31 = .ok (.ifCond .ne 5, 3) := by decide +kernel
theorem dX7_answer_34 : decode cX7_answer 34 = .ok (.iconst (-1), 1) := by decide +kernel
theorem dX7_answer_35 : decode cX7_answer 35 = .ok (.ireturn, 1) := by decide +kernel
theorem dX7_answer_36 : decode cX7_answer 36 = .ok (.aload_n 0, 1) := by decide +kernel
theorem dX7_answer_37 : decode cX7_answer 37 = .ok (.getfield 19, 3) := by decide +kernel
theorem dX7_answer_40 : decode cX7_answer 40 = .ok (.iload_n 1, 1) := by decide +kernel
theorem dX7_answer_41 : decode cX7_answer 41 = .ok (.iload_n 2, 1) := by decide +kernel
theorem dX7_answer_42 : decode cX7_answer 42 = .ok (.iload_n 3, 1) := by decide +kernel
theorem dX7_answer_43 : decode cX7_answer 43 = .ok (.iconst 0, 1) := by decide +kernel
theorem dX7_answer_44 : decode cX7_answer 44 = .ok (.invokevirtual 174, 3) := by decide +kernel
theorem dX7_answer_47 : decode cX7_answer 47 = .ok (.ireturn, 1) := by decide +kernel
theorem dX7_attempt_0 : decode cX7_attempt 0 = .ok (.aload_n 0, 1) := by decide +kernel
theorem dX7_attempt_1 : decode cX7_attempt 1 = .ok (.iload_n 1, 1) := by decide +kernel
theorem dX7_attempt_2 : decode cX7_attempt 2 = .ok (.invokevirtual 139, 3) := by decide +kernel
theorem dX7_attempt_5 : decode cX7_attempt 5 = .ok (.ifCond .eq 10, 3) := by decide +kernel
theorem dX7_attempt_8 : decode cX7_attempt 8 = .ok (.iload_n 2, 1) := by decide +kernel
theorem dX7_attempt_9 : decode cX7_attempt 9 = .ok (.invokestatic 164, 3) := by decide +kernel
theorem dX7_attempt_12 : decode cX7_attempt 12 = .ok (.ifCond .ne 5, 3) := by decide +kernel
theorem dX7_attempt_15 : decode cX7_attempt 15 = .ok (.iconst (-1), 1) := by decide +kernel
theorem dX7_attempt_16 : decode cX7_attempt 16 = .ok (.ireturn, 1) := by decide +kernel
theorem dX7_attempt_17 : decode cX7_attempt 17 = .ok (.aload_n 0, 1) := by decide +kernel
theorem dX7_attempt_18 : decode cX7_attempt 18 = .ok (.getfield 49, 3) := by decide +kernel
theorem dX7_attempt_21 : decode cX7_attempt 21 = .ok (.invokevirtual 178, 3) := by decide +kernel
theorem dX7_attempt_24 : decode cX7_attempt 24 = .ok (.ifCond .eq 6, 3) := by decide +kernel
theorem dX7_attempt_27 : decode cX7_attempt 27 = .ok (.bipush (-3), 2) := by decide +kernel
theorem dX7_attempt_29 : decode cX7_attempt 29 = .ok (.ireturn, 1) := by decide +kernel
theorem dX7_attempt_30 : decode cX7_attempt 30 = .ok (.aload_n 0, 1) := by decide +kernel
theorem dX7_attempt_31 : decode cX7_attempt 31 = .ok (.getfield 19, 3) := by decide +kernel
theorem dX7_attempt_34 : decode cX7_attempt 34 = .ok (.iload_n 1, 1) := by decide +kernel
theorem dX7_attempt_35 : decode cX7_attempt 35 = .ok (.iload_n 2, 1) := by decide +kernel
theorem dX7_attempt_36 : decode cX7_attempt 36 = .ok (.aload_n 0, 1) := by decide +kernel
theorem dX7_attempt_37 : decode cX7_attempt 37 = .ok (.getfield 49, 3) := by decide +kernel
theorem dX7_attempt_40 : decode cX7_attempt 40 = .ok (.getfield 151, 3) := by decide +kernel
theorem dX7_attempt_43 : decode cX7_attempt 43 = .ok (.iload_n 1, 1) := by decide +kernel
theorem dX7_attempt_44 : decode cX7_attempt 44 = .ok (.invokestatic 154, 3) := by decide +kernel
theorem dX7_attempt_47 : decode cX7_attempt 47 = .ok (.aload_n 0, 1) := by decide +kernel
theorem dX7_attempt_48 : decode cX7_attempt 48 = .ok (.getfield 49, 3) := by decide +kernel
theorem dX7_attempt_51 : decode cX7_attempt 51 = .ok (.getfield 158, 3) := by decide +kernel
theorem dX7_attempt_54 : decode cX7_attempt 54 = .ok (.iload_n 1, 1) := by decide +kernel
theorem dX7_attempt_55 : decode cX7_attempt 55 = .ok (.invokestatic 122, 3) := by decide +kernel
theorem dX7_attempt_58 : decode cX7_attempt 58 = .ok (.invokevirtual 174, 3) := by decide +kernel
theorem dX7_attempt_61 : decode cX7_attempt 61 = .ok (.istore_n 3, 1) := by decide +kernel
theorem dX7_attempt_62 : decode cX7_attempt 62 = .ok (.aload_n 0, 1) := by decide +kernel
theorem dX7_attempt_63 : decode cX7_attempt 63 = .ok (.iload_n 1, 1) := by decide +kernel
theorem dX7_attempt_64 : decode cX7_attempt 64 = .ok (.iload_n 2, 1) := by decide +kernel
theorem dX7_attempt_65 : decode cX7_attempt 65 = .ok (.iload_n 3, 1) := by decide +kernel
theorem dX7_attempt_66 : decode cX7_attempt 66 = .ok (.invokevirtual 181, 3) := by decide +kernel
theorem dX7_attempt_69 : decode cX7_attempt 69 = .ok (.iload_n 3, 1) := by decide +kernel
theorem dX7_attempt_70 : decode cX7_attempt 70 = .ok (.ireturn, 1) := by decide +kernel
theorem dX7_hear_0 : decode cX7_hear 0 = .ok (.aload_n 0, 1) := by decide +kernel
theorem dX7_hear_1 : decode cX7_hear 1 = .ok (.iload_n 1, 1) := by decide +kernel
theorem dX7_hear_2 : decode cX7_hear 2 = .ok (.invokevirtual 139, 3) := by decide +kernel
theorem dX7_hear_5 : decode cX7_hear 5 = .ok (.ifCond .eq 19, 3) := by decide +kernel
theorem dX7_hear_8 : decode cX7_hear 8 = .ok (.iload_n 2, 1) := by decide +kernel
theorem dX7_hear_9 : decode cX7_hear 9 = .ok (.invokestatic 164, 3) := by decide +kernel
theorem dX7_hear_12 : decode cX7_hear 12 = .ok (.ifCond .eq 12, 3) := by decide +kernel
theorem dX7_hear_15 : decode cX7_hear 15 = .ok (.iload_n 3, 1) := by decide +kernel
theorem dX7_hear_16 : decode cX7_hear 16 = .ok (.bipush 100, 2) := by decide +kernel
theorem dX7_hear_18 : decode cX7_hear 18 = .ok (.invokestatic 170, 3) := by decide +kernel
theorem dX7_hear_21 : decode cX7_hear 21 = .ok (.ifCond .ne 5, 3) := by decide +kernel
theorem dX7_hear_24 : decode cX7_hear 24 = .ok (.iconst (-1), 1) := by decide +kernel
theorem dX7_hear_25 : decode cX7_hear 25 = .ok (.ireturn, 1) := by decide +kernel
theorem dX7_hear_26 : decode cX7_hear 26 = .ok (.aload_n 0, 1) := by decide +kernel
theorem dX7_hear_27 : decode cX7_hear 27 = .ok (.getfield 49, 3) := by decide +kernel
theorem dX7_hear_30 : decode cX7_hear 30 = .ok (.invokevirtual 178, 3) := by decide +kernel
theorem dX7_hear_33 : decode cX7_hear 33 = .ok (.ifCond .eq 6, 3) := by decide +kernel
theorem dX7_hear_36 : decode cX7_hear 36 = .ok (.bipush (-3), 2) := by decide +kernel
theorem dX7_hear_38 : decode cX7_hear 38 = .ok (.ireturn, 1) := by decide +kernel
theorem dX7_hear_39 : decode cX7_hear 39 = .ok (.aload_n 0, 1) := by decide +kernel
theorem dX7_hear_40 : decode cX7_hear 40 = .ok (.iload_n 1, 1) := by decide +kernel
theorem dX7_hear_41 : decode cX7_hear 41 = .ok (.iload_n 2, 1) := by decide +kernel
theorem dX7_hear_42 : decode cX7_hear 42 = .ok (.iload_n 3, 1) := by decide +kernel
theorem dX7_hear_43 : decode cX7_hear 43 = .ok (.invokevirtual 181, 3) := by decide +kernel
theorem dX7_hear_46 : decode cX7_hear 46 = .ok (.aload_n 0, 1) := by decide +kernel
theorem dX7_hear_47 : decode cX7_hear 47 = .ok (.getfield 49, 3) := by decide +kernel
theorem dX7_hear_50 : decode cX7_hear 50 = .ok (.getfield 185, 3) := by decide +kernel
theorem dX7_hear_53 : decode cX7_hear 53 = .ok (.ireturn, 1) := by decide +kernel
theorem dX7_change_0 : decode cX7_change 0 = .ok (.aload_n 0, 1) := by decide +kernel
theorem dX7_change_1 : decode cX7_change 1 = .ok (.iload_n 1, 1) := by decide +kernel
theorem dX7_change_2 : decode cX7_change 2 = .ok (.invokevirtual 139, 3) := by decide +kernel
theorem dX7_change_5 : decode cX7_change 5 = .ok (.ifCond .eq 16, 3) := by decide +kernel
theorem dX7_change_8 : decode cX7_change 8 = .ok (.aload_n 0, 1) := by decide +kernel
theorem dX7_change_9 : decode cX7_change 9 = .ok (.iload_n 2, 1) := by decide +kernel
theorem dX7_change_10 : decode cX7_change 10 = .ok (.invokevirtual 139, 3) := by decide +kernel
theorem dX7_change_13 : decode cX7_change 13 = .ok (.ifCond .eq 8, 3) := by decide +kernel
theorem dX7_change_16 : decode cX7_change 16 = .ok (.iload_n 1, 1) := by decide +kernel
theorem dX7_change_17 : decode cX7_change 17 = .ok (.iload_n 2, 1) := by decide +kernel
theorem dX7_change_18 : decode cX7_change 18 = .ok (.if_icmp .ne 5, 3) := by decide +kernel
theorem dX7_change_21 : decode cX7_change 21 = .ok (.iconst (-1), 1) := by decide +kernel
theorem dX7_change_22 : decode cX7_change 22 = .ok (.ireturn, 1) := by decide +kernel
theorem dX7_change_23 : decode cX7_change 23 = .ok (.aload_n 0, 1) := by decide +kernel
theorem dX7_change_24 : decode cX7_change 24 = .ok (.getfield 49, 3) := by decide +kernel
theorem dX7_change_27 : decode cX7_change 27 = .ok (.getfield 151, 3) := by decide +kernel
theorem dX7_change_30 : decode cX7_change 30 = .ok (.iload_n 1, 1) := by decide +kernel
theorem dX7_change_31 : decode cX7_change 31 = .ok (.iload_n 2, 1) := by decide +kernel
theorem dX7_change_32 : decode cX7_change 32 = .ok (.invokestatic 188, 3) := by decide +kernel
theorem dX7_change_35 : decode cX7_change 35 = .ok (.istore_n 3, 1) := by decide +kernel
theorem dX7_change_36 : decode cX7_change 36 = .ok (.aload_n 0, 1) := by decide +kernel
theorem dX7_change_37 : decode cX7_change 37 = .ok (.getfield 19, 3) := by decide +kernel
theorem dX7_change_40 : decode cX7_change 40 = .ok (.getfield 148, 3) := by decide +kernel
theorem dX7_change_43 : decode cX7_change 43 = .ok (.iload_n 1, 1) := by decide +kernel
theorem dX7_change_44 : decode cX7_change 44 = .ok (.invokestatic 122, 3) := by decide +kernel
theorem dX7_change_47 : decode cX7_change 47 = .ok (.aload_n 0, 1) := by decide +kernel
theorem dX7_change_48 : decode cX7_change 48 = .ok (.getfield 19, 3) := by decide +kernel
theorem dX7_change_51 : decode cX7_change 51 = .ok (.getfield 148, 3) := by decide +kernel
theorem dX7_change_54 : decode cX7_change 54 = .ok (.iload_n 2, 1) := by decide +kernel
theorem dX7_change_55 : decode cX7_change 55 = .ok (.invokestatic 122, 3) := by decide +kernel
theorem dX7_change_58 : decode cX7_change 58 = .ok (.if_icmp .ne 14, 3) := by decide +kernel
theorem dX7_change_61 : decode cX7_change 61 = .ok (.aload_n 0, 1) := by decide +kernel
theorem dX7_change_62 : decode cX7_change 62 = .ok (.getfield 19, 3) := by decide +kernel
theorem dX7_change_65 : decode cX7_change 65 = .ok (.iload_n 3, 1) := by decide +kernel
theorem dX7_change_66 : decode cX7_change 66 = .ok (.invokevirtual 192, 3) := by decide +kernel
theorem dX7_change_69 : decode cX7_change 69 = .ok (.ifCond .ne 6, 3) := by decide +kernel
theorem dX7_change_72 : decode cX7_change 72 = .ok (.bipush (-2), 2) := by decide +kernel
theorem dX7_change_74 : decode cX7_change 74 = .ok (.ireturn, 1) := by decide +kernel
theorem dX7_change_75 : decode cX7_change 75 = .ok (.aload_n 0, 1) := by decide +kernel
theorem dX7_change_76 : decode cX7_change 76 = .ok (.getfield 58, 3) := by decide +kernel
theorem dX7_change_79 : decode cX7_change 79 = .ok (.aload_n 0, 1) := by decide +kernel
theorem dX7_change_80 : decode cX7_change 80 = .ok (.getfield 49, 3) := by decide +kernel
theorem dX7_change_83 : decode cX7_change 83 = .ok (.invokevirtual 195, 3) := by decide +kernel
theorem dX7_change_86 : decode cX7_change 86 = .ok (.aload_n 0, 1) := by decide +kernel
theorem dX7_change_87 : decode cX7_change 87 = .ok (.getfield 49, 3) := by decide +kernel
theorem dX7_change_90 : decode cX7_change 90 = .ok (.iload_n 3, 1) := by decide +kernel
theorem dX7_change_91 : decode cX7_change 91 = .ok (.putfield 151, 3) := by decide +kernel
theorem dX7_change_94 : decode cX7_change 94 = .ok (.iload_n 3, 1) := by decide +kernel
theorem dX7_change_95 : decode cX7_change 95 = .ok (.iload_n 1, 1) := by decide +kernel
theorem dX7_change_96 : decode cX7_change 96 = .ok (.invokestatic 154, 3) := by decide +kernel
theorem dX7_change_99 : decode cX7_change 99 = .ok (.ireturn, 1) := by decide +kernel
theorem dX7_hide_0 : decode cX7_hide 0 = .ok (.aload_n 0, 1) := by decide +kernel
theorem dX7_hide_1 : decode cX7_hide 1 = .ok (.iload_n 1, 1) := by decide +kernel
theorem dX7_hide_2 : decode cX7_hide 2 = .ok (.invokevirtual 139, 3) := by decide +kernel
theorem dX7_hide_5 : decode cX7_hide 5 = .ok (.ifCond .eq 12, 3) := by decide +kernel
theorem dX7_hide_8 : decode cX7_hide 8 = .ok (.iload_n 2, 1) := by decide +kernel
theorem dX7_hide_9 : decode cX7_hide 9 = .ok (.bipush 10, 2) := by decide +kernel
theorem dX7_hide_11 : decode cX7_hide 11 = .ok (.invokestatic 170, 3) := by decide +kernel
theorem dX7_hide_14 : decode cX7_hide 14 = .ok (.ifCond .ne 5, 3) := by decide +kernel
theorem dX7_hide_17 : decode cX7_hide 17 = .ok (.iconst (-1), 1) := by decide +kernel
theorem dX7_hide_18 : decode cX7_hide 18 = .ok (.ireturn, 1) := by decide +kernel
theorem dX7_hide_19 : decode cX7_hide 19 = .ok (.aload_n 0, 1) := by decide +kernel
theorem dX7_hide_20 : decode cX7_hide 20 = .ok (.getfield 58, 3) := by decide +kernel
theorem dX7_hide_23 : decode cX7_hide 23 = .ok (.aload_n 0, 1) := by decide +kernel
theorem dX7_hide_24 : decode cX7_hide 24 = .ok (.getfield 49, 3) := by decide +kernel
theorem dX7_hide_27 : decode cX7_hide 27 = .ok (.invokevirtual 195, 3) := by decide +kernel
theorem dX7_hide_30 : decode cX7_hide 30 = .ok (.aload_n 0, 1) := by decide +kernel
theorem dX7_hide_31 : decode cX7_hide 31 = .ok (.getfield 49, 3) := by decide +kernel
theorem dX7_hide_34 : decode cX7_hide 34 = .ok (.getfield 158, 3) := by decide +kernel
theorem dX7_hide_37 : decode cX7_hide 37 = .ok (.iload_n 1, 1) := by decide +kernel
theorem dX7_hide_38 : decode cX7_hide 38 = .ok (.invokestatic 122, 3) := by decide +kernel
theorem dX7_hide_41 : decode cX7_hide 41 = .ok (.istore_n 3, 1) := by decide +kernel
theorem dX7_hide_42 : decode cX7_hide 42 = .ok (.aload_n 0, 1) := by decide +kernel
theorem dX7_hide_43 : decode cX7_hide 43 = .ok (.getfield 49, 3) := by decide +kernel
theorem dX7_hide_46 : decode cX7_hide 46 = .ok (.getfield 158, 3) := by decide +kernel
theorem dX7_hide_49 : decode cX7_hide 49 = .ok (.iload_n 1, 1) := by decide +kernel
theorem dX7_hide_50 : decode cX7_hide 50 = .ok (.iload_n 2, 1) := by decide +kernel
theorem dX7_hide_51 : decode cX7_hide 51 = .ok (.invokestatic 199, 3) := by decide +kernel
theorem dX7_hide_54 : decode cX7_hide 54 = .ok (.iload_n 3, 1) := by decide +kernel
theorem dX7_hide_55 : decode cX7_hide 55 = .ok (.ireturn, 1) := by decide +kernel
theorem dX7_undo_0 : decode cX7_undo 0 = .ok (.aload_n 0, 1) := by decide +kernel
theorem dX7_undo_1 : decode cX7_undo 1 = .ok (.getfield 58, 3) := by decide +kernel
theorem dX7_undo_4 : decode cX7_undo 4 = .ok (.aload_n 0, 1) := by decide +kernel
theorem dX7_undo_5 : decode cX7_undo 5 = .ok (.getfield 49, 3) := by decide +kernel
theorem dX7_undo_8 : decode cX7_undo 8 = .ok (.invokevirtual 203, 3) := by decide +kernel
theorem dX7_undo_11 : decode cX7_undo 11 = .ok (.ifCond .ne 6, 3) := by decide +kernel
theorem dX7_undo_14 : decode cX7_undo 14 = .ok (.bipush (-2), 2) := by decide +kernel
theorem dX7_undo_16 : decode cX7_undo 16 = .ok (.ireturn, 1) := by decide +kernel
theorem dX7_undo_17 : decode cX7_undo 17 = .ok (.aload_n 0, 1) := by decide +kernel
theorem dX7_undo_18 : decode cX7_undo 18 = .ok (.iconst 1, 1) := by decide +kernel
theorem dX7_undo_19 : decode cX7_undo 19 = .ok (.putfield 69, 3) := by decide +kernel
theorem dX7_undo_22 : decode cX7_undo 22 = .ok (.aload_n 0, 1) := by decide +kernel
theorem dX7_undo_23 : decode cX7_undo 23 = .ok (.getfield 58, 3) := by decide +kernel
theorem dX7_undo_26 : decode cX7_undo 26 = .ok (.getfield 207, 3) := by decide +kernel
theorem dX7_undo_29 : decode cX7_undo 29 = .ok (.ireturn, 1) := by decide +kernel
theorem dX7_left_0 : decode cX7_left 0 = .ok (.aload_n 0, 1) := by decide +kernel
theorem dX7_left_1 : decode cX7_left 1 = .ok (.invokevirtual 208, 3) := by decide +kernel
theorem dX7_left_4 : decode cX7_left 4 = .ok (.getfield 106, 3) := by decide +kernel
theorem dX7_left_7 : decode cX7_left 7 = .ok (.ireturn, 1) := by decide +kernel
theorem dX7_likely_0 : decode cX7_likely 0 = .ok (.aload_n 0, 1) := by decide +kernel
theorem dX7_likely_1 : decode cX7_likely 1 = .ok (.iload_n 1, 1) := by decide +kernel
theorem dX7_likely_2 : decode cX7_likely 2 = .ok (.invokevirtual 139, 3) := by decide +kernel
theorem dX7_likely_5 : decode cX7_likely 5 = .ok (.ifCond .eq 19, 3) := by decide +kernel
theorem dX7_likely_8 : decode cX7_likely 8 = .ok (.aload_n 0, 1) := by decide +kernel
theorem dX7_likely_9 : decode cX7_likely 9 = .ok (.iload_n 2, 1) := by decide +kernel
theorem dX7_likely_10 : decode cX7_likely 10 = .ok (.invokevirtual 109, 3) := by decide +kernel
theorem dX7_likely_13 : decode cX7_likely 13 = .ok (.ifCond .eq 11, 3) := by decide +kernel
theorem dX7_likely_16 : decode cX7_likely 16 = .ok (.iload_n 3, 1) := by decide +kernel
theorem dX7_likely_17 : decode cX7_likely 17 = .ok (.iconst 2, 1) := by decide +kernel
theorem dX7_likely_18 : decode cX7_likely 18 = .ok (.invokestatic 170, 3) := by decide +kernel
theorem dX7_likely_21 : decode cX7_likely 21 = .ok (.ifCond .ne 7, 3) := by decide +kernel
theorem dX7_likely_24 : decode cX7_likely 24 = .ok (.ldc2_w 212, 3) := by decide +kernel
theorem dX7_likely_27 : decode cX7_likely 27 = .ok (.lreturn, 1) := by decide +kernel
theorem dX7_likely_28 : decode cX7_likely 28 = .ok (.aload_n 0, 1) := by decide +kernel
theorem dX7_likely_29 : decode cX7_likely 29 = .ok (.invokevirtual 208, 3) := by decide +kernel
theorem dX7_likely_32 : decode cX7_likely 32 = .ok (.astore 4, 2) := by decide +kernel
theorem dX7_likely_34 : decode cX7_likely 34 = .ok (.aload 4, 2) := by decide +kernel
theorem dX7_likely_36 : decode cX7_likely 36 = .ok (.getfield 106, 3) := by decide +kernel
theorem dX7_likely_39 : decode cX7_likely 39 = .ok (.ifCond .ne 7, 3) := by decide +kernel
theorem dX7_likely_42 : decode cX7_likely 42 = .ok (.ldc2_w 214, 3) := by decide +kernel
theorem dX7_likely_45 : decode cX7_likely 45 = .ok (.lreturn, 1) := by decide +kernel
theorem dX7_likely_46 : decode cX7_likely 46 = .ok (.lconst 0, 1) := by decide +kernel
theorem dX7_likely_47 : decode cX7_likely 47 = .ok (.lstore 5, 2) := by decide +kernel
theorem dX7_likely_49 : decode cX7_likely 49 = .ok (.lconst 0, 1) := by decide +kernel
theorem dX7_likely_50 : decode cX7_likely 50 = .ok (.lstore 7, 2) := by decide +kernel
theorem dX7_likely_52 : decode cX7_likely 52 = .ok (.iconst 0, 1) := by decide +kernel
theorem dX7_likely_53 : decode cX7_likely 53 = .ok (.istore 9, 2) := by decide +kernel
theorem dX7_likely_55 : decode cX7_likely 55 = .ok (.iload 9, 2) := by decide +kernel
theorem dX7_likely_57 : decode cX7_likely 57 = .ok (.aload 4, 2) := by decide +kernel
theorem dX7_likely_59 : decode cX7_likely 59 = .ok (.getfield 106, 3) := by decide +kernel
theorem dX7_likely_62 : decode cX7_likely 62 = .ok (.if_icmp .ge 57, 3) := by decide +kernel
theorem dX7_likely_65 : decode cX7_likely 65 = .ok (.aload 4, 2) := by decide +kernel
theorem dX7_likely_67 : decode cX7_likely 67 = .ok (.iload 9, 2) := by decide +kernel
theorem dX7_likely_69 : decode cX7_likely 69 = .ok (.invokevirtual 161, 3) := by decide +kernel
theorem dX7_likely_72 : decode cX7_likely 72 = .ok (.istore 10, 2) := by decide +kernel
theorem dX7_likely_74 : decode cX7_likely 74 = .ok (.aload_n 0, 1) := by decide +kernel
theorem dX7_likely_75 : decode cX7_likely 75 = .ok (.getfield 19, 3) := by decide +kernel
theorem dX7_likely_78 : decode cX7_likely 78 = .ok (.iload 10, 2) := by decide +kernel
theorem dX7_likely_80 : decode cX7_likely 80 = .ok (.invokevirtual 216, 3) := by decide +kernel
end
section
theorem dX7_likely_83 : decode cX7_likely 83 = .ok (.i2l, 1) := by decide +kernel
theorem dX7_likely_84 : decode cX7_likely 84 = .ok (.lstore 11, 2) := by decide +kernel
theorem dX7_likely_86 : decode cX7_likely 86 = .ok (.lload 7, 2) := by decide +kernel
theorem dX7_likely_88 : decode cX7_likely 88 = .ok (.lload 11, 2) := by decide +kernel
theorem dX7_likely_90 : decode cX7_likely 90 = .ok (.ladd, 1) := by decide +kernel
theorem dX7_likely_91 : decode cX7_likely 91 = .ok (.lstore 7, 2) := by decide +kernel
theorem dX7_likely_93 : decode cX7_likely 93 = .ok (.iload 10, 2) := by decide +kernel
theorem dX7_likely_95 : decode cX7_likely 95 = .ok (.iload_n 1, 1) := by decide +kernel
theorem dX7_likely_96 : decode cX7_likely 96 = .ok (.invokestatic 154, 3) := by decide +kernel
theorem dX7_likely_99 : decode cX7_likely 99 = .ok (.iconst 1, 1) := by decide +kernel
theorem dX7_likely_100 : decode cX7_likely 100 = .ok (.iload_n 2, 1) := by decide +kernel
theorem dX7_likely_101 : decode cX7_likely 101 = .ok (.ishl, 1) := by decide +kernel
theorem dX7_likely_102 : decode cX7_likely 102 = .ok (.iand, 1) := by decide +kernel
theorem dX7_likely_103 : decode cX7_likely 103 = .ok (.ifCond .eq 10, 3) := by decide +kernel
theorem dX7_likely_106 : decode cX7_likely 106 = .ok (.lload 5, 2) := by decide +kernel
theorem dX7_likely_108 : decode cX7_likely 108 = .ok (.lload 11, 2) := by decide +kernel
theorem dX7_likely_110 : decode cX7_likely 110 = .ok (.ladd, 1) := by decide +kernel
theorem dX7_likely_111 : decode cX7_likely 111 = .ok (.lstore 5, 2) := by decide +kernel
theorem dX7_likely_113 : decode cX7_likely 113 = .ok (.iinc 9 1, 3) := by decide +kernel
theorem dX7_likely_116 : decode cX7_likely 116 = .ok (.goto (-61), 3) := by decide +kernel
theorem dX7_likely_119 : decode cX7_likely 119 = .ok (.lload 5, 2) := by decide +kernel
theorem dX7_likely_121 : decode cX7_likely 121 = .ok (.lload 7, 2) := by decide +kernel
theorem dX7_likely_123 : decode cX7_likely 123 = .ok (.iload_n 3, 1) := by decide +kernel
theorem dX7_likely_124 : decode cX7_likely 124 = .ok (.invokestatic 219, 3) := by decide +kernel
theorem dX7_likely_127 : decode cX7_likely 127 = .ok (.lreturn, 1) := by decide +kernel
theorem dX7_sure_0 : decode cX7_sure 0 = .ok (.aload_n 0, 1) := by decide +kernel
theorem dX7_sure_1 : decode cX7_sure 1 = .ok (.iload_n 1, 1) := by decide +kernel
theorem dX7_sure_2 : decode cX7_sure 2 = .ok (.invokevirtual 139, 3) := by decide +kernel
theorem dX7_sure_5 : decode cX7_sure 5 = .ok (.ifCond .ne 5, 3) := by decide +kernel
theorem dX7_sure_8 : decode cX7_sure 8 = .ok (.iconst (-1), 1) := by decide +kernel
theorem dX7_sure_9 : decode cX7_sure 9 = .ok (.ireturn, 1) := by decide +kernel
theorem dX7_sure_10 : decode cX7_sure 10 = .ok (.aload_n 0, 1) := by decide +kernel
theorem dX7_sure_11 : decode cX7_sure 11 = .ok (.invokevirtual 208, 3) := by decide +kernel
theorem dX7_sure_14 : decode cX7_sure 14 = .ok (.astore_n 3, 1) := by decide +kernel
theorem dX7_sure_15 : decode cX7_sure 15 = .ok (.iconst 1, 1) := by decide +kernel
theorem dX7_sure_16 : decode cX7_sure 16 = .ok (.aload_n 0, 1) := by decide +kernel
theorem dX7_sure_17 : decode cX7_sure 17 = .ok (.getfield 19, 3) := by decide +kernel
theorem dX7_sure_20 : decode cX7_sure 20 = .ok (.getfield 112, 3) := by decide +kernel
theorem dX7_sure_23 : decode cX7_sure 23 = .ok (.getfield 167, 3) := by decide +kernel
theorem dX7_sure_26 : decode cX7_sure 26 = .ok (.ishl, 1) := by decide +kernel
theorem dX7_sure_27 : decode cX7_sure 27 = .ok (.iconst 1, 1) := by decide +kernel
theorem dX7_sure_28 : decode cX7_sure 28 = .ok (.isub, 1) := by decide +kernel
theorem dX7_sure_29 : decode cX7_sure 29 = .ok (.istore 4, 2) := by decide +kernel
theorem dX7_sure_31 : decode cX7_sure 31 = .ok (.iconst 0, 1) := by decide +kernel
theorem dX7_sure_32 : decode cX7_sure 32 = .ok (.istore 5, 2) := by decide +kernel
theorem dX7_sure_34 : decode cX7_sure 34 = .ok (.iload 5, 2) := by decide +kernel
theorem dX7_sure_36 : decode cX7_sure 36 = .ok (.aload_n 3, 1) := by decide +kernel
theorem dX7_sure_37 : decode cX7_sure 37 = .ok (.getfield 106, 3) := by decide +kernel
theorem dX7_sure_40 : decode cX7_sure 40 = .ok (.if_icmp .ge 39, 3) := by decide +kernel
theorem dX7_sure_43 : decode cX7_sure 43 = .ok (.aload_n 3, 1) := by decide +kernel
theorem dX7_sure_44 : decode cX7_sure 44 = .ok (.iload 5, 2) := by decide +kernel
theorem dX7_sure_46 : decode cX7_sure 46 = .ok (.invokevirtual 161, 3) := by decide +kernel
theorem dX7_sure_49 : decode cX7_sure 49 = .ok (.iload_n 1, 1) := by decide +kernel
theorem dX7_sure_50 : decode cX7_sure 50 = .ok (.invokestatic 154, 3) := by decide +kernel
theorem dX7_sure_53 : decode cX7_sure 53 = .ok (.istore 6, 2) := by decide +kernel
theorem dX7_sure_55 : decode cX7_sure 55 = .ok (.iload 4, 2) := by decide +kernel
theorem dX7_sure_57 : decode cX7_sure 57 = .ok (.iload_n 2, 1) := by decide +kernel
theorem dX7_sure_58 : decode cX7_sure 58 = .ok (.ifCond .eq 10, 3) := by decide +kernel
theorem dX7_sure_61 : decode cX7_sure 61 = .ok (.iload 6, 2) := by decide +kernel
theorem dX7_sure_63 : decode cX7_sure 63 = .ok (.iconst (-1), 1) := by decide +kernel
theorem dX7_sure_64 : decode cX7_sure 64 = .ok (.ixor, 1) := by decide +kernel
theorem dX7_sure_65 : decode cX7_sure 65 = .ok (.goto 5, 3) := by decide +kernel
theorem dX7_sure_68 : decode cX7_sure 68 = .ok (.iload 6, 2) := by decide +kernel
theorem dX7_sure_70 : decode cX7_sure 70 = .ok (.iand, 1) := by decide +kernel
theorem dX7_sure_71 : decode cX7_sure 71 = .ok (.istore 4, 2) := by decide +kernel
theorem dX7_sure_73 : decode cX7_sure 73 = .ok (.iinc 5 1, 3) := by decide +kernel
theorem dX7_sure_76 : decode cX7_sure 76 = .ok (.goto (-42), 3) := by decide +kernel
theorem dX7_sure_79 : decode cX7_sure 79 = .ok (.iload 4, 2) := by decide +kernel
theorem dX7_sure_81 : decode cX7_sure 81 = .ok (.ireturn, 1) := by decide +kernel
theorem dX7_judge_0 : decode cX7_judge 0 = .ok (.aload_n 0, 1) := by decide +kernel
theorem dX7_judge_1 : decode cX7_judge 1 = .ok (.invokevirtual 208, 3) := by decide +kernel
theorem dX7_judge_4 : decode cX7_judge 4 = .ok (.pop, 1) := by decide +kernel
theorem dX7_judge_5 : decode cX7_judge 5 = .ok (.aload_n 0, 1) := by decide +kernel
theorem dX7_judge_6 : decode cX7_judge 6 = .ok (.getfield 73, 3) := by decide +kernel
theorem dX7_judge_9 : decode cX7_judge 9 = .ok (.ireturn, 1) := by decide +kernel
theorem dX7_guess_0 : decode cX7_guess 0 = .ok (.aload_n 0, 1) := by decide +kernel
theorem dX7_guess_1 : decode cX7_guess 1 = .ok (.iload_n 1, 1) := by decide +kernel
theorem dX7_guess_2 : decode cX7_guess 2 = .ok (.invokevirtual 139, 3) := by decide +kernel
theorem dX7_guess_5 : decode cX7_guess 5 = .ok (.ifCond .eq 11, 3) := by decide +kernel
theorem dX7_guess_8 : decode cX7_guess 8 = .ok (.iload_n 2, 1) := by decide +kernel
theorem dX7_guess_9 : decode cX7_guess 9 = .ok (.iconst 3, 1) := by decide +kernel
theorem dX7_guess_10 : decode cX7_guess 10 = .ok (.invokestatic 170, 3) := by decide +kernel
theorem dX7_guess_13 : decode cX7_guess 13 = .ok (.ifCond .ne 7, 3) := by decide +kernel
theorem dX7_guess_16 : decode cX7_guess 16 = .ok (.ldc2_w 212, 3) := by decide +kernel
theorem dX7_guess_19 : decode cX7_guess 19 = .ok (.lreturn, 1) := by decide +kernel
theorem dX7_guess_20 : decode cX7_guess 20 = .ok (.aload_n 0, 1) := by decide +kernel
theorem dX7_guess_21 : decode cX7_guess 21 = .ok (.invokevirtual 208, 3) := by decide +kernel
theorem dX7_guess_24 : decode cX7_guess 24 = .ok (.astore_n 3, 1) := by decide +kernel
theorem dX7_guess_25 : decode cX7_guess 25 = .ok (.aload_n 3, 1) := by decide +kernel
theorem dX7_guess_26 : decode cX7_guess 26 = .ok (.getfield 106, 3) := by decide +kernel
theorem dX7_guess_29 : decode cX7_guess 29 = .ok (.ifCond .ne 7, 3) := by decide +kernel
theorem dX7_guess_32 : decode cX7_guess 32 = .ok (.ldc2_w 214, 3) := by decide +kernel
theorem dX7_guess_35 : decode cX7_guess 35 = .ok (.lreturn, 1) := by decide +kernel
theorem dX7_guess_36 : decode cX7_guess 36 = .ok (.aload_n 0, 1) := by decide +kernel
theorem dX7_guess_37 : decode cX7_guess 37 = .ok (.aload_n 3, 1) := by decide +kernel
theorem dX7_guess_38 : decode cX7_guess 38 = .ok (.iload_n 1, 1) := by decide +kernel
theorem dX7_guess_39 : decode cX7_guess 39 = .ok (.invokevirtual 223, 3) := by decide +kernel
theorem dX7_guess_42 : decode cX7_guess 42 = .ok (.lstore 4, 2) := by decide +kernel
theorem dX7_guess_44 : decode cX7_guess 44 = .ok (.iconst 0, 1) := by decide +kernel
theorem dX7_guess_45 : decode cX7_guess 45 = .ok (.istore 6, 2) := by decide +kernel
theorem dX7_guess_47 : decode cX7_guess 47 = .ok (.iconst 1, 1) := by decide +kernel
theorem dX7_guess_48 : decode cX7_guess 48 = .ok (.istore 7, 2) := by decide +kernel
theorem dX7_guess_50 : decode cX7_guess 50 = .ok (.iload 7, 2) := by decide +kernel
theorem dX7_guess_52 : decode cX7_guess 52 = .ok (.aload_n 0, 1) := by decide +kernel
theorem dX7_guess_53 : decode cX7_guess 53 = .ok (.getfield 65, 3) := by decide +kernel
theorem dX7_guess_56 : decode cX7_guess 56 = .ok (.arraylength, 1) := by decide +kernel
theorem dX7_guess_57 : decode cX7_guess 57 = .ok (.if_icmp .ge 31, 3) := by decide +kernel
theorem dX7_guess_60 : decode cX7_guess 60 = .ok (.aload_n 0, 1) := by decide +kernel
theorem dX7_guess_61 : decode cX7_guess 61 = .ok (.getfield 65, 3) := by decide +kernel
theorem dX7_guess_64 : decode cX7_guess 64 = .ok (.iload 7, 2) := by decide +kernel
theorem dX7_guess_66 : decode cX7_guess 66 = .ok (.laload, 1) := by decide +kernel
theorem dX7_guess_67 : decode cX7_guess 67 = .ok (.aload_n 0, 1) := by decide +kernel
theorem dX7_guess_68 : decode cX7_guess 68 = .ok (.getfield 65, 3) := by decide +kernel
theorem dX7_guess_71 : decode cX7_guess 71 = .ok (.iload 6, 2) := by decide +kernel
theorem dX7_guess_73 : decode cX7_guess 73 = .ok (.laload, 1) := by decide +kernel
theorem dX7_guess_74 : decode cX7_guess 74 = .ok (.lcmp, 1) := by decide +kernel
theorem dX7_guess_75 : decode cX7_guess 75 = .ok (.ifCond .le 7, 3) := by decide +kernel
theorem dX7_guess_78 : decode cX7_guess 78 = .ok (.iload 7, 2) := by decide +kernel
theorem dX7_guess_80 : decode cX7_guess 80 = .ok (.istore 6, 2) := by decide +kernel
theorem dX7_guess_82 : decode cX7_guess 82 = .ok (.iinc 7 1, 3) := by decide +kernel
theorem dX7_guess_85 : decode cX7_guess 85 = .ok (.goto (-35), 3) := by decide +kernel
theorem dX7_guess_88 : decode cX7_guess 88 = .ok (.iload_n 2, 1) := by decide +kernel
theorem dX7_guess_89 : decode cX7_guess 89 = .ok (.ifCond .ne 9, 3) := by decide +kernel
theorem dX7_guess_92 : decode cX7_guess 92 = .ok (.iload 6, 2) := by decide +kernel
theorem dX7_guess_94 : decode cX7_guess 94 = .ok (.i2l, 1) := by decide +kernel
theorem dX7_guess_95 : decode cX7_guess 95 = .ok (.goto 18, 3) := by decide +kernel
theorem dX7_guess_98 : decode cX7_guess 98 = .ok (.aload_n 0, 1) := by decide +kernel
theorem dX7_guess_99 : decode cX7_guess 99 = .ok (.getfield 65, 3) := by decide +kernel
theorem dX7_guess_102 : decode cX7_guess 102 = .ok (.iload 6, 2) := by decide +kernel
theorem dX7_guess_104 : decode cX7_guess 104 = .ok (.laload, 1) := by decide +kernel
theorem dX7_guess_105 : decode cX7_guess 105 = .ok (.lload 4, 2) := by decide +kernel
theorem dX7_guess_107 : decode cX7_guess 107 = .ok (.iload_n 2, 1) := by decide +kernel
theorem dX7_guess_108 : decode cX7_guess 108 = .ok (.iconst 1, 1) := by decide +kernel
theorem dX7_guess_109 : decode cX7_guess 109 = .ok (.isub, 1) := by decide +kernel
theorem dX7_guess_110 : decode cX7_guess 110 = .ok (.invokestatic 219, 3) := by decide +kernel
theorem dX7_guess_113 : decode cX7_guess 113 = .ok (.lreturn, 1) := by decide +kernel
theorem dX7_next_0 : decode cX7_next 0 = .ok (.iload_n 1, 1) := by decide +kernel
theorem dX7_next_1 : decode cX7_next 1 = .ok (.iconst 2, 1) := by decide +kernel
theorem dX7_next_2 : decode cX7_next 2 = .ok (.invokestatic 170, 3) := by decide +kernel
theorem dX7_next_5 : decode cX7_next 5 = .ok (.ifCond .ne 5, 3) := by decide +kernel
theorem dX7_next_8 : decode cX7_next 8 = .ok (.iconst (-1), 1) := by decide +kernel
theorem dX7_next_9 : decode cX7_next 9 = .ok (.ireturn, 1) := by decide +kernel
theorem dX7_next_10 : decode cX7_next 10 = .ok (.aload_n 0, 1) := by decide +kernel
theorem dX7_next_11 : decode cX7_next 11 = .ok (.invokevirtual 208, 3) := by decide +kernel
theorem dX7_next_14 : decode cX7_next 14 = .ok (.astore_n 2, 1) := by decide +kernel
theorem dX7_next_15 : decode cX7_next 15 = .ok (.aload_n 2, 1) := by decide +kernel
theorem dX7_next_16 : decode cX7_next 16 = .ok (.getfield 106, 3) := by decide +kernel
theorem dX7_next_19 : decode cX7_next 19 = .ok (.ifCond .ne 6, 3) := by decide +kernel
theorem dX7_next_22 : decode cX7_next 22 = .ok (.bipush (-4), 2) := by decide +kernel
theorem dX7_next_24 : decode cX7_next 24 = .ok (.ireturn, 1) := by decide +kernel
theorem dX7_next_25 : decode cX7_next 25 = .ok (.aload_n 0, 1) := by decide +kernel
theorem dX7_next_26 : decode cX7_next 26 = .ok (.getfield 42, 3) := by decide +kernel
theorem dX7_next_29 : decode cX7_next 29 = .ok (.aload_n 0, 1) := by decide +kernel
theorem dX7_next_30 : decode cX7_next 30 = .ok (.getfield 19, 3) := by decide +kernel
theorem dX7_next_33 : decode cX7_next 33 = .ok (.aload_n 2, 1) := by decide +kernel
theorem dX7_next_34 : decode cX7_next 34 = .ok (.invokevirtual 227, 3) := by decide +kernel
theorem dX7_next_37 : decode cX7_next 37 = .ok (.iload_n 1, 1) := by decide +kernel
theorem dX7_next_38 : decode cX7_next 38 = .ok (.ifCond .ne 13, 3) := by decide +kernel
theorem dX7_next_41 : decode cX7_next 41 = .ok (.aload_n 0, 1) := by decide +kernel
theorem dX7_next_42 : decode cX7_next 42 = .ok (.getfield 42, 3) := by decide +kernel
theorem dX7_next_45 : decode cX7_next 45 = .ok (.getfield 231, 3) := by decide +kernel
theorem dX7_next_48 : decode cX7_next 48 = .ok (.goto 10, 3) := by decide +kernel
theorem dX7_next_51 : decode cX7_next 51 = .ok (.aload_n 0, 1) := by decide +kernel
theorem dX7_next_52 : decode cX7_next 52 = .ok (.getfield 42, 3) := by decide +kernel
theorem dX7_next_55 : decode cX7_next 55 = .ok (.getfield 234, 3) := by decide +kernel
theorem dX7_next_58 : decode cX7_next 58 = .ok (.ireturn, 1) := by decide +kernel
theorem dX7_few_0 : decode cX7_few 0 = .ok (.aload_n 0, 1) := by decide +kernel
theorem dX7_few_1 : decode cX7_few 1 = .ok (.iload_n 1, 1) := by decide +kernel
theorem dX7_few_2 : decode cX7_few 2 = .ok (.invokevirtual 139, 3) := by decide +kernel
theorem dX7_few_5 : decode cX7_few 5 = .ok (.ifCond .ne 5, 3) := by decide +kernel
theorem dX7_few_8 : decode cX7_few 8 = .ok (.iconst (-1), 1) := by decide +kernel
theorem dX7_few_9 : decode cX7_few 9 = .ok (.ireturn, 1) := by decide +kernel
theorem dX7_few_10 : decode cX7_few 10 = .ok (.aload_n 0, 1) := by decide +kernel
theorem dX7_few_11 : decode cX7_few 11 = .ok (.getfield 42, 3) := by decide +kernel
theorem dX7_few_14 : decode cX7_few 14 = .ok (.aload_n 0, 1) := by decide +kernel
theorem dX7_few_15 : decode cX7_few 15 = .ok (.getfield 19, 3) := by decide +kernel
theorem dX7_few_18 : decode cX7_few 18 = .ok (.aload_n 0, 1) := by decide +kernel
theorem dX7_few_19 : decode cX7_few 19 = .ok (.invokevirtual 208, 3) := by decide +kernel
theorem dX7_few_22 : decode cX7_few 22 = .ok (.aload_n 0, 1) := by decide +kernel
theorem dX7_few_23 : decode cX7_few 23 = .ok (.getfield 36, 3) := by decide +kernel
theorem dX7_few_26 : decode cX7_few 26 = .ok (.iload_n 1, 1) := by decide +kernel
theorem dX7_few_27 : decode cX7_few 27 = .ok (.invokevirtual 237, 3) := by decide +kernel
theorem dX7_few_30 : decode cX7_few 30 = .ok (.ireturn, 1) := by decide +kernel
theorem dX7_solved_0 : decode cX7_solved 0 = .ok (.iload_n 1, 1) := by decide +kernel
theorem dX7_solved_1 : decode cX7_solved 1 = .ok (.iconst 2, 1) := by decide +kernel
theorem dX7_solved_2 : decode cX7_solved 2 = .ok (.invokestatic 170, 3) := by decide +kernel
theorem dX7_solved_5 : decode cX7_solved 5 = .ok (.ifCond .ne 5, 3) := by decide +kernel
theorem dX7_solved_8 : decode cX7_solved 8 = .ok (.iconst (-1), 1) := by decide +kernel
theorem dX7_solved_9 : decode cX7_solved 9 = .ok (.ireturn, 1) := by decide +kernel
theorem dX7_solved_10 : decode cX7_solved 10 = .ok (.aload_n 0, 1) := by decide +kernel
theorem dX7_solved_11 : decode cX7_solved 11 = .ok (.aload_n 0, 1) := by decide +kernel
theorem dX7_solved_12 : decode cX7_solved 12 = .ok (.invokevirtual 208, 3) := by decide +kernel
theorem dX7_solved_15 : decode cX7_solved 15 = .ok (.aload_n 0, 1) := by decide +kernel
theorem dX7_solved_16 : decode cX7_solved 16 = .ok (.getfield 49, 3) := by decide +kernel
theorem dX7_solved_19 : decode cX7_solved 19 = .ok (.getfield 151, 3) := by decide +kernel
theorem dX7_solved_22 : decode cX7_solved 22 = .ok (.iload_n 1, 1) := by decide +kernel
theorem dX7_solved_23 : decode cX7_solved 23 = .ok (.invokevirtual 241, 3) := by decide +kernel
theorem dX7_solved_26 : decode cX7_solved 26 = .ok (.ireturn, 1) := by decide +kernel
theorem dX7_risk_0 : decode cX7_risk 0 = .ok (.iload_n 1, 1) := by decide +kernel
theorem dX7_risk_1 : decode cX7_risk 1 = .ok (.iconst 2, 1) := by decide +kernel
theorem dX7_risk_2 : decode cX7_risk 2 = .ok (.invokestatic 170, 3) := by decide +kernel
theorem dX7_risk_5 : decode cX7_risk 5 = .ok (.ifCond .ne 7, 3) := by decide +kernel
theorem dX7_risk_8 : decode cX7_risk 8 = .ok (.ldc2_w 212, 3) := by decide +kernel
theorem dX7_risk_11 : decode cX7_risk 11 = .ok (.lreturn, 1) := by decide +kernel
theorem dX7_risk_12 : decode cX7_risk 12 = .ok (.lconst 1, 1) := by decide +kernel
theorem dX7_risk_13 : decode cX7_risk 13 = .ok (.lstore_n 2, 1) := by decide +kernel
theorem dX7_risk_14 : decode cX7_risk 14 = .ok (.lconst 1, 1) := by decide +kernel
theorem dX7_risk_15 : decode cX7_risk 15 = .ok (.lstore 4, 2) := by decide +kernel
theorem dX7_risk_17 : decode cX7_risk 17 = .ok (.iconst 0, 1) := by decide +kernel
theorem dX7_risk_18 : decode cX7_risk 18 = .ok (.istore 6, 2) := by decide +kernel
theorem dX7_risk_20 : decode cX7_risk 20 = .ok (.iload 6, 2) := by decide +kernel
theorem dX7_risk_22 : decode cX7_risk 22 = .ok (.aload_n 0, 1) := by decide +kernel
theorem dX7_risk_23 : decode cX7_risk 23 = .ok (.getfield 49, 3) := by decide +kernel
theorem dX7_risk_26 : decode cX7_risk 26 = .ok (.getfield 185, 3) := by decide +kernel
theorem dX7_risk_29 : decode cX7_risk 29 = .ok (.if_icmp .ge 49, 3) := by decide +kernel
theorem dX7_risk_32 : decode cX7_risk 32 = .ok (.lload_n 2, 1) := by decide +kernel
theorem dX7_risk_33 : decode cX7_risk 33 = .ok (.bipush 10, 2) := by decide +kernel
theorem dX7_risk_35 : decode cX7_risk 35 = .ok (.aload_n 0, 1) := by decide +kernel
theorem dX7_risk_36 : decode cX7_risk 36 = .ok (.getfield 19, 3) := by decide +kernel
theorem dX7_risk_39 : decode cX7_risk 39 = .ok (.getfield 245, 3) := by decide +kernel
theorem dX7_risk_42 : decode cX7_risk 42 = .ok (.aload_n 0, 1) := by decide +kernel
theorem dX7_risk_43 : decode cX7_risk 43 = .ok (.getfield 49, 3) := by decide +kernel
theorem dX7_risk_46 : decode cX7_risk 46 = .ok (.getfield 248, 3) := by decide +kernel
theorem dX7_risk_49 : decode cX7_risk 49 = .ok (.iload 6, 2) := by decide +kernel
theorem dX7_risk_51 : decode cX7_risk 51 = .ok (.invokestatic 122, 3) := by decide +kernel
theorem dX7_risk_54 : decode cX7_risk 54 = .ok (.invokestatic 251, 3) := by decide +kernel
theorem dX7_risk_57 : decode cX7_risk 57 = .ok (.invokestatic 122, 3) := by decide +kernel
theorem dX7_risk_60 : decode cX7_risk 60 = .ok (.isub, 1) := by decide +kernel
theorem dX7_risk_61 : decode cX7_risk 61 = .ok (.i2l, 1) := by decide +kernel
theorem dX7_risk_62 : decode cX7_risk 62 = .ok (.lmul, 1) := by decide +kernel
theorem dX7_risk_63 : decode cX7_risk 63 = .ok (.lstore_n 2, 1) := by decide +kernel
theorem dX7_risk_64 : decode cX7_risk 64 = .ok (.lload 4, 2) := by decide +kernel
theorem dX7_risk_66 : decode cX7_risk 66 = .ok (.ldc2_w 254, 3) := by decide +kernel
theorem dX7_risk_69 : decode cX7_risk 69 = .ok (.lmul, 1) := by decide +kernel
theorem dX7_risk_70 : decode cX7_risk 70 = .ok (.lstore 4, 2) := by decide +kernel
theorem dX7_risk_72 : decode cX7_risk 72 = .ok (.iinc 6 1, 3) := by decide +kernel
theorem dX7_risk_75 : decode cX7_risk 75 = .ok (.goto (-55), 3) := by decide +kernel
theorem dX7_risk_78 : decode cX7_risk 78 = .ok (.lload 4, 2) := by decide +kernel
theorem dX7_risk_80 : decode cX7_risk 80 = .ok (.lload_n 2, 1) := by decide +kernel
theorem dX7_risk_81 : decode cX7_risk 81 = .ok (.lsub, 1) := by decide +kernel
theorem dX7_risk_82 : decode cX7_risk 82 = .ok (.lload 4, 2) := by decide +kernel
theorem dX7_risk_84 : decode cX7_risk 84 = .ok (.iload_n 1, 1) := by decide +kernel
theorem dX7_risk_85 : decode cX7_risk 85 = .ok (.invokestatic 219, 3) := by decide +kernel
theorem dX7_risk_88 : decode cX7_risk 88 = .ok (.lreturn, 1) := by decide +kernel
theorem dX7_seconds_0 : decode cX7_seconds 0 = .ok (.iconst 0, 1) := by decide +kernel
theorem dX7_seconds_1 : decode cX7_seconds 1 = .ok (.istore_n 1, 1) := by decide +kernel
theorem dX7_seconds_2 : decode cX7_seconds 2 = .ok (.iconst 0, 1) := by decide +kernel
theorem dX7_seconds_3 : decode cX7_seconds 3 = .ok (.istore_n 2, 1) := by decide +kernel
theorem dX7_seconds_4 : decode cX7_seconds 4 = .ok (.iload_n 2, 1) := by decide +kernel
theorem dX7_seconds_5 : decode cX7_seconds 5 = .ok (.aload_n 0, 1) := by decide +kernel
theorem dX7_seconds_6 : decode cX7_seconds 6 = .ok (.getfield 49, 3) := by decide +kernel
theorem dX7_seconds_9 : decode cX7_seconds 9 = .ok (.getfield 185, 3) := by decide +kernel
theorem dX7_seconds_12 : decode cX7_seconds 12 = .ok (.if_icmp .ge 36, 3) := by decide +kernel
theorem dX7_seconds_15 : decode cX7_seconds 15 = .ok (.iload_n 1, 1) := by decide +kernel
theorem dX7_seconds_16 : decode cX7_seconds 16 = .ok (.aload_n 0, 1) := by decide +kernel
theorem dX7_seconds_17 : decode cX7_seconds 17 = .ok (.getfield 19, 3) := by decide +kernel
theorem dX7_seconds_20 : decode cX7_seconds 20 = .ok (.getfield 256, 3) := by decide +kernel
theorem dX7_seconds_23 : decode cX7_seconds 23 = .ok (.aload_n 0, 1) := by decide +kernel
theorem dX7_seconds_24 : decode cX7_seconds 24 = .ok (.getfield 49, 3) := by decide +kernel
theorem dX7_seconds_27 : decode cX7_seconds 27 = .ok (.getfield 248, 3) := by decide +kernel
theorem dX7_seconds_30 : decode cX7_seconds 30 = .ok (.iload_n 2, 1) := by decide +kernel
theorem dX7_seconds_31 : decode cX7_seconds 31 = .ok (.invokestatic 122, 3) := by decide +kernel
theorem dX7_seconds_34 : decode cX7_seconds 34 = .ok (.invokestatic 251, 3) := by decide +kernel
theorem dX7_seconds_37 : decode cX7_seconds 37 = .ok (.invokestatic 122, 3) := by decide +kernel
theorem dX7_seconds_40 : decode cX7_seconds 40 = .ok (.iadd, 1) := by decide +kernel
theorem dX7_seconds_41 : decode cX7_seconds 41 = .ok (.istore_n 1, 1) := by decide +kernel
theorem dX7_seconds_42 : decode cX7_seconds 42 = .ok (.iinc 2 1, 3) := by decide +kernel
theorem dX7_seconds_45 : decode cX7_seconds 45 = .ok (.goto (-41), 3) := by decide +kernel
theorem dX7_seconds_48 : decode cX7_seconds 48 = .ok (.iload_n 1, 1) := by decide +kernel
theorem dX7_seconds_49 : decode cX7_seconds 49 = .ok (.ireturn, 1) := by decide +kernel
theorem dX7_misled_0 : decode cX7_misled 0 = .ok (.aload_n 0, 1) := by decide +kernel
theorem dX7_misled_1 : decode cX7_misled 1 = .ok (.iload_n 1, 1) := by decide +kernel
theorem dX7_misled_2 : decode cX7_misled 2 = .ok (.invokevirtual 139, 3) := by decide +kernel
theorem dX7_misled_5 : decode cX7_misled 5 = .ok (.ifCond .eq 11, 3) := by decide +kernel
theorem dX7_misled_8 : decode cX7_misled 8 = .ok (.iload_n 2, 1) := by decide +kernel
theorem dX7_misled_9 : decode cX7_misled 9 = .ok (.iconst 2, 1) := by decide +kernel
theorem dX7_misled_10 : decode cX7_misled 10 = .ok (.invokestatic 170, 3) := by decide +kernel
theorem dX7_misled_13 : decode cX7_misled 13 = .ok (.ifCond .ne 5, 3) := by decide +kernel
theorem dX7_misled_16 : decode cX7_misled 16 = .ok (.iconst (-1), 1) := by decide +kernel
theorem dX7_misled_17 : decode cX7_misled 17 = .ok (.ireturn, 1) := by decide +kernel
theorem dX7_misled_18 : decode cX7_misled 18 = .ok (.aload_n 0, 1) := by decide +kernel
theorem dX7_misled_19 : decode cX7_misled 19 = .ok (.getfield 42, 3) := by decide +kernel
theorem dX7_misled_22 : decode cX7_misled 22 = .ok (.aload_n 0, 1) := by decide +kernel
theorem dX7_misled_23 : decode cX7_misled 23 = .ok (.invokevirtual 208, 3) := by decide +kernel
theorem dX7_misled_26 : decode cX7_misled 26 = .ok (.iload_n 1, 1) := by decide +kernel
theorem dX7_misled_27 : decode cX7_misled 27 = .ok (.invokevirtual 259, 3) := by decide +kernel
theorem dX7_misled_30 : decode cX7_misled 30 = .ok (.aload_n 0, 1) := by decide +kernel
theorem dX7_misled_31 : decode cX7_misled 31 = .ok (.getfield 42, 3) := by decide +kernel
theorem dX7_misled_34 : decode cX7_misled 34 = .ok (.aload_n 0, 1) := by decide +kernel
theorem dX7_misled_35 : decode cX7_misled 35 = .ok (.getfield 19, 3) := by decide +kernel
theorem dX7_misled_38 : decode cX7_misled 38 = .ok (.iload_n 1, 1) := by decide +kernel
theorem dX7_misled_39 : decode cX7_misled 39 = .ok (.iconst 0, 1) := by decide +kernel
theorem dX7_misled_40 : decode cX7_misled 40 = .ok (.invokevirtual 263, 3) := by decide +kernel
theorem dX7_misled_43 : decode cX7_misled 43 = .ok (.pop, 1) := by decide +kernel
theorem dX7_misled_44 : decode cX7_misled 44 = .ok (.iconst 0, 1) := by decide +kernel
theorem dX7_misled_45 : decode cX7_misled 45 = .ok (.istore_n 3, 1) := by decide +kernel
theorem dX7_misled_46 : decode cX7_misled 46 = .ok (.iconst 0, 1) := by decide +kernel
theorem dX7_misled_47 : decode cX7_misled 47 = .ok (.istore 4, 2) := by decide +kernel
theorem dX7_misled_49 : decode cX7_misled 49 = .ok (.iconst 0, 1) := by decide +kernel
theorem dX7_misled_50 : decode cX7_misled 50 = .ok (.istore 5, 2) := by decide +kernel
theorem dX7_misled_52 : decode cX7_misled 52 = .ok (.iload 5, 2) := by decide +kernel
theorem dX7_misled_54 : decode cX7_misled 54 = .ok (.bipush 10, 2) := by decide +kernel
theorem dX7_misled_56 : decode cX7_misled 56 = .ok (.if_icmp .ge 57, 3) := by decide +kernel
theorem dX7_misled_59 : decode cX7_misled 59 = .ok (.aload_n 0, 1) := by decide +kernel
theorem dX7_misled_60 : decode cX7_misled 60 = .ok (.getfield 42, 3) := by decide +kernel
theorem dX7_misled_63 : decode cX7_misled 63 = .ok (.getfield 267, 3) := by decide +kernel
theorem dX7_misled_66 : decode cX7_misled 66 = .ok (.aload_n 0, 1) := by decide +kernel
theorem dX7_misled_67 : decode cX7_misled 67 = .ok (.getfield 19, 3) := by decide +kernel
theorem dX7_misled_70 : decode cX7_misled 70 = .ok (.iload_n 1, 1) := by decide +kernel
theorem dX7_misled_71 : decode cX7_misled 71 = .ok (.iconst 0, 1) := by decide +kernel
theorem dX7_misled_72 : decode cX7_misled 72 = .ok (.aload_n 0, 1) := by decide +kernel
theorem dX7_misled_73 : decode cX7_misled 73 = .ok (.getfield 49, 3) := by decide +kernel
theorem dX7_misled_76 : decode cX7_misled 76 = .ok (.getfield 151, 3) := by decide +kernel
theorem dX7_misled_79 : decode cX7_misled 79 = .ok (.iload_n 1, 1) := by decide +kernel
theorem dX7_misled_80 : decode cX7_misled 80 = .ok (.invokestatic 154, 3) := by decide +kernel
theorem dX7_misled_83 : decode cX7_misled 83 = .ok (.iload 5, 2) := by decide +kernel
theorem dX7_misled_85 : decode cX7_misled 85 = .ok (.invokevirtual 174, 3) := by decide +kernel
theorem dX7_misled_88 : decode cX7_misled 88 = .ok (.invokestatic 122, 3) := by decide +kernel
theorem dX7_misled_91 : decode cX7_misled 91 = .ok (.istore 6, 2) := by decide +kernel
theorem dX7_misled_93 : decode cX7_misled 93 = .ok (.iload 6, 2) := by decide +kernel
theorem dX7_misled_95 : decode cX7_misled 95 = .ok (.iload 4, 2) := by decide +kernel
theorem dX7_misled_97 : decode cX7_misled 97 = .ok (.if_icmp .le 10, 3) := by decide +kernel
theorem dX7_misled_100 : decode cX7_misled 100 = .ok (.iload 5, 2) := by decide +kernel
theorem dX7_misled_102 : decode cX7_misled 102 = .ok (.istore_n 3, 1) := by decide +kernel
theorem dX7_misled_103 : decode cX7_misled 103 = .ok (.iload 6, 2) := by decide +kernel
theorem dX7_misled_105 : decode cX7_misled 105 = .ok (.istore 4, 2) := by decide +kernel
theorem dX7_misled_107 : decode cX7_misled 107 = .ok (.iinc 5 1, 3) := by decide +kernel
theorem dX7_misled_110 : decode cX7_misled 110 = .ok (.goto (-58), 3) := by decide +kernel
theorem dX7_misled_113 : decode cX7_misled 113 = .ok (.iload_n 2, 1) := by decide +kernel
theorem dX7_misled_114 : decode cX7_misled 114 = .ok (.ifCond .ne 7, 3) := by decide +kernel
theorem dX7_misled_117 : decode cX7_misled 117 = .ok (.iload_n 3, 1) := by decide +kernel
theorem dX7_misled_118 : decode cX7_misled 118 = .ok (.goto 5, 3) := by decide +kernel
theorem dX7_misled_121 : decode cX7_misled 121 = .ok (.iload 4, 2) := by decide +kernel
theorem dX7_misled_123 : decode cX7_misled 123 = .ok (.ireturn, 1) := by decide +kernel
theorem dX7_more_0 : decode cX7_more 0 = .ok (.iload_n 1, 1) := by decide +kernel
theorem dX7_more_1 : decode cX7_more 1 = .ok (.iconst 3, 1) := by decide +kernel
theorem dX7_more_2 : decode cX7_more 2 = .ok (.invokestatic 170, 3) := by decide +kernel
theorem dX7_more_5 : decode cX7_more 5 = .ok (.ifCond .ne 5, 3) := by decide +kernel
theorem dX7_more_8 : decode cX7_more 8 = .ok (.iconst (-1), 1) := by decide +kernel
theorem dX7_more_9 : decode cX7_more 9 = .ok (.ireturn, 1) := by decide +kernel
theorem dX7_more_10 : decode cX7_more 10 = .ok (.aload_n 0, 1) := by decide +kernel
theorem dX7_more_11 : decode cX7_more 11 = .ok (.invokevirtual 208, 3) := by decide +kernel
theorem dX7_more_14 : decode cX7_more 14 = .ok (.astore_n 2, 1) := by decide +kernel
theorem dX7_more_15 : decode cX7_more 15 = .ok (.iconst 0, 1) := by decide +kernel
theorem dX7_more_16 : decode cX7_more 16 = .ok (.istore_n 3, 1) := by decide +kernel
theorem dX7_more_17 : decode cX7_more 17 = .ok (.iconst 0, 1) := by decide +kernel
theorem dX7_more_18 : decode cX7_more 18 = .ok (.istore 4, 2) := by decide +kernel
theorem dX7_more_20 : decode cX7_more 20 = .ok (.iload 4, 2) := by decide +kernel
theorem dX7_more_22 : decode cX7_more 22 = .ok (.aload_n 2, 1) := by decide +kernel
theorem dX7_more_23 : decode cX7_more 23 = .ok (.getfield 106, 3) := by decide +kernel
theorem dX7_more_26 : decode cX7_more 26 = .ok (.if_icmp .ge 53, 3) := by decide +kernel
theorem dX7_more_29 : decode cX7_more 29 = .ok (.aload_n 2, 1) := by decide +kernel
theorem dX7_more_30 : decode cX7_more 30 = .ok (.iload 4, 2) := by decide +kernel
theorem dX7_more_32 : decode cX7_more 32 = .ok (.invokevirtual 161, 3) := by decide +kernel
theorem dX7_more_35 : decode cX7_more 35 = .ok (.istore 5, 2) := by decide +kernel
theorem dX7_more_37 : decode cX7_more 37 = .ok (.aload_n 0, 1) := by decide +kernel
theorem dX7_more_38 : decode cX7_more 38 = .ok (.getfield 19, 3) := by decide +kernel
theorem dX7_more_41 : decode cX7_more 41 = .ok (.iload 5, 2) := by decide +kernel
theorem dX7_more_43 : decode cX7_more 43 = .ok (.iconst 1, 1) := by decide +kernel
theorem dX7_more_44 : decode cX7_more 44 = .ok (.invokevirtual 270, 3) := by decide +kernel
theorem dX7_more_47 : decode cX7_more 47 = .ok (.aload_n 0, 1) := by decide +kernel
theorem dX7_more_48 : decode cX7_more 48 = .ok (.getfield 19, 3) := by decide +kernel
theorem dX7_more_51 : decode cX7_more 51 = .ok (.iload 5, 2) := by decide +kernel
theorem dX7_more_53 : decode cX7_more 53 = .ok (.iconst 0, 1) := by decide +kernel
theorem dX7_more_54 : decode cX7_more 54 = .ok (.invokevirtual 270, 3) := by decide +kernel
theorem dX7_more_57 : decode cX7_more 57 = .ok (.invokestatic 273, 3) := by decide +kernel
theorem dX7_more_60 : decode cX7_more 60 = .ok (.istore 6, 2) := by decide +kernel
theorem dX7_more_62 : decode cX7_more 62 = .ok (.iload 6, 2) := by decide +kernel
theorem dX7_more_64 : decode cX7_more 64 = .ok (.iload_n 1, 1) := by decide +kernel
theorem dX7_more_65 : decode cX7_more 65 = .ok (.iconst 1, 1) := by decide +kernel
theorem dX7_more_66 : decode cX7_more 66 = .ok (.isub, 1) := by decide +kernel
theorem dX7_more_67 : decode cX7_more 67 = .ok (.if_icmp .ne 6, 3) := by decide +kernel
theorem dX7_more_70 : decode cX7_more 70 = .ok (.iinc 3 1, 3) := by decide +kernel
theorem dX7_more_73 : decode cX7_more 73 = .ok (.iinc 4 1, 3) := by decide +kernel
theorem dX7_more_76 : decode cX7_more 76 = .ok (.goto (-56), 3) := by decide +kernel
theorem dX7_more_79 : decode cX7_more 79 = .ok (.iload_n 3, 1) := by decide +kernel
theorem dX7_more_80 : decode cX7_more 80 = .ok (.ireturn, 1) := by decide +kernel
theorem dX7_heavier_0 : decode cX7_heavier 0 = .ok (.aload_n 0, 1) := by decide +kernel
theorem dX7_heavier_1 : decode cX7_heavier 1 = .ok (.iload_n 1, 1) := by decide +kernel
theorem dX7_heavier_2 : decode cX7_heavier 2 = .ok (.invokevirtual 139, 3) := by decide +kernel
theorem dX7_heavier_5 : decode cX7_heavier 5 = .ok (.ifCond .eq 16, 3) := by decide +kernel
theorem dX7_heavier_8 : decode cX7_heavier 8 = .ok (.aload_n 0, 1) := by decide +kernel
theorem dX7_heavier_9 : decode cX7_heavier 9 = .ok (.iload_n 2, 1) := by decide +kernel
theorem dX7_heavier_10 : decode cX7_heavier 10 = .ok (.invokevirtual 139, 3) := by decide +kernel
theorem dX7_heavier_13 : decode cX7_heavier 13 = .ok (.ifCond .eq 8, 3) := by decide +kernel
theorem dX7_heavier_16 : decode cX7_heavier 16 = .ok (.iload_n 1, 1) := by decide +kernel
theorem dX7_heavier_17 : decode cX7_heavier 17 = .ok (.iload_n 2, 1) := by decide +kernel
theorem dX7_heavier_18 : decode cX7_heavier 18 = .ok (.if_icmp .ne 5, 3) := by decide +kernel
theorem dX7_heavier_21 : decode cX7_heavier 21 = .ok (.iconst (-1), 1) := by decide +kernel
theorem dX7_heavier_22 : decode cX7_heavier 22 = .ok (.ireturn, 1) := by decide +kernel
theorem dX7_heavier_23 : decode cX7_heavier 23 = .ok (.aload_n 0, 1) := by decide +kernel
theorem dX7_heavier_24 : decode cX7_heavier 24 = .ok (.invokevirtual 208, 3) := by decide +kernel
theorem dX7_heavier_27 : decode cX7_heavier 27 = .ok (.astore_n 3, 1) := by decide +kernel
theorem dX7_heavier_28 : decode cX7_heavier 28 = .ok (.iconst 0, 1) := by decide +kernel
theorem dX7_heavier_29 : decode cX7_heavier 29 = .ok (.istore 4, 2) := by decide +kernel
theorem dX7_heavier_31 : decode cX7_heavier 31 = .ok (.iconst 0, 1) := by decide +kernel
theorem dX7_heavier_32 : decode cX7_heavier 32 = .ok (.istore 5, 2) := by decide +kernel
theorem dX7_heavier_34 : decode cX7_heavier 34 = .ok (.iload 5, 2) := by decide +kernel
theorem dX7_heavier_36 : decode cX7_heavier 36 = .ok (.aload_n 3, 1) := by decide +kernel
theorem dX7_heavier_37 : decode cX7_heavier 37 = .ok (.getfield 106, 3) := by decide +kernel
theorem dX7_heavier_40 : decode cX7_heavier 40 = .ok (.if_icmp .ge 51, 3) := by decide +kernel
theorem dX7_heavier_43 : decode cX7_heavier 43 = .ok (.aload_n 3, 1) := by decide +kernel
theorem dX7_heavier_44 : decode cX7_heavier 44 = .ok (.iload 5, 2) := by decide +kernel
theorem dX7_heavier_46 : decode cX7_heavier 46 = .ok (.invokevirtual 161, 3) := by decide +kernel
theorem dX7_heavier_49 : decode cX7_heavier 49 = .ok (.istore 6, 2) := by decide +kernel
theorem dX7_heavier_51 : decode cX7_heavier 51 = .ok (.aload_n 0, 1) := by decide +kernel
theorem dX7_heavier_52 : decode cX7_heavier 52 = .ok (.getfield 19, 3) := by decide +kernel
theorem dX7_heavier_55 : decode cX7_heavier 55 = .ok (.iload_n 1, 1) := by decide +kernel
theorem dX7_heavier_56 : decode cX7_heavier 56 = .ok (.iload 6, 2) := by decide +kernel
theorem dX7_heavier_58 : decode cX7_heavier 58 = .ok (.iload_n 1, 1) := by decide +kernel
theorem dX7_heavier_59 : decode cX7_heavier 59 = .ok (.invokestatic 154, 3) := by decide +kernel
theorem dX7_heavier_62 : decode cX7_heavier 62 = .ok (.invokevirtual 278, 3) := by decide +kernel
theorem dX7_heavier_65 : decode cX7_heavier 65 = .ok (.aload_n 0, 1) := by decide +kernel
theorem dX7_heavier_66 : decode cX7_heavier 66 = .ok (.getfield 19, 3) := by decide +kernel
theorem dX7_heavier_69 : decode cX7_heavier 69 = .ok (.iload_n 2, 1) := by decide +kernel
theorem dX7_heavier_70 : decode cX7_heavier 70 = .ok (.iload 6, 2) := by decide +kernel
theorem dX7_heavier_72 : decode cX7_heavier 72 = .ok (.iload_n 2, 1) := by decide +kernel
theorem dX7_heavier_73 : decode cX7_heavier 73 = .ok (.invokestatic 154, 3) := by decide +kernel
theorem dX7_heavier_76 : decode cX7_heavier 76 = .ok (.invokevirtual 278, 3) := by decide +kernel
theorem dX7_heavier_79 : decode cX7_heavier 79 = .ok (.if_icmp .le 6, 3) := by decide +kernel
theorem dX7_heavier_82 : decode cX7_heavier 82 = .ok (.iinc 4 1, 3) := by decide +kernel
theorem dX7_heavier_85 : decode cX7_heavier 85 = .ok (.iinc 5 1, 3) := by decide +kernel
theorem dX7_heavier_88 : decode cX7_heavier 88 = .ok (.goto (-54), 3) := by decide +kernel
theorem dX7_heavier_91 : decode cX7_heavier 91 = .ok (.iload 4, 2) := by decide +kernel
theorem dX7_heavier_93 : decode cX7_heavier 93 = .ok (.ireturn, 1) := by decide +kernel
theorem dX7_morning_0 : decode cX7_morning 0 = .ok (.iload_n 1, 1) := by decide +kernel
theorem dX7_morning_1 : decode cX7_morning 1 = .ok (.sipush 10000, 3) := by decide +kernel
theorem dX7_morning_4 : decode cX7_morning 4 = .ok (.invokestatic 170, 3) := by decide +kernel
theorem dX7_morning_7 : decode cX7_morning 7 = .ok (.ifCond .eq 11, 3) := by decide +kernel
theorem dX7_morning_10 : decode cX7_morning 10 = .ok (.iload_n 2, 1) := by decide +kernel
theorem dX7_morning_11 : decode cX7_morning 11 = .ok (.iconst 2, 1) := by decide +kernel
theorem dX7_morning_12 : decode cX7_morning 12 = .ok (.invokestatic 170, 3) := by decide +kernel
theorem dX7_morning_15 : decode cX7_morning 15 = .ok (.ifCond .ne 5, 3) := by decide +kernel
theorem dX7_morning_18 : decode cX7_morning 18 = .ok (.iconst (-1), 1) := by decide +kernel
theorem dX7_morning_19 : decode cX7_morning 19 = .ok (.ireturn, 1) := by decide +kernel
theorem dX7_morning_20 : decode cX7_morning 20 = .ok (.aload_n 0, 1) := by decide +kernel
theorem dX7_morning_21 : decode cX7_morning 21 = .ok (.getfield 29, 3) := by decide +kernel
theorem dX7_morning_24 : decode cX7_morning 24 = .ok (.getfield 106, 3) := by decide +kernel
theorem dX7_morning_27 : decode cX7_morning 27 = .ok (.ifCond .ne 6, 3) := by decide +kernel
theorem dX7_morning_30 : decode cX7_morning 30 = .ok (.bipush (-4), 2) := by decide +kernel
theorem dX7_morning_32 : decode cX7_morning 32 = .ok (.ireturn, 1) := by decide +kernel
theorem dX7_morning_33 : decode cX7_morning 33 = .ok (.ldc2_w 281, 3) := by decide +kernel
theorem dX7_morning_36 : decode cX7_morning 36 = .ok (.iload_n 1, 1) := by decide +kernel
theorem dX7_morning_37 : decode cX7_morning 37 = .ok (.i2l, 1) := by decide +kernel
theorem dX7_morning_38 : decode cX7_morning 38 = .ok (.lmul, 1) := by decide +kernel
theorem dX7_morning_39 : decode cX7_morning 39 = .ok (.lconst 1, 1) := by decide +kernel
theorem dX7_morning_40 : decode cX7_morning 40 = .ok (.ladd, 1) := by decide +kernel
theorem dX7_morning_41 : decode cX7_morning 41 = .ok (.lstore_n 3, 1) := by decide +kernel
theorem dX7_morning_42 : decode cX7_morning 42 = .ok (.lload_n 3, 1) := by decide +kernel
theorem dX7_morning_43 : decode cX7_morning 43 = .ok (.lload_n 3, 1) := by decide +kernel
theorem dX7_morning_44 : decode cX7_morning 44 = .ok (.lmul, 1) := by decide +kernel
theorem dX7_morning_45 : decode cX7_morning 45 = .ok (.ldc2_w 283, 3) := by decide +kernel
theorem dX7_morning_48 : decode cX7_morning 48 = .ok (.lrem, 1) := by decide +kernel
theorem dX7_morning_49 : decode cX7_morning 49 = .ok (.l2i, 1) := by decide +kernel
theorem dX7_morning_50 : decode cX7_morning 50 = .ok (.istore 5, 2) := by decide +kernel
theorem dX7_morning_52 : decode cX7_morning 52 = .ok (.aload_n 0, 1) := by decide +kernel
theorem dX7_morning_53 : decode cX7_morning 53 = .ok (.aload_n 0, 1) := by decide +kernel
theorem dX7_morning_54 : decode cX7_morning 54 = .ok (.getfield 29, 3) := by decide +kernel
theorem dX7_morning_57 : decode cX7_morning 57 = .ok (.aload_n 0, 1) := by decide +kernel
theorem dX7_morning_58 : decode cX7_morning 58 = .ok (.getfield 29, 3) := by decide +kernel
theorem dX7_morning_61 : decode cX7_morning 61 = .ok (.iload 5, 2) := by decide +kernel
theorem dX7_morning_63 : decode cX7_morning 63 = .ok (.aload_n 0, 1) := by decide +kernel
theorem dX7_morning_64 : decode cX7_morning 64 = .ok (.getfield 29, 3) := by decide +kernel
theorem dX7_morning_67 : decode cX7_morning 67 = .ok (.getfield 106, 3) := by decide +kernel
theorem dX7_morning_70 : decode cX7_morning 70 = .ok (.irem, 1) := by decide +kernel
theorem dX7_morning_71 : decode cX7_morning 71 = .ok (.invokevirtual 161, 3) := by decide +kernel
theorem dX7_morning_74 : decode cX7_morning 74 = .ok (.iload_n 2, 1) := by decide +kernel
theorem dX7_morning_75 : decode cX7_morning 75 = .ok (.invokevirtual 241, 3) := by decide +kernel
theorem dX7_morning_78 : decode cX7_morning 78 = .ok (.ireturn, 1) := by decide +kernel
theorem dX7_keep_0 : decode cX7_keep 0 = .ok (.aload_n 0, 1) := by decide +kernel
theorem dX7_keep_1 : decode cX7_keep 1 = .ok (.getfield 62, 3) := by decide +kernel
theorem dX7_keep_4 : decode cX7_keep 4 = .ok (.invokevirtual 285, 3) := by decide +kernel
theorem dX7_keep_7 : decode cX7_keep 7 = .ok (.ifCond .eq 6, 3) := by decide +kernel
theorem dX7_keep_10 : decode cX7_keep 10 = .ok (.bipush (-3), 2) := by decide +kernel
theorem dX7_keep_12 : decode cX7_keep 12 = .ok (.ireturn, 1) := by decide +kernel
theorem dX7_keep_13 : decode cX7_keep 13 = .ok (.aload_n 0, 1) := by decide +kernel
theorem dX7_keep_14 : decode cX7_keep 14 = .ok (.getfield 62, 3) := by decide +kernel
theorem dX7_keep_17 : decode cX7_keep 17 = .ok (.aload_n 0, 1) := by decide +kernel
theorem dX7_keep_18 : decode cX7_keep 18 = .ok (.getfield 49, 3) := by decide +kernel
theorem dX7_keep_21 : decode cX7_keep 21 = .ok (.invokevirtual 195, 3) := by decide +kernel
theorem dX7_keep_24 : decode cX7_keep 24 = .ok (.aload_n 0, 1) := by decide +kernel
theorem dX7_keep_25 : decode cX7_keep 25 = .ok (.getfield 62, 3) := by decide +kernel
theorem dX7_keep_28 : decode cX7_keep 28 = .ok (.getfield 207, 3) := by decide +kernel
theorem dX7_keep_31 : decode cX7_keep 31 = .ok (.ireturn, 1) := by decide +kernel
theorem dX7_back_0 : decode cX7_back 0 = .ok (.aload_n 0, 1) := by decide +kernel
theorem dX7_back_1 : decode cX7_back 1 = .ok (.getfield 62, 3) := by decide +kernel
theorem dX7_back_4 : decode cX7_back 4 = .ok (.aload_n 0, 1) := by decide +kernel
theorem dX7_back_5 : decode cX7_back 5 = .ok (.getfield 49, 3) := by decide +kernel
theorem dX7_back_8 : decode cX7_back 8 = .ok (.invokevirtual 203, 3) := by decide +kernel
theorem dX7_back_11 : decode cX7_back 11 = .ok (.ifCond .ne 6, 3) := by decide +kernel
theorem dX7_back_14 : decode cX7_back 14 = .ok (.bipush (-2), 2) := by decide +kernel
theorem dX7_back_16 : decode cX7_back 16 = .ok (.ireturn, 1) := by decide +kernel
theorem dX7_back_17 : decode cX7_back 17 = .ok (.aload_n 0, 1) := by decide +kernel
theorem dX7_back_18 : decode cX7_back 18 = .ok (.getfield 58, 3) := by decide +kernel
theorem dX7_back_21 : decode cX7_back 21 = .ok (.invokevirtual 286, 3) := by decide +kernel
theorem dX7_back_24 : decode cX7_back 24 = .ok (.aload_n 0, 1) := by decide +kernel
theorem dX7_back_25 : decode cX7_back 25 = .ok (.iconst 1, 1) := by decide +kernel
theorem dX7_back_26 : decode cX7_back 26 = .ok (.putfield 69, 3) := by decide +kernel
theorem dX7_back_29 : decode cX7_back 29 = .ok (.aload_n 0, 1) := by decide +kernel
theorem dX7_back_30 : decode cX7_back 30 = .ok (.getfield 62, 3) := by decide +kernel
theorem dX7_back_33 : decode cX7_back 33 = .ok (.getfield 207, 3) := by decide +kernel
theorem dX7_back_36 : decode cX7_back 36 = .ok (.ireturn, 1) := by decide +kernel
theorem dX7_count_0 : decode cX7_count 0 = .ok (.iload_n 1, 1) := by decide +kernel
theorem dX7_count_1 : decode cX7_count 1 = .ok (.tableswitch 102 0 6 #[43, 54, 62, 70, 78, 86, 94], 43) := by decide +kernel
theorem dX7_count_44 : decode cX7_count 44 = .ok (.aload_n 0, 1) := by decide +kernel
theorem dX7_count_45 : decode cX7_count 45 = .ok (.getfield 19, 3) := by decide +kernel
theorem dX7_count_48 : decode cX7_count 48 = .ok (.getfield 112, 3) := by decide +kernel
theorem dX7_count_51 : decode cX7_count 51 = .ok (.getfield 167, 3) := by decide +kernel
theorem dX7_count_54 : decode cX7_count 54 = .ok (.ireturn, 1) := by decide +kernel
theorem dX7_count_55 : decode cX7_count 55 = .ok (.aload_n 0, 1) := by decide +kernel
theorem dX7_count_56 : decode cX7_count 56 = .ok (.getfield 19, 3) := by decide +kernel
theorem dX7_count_59 : decode cX7_count 59 = .ok (.getfield 287, 3) := by decide +kernel
theorem dX7_count_62 : decode cX7_count 62 = .ok (.ireturn, 1) := by decide +kernel
theorem dX7_count_63 : decode cX7_count 63 = .ok (.aload_n 0, 1) := by decide +kernel
theorem dX7_count_64 : decode cX7_count 64 = .ok (.getfield 29, 3) := by decide +kernel
theorem dX7_count_67 : decode cX7_count 67 = .ok (.getfield 106, 3) := by decide +kernel
theorem dX7_count_70 : decode cX7_count 70 = .ok (.ireturn, 1) := by decide +kernel
theorem dX7_count_71 : decode cX7_count 71 = .ok (.aload_n 0, 1) := by decide +kernel
theorem dX7_count_72 : decode cX7_count 72 = .ok (.getfield 49, 3) := by decide +kernel
theorem dX7_count_75 : decode cX7_count 75 = .ok (.getfield 185, 3) := by decide +kernel
theorem dX7_count_78 : decode cX7_count 78 = .ok (.ireturn, 1) := by decide +kernel
theorem dX7_count_79 : decode cX7_count 79 = .ok (.aload_n 0, 1) := by decide +kernel
theorem dX7_count_80 : decode cX7_count 80 = .ok (.getfield 58, 3) := by decide +kernel
theorem dX7_count_83 : decode cX7_count 83 = .ok (.getfield 207, 3) := by decide +kernel
theorem dX7_count_86 : decode cX7_count 86 = .ok (.ireturn, 1) := by decide +kernel
theorem dX7_count_87 : decode cX7_count 87 = .ok (.aload_n 0, 1) := by decide +kernel
theorem dX7_count_88 : decode cX7_count 88 = .ok (.getfield 62, 3) := by decide +kernel
theorem dX7_count_91 : decode cX7_count 91 = .ok (.getfield 207, 3) := by decide +kernel
theorem dX7_count_94 : decode cX7_count 94 = .ok (.ireturn, 1) := by decide +kernel
theorem dX7_count_95 : decode cX7_count 95 = .ok (.aload_n 0, 1) := by decide +kernel
theorem dX7_count_96 : decode cX7_count 96 = .ok (.getfield 12, 3) := by decide +kernel
theorem dX7_count_99 : decode cX7_count 99 = .ok (.getfield 100, 3) := by decide +kernel
theorem dX7_count_102 : decode cX7_count 102 = .ok (.ireturn, 1) := by decide +kernel
theorem dX7_count_103 : decode cX7_count 103 = .ok (.iconst (-1), 1) := by decide +kernel
theorem dX7_count_104 : decode cX7_count 104 = .ok (.ireturn, 1) := by decide +kernel
theorem dX7_layText_0 : decode cX7_layText 0 = .ok (.aload_n 0, 1) := by decide +kernel
theorem dX7_layText_1 : decode cX7_layText 1 = .ok (.getfield 12, 3) := by decide +kernel
theorem dX7_layText_4 : decode cX7_layText 4 = .ok (.aload_n 0, 1) := by decide +kernel
theorem dX7_layText_5 : decode cX7_layText 5 = .ok (.getfield 23, 3) := by decide +kernel
theorem dX7_layText_8 : decode cX7_layText 8 = .ok (.invokevirtual 102, 3) := by decide +kernel
theorem dX7_layText_11 : decode cX7_layText 11 = .ok (.bipush (-4), 2) := by decide +kernel
theorem dX7_layText_13 : decode cX7_layText 13 = .ok (.if_icmp .ne 30, 3) := by decide +kernel
theorem dX7_layText_16 : decode cX7_layText 16 = .ok (.aload_n 0, 1) := by decide +kernel
theorem dX7_layText_17 : decode cX7_layText 17 = .ok (.getfield 23, 3) := by decide +kernel
theorem dX7_layText_20 : decode cX7_layText 20 = .ok (.getfield 287, 3) := by decide +kernel
theorem dX7_layText_23 : decode cX7_layText 23 = .ok (.ifCond .eq 20, 3) := by decide +kernel
theorem dX7_layText_26 : decode cX7_layText 26 = .ok (.aload_n 0, 1) := by decide +kernel
theorem dX7_layText_27 : decode cX7_layText 27 = .ok (.getfield 23, 3) := by decide +kernel
theorem dX7_layText_30 : decode cX7_layText 30 = .ok (.aload_n 0, 1) := by decide +kernel
theorem dX7_layText_31 : decode cX7_layText 31 = .ok (.getfield 23, 3) := by decide +kernel
theorem dX7_layText_34 : decode cX7_layText 34 = .ok (.getfield 290, 3) := by decide +kernel
theorem dX7_layText_37 : decode cX7_layText 37 = .ok (.invokevirtual 192, 3) := by decide +kernel
theorem dX7_layText_40 : decode cX7_layText 40 = .ok (.ifCond .ne 5, 3) := by decide +kernel
theorem dX7_layText_43 : decode cX7_layText 43 = .ok (.iconst 0, 1) := by decide +kernel
theorem dX7_layText_44 : decode cX7_layText 44 = .ok (.ireturn, 1) := by decide +kernel
theorem dX7_layText_45 : decode cX7_layText 45 = .ok (.aload_n 0, 1) := by decide +kernel
theorem dX7_layText_46 : decode cX7_layText 46 = .ok (.getfield 19, 3) := by decide +kernel
theorem dX7_layText_49 : decode cX7_layText 49 = .ok (.astore_n 1, 1) := by decide +kernel
theorem dX7_layText_50 : decode cX7_layText 50 = .ok (.aload_n 0, 1) := by decide +kernel
theorem dX7_layText_51 : decode cX7_layText 51 = .ok (.aload_n 0, 1) := by decide +kernel
theorem dX7_layText_52 : decode cX7_layText 52 = .ok (.getfield 23, 3) := by decide +kernel
theorem dX7_layText_55 : decode cX7_layText 55 = .ok (.putfield 19, 3) := by decide +kernel
theorem dX7_layText_58 : decode cX7_layText 58 = .ok (.aload_n 0, 1) := by decide +kernel
theorem dX7_layText_59 : decode cX7_layText 59 = .ok (.aload_n 1, 1) := by decide +kernel
theorem dX7_layText_60 : decode cX7_layText 60 = .ok (.putfield 23, 3) := by decide +kernel
theorem dX7_layText_63 : decode cX7_layText 63 = .ok (.aload_n 0, 1) := by decide +kernel
theorem dX7_layText_64 : decode cX7_layText 64 = .ok (.getfield 19, 3) := by decide +kernel
theorem dX7_layText_67 : decode cX7_layText 67 = .ok (.invokevirtual 293, 3) := by decide +kernel
theorem dX7_layText_70 : decode cX7_layText 70 = .ok (.istore_n 2, 1) := by decide +kernel
theorem dX7_layText_71 : decode cX7_layText 71 = .ok (.aload_n 0, 1) := by decide +kernel
theorem dX7_layText_72 : decode cX7_layText 72 = .ok (.getfield 29, 3) := by decide +kernel
theorem dX7_layText_75 : decode cX7_layText 75 = .ok (.iload_n 2, 1) := by decide +kernel
theorem dX7_layText_76 : decode cX7_layText 76 = .ok (.invokevirtual 296, 3) := by decide +kernel
theorem dX7_layText_79 : decode cX7_layText 79 = .ok (.aload_n 0, 1) := by decide +kernel
theorem dX7_layText_80 : decode cX7_layText 80 = .ok (.getfield 33, 3) := by decide +kernel
theorem dX7_layText_83 : decode cX7_layText 83 = .ok (.iload_n 2, 1) := by decide +kernel
theorem dX7_layText_84 : decode cX7_layText 84 = .ok (.invokevirtual 296, 3) := by decide +kernel
theorem dX7_layText_87 : decode cX7_layText 87 = .ok (.aload_n 0, 1) := by decide +kernel
theorem dX7_layText_88 : decode cX7_layText 88 = .ok (.getfield 36, 3) := by decide +kernel
theorem dX7_layText_91 : decode cX7_layText 91 = .ok (.iload_n 2, 1) := by decide +kernel
theorem dX7_layText_92 : decode cX7_layText 92 = .ok (.invokevirtual 296, 3) := by decide +kernel
theorem dX7_layText_95 : decode cX7_layText 95 = .ok (.aload_n 0, 1) := by decide +kernel
theorem dX7_layText_96 : decode cX7_layText 96 = .ok (.getfield 19, 3) := by decide +kernel
theorem dX7_layText_99 : decode cX7_layText 99 = .ok (.aload_n 0, 1) := by decide +kernel
theorem dX7_layText_100 : decode cX7_layText 100 = .ok (.getfield 29, 3) := by decide +kernel
theorem dX7_layText_103 : decode cX7_layText 103 = .ok (.invokevirtual 299, 3) := by decide +kernel
theorem dX7_layText_106 : decode cX7_layText 106 = .ok (.aload_n 0, 1) := by decide +kernel
theorem dX7_layText_107 : decode cX7_layText 107 = .ok (.getfield 49, 3) := by decide +kernel
theorem dX7_layText_110 : decode cX7_layText 110 = .ok (.aload_n 0, 1) := by decide +kernel
theorem dX7_layText_111 : decode cX7_layText 111 = .ok (.getfield 19, 3) := by decide +kernel
theorem dX7_layText_114 : decode cX7_layText 114 = .ok (.getfield 290, 3) := by decide +kernel
theorem dX7_layText_117 : decode cX7_layText 117 = .ok (.invokevirtual 303, 3) := by decide +kernel
theorem dX7_layText_120 : decode cX7_layText 120 = .ok (.aload_n 0, 1) := by decide +kernel
theorem dX7_layText_121 : decode cX7_layText 121 = .ok (.getfield 58, 3) := by decide +kernel
theorem dX7_layText_124 : decode cX7_layText 124 = .ok (.invokevirtual 286, 3) := by decide +kernel
theorem dX7_layText_127 : decode cX7_layText 127 = .ok (.aload_n 0, 1) := by decide +kernel
theorem dX7_layText_128 : decode cX7_layText 128 = .ok (.getfield 62, 3) := by decide +kernel
theorem dX7_layText_131 : decode cX7_layText 131 = .ok (.invokevirtual 286, 3) := by decide +kernel
theorem dX7_layText_134 : decode cX7_layText 134 = .ok (.aload_n 0, 1) := by decide +kernel
theorem dX7_layText_135 : decode cX7_layText 135 = .ok (.iconst 1, 1) := by decide +kernel
theorem dX7_layText_136 : decode cX7_layText 136 = .ok (.putfield 69, 3) := by decide +kernel
theorem dX7_layText_139 : decode cX7_layText 139 = .ok (.iconst 1, 1) := by decide +kernel
theorem dX7_layText_140 : decode cX7_layText 140 = .ok (.ireturn, 1) := by decide +kernel
theorem dX7_isThing_0 : decode cX7_isThing 0 = .ok (.iload_n 1, 1) := by decide +kernel
theorem dX7_isThing_1 : decode cX7_isThing 1 = .ok (.aload_n 0, 1) := by decide +kernel
theorem dX7_isThing_2 : decode cX7_isThing 2 = .ok (.getfield 19, 3) := by decide +kernel
theorem dX7_isThing_5 : decode cX7_isThing 5 = .ok (.getfield 112, 3) := by decide +kernel
theorem dX7_isThing_8 : decode cX7_isThing 8 = .ok (.getfield 167, 3) := by decide +kernel
theorem dX7_isThing_11 : decode cX7_isThing 11 = .ok (.invokestatic 170, 3) := by decide +kernel
theorem dX7_isThing_14 : decode cX7_isThing 14 = .ok (.ireturn, 1) := by decide +kernel
theorem dX7_isParcel_0 : decode cX7_isParcel 0 = .ok (.iload_n 1, 1) := by decide +kernel
theorem dX7_isParcel_1 : decode cX7_isParcel 1 = .ok (.aload_n 0, 1) := by decide +kernel
theorem dX7_isParcel_2 : decode cX7_isParcel 2 = .ok (.getfield 19, 3) := by decide +kernel
theorem dX7_isParcel_5 : decode cX7_isParcel 5 = .ok (.getfield 287, 3) := by decide +kernel
theorem dX7_isParcel_8 : decode cX7_isParcel 8 = .ok (.invokestatic 170, 3) := by decide +kernel
theorem dX7_isParcel_11 : decode cX7_isParcel 11 = .ok (.ireturn, 1) := by decide +kernel
theorem dX7_parcelWith_0 : decode cX7_parcelWith 0 = .ok (.iconst 0, 1) := by decide +kernel
theorem dX7_parcelWith_1 : decode cX7_parcelWith 1 = .ok (.istore_n 2, 1) := by decide +kernel
theorem dX7_parcelWith_2 : decode cX7_parcelWith 2 = .ok (.iload_n 2, 1) := by decide +kernel
theorem dX7_parcelWith_3 : decode cX7_parcelWith 3 = .ok (.aload_n 0, 1) := by decide +kernel
theorem dX7_parcelWith_4 : decode cX7_parcelWith 4 = .ok (.getfield 19, 3) := by decide +kernel
theorem dX7_parcelWith_7 : decode cX7_parcelWith 7 = .ok (.getfield 287, 3) := by decide +kernel
theorem dX7_parcelWith_10 : decode cX7_parcelWith 10 = .ok (.if_icmp .ge 29, 3) := by decide +kernel
theorem dX7_parcelWith_13 : decode cX7_parcelWith 13 = .ok (.aload_n 0, 1) := by decide +kernel
theorem dX7_parcelWith_14 : decode cX7_parcelWith 14 = .ok (.getfield 49, 3) := by decide +kernel
theorem dX7_parcelWith_17 : decode cX7_parcelWith 17 = .ok (.getfield 151, 3) := by decide +kernel
theorem dX7_parcelWith_20 : decode cX7_parcelWith 20 = .ok (.iload_n 2, 1) := by decide +kernel
theorem dX7_parcelWith_21 : decode cX7_parcelWith 21 = .ok (.invokestatic 154, 3) := by decide +kernel
theorem dX7_parcelWith_24 : decode cX7_parcelWith 24 = .ok (.iconst 1, 1) := by decide +kernel
theorem dX7_parcelWith_25 : decode cX7_parcelWith 25 = .ok (.iload_n 1, 1) := by decide +kernel
theorem dX7_parcelWith_26 : decode cX7_parcelWith 26 = .ok (.ishl, 1) := by decide +kernel
theorem dX7_parcelWith_27 : decode cX7_parcelWith 27 = .ok (.iand, 1) := by decide +kernel
theorem dX7_parcelWith_28 : decode cX7_parcelWith 28 = .ok (.ifCond .eq 5, 3) := by decide +kernel
theorem dX7_parcelWith_31 : decode cX7_parcelWith 31 = .ok (.iload_n 2, 1) := by decide +kernel
theorem dX7_parcelWith_32 : decode cX7_parcelWith 32 = .ok (.ireturn, 1) := by decide +kernel
theorem dX7_parcelWith_33 : decode cX7_parcelWith 33 = .ok (.iinc 2 1, 3) := by decide +kernel
theorem dX7_parcelWith_36 : decode cX7_parcelWith 36 = .ok (.goto (-34), 3) := by decide +kernel
theorem dX7_parcelWith_39 : decode cX7_parcelWith 39 = .ok (.bipush (-4), 2) := by decide +kernel
theorem dX7_parcelWith_41 : decode cX7_parcelWith 41 = .ok (.ireturn, 1) := by decide +kernel
theorem dX7_note_0 : decode cX7_note 0 = .ok (.aload_n 0, 1) := by decide +kernel
theorem dX7_note_1 : decode cX7_note 1 = .ok (.getfield 58, 3) := by decide +kernel
theorem dX7_note_4 : decode cX7_note 4 = .ok (.aload_n 0, 1) := by decide +kernel
theorem dX7_note_5 : decode cX7_note 5 = .ok (.getfield 49, 3) := by decide +kernel
theorem dX7_note_8 : decode cX7_note 8 = .ok (.invokevirtual 195, 3) := by decide +kernel
theorem dX7_note_11 : decode cX7_note 11 = .ok (.aload_n 0, 1) := by decide +kernel
theorem dX7_note_12 : decode cX7_note 12 = .ok (.getfield 49, 3) := by decide +kernel
theorem dX7_note_15 : decode cX7_note 15 = .ok (.iload_n 1, 1) := by decide +kernel
theorem dX7_note_16 : decode cX7_note 16 = .ok (.iload_n 2, 1) := by decide +kernel
theorem dX7_note_17 : decode cX7_note 17 = .ok (.invokestatic 306, 3) := by decide +kernel
theorem dX7_note_20 : decode cX7_note 20 = .ok (.iload_n 3, 1) := by decide +kernel
theorem dX7_note_21 : decode cX7_note 21 = .ok (.invokevirtual 309, 3) := by decide +kernel
theorem dX7_note_24 : decode cX7_note 24 = .ok (.aload_n 0, 1) := by decide +kernel
theorem dX7_note_25 : decode cX7_note 25 = .ok (.iconst 1, 1) := by decide +kernel
theorem dX7_note_26 : decode cX7_note 26 = .ok (.putfield 69, 3) := by decide +kernel
theorem dX7_note_29 : decode cX7_note 29 = .ok (.return_, 1) := by decide +kernel
theorem dX7_findRemaining_0 : decode cX7_findRemaining 0 = .ok (.aload_n 0, 1) := by decide +kernel
theorem dX7_findRemaining_1 : decode cX7_findRemaining 1 = .ok (.getfield 69, 3) := by decide +kernel
theorem dX7_findRemaining_4 : decode cX7_findRemaining 4 = .ok (.ifCond .eq 110, 3) := by decide +kernel
theorem dX7_findRemaining_7 : decode cX7_findRemaining 7 = .ok (.aload_n 0, 1) := by decide +kernel
theorem dX7_findRemaining_8 : decode cX7_findRemaining 8 = .ok (.getfield 33, 3) := by decide +kernel
theorem dX7_findRemaining_11 : decode cX7_findRemaining 11 = .ok (.aload_n 0, 1) := by decide +kernel
theorem dX7_findRemaining_12 : decode cX7_findRemaining 12 = .ok (.getfield 29, 3) := by decide +kernel
theorem dX7_findRemaining_15 : decode cX7_findRemaining 15 = .ok (.invokevirtual 312, 3) := by decide +kernel
theorem dX7_findRemaining_18 : decode cX7_findRemaining 18 = .ok (.aload_n 0, 1) := by decide +kernel
theorem dX7_findRemaining_19 : decode cX7_findRemaining 19 = .ok (.bipush (-4), 2) := by decide +kernel
theorem dX7_findRemaining_21 : decode cX7_findRemaining 21 = .ok (.putfield 73, 3) := by decide +kernel
theorem dX7_findRemaining_24 : decode cX7_findRemaining 24 = .ok (.iconst 0, 1) := by decide +kernel
theorem dX7_findRemaining_25 : decode cX7_findRemaining 25 = .ok (.istore_n 1, 1) := by decide +kernel
theorem dX7_findRemaining_26 : decode cX7_findRemaining 26 = .ok (.iload_n 1, 1) := by decide +kernel
theorem dX7_findRemaining_27 : decode cX7_findRemaining 27 = .ok (.aload_n 0, 1) := by decide +kernel
theorem dX7_findRemaining_28 : decode cX7_findRemaining 28 = .ok (.getfield 49, 3) := by decide +kernel
theorem dX7_findRemaining_31 : decode cX7_findRemaining 31 = .ok (.getfield 185, 3) := by decide +kernel
theorem dX7_findRemaining_34 : decode cX7_findRemaining 34 = .ok (.if_icmp .ge 75, 3) := by decide +kernel
theorem dX7_findRemaining_37 : decode cX7_findRemaining 37 = .ok (.aload_n 0, 1) := by decide +kernel
theorem dX7_findRemaining_38 : decode cX7_findRemaining 38 = .ok (.getfield 49, 3) := by decide +kernel
theorem dX7_findRemaining_41 : decode cX7_findRemaining 41 = .ok (.getfield 248, 3) := by decide +kernel
theorem dX7_findRemaining_44 : decode cX7_findRemaining 44 = .ok (.iload_n 1, 1) := by decide +kernel
theorem dX7_findRemaining_45 : decode cX7_findRemaining 45 = .ok (.invokestatic 122, 3) := by decide +kernel
theorem dX7_findRemaining_48 : decode cX7_findRemaining 48 = .ok (.istore_n 2, 1) := by decide +kernel
theorem dX7_findRemaining_49 : decode cX7_findRemaining 49 = .ok (.aload_n 0, 1) := by decide +kernel
theorem dX7_findRemaining_50 : decode cX7_findRemaining 50 = .ok (.getfield 33, 3) := by decide +kernel
theorem dX7_findRemaining_53 : decode cX7_findRemaining 53 = .ok (.aload_n 0, 1) := by decide +kernel
theorem dX7_findRemaining_54 : decode cX7_findRemaining 54 = .ok (.getfield 19, 3) := by decide +kernel
theorem dX7_findRemaining_57 : decode cX7_findRemaining 57 = .ok (.iload_n 2, 1) := by decide +kernel
theorem dX7_findRemaining_58 : decode cX7_findRemaining 58 = .ok (.invokestatic 315, 3) := by decide +kernel
theorem dX7_findRemaining_61 : decode cX7_findRemaining 61 = .ok (.iload_n 2, 1) := by decide +kernel
theorem dX7_findRemaining_62 : decode cX7_findRemaining 62 = .ok (.invokestatic 251, 3) := by decide +kernel
theorem dX7_findRemaining_65 : decode cX7_findRemaining 65 = .ok (.aload_n 0, 1) := by decide +kernel
theorem dX7_findRemaining_66 : decode cX7_findRemaining 66 = .ok (.getfield 49, 3) := by decide +kernel
theorem dX7_findRemaining_69 : decode cX7_findRemaining 69 = .ok (.getfield 318, 3) := by decide +kernel
theorem dX7_findRemaining_72 : decode cX7_findRemaining 72 = .ok (.iload_n 1, 1) := by decide +kernel
theorem dX7_findRemaining_73 : decode cX7_findRemaining 73 = .ok (.invokestatic 122, 3) := by decide +kernel
theorem dX7_findRemaining_76 : decode cX7_findRemaining 76 = .ok (.invokevirtual 321, 3) := by decide +kernel
theorem dX7_findRemaining_79 : decode cX7_findRemaining 79 = .ok (.aload_n 0, 1) := by decide +kernel
theorem dX7_findRemaining_80 : decode cX7_findRemaining 80 = .ok (.getfield 33, 3) := by decide +kernel
theorem dX7_findRemaining_83 : decode cX7_findRemaining 83 = .ok (.getfield 106, 3) := by decide +kernel
theorem dX7_findRemaining_86 : decode cX7_findRemaining 86 = .ok (.ifCond .ne 17, 3) := by decide +kernel
theorem dX7_findRemaining_89 : decode cX7_findRemaining 89 = .ok (.aload_n 0, 1) := by decide +kernel
theorem dX7_findRemaining_90 : decode cX7_findRemaining 90 = .ok (.getfield 73, 3) := by decide +kernel
theorem dX7_findRemaining_93 : decode cX7_findRemaining 93 = .ok (.bipush (-4), 2) := by decide +kernel
theorem dX7_findRemaining_95 : decode cX7_findRemaining 95 = .ok (.if_icmp .ne 8, 3) := by decide +kernel
theorem dX7_findRemaining_98 : decode cX7_findRemaining 98 = .ok (.aload_n 0, 1) := by decide +kernel
theorem dX7_findRemaining_99 : decode cX7_findRemaining 99 = .ok (.iload_n 1, 1) := by decide +kernel
theorem dX7_findRemaining_100 : decode cX7_findRemaining 100 = .ok (.putfield 73, 3) := by decide +kernel
theorem dX7_findRemaining_103 : decode cX7_findRemaining 103 = .ok (.iinc 1 1, 3) := by decide +kernel
theorem dX7_findRemaining_106 : decode cX7_findRemaining 106 = .ok (.goto (-80), 3) := by decide +kernel
theorem dX7_findRemaining_109 : decode cX7_findRemaining 109 = .ok (.aload_n 0, 1) := by decide +kernel
theorem dX7_findRemaining_110 : decode cX7_findRemaining 110 = .ok (.iconst 0, 1) := by decide +kernel
theorem dX7_findRemaining_111 : decode cX7_findRemaining 111 = .ok (.putfield 69, 3) := by decide +kernel
theorem dX7_findRemaining_114 : decode cX7_findRemaining 114 = .ok (.aload_n 0, 1) := by decide +kernel
theorem dX7_findRemaining_115 : decode cX7_findRemaining 115 = .ok (.getfield 33, 3) := by decide +kernel
theorem dX7_findRemaining_118 : decode cX7_findRemaining 118 = .ok (.areturn, 1) := by decide +kernel
theorem dX7_sumChances_0 : decode cX7_sumChances 0 = .ok (.aload_n 0, 1) := by decide +kernel
theorem dX7_sumChances_1 : decode cX7_sumChances 1 = .ok (.getfield 65, 3) := by decide +kernel
theorem dX7_sumChances_4 : decode cX7_sumChances 4 = .ok (.lconst 0, 1) := by decide +kernel
theorem dX7_sumChances_5 : decode cX7_sumChances 5 = .ok (.invokestatic 325, 3) := by decide +kernel
theorem dX7_sumChances_8 : decode cX7_sumChances 8 = .ok (.lconst 0, 1) := by decide +kernel
theorem dX7_sumChances_9 : decode cX7_sumChances 9 = .ok (.lstore_n 3, 1) := by decide +kernel
theorem dX7_sumChances_10 : decode cX7_sumChances 10 = .ok (.iconst 0, 1) := by decide +kernel
theorem dX7_sumChances_11 : decode cX7_sumChances 11 = .ok (.istore 5, 2) := by decide +kernel
theorem dX7_sumChances_13 : decode cX7_sumChances 13 = .ok (.iload 5, 2) := by decide +kernel
theorem dX7_sumChances_15 : decode cX7_sumChances 15 = .ok (.aload_n 1, 1) := by decide +kernel
theorem dX7_sumChances_16 : decode cX7_sumChances 16 = .ok (.getfield 106, 3) := by decide +kernel
theorem dX7_sumChances_19 : decode cX7_sumChances 19 = .ok (.if_icmp .ge 64, 3) := by decide +kernel
theorem dX7_sumChances_22 : decode cX7_sumChances 22 = .ok (.aload_n 1, 1) := by decide +kernel
theorem dX7_sumChances_23 : decode cX7_sumChances 23 = .ok (.iload 5, 2) := by decide +kernel
theorem dX7_sumChances_25 : decode cX7_sumChances 25 = .ok (.invokevirtual 161, 3) := by decide +kernel
theorem dX7_sumChances_28 : decode cX7_sumChances 28 = .ok (.istore 6, 2) := by decide +kernel
theorem dX7_sumChances_30 : decode cX7_sumChances 30 = .ok (.aload_n 0, 1) := by decide +kernel
theorem dX7_sumChances_31 : decode cX7_sumChances 31 = .ok (.getfield 19, 3) := by decide +kernel
theorem dX7_sumChances_34 : decode cX7_sumChances 34 = .ok (.iload 6, 2) := by decide +kernel
theorem dX7_sumChances_36 : decode cX7_sumChances 36 = .ok (.invokevirtual 216, 3) := by decide +kernel
theorem dX7_sumChances_39 : decode cX7_sumChances 39 = .ok (.i2l, 1) := by decide +kernel
theorem dX7_sumChances_40 : decode cX7_sumChances 40 = .ok (.lstore 7, 2) := by decide +kernel
theorem dX7_sumChances_42 : decode cX7_sumChances 42 = .ok (.iload 6, 2) := by decide +kernel
theorem dX7_sumChances_44 : decode cX7_sumChances 44 = .ok (.iload_n 2, 1) := by decide +kernel
theorem dX7_sumChances_45 : decode cX7_sumChances 45 = .ok (.invokestatic 154, 3) := by decide +kernel
theorem dX7_sumChances_48 : decode cX7_sumChances 48 = .ok (.istore 9, 2) := by decide +kernel
theorem dX7_sumChances_50 : decode cX7_sumChances 50 = .ok (.iload 9, 2) := by decide +kernel
theorem dX7_sumChances_52 : decode cX7_sumChances 52 = .ok (.aload_n 0, 1) := by decide +kernel
theorem dX7_sumChances_53 : decode cX7_sumChances 53 = .ok (.getfield 65, 3) := by decide +kernel
theorem dX7_sumChances_56 : decode cX7_sumChances 56 = .ok (.arraylength, 1) := by decide +kernel
theorem dX7_sumChances_57 : decode cX7_sumChances 57 = .ok (.if_icmp .ge 15, 3) := by decide +kernel
theorem dX7_sumChances_60 : decode cX7_sumChances 60 = .ok (.aload_n 0, 1) := by decide +kernel
theorem dX7_sumChances_61 : decode cX7_sumChances 61 = .ok (.getfield 65, 3) := by decide +kernel
theorem dX7_sumChances_64 : decode cX7_sumChances 64 = .ok (.iload 9, 2) := by decide +kernel
theorem dX7_sumChances_66 : decode cX7_sumChances 66 = .ok (.dup2, 1) := by decide +kernel
theorem dX7_sumChances_67 : decode cX7_sumChances 67 = .ok (.laload, 1) := by decide +kernel
theorem dX7_sumChances_68 : decode cX7_sumChances 68 = .ok (.lload 7, 2) := by decide +kernel
theorem dX7_sumChances_70 : decode cX7_sumChances 70 = .ok (.ladd, 1) := by decide +kernel
theorem dX7_sumChances_71 : decode cX7_sumChances 71 = .ok (.lastore, 1) := by decide +kernel
theorem dX7_sumChances_72 : decode cX7_sumChances 72 = .ok (.lload_n 3, 1) := by decide +kernel
theorem dX7_sumChances_73 : decode cX7_sumChances 73 = .ok (.lload 7, 2) := by decide +kernel
theorem dX7_sumChances_75 : decode cX7_sumChances 75 = .ok (.ladd, 1) := by decide +kernel
theorem dX7_sumChances_76 : decode cX7_sumChances 76 = .ok (.lstore_n 3, 1) := by decide +kernel
theorem dX7_sumChances_77 : decode cX7_sumChances 77 = .ok (.iinc 5 1, 3) := by decide +kernel
theorem dX7_sumChances_80 : decode cX7_sumChances 80 = .ok (.goto (-67), 3) := by decide +kernel
theorem dX7_sumChances_83 : decode cX7_sumChances 83 = .ok (.lload_n 3, 1) := by decide +kernel
theorem dX7_sumChances_84 : decode cX7_sumChances 84 = .ok (.lreturn, 1) := by decide +kernel
theorem dX7_solve_0 : decode cX7_solve 0 = .ok (.aload_n 0, 1) := by decide +kernel
theorem dX7_solve_1 : decode cX7_solve 1 = .ok (.getfield 36, 3) := by decide +kernel
theorem dX7_solve_4 : decode cX7_solve 4 = .ok (.aload_n 1, 1) := by decide +kernel
theorem dX7_solve_5 : decode cX7_solve 5 = .ok (.invokevirtual 312, 3) := by decide +kernel
theorem dX7_solve_8 : decode cX7_solve 8 = .ok (.aload_n 0, 1) := by decide +kernel
theorem dX7_solve_9 : decode cX7_solve 9 = .ok (.getfield 42, 3) := by decide +kernel
theorem dX7_solve_12 : decode cX7_solve 12 = .ok (.aload_n 0, 1) := by decide +kernel
theorem dX7_solve_13 : decode cX7_solve 13 = .ok (.getfield 19, 3) := by decide +kernel
theorem dX7_solve_16 : decode cX7_solve 16 = .ok (.aload_n 0, 1) := by decide +kernel
theorem dX7_solve_17 : decode cX7_solve 17 = .ok (.getfield 36, 3) := by decide +kernel
theorem dX7_solve_20 : decode cX7_solve 20 = .ok (.iload_n 2, 1) := by decide +kernel
theorem dX7_solve_21 : decode cX7_solve 21 = .ok (.invokevirtual 331, 3) := by decide +kernel
theorem dX7_solve_24 : decode cX7_solve 24 = .ok (.ifCond .ne 6, 3) := by decide +kernel
theorem dX7_solve_27 : decode cX7_solve 27 = .ok (.bipush (-4), 2) := by decide +kernel
theorem dX7_solve_29 : decode cX7_solve 29 = .ok (.ireturn, 1) := by decide +kernel
theorem dX7_solve_30 : decode cX7_solve 30 = .ok (.iload_n 3, 1) := by decide +kernel
theorem dX7_solve_31 : decode cX7_solve 31 = .ok (.ifCond .ne 13, 3) := by decide +kernel
theorem dX7_solve_34 : decode cX7_solve 34 = .ok (.aload_n 0, 1) := by decide +kernel
theorem dX7_solve_35 : decode cX7_solve 35 = .ok (.getfield 42, 3) := by decide +kernel
theorem dX7_solve_38 : decode cX7_solve 38 = .ok (.getfield 335, 3) := by decide +kernel
theorem dX7_solve_41 : decode cX7_solve 41 = .ok (.goto 10, 3) := by decide +kernel
theorem dX7_solve_44 : decode cX7_solve 44 = .ok (.aload_n 0, 1) := by decide +kernel
theorem dX7_solve_45 : decode cX7_solve 45 = .ok (.getfield 42, 3) := by decide +kernel
theorem dX7_solve_48 : decode cX7_solve 48 = .ok (.getfield 337, 3) := by decide +kernel
theorem dX7_solve_51 : decode cX7_solve 51 = .ok (.ireturn, 1) := by decide +kernel
theorem dX7_isSort_0 : decode cX7_isSort 0 = .ok (.iload_n 0, 1) := by decide +kernel
theorem dX7_isSort_1 : decode cX7_isSort 1 = .ok (.iconst 4, 1) := by decide +kernel
theorem dX7_isSort_2 : decode cX7_isSort 2 = .ok (.invokestatic 170, 3) := by decide +kernel
theorem dX7_isSort_5 : decode cX7_isSort 5 = .ok (.ireturn, 1) := by decide +kernel
theorem dX7_isBelow_0 : decode cX7_isBelow 0 = .ok (.iload_n 0, 1) := by decide +kernel
theorem dX7_isBelow_1 : decode cX7_isBelow 1 = .ok (.ifCond .lt 12, 3) := by decide +kernel
theorem dX7_isBelow_4 : decode cX7_isBelow 4 = .ok (.iload_n 0, 1) := by decide +kernel
theorem dX7_isBelow_5 : decode cX7_isBelow 5 = .ok (.iload_n 1, 1) := by decide +kernel
theorem dX7_isBelow_6 : decode cX7_isBelow 6 = .ok (.if_icmp .ge 7, 3) := by decide +kernel
theorem dX7_isBelow_9 : decode cX7_isBelow 9 = .ok (.iconst 1, 1) := by decide +kernel
theorem dX7_isBelow_10 : decode cX7_isBelow 10 = .ok (.goto 4, 3) := by decide +kernel
theorem dX7_isBelow_13 : decode cX7_isBelow 13 = .ok (.iconst 0, 1) := by decide +kernel
theorem dX7_isBelow_14 : decode cX7_isBelow 14 = .ok (.ireturn, 1) := by decide +kernel
theorem dX7_isWithin_0 : decode cX7_isWithin 0 = .ok (.iload_n 0, 1) := by decide +kernel
theorem dX7_isWithin_1 : decode cX7_isWithin 1 = .ok (.iload_n 1, 1) := by decide +kernel
theorem dX7_isWithin_2 : decode cX7_isWithin 2 = .ok (.if_icmp .lt 12, 3) := by decide +kernel
theorem dX7_isWithin_5 : decode cX7_isWithin 5 = .ok (.iload_n 0, 1) := by decide +kernel
theorem dX7_isWithin_6 : decode cX7_isWithin 6 = .ok (.iload_n 2, 1) := by decide +kernel
theorem dX7_isWithin_7 : decode cX7_isWithin 7 = .ok (.if_icmp .gt 7, 3) := by decide +kernel
theorem dX7_isWithin_10 : decode cX7_isWithin 10 = .ok (.iconst 1, 1) := by decide +kernel
theorem dX7_isWithin_11 : decode cX7_isWithin 11 = .ok (.goto 4, 3) := by decide +kernel
theorem dX7_isWithin_14 : decode cX7_isWithin 14 = .ok (.iconst 0, 1) := by decide +kernel
theorem dX7_isWithin_15 : decode cX7_isWithin 15 = .ok (.ireturn, 1) := by decide +kernel
theorem dX7_at_0 : decode cX7_at 0 = .ok (.iload_n 1, 1) := by decide +kernel
theorem dX7_at_1 : decode cX7_at 1 = .ok (.ifCond .lt 15, 3) := by decide +kernel
theorem dX7_at_4 : decode cX7_at 4 = .ok (.iload_n 1, 1) := by decide +kernel
theorem dX7_at_5 : decode cX7_at 5 = .ok (.aload_n 0, 1) := by decide +kernel
theorem dX7_at_6 : decode cX7_at 6 = .ok (.arraylength, 1) := by decide +kernel
theorem dX7_at_7 : decode cX7_at 7 = .ok (.if_icmp .ge 9, 3) := by decide +kernel
theorem dX7_at_10 : decode cX7_at 10 = .ok (.aload_n 0, 1) := by decide +kernel
theorem dX7_at_11 : decode cX7_at 11 = .ok (.iload_n 1, 1) := by decide +kernel
theorem dX7_at_12 : decode cX7_at 12 = .ok (.iaload, 1) := by decide +kernel
theorem dX7_at_13 : decode cX7_at 13 = .ok (.goto 4, 3) := by decide +kernel
theorem dX7_at_16 : decode cX7_at 16 = .ok (.iconst 0, 1) := by decide +kernel
theorem dX7_at_17 : decode cX7_at 17 = .ok (.ireturn, 1) := by decide +kernel
theorem dX7_put_0 : decode cX7_put 0 = .ok (.iload_n 1, 1) := by decide +kernel
theorem dX7_put_1 : decode cX7_put 1 = .ok (.ifCond .lt 13, 3) := by decide +kernel
theorem dX7_put_4 : decode cX7_put 4 = .ok (.iload_n 1, 1) := by decide +kernel
theorem dX7_put_5 : decode cX7_put 5 = .ok (.aload_n 0, 1) := by decide +kernel
theorem dX7_put_6 : decode cX7_put 6 = .ok (.arraylength, 1) := by decide +kernel
theorem dX7_put_7 : decode cX7_put 7 = .ok (.if_icmp .ge 7, 3) := by decide +kernel
theorem dX7_put_10 : decode cX7_put 10 = .ok (.aload_n 0, 1) := by decide +kernel
theorem dX7_put_11 : decode cX7_put 11 = .ok (.iload_n 1, 1) := by decide +kernel
theorem dX7_put_12 : decode cX7_put 12 = .ok (.iload_n 2, 1) := by decide +kernel
theorem dX7_put_13 : decode cX7_put 13 = .ok (.iastore, 1) := by decide +kernel
theorem dX7_put_14 : decode cX7_put 14 = .ok (.return_, 1) := by decide +kernel
theorem dX7_raise_0 : decode cX7_raise 0 = .ok (.iload_n 1, 1) := by decide +kernel
theorem dX7_raise_1 : decode cX7_raise 1 = .ok (.ifCond .lt 16, 3) := by decide +kernel
theorem dX7_raise_4 : decode cX7_raise 4 = .ok (.iload_n 1, 1) := by decide +kernel
theorem dX7_raise_5 : decode cX7_raise 5 = .ok (.aload_n 0, 1) := by decide +kernel
theorem dX7_raise_6 : decode cX7_raise 6 = .ok (.arraylength, 1) := by decide +kernel
theorem dX7_raise_7 : decode cX7_raise 7 = .ok (.if_icmp .ge 10, 3) := by decide +kernel
theorem dX7_raise_10 : decode cX7_raise 10 = .ok (.aload_n 0, 1) := by decide +kernel
theorem dX7_raise_11 : decode cX7_raise 11 = .ok (.iload_n 1, 1) := by decide +kernel
theorem dX7_raise_12 : decode cX7_raise 12 = .ok (.dup2, 1) := by decide +kernel
theorem dX7_raise_13 : decode cX7_raise 13 = .ok (.iaload, 1) := by decide +kernel
theorem dX7_raise_14 : decode cX7_raise 14 = .ok (.iload_n 2, 1) := by decide +kernel
theorem dX7_raise_15 : decode cX7_raise 15 = .ok (.iadd, 1) := by decide +kernel
theorem dX7_raise_16 : decode cX7_raise 16 = .ok (.iastore, 1) := by decide +kernel
theorem dX7_raise_17 : decode cX7_raise 17 = .ok (.return_, 1) := by decide +kernel
theorem dX7_inside_0 : decode cX7_inside 0 = .ok (.iload_n 0, 1) := by decide +kernel
theorem dX7_inside_1 : decode cX7_inside 1 = .ok (.bipush 8, 2) := by decide +kernel
theorem dX7_inside_3 : decode cX7_inside 3 = .ok (.iload_n 1, 1) := by decide +kernel
theorem dX7_inside_4 : decode cX7_inside 4 = .ok (.imul, 1) := by decide +kernel
theorem dX7_inside_5 : decode cX7_inside 5 = .ok (.iushr, 1) := by decide +kernel
theorem dX7_inside_6 : decode cX7_inside 6 = .ok (.sipush 255, 3) := by decide +kernel
theorem dX7_inside_9 : decode cX7_inside 9 = .ok (.iand, 1) := by decide +kernel
theorem dX7_inside_10 : decode cX7_inside 10 = .ok (.ireturn, 1) := by decide +kernel
theorem dX7_swapped_0 : decode cX7_swapped 0 = .ok (.iload_n 0, 1) := by decide +kernel
theorem dX7_swapped_1 : decode cX7_swapped 1 = .ok (.iload_n 1, 1) := by decide +kernel
theorem dX7_swapped_2 : decode cX7_swapped 2 = .ok (.invokestatic 154, 3) := by decide +kernel
theorem dX7_swapped_5 : decode cX7_swapped 5 = .ok (.iload_n 0, 1) := by decide +kernel
theorem dX7_swapped_6 : decode cX7_swapped 6 = .ok (.iload_n 2, 1) := by decide +kernel
theorem dX7_swapped_7 : decode cX7_swapped 7 = .ok (.invokestatic 154, 3) := by decide +kernel
theorem dX7_swapped_10 : decode cX7_swapped 10 = .ok (.ixor, 1) := by decide +kernel
theorem dX7_swapped_11 : decode cX7_swapped 11 = .ok (.istore_n 3, 1) := by decide +kernel
theorem dX7_swapped_12 : decode cX7_swapped 12 = .ok (.iload_n 0, 1) := by decide +kernel
theorem dX7_swapped_13 : decode cX7_swapped 13 = .ok (.iload_n 3, 1) := by decide +kernel
theorem dX7_swapped_14 : decode cX7_swapped 14 = .ok (.bipush 8, 2) := by decide +kernel
theorem dX7_swapped_16 : decode cX7_swapped 16 = .ok (.iload_n 1, 1) := by decide +kernel
theorem dX7_swapped_17 : decode cX7_swapped 17 = .ok (.imul, 1) := by decide +kernel
theorem dX7_swapped_18 : decode cX7_swapped 18 = .ok (.ishl, 1) := by decide +kernel
theorem dX7_swapped_19 : decode cX7_swapped 19 = .ok (.ixor, 1) := by decide +kernel
theorem dX7_swapped_20 : decode cX7_swapped 20 = .ok (.iload_n 3, 1) := by decide +kernel
theorem dX7_swapped_21 : decode cX7_swapped 21 = .ok (.bipush 8, 2) := by decide +kernel
theorem dX7_swapped_23 : decode cX7_swapped 23 = .ok (.iload_n 2, 1) := by decide +kernel
theorem dX7_swapped_24 : decode cX7_swapped 24 = .ok (.imul, 1) := by decide +kernel
theorem dX7_swapped_25 : decode cX7_swapped 25 = .ok (.ishl, 1) := by decide +kernel
theorem dX7_swapped_26 : decode cX7_swapped 26 = .ok (.ixor, 1) := by decide +kernel
theorem dX7_swapped_27 : decode cX7_swapped 27 = .ok (.ireturn, 1) := by decide +kernel
theorem dX7_trialOf_0 : decode cX7_trialOf 0 = .ok (.iconst 4, 1) := by decide +kernel
theorem dX7_trialOf_1 : decode cX7_trialOf 1 = .ok (.iload_n 0, 1) := by decide +kernel
theorem dX7_trialOf_2 : decode cX7_trialOf 2 = .ok (.imul, 1) := by decide +kernel
theorem dX7_trialOf_3 : decode cX7_trialOf 3 = .ok (.iload_n 1, 1) := by decide +kernel
theorem dX7_trialOf_4 : decode cX7_trialOf 4 = .ok (.iadd, 1) := by decide +kernel
theorem dX7_trialOf_5 : decode cX7_trialOf 5 = .ok (.ireturn, 1) := by decide +kernel
theorem dX7_parcelOf_0 : decode cX7_parcelOf 0 = .ok (.iload_n 0, 1) := by decide +kernel
theorem dX7_parcelOf_1 : decode cX7_parcelOf 1 = .ok (.iconst 4, 1) := by decide +kernel
theorem dX7_parcelOf_2 : decode cX7_parcelOf 2 = .ok (.idiv, 1) := by decide +kernel
theorem dX7_parcelOf_3 : decode cX7_parcelOf 3 = .ok (.ireturn, 1) := by decide +kernel
theorem dX7_sortOf_0 : decode cX7_sortOf 0 = .ok (.iload_n 0, 1) := by decide +kernel
theorem dX7_sortOf_1 : decode cX7_sortOf 1 = .ok (.iconst 4, 1) := by decide +kernel
theorem dX7_sortOf_2 : decode cX7_sortOf 2 = .ok (.irem, 1) := by decide +kernel
theorem dX7_sortOf_3 : decode cX7_sortOf 3 = .ok (.ireturn, 1) := by decide +kernel
theorem dX7_inLowestTerms_0 : decode cX7_inLowestTerms 0 = .ok (.lload_n 0, 1) := by decide +kernel
theorem dX7_inLowestTerms_1 : decode cX7_inLowestTerms 1 = .ok (.lstore 5, 2) := by decide +kernel
theorem dX7_inLowestTerms_3 : decode cX7_inLowestTerms 3 = .ok (.lload_n 2, 1) := by decide +kernel
theorem dX7_inLowestTerms_4 : decode cX7_inLowestTerms 4 = .ok (.lstore 7, 2) := by decide +kernel
theorem dX7_inLowestTerms_6 : decode cX7_inLowestTerms 6 = .ok (.iconst 0, 1) := by decide +kernel
theorem dX7_inLowestTerms_7 : decode cX7_inLowestTerms 7 = .ok (.istore 9, 2) := by decide +kernel
theorem dX7_inLowestTerms_9 : decode cX7_inLowestTerms 9 = .ok (.iload 9, 2) := by decide +kernel
theorem dX7_inLowestTerms_11 : decode cX7_inLowestTerms 11 = .ok (.sipush 200, 3) := by decide +kernel
theorem dX7_inLowestTerms_14 : decode cX7_inLowestTerms 14 = .ok (.if_icmp .ge 31, 3) := by decide +kernel
theorem dX7_inLowestTerms_17 : decode cX7_inLowestTerms 17 = .ok (.lload 7, 2) := by decide +kernel
theorem dX7_inLowestTerms_19 : decode cX7_inLowestTerms 19 = .ok (.lconst 0, 1) := by decide +kernel
theorem dX7_inLowestTerms_20 : decode cX7_inLowestTerms 20 = .ok (.lcmp, 1) := by decide +kernel
theorem dX7_inLowestTerms_21 : decode cX7_inLowestTerms 21 = .ok (.ifCond .eq 24, 3) := by decide +kernel
theorem dX7_inLowestTerms_24 : decode cX7_inLowestTerms 24 = .ok (.lload 5, 2) := by decide +kernel
theorem dX7_inLowestTerms_26 : decode cX7_inLowestTerms 26 = .ok (.lload 7, 2) := by decide +kernel
theorem dX7_inLowestTerms_28 : decode cX7_inLowestTerms 28 = .ok (.lrem, 1) := by decide +kernel
theorem dX7_inLowestTerms_29 : decode cX7_inLowestTerms 29 = .ok (.lstore 10, 2) := by decide +kernel
theorem dX7_inLowestTerms_31 : decode cX7_inLowestTerms 31 = .ok (.lload 7, 2) := by decide +kernel
theorem dX7_inLowestTerms_33 : decode cX7_inLowestTerms 33 = .ok (.lstore 5, 2) := by decide +kernel
theorem dX7_inLowestTerms_35 : decode cX7_inLowestTerms 35 = .ok (.lload 10, 2) := by decide +kernel
theorem dX7_inLowestTerms_37 : decode cX7_inLowestTerms 37 = .ok (.lstore 7, 2) := by decide +kernel
theorem dX7_inLowestTerms_39 : decode cX7_inLowestTerms 39 = .ok (.iinc 9 1, 3) := by decide +kernel
theorem dX7_inLowestTerms_42 : decode cX7_inLowestTerms 42 = .ok (.goto (-33), 3) := by decide +kernel
theorem dX7_inLowestTerms_45 : decode cX7_inLowestTerms 45 = .ok (.iload 4, 2) := by decide +kernel
theorem dX7_inLowestTerms_47 : decode cX7_inLowestTerms 47 = .ok (.ifCond .ne 7, 3) := by decide +kernel
theorem dX7_inLowestTerms_50 : decode cX7_inLowestTerms 50 = .ok (.lload_n 0, 1) := by decide +kernel
theorem dX7_inLowestTerms_51 : decode cX7_inLowestTerms 51 = .ok (.goto 4, 3) := by decide +kernel
theorem dX7_inLowestTerms_54 : decode cX7_inLowestTerms 54 = .ok (.lload_n 2, 1) := by decide +kernel
theorem dX7_inLowestTerms_55 : decode cX7_inLowestTerms 55 = .ok (.lstore 9, 2) := by decide +kernel
theorem dX7_inLowestTerms_57 : decode cX7_inLowestTerms 57 = .ok (.lload 5, 2) := by decide +kernel
theorem dX7_inLowestTerms_59 : decode cX7_inLowestTerms 59 = .ok (.lconst 0, 1) := by decide +kernel
theorem dX7_inLowestTerms_60 : decode cX7_inLowestTerms 60 = .ok (.lcmp, 1) := by decide +kernel
theorem dX7_inLowestTerms_61 : decode cX7_inLowestTerms 61 = .ok (.ifCond .ne 8, 3) := by decide +kernel
theorem dX7_inLowestTerms_64 : decode cX7_inLowestTerms 64 = .ok (.lload 9, 2) := by decide +kernel
theorem dX7_inLowestTerms_66 : decode cX7_inLowestTerms 66 = .ok (.goto 8, 3) := by decide +kernel
theorem dX7_inLowestTerms_69 : decode cX7_inLowestTerms 69 = .ok (.lload 9, 2) := by decide +kernel
theorem dX7_inLowestTerms_71 : decode cX7_inLowestTerms 71 = .ok (.lload 5, 2) := by decide +kernel
theorem dX7_inLowestTerms_73 : decode cX7_inLowestTerms 73 = .ok (.ldiv, 1) := by decide +kernel
theorem dX7_inLowestTerms_74 : decode cX7_inLowestTerms 74 = .ok (.lreturn, 1) := by decide +kernel
theorem dX8_init_0 : decode cX8_init 0 = .ok (.aload_n 0, 1) := by decide +kernel
theorem dX8_init_1 : decode cX8_init 1 = .ok (.invokespecial 1, 3) := by decide +kernel
theorem dX8_init_4 : decode cX8_init 4 = .ok (.aload_n 0, 1) := by decide +kernel
theorem dX8_init_5 : decode cX8_init 5 = .ok (.sipush 200, 3) := by decide +kernel
theorem dX8_init_8 : decode cX8_init 8 = .ok (.newarray .int, 2) := by decide +kernel
theorem dX8_init_10 : decode cX8_init 10 = .ok (.putfield 7, 3) := by decide +kernel
theorem dX8_init_13 : decode cX8_init 13 = .ok (.aload_n 0, 1) := by decide +kernel
theorem dX8_init_14 : decode cX8_init 14 = .ok (.iconst 2, 1) := by decide +kernel
theorem dX8_init_15 : decode cX8_init 15 = .ok (.newarray .int, 2) := by decide +kernel
theorem dX8_init_17 : decode cX8_init 17 = .ok (.putfield 13, 3) := by decide +kernel
theorem dX8_init_20 : decode cX8_init 20 = .ok (.aload_n 0, 1) := by decide +kernel
theorem dX8_init_21 : decode cX8_init 21 = .ok (.bipush 16, 2) := by decide +kernel
theorem dX8_init_23 : decode cX8_init 23 = .ok (.newarray .int, 2) := by decide +kernel
theorem dX8_init_25 : decode cX8_init 25 = .ok (.putfield 16, 3) := by decide +kernel
theorem dX8_init_28 : decode cX8_init 28 = .ok (.aload_n 0, 1) := by decide +kernel
theorem dX8_init_29 : decode cX8_init 29 = .ok (.bipush 16, 2) := by decide +kernel
theorem dX8_init_31 : decode cX8_init 31 = .ok (.newarray .int, 2) := by decide +kernel
theorem dX8_init_33 : decode cX8_init 33 = .ok (.putfield 19, 3) := by decide +kernel
theorem dX8_init_36 : decode cX8_init 36 = .ok (.aload_n 0, 1) := by decide +kernel
theorem dX8_init_37 : decode cX8_init 37 = .ok (.bipush 16, 2) := by decide +kernel
theorem dX8_init_39 : decode cX8_init 39 = .ok (.newarray .int, 2) := by decide +kernel
theorem dX8_init_41 : decode cX8_init 41 = .ok (.putfield 22, 3) := by decide +kernel
theorem dX8_init_44 : decode cX8_init 44 = .ok (.aload_n 0, 1) := by decide +kernel
theorem dX8_init_45 : decode cX8_init 45 = .ok (.bipush 16, 2) := by decide +kernel
theorem dX8_init_47 : decode cX8_init 47 = .ok (.newarray .int, 2) := by decide +kernel
theorem dX8_init_49 : decode cX8_init 49 = .ok (.putfield 25, 3) := by decide +kernel
theorem dX8_init_52 : decode cX8_init 52 = .ok (.aload_n 0, 1) := by decide +kernel
theorem dX8_init_53 : decode cX8_init 53 = .ok (.iconst 2, 1) := by decide +kernel
theorem dX8_init_54 : decode cX8_init 54 = .ok (.newarray .int, 2) := by decide +kernel
theorem dX8_init_56 : decode cX8_init 56 = .ok (.putfield 28, 3) := by decide +kernel
theorem dX8_init_59 : decode cX8_init 59 = .ok (.aload_n 0, 1) := by decide +kernel
theorem dX8_init_60 : decode cX8_init 60 = .ok (.bipush 8, 2) := by decide +kernel
theorem dX8_init_62 : decode cX8_init 62 = .ok (.newarray .int, 2) := by decide +kernel
theorem dX8_init_64 : decode cX8_init 64 = .ok (.putfield 31, 3) := by decide +kernel
theorem dX8_init_67 : decode cX8_init 67 = .ok (.aload_n 0, 1) := by decide +kernel
theorem dX8_init_68 : decode cX8_init 68 = .ok (.bipush 8, 2) := by decide +kernel
theorem dX8_init_70 : decode cX8_init 70 = .ok (.newarray .int, 2) := by decide +kernel
theorem dX8_init_72 : decode cX8_init 72 = .ok (.putfield 34, 3) := by decide +kernel
theorem dX8_init_75 : decode cX8_init 75 = .ok (.aload_n 0, 1) := by decide +kernel
theorem dX8_init_76 : decode cX8_init 76 = .ok (.bipush 8, 2) := by decide +kernel
theorem dX8_init_78 : decode cX8_init 78 = .ok (.newarray .int, 2) := by decide +kernel
theorem dX8_init_80 : decode cX8_init 80 = .ok (.putfield 37, 3) := by decide +kernel
theorem dX8_init_83 : decode cX8_init 83 = .ok (.aload_n 0, 1) := by decide +kernel
theorem dX8_init_84 : decode cX8_init 84 = .ok (.iconst 2, 1) := by decide +kernel
theorem dX8_init_85 : decode cX8_init 85 = .ok (.newarray .int, 2) := by decide +kernel
theorem dX8_init_87 : decode cX8_init 87 = .ok (.putfield 40, 3) := by decide +kernel
theorem dX8_init_90 : decode cX8_init 90 = .ok (.aload_n 0, 1) := by decide +kernel
theorem dX8_init_91 : decode cX8_init 91 = .ok (.iconst 2, 1) := by decide +kernel
theorem dX8_init_92 : decode cX8_init 92 = .ok (.newarray .int, 2) := by decide +kernel
theorem dX8_init_94 : decode cX8_init 94 = .ok (.putfield 43, 3) := by decide +kernel
theorem dX8_init_97 : decode cX8_init 97 = .ok (.aload_n 0, 1) := by decide +kernel
theorem dX8_init_98 : decode cX8_init 98 = .ok (.bipush 8, 2) := by decide +kernel
theorem dX8_init_100 : decode cX8_init 100 = .ok (.newarray .int, 2) := by decide +kernel
theorem dX8_init_102 : decode cX8_init 102 = .ok (.putfield 46, 3) := by decide +kernel
theorem dX8_init_105 : decode cX8_init 105 = .ok (.aload_n 0, 1) := by decide +kernel
theorem dX8_init_106 : decode cX8_init 106 = .ok (.bipush 8, 2) := by decide +kernel
theorem dX8_init_108 : decode cX8_init 108 = .ok (.newarray .int, 2) := by decide +kernel
theorem dX8_init_110 : decode cX8_init 110 = .ok (.putfield 49, 3) := by decide +kernel
theorem dX8_init_113 : decode cX8_init 113 = .ok (.aload_n 0, 1) := by decide +kernel
theorem dX8_init_114 : decode cX8_init 114 = .ok (.iconst 4, 1) := by decide +kernel
theorem dX8_init_115 : decode cX8_init 115 = .ok (.newarray .int, 2) := by decide +kernel
theorem dX8_init_117 : decode cX8_init 117 = .ok (.putfield 52, 3) := by decide +kernel
theorem dX8_init_120 : decode cX8_init 120 = .ok (.aload_n 0, 1) := by decide +kernel
theorem dX8_init_121 : decode cX8_init 121 = .ok (.sipush 5040, 3) := by decide +kernel
theorem dX8_init_124 : decode cX8_init 124 = .ok (.newarray .int, 2) := by decide +kernel
theorem dX8_init_126 : decode cX8_init 126 = .ok (.putfield 55, 3) := by decide +kernel
theorem dX8_init_129 : decode cX8_init 129 = .ok (.aload_n 0, 1) := by decide +kernel
theorem dX8_init_130 : decode cX8_init 130 = .ok (.bipush 21, 2) := by decide +kernel
theorem dX8_init_132 : decode cX8_init 132 = .ok (.newarray .int, 2) := by decide +kernel
theorem dX8_init_134 : decode cX8_init 134 = .ok (.putfield 58, 3) := by decide +kernel
theorem dX8_init_137 : decode cX8_init 137 = .ok (.aload_n 0, 1) := by decide +kernel
theorem dX8_init_138 : decode cX8_init 138 = .ok (.sipush 168, 3) := by decide +kernel
theorem dX8_init_141 : decode cX8_init 141 = .ok (.newarray .int, 2) := by decide +kernel
theorem dX8_init_143 : decode cX8_init 143 = .ok (.putfield 61, 3) := by decide +kernel
theorem dX8_init_146 : decode cX8_init 146 = .ok (.aload_n 0, 1) := by decide +kernel
theorem dX8_init_147 : decode cX8_init 147 = .ok (.bipush 42, 2) := by decide +kernel
theorem dX8_init_149 : decode cX8_init 149 = .ok (.newarray .int, 2) := by decide +kernel
theorem dX8_init_151 : decode cX8_init 151 = .ok (.putfield 64, 3) := by decide +kernel
theorem dX8_init_154 : decode cX8_init 154 = .ok (.aload_n 0, 1) := by decide +kernel
theorem dX8_init_155 : decode cX8_init 155 = .ok (.iconst 4, 1) := by decide +kernel
theorem dX8_init_156 : decode cX8_init 156 = .ok (.newarray .int, 2) := by decide +kernel
theorem dX8_init_158 : decode cX8_init 158 = .ok (.putfield 67, 3) := by decide +kernel
theorem dX8_init_161 : decode cX8_init 161 = .ok (.aload_n 0, 1) := by decide +kernel
theorem dX8_init_162 : decode cX8_init 162 = .ok (.sipush 5040, 3) := by decide +kernel
theorem dX8_init_165 : decode cX8_init 165 = .ok (.newarray .int, 2) := by decide +kernel
theorem dX8_init_167 : decode cX8_init 167 = .ok (.putfield 70, 3) := by decide +kernel
theorem dX8_init_170 : decode cX8_init 170 = .ok (.aload_n 0, 1) := by decide +kernel
theorem dX8_init_171 : decode cX8_init 171 = .ok (.sipush 5040, 3) := by decide +kernel
theorem dX8_init_174 : decode cX8_init 174 = .ok (.newarray .boolean, 2) := by decide +kernel
theorem dX8_init_176 : decode cX8_init 176 = .ok (.putfield 73, 3) := by decide +kernel
theorem dX8_init_179 : decode cX8_init 179 = .ok (.aload_n 0, 1) := by decide +kernel
theorem dX8_init_180 : decode cX8_init 180 = .ok (.sipush 256, 3) := by decide +kernel
theorem dX8_init_183 : decode cX8_init 183 = .ok (.newarray .long, 2) := by decide +kernel
theorem dX8_init_185 : decode cX8_init 185 = .ok (.putfield 77, 3) := by decide +kernel
theorem dX8_init_188 : decode cX8_init 188 = .ok (.aload_n 0, 1) := by decide +kernel
theorem dX8_init_189 : decode cX8_init 189 = .ok (.bipush 60, 2) := by decide +kernel
theorem dX8_init_191 : decode cX8_init 191 = .ok (.newarray .int, 2) := by decide +kernel
theorem dX8_init_193 : decode cX8_init 193 = .ok (.putfield 81, 3) := by decide +kernel
theorem dX8_init_196 : decode cX8_init 196 = .ok (.aload_n 0, 1) := by decide +kernel
theorem dX8_init_197 : decode cX8_init 197 = .ok (.sipush 3600, 3) := by decide +kernel
theorem dX8_init_200 : decode cX8_init 200 = .ok (.newarray .int, 2) := by decide +kernel
theorem dX8_init_202 : decode cX8_init 202 = .ok (.putfield 84, 3) := by decide +kernel
theorem dX8_init_205 : decode cX8_init 205 = .ok (.aload_n 0, 1) := by decide +kernel
theorem dX8_init_206 : decode cX8_init 206 = .ok (.bipush 60, 2) := by decide +kernel
theorem dX8_init_208 : decode cX8_init 208 = .ok (.newarray .boolean, 2) := by decide +kernel
theorem dX8_init_210 : decode cX8_init 210 = .ok (.putfield 87, 3) := by decide +kernel
theorem dX8_init_213 : decode cX8_init 213 = .ok (.aload_n 0, 1) := by decide +kernel
theorem dX8_init_214 : decode cX8_init 214 = .ok (.iconst 0, 1) := by decide +kernel
theorem dX8_init_215 : decode cX8_init 215 = .ok (.invokevirtual 90, 3) := by decide +kernel
theorem dX8_init_218 : decode cX8_init 218 = .ok (.aload_n 0, 1) := by decide +kernel
theorem dX8_init_219 : decode cX8_init 219 = .ok (.iconst 0, 1) := by decide +kernel
theorem dX8_init_220 : decode cX8_init 220 = .ok (.iconst 5, 1) := by decide +kernel
theorem dX8_init_221 : decode cX8_init 221 = .ok (.iconst 0, 1) := by decide +kernel
theorem dX8_init_222 : decode cX8_init 222 = .ok (.iconst 3, 1) := by decide +kernel
theorem dX8_init_223 : decode cX8_init 223 = .ok (.iconst 4, 1) := by decide +kernel
theorem dX8_init_224 : decode cX8_init 224 = .ok (.invokevirtual 94, 3) := by decide +kernel
theorem dX8_init_227 : decode cX8_init 227 = .ok (.aload_n 0, 1) := by decide +kernel
theorem dX8_init_228 : decode cX8_init 228 = .ok (.iconst 0, 1) := by decide +kernel
theorem dX8_init_229 : decode cX8_init 229 = .ok (.bipush 9, 2) := by decide +kernel
theorem dX8_init_231 : decode cX8_init 231 = .ok (.iconst 1, 1) := by decide +kernel
theorem dX8_init_232 : decode cX8_init 232 = .ok (.iconst 3, 1) := by decide +kernel
theorem dX8_init_233 : decode cX8_init 233 = .ok (.iconst 2, 1) := by decide +kernel
theorem dX8_init_234 : decode cX8_init 234 = .ok (.invokevirtual 94, 3) := by decide +kernel
theorem dX8_init_237 : decode cX8_init 237 = .ok (.aload_n 0, 1) := by decide +kernel
theorem dX8_init_238 : decode cX8_init 238 = .ok (.iconst 0, 1) := by decide +kernel
theorem dX8_init_239 : decode cX8_init 239 = .ok (.iconst 5, 1) := by decide +kernel
theorem dX8_init_240 : decode cX8_init 240 = .ok (.iconst 2, 1) := by decide +kernel
theorem dX8_init_241 : decode cX8_init 241 = .ok (.iconst 4, 1) := by decide +kernel
theorem dX8_init_242 : decode cX8_init 242 = .ok (.iconst 1, 1) := by decide +kernel
theorem dX8_init_243 : decode cX8_init 243 = .ok (.invokevirtual 94, 3) := by decide +kernel
theorem dX8_init_246 : decode cX8_init 246 = .ok (.aload_n 0, 1) := by decide +kernel
theorem dX8_init_247 : decode cX8_init 247 = .ok (.iconst 0, 1) := by decide +kernel
theorem dX8_init_248 : decode cX8_init 248 = .ok (.bipush 7, 2) := by decide +kernel
theorem dX8_init_250 : decode cX8_init 250 = .ok (.iconst 3, 1) := by decide +kernel
theorem dX8_init_251 : decode cX8_init 251 = .ok (.iconst 2, 1) := by decide +kernel
theorem dX8_init_252 : decode cX8_init 252 = .ok (.iconst 3, 1) := by decide +kernel
theorem dX8_init_253 : decode cX8_init 253 = .ok (.invokevirtual 94, 3) := by decide +kernel
theorem dX8_init_256 : decode cX8_init 256 = .ok (.aload_n 0, 1) := by decide +kernel
theorem dX8_init_257 : decode cX8_init 257 = .ok (.iconst 0, 1) := by decide +kernel
theorem dX8_init_258 : decode cX8_init 258 = .ok (.iconst 1, 1) := by decide +kernel
theorem dX8_init_259 : decode cX8_init 259 = .ok (.iconst 0, 1) := by decide +kernel
theorem dX8_init_260 : decode cX8_init 260 = .ok (.iconst 1, 1) := by decide +kernel
theorem dX8_init_261 : decode cX8_init 261 = .ok (.invokevirtual 98, 3) := by decide +kernel
theorem dX8_init_264 : decode cX8_init 264 = .ok (.aload_n 0, 1) := by decide +kernel
theorem dX8_init_265 : decode cX8_init 265 = .ok (.iconst 0, 1) := by decide +kernel
theorem dX8_init_266 : decode cX8_init 266 = .ok (.iconst 2, 1) := by decide +kernel
theorem dX8_init_267 : decode cX8_init 267 = .ok (.iconst 1, 1) := by decide +kernel
theorem dX8_init_268 : decode cX8_init 268 = .ok (.iconst 2, 1) := by decide +kernel
theorem dX8_init_269 : decode cX8_init 269 = .ok (.invokevirtual 98, 3) := by decide +kernel
theorem dX8_init_272 : decode cX8_init 272 = .ok (.aload_n 0, 1) := by decide +kernel
theorem dX8_init_273 : decode cX8_init 273 = .ok (.getfield 40, 3) := by decide +kernel
theorem dX8_init_276 : decode cX8_init 276 = .ok (.iconst 0, 1) := by decide +kernel
theorem dX8_init_277 : decode cX8_init 277 = .ok (.iconst 2, 1) := by decide +kernel
theorem dX8_init_278 : decode cX8_init 278 = .ok (.iastore, 1) := by decide +kernel
theorem dX8_init_279 : decode cX8_init 279 = .ok (.aload_n 0, 1) := by decide +kernel
theorem dX8_init_280 : decode cX8_init 280 = .ok (.getfield 43, 3) := by decide +kernel
theorem dX8_init_283 : decode cX8_init 283 = .ok (.iconst 0, 1) := by decide +kernel
theorem dX8_init_284 : decode cX8_init 284 = .ok (.iconst 5, 1) := by decide +kernel
theorem dX8_init_285 : decode cX8_init 285 = .ok (.iastore, 1) := by decide +kernel
theorem dX8_init_286 : decode cX8_init 286 = .ok (.aload_n 0, 1) := by decide +kernel
theorem dX8_init_287 : decode cX8_init 287 = .ok (.getfield 46, 3) := by decide +kernel
theorem dX8_init_290 : decode cX8_init 290 = .ok (.iconst 0, 1) := by decide +kernel
theorem dX8_init_291 : decode cX8_init 291 = .ok (.iconst 1, 1) := by decide +kernel
theorem dX8_init_292 : decode cX8_init 292 = .ok (.iastore, 1) := by decide +kernel
theorem dX8_init_293 : decode cX8_init 293 = .ok (.aload_n 0, 1) := by decide +kernel
theorem dX8_init_294 : decode cX8_init 294 = .ok (.getfield 49, 3) := by decide +kernel
theorem dX8_init_297 : decode cX8_init 297 = .ok (.iconst 0, 1) := by decide +kernel
theorem dX8_init_298 : decode cX8_init 298 = .ok (.bipush 20, 2) := by decide +kernel
theorem dX8_init_300 : decode cX8_init 300 = .ok (.iastore, 1) := by decide +kernel
theorem dX8_init_301 : decode cX8_init 301 = .ok (.aload_n 0, 1) := by decide +kernel
theorem dX8_init_302 : decode cX8_init 302 = .ok (.getfield 46, 3) := by decide +kernel
theorem dX8_init_305 : decode cX8_init 305 = .ok (.iconst 2, 1) := by decide +kernel
theorem dX8_init_306 : decode cX8_init 306 = .ok (.iconst 3, 1) := by decide +kernel
theorem dX8_init_307 : decode cX8_init 307 = .ok (.iastore, 1) := by decide +kernel
theorem dX8_init_308 : decode cX8_init 308 = .ok (.aload_n 0, 1) := by decide +kernel
theorem dX8_init_309 : decode cX8_init 309 = .ok (.getfield 49, 3) := by decide +kernel
theorem dX8_init_312 : decode cX8_init 312 = .ok (.iconst 2, 1) := by decide +kernel
theorem dX8_init_313 : decode cX8_init 313 = .ok (.iconst 5, 1) := by decide +kernel
theorem dX8_init_314 : decode cX8_init 314 = .ok (.iastore, 1) := by decide +kernel
theorem dX8_init_315 : decode cX8_init 315 = .ok (.aload_n 0, 1) := by decide +kernel
theorem dX8_init_316 : decode cX8_init 316 = .ok (.getfield 52, 3) := by decide +kernel
theorem dX8_init_319 : decode cX8_init 319 = .ok (.iconst 0, 1) := by decide +kernel
theorem dX8_init_320 : decode cX8_init 320 = .ok (.iconst 4, 1) := by decide +kernel
theorem dX8_init_321 : decode cX8_init 321 = .ok (.iastore, 1) := by decide +kernel
theorem dX8_init_322 : decode cX8_init 322 = .ok (.aload_n 0, 1) := by decide +kernel
theorem dX8_init_323 : decode cX8_init 323 = .ok (.getfield 52, 3) := by decide +kernel
theorem dX8_init_326 : decode cX8_init 326 = .ok (.iconst 1, 1) := by decide +kernel
theorem dX8_init_327 : decode cX8_init 327 = .ok (.bipush 9, 2) := by decide +kernel
theorem dX8_init_329 : decode cX8_init 329 = .ok (.iastore, 1) := by decide +kernel
theorem dX8_init_330 : decode cX8_init 330 = .ok (.aload_n 0, 1) := by decide +kernel
theorem dX8_init_331 : decode cX8_init 331 = .ok (.invokevirtual 102, 3) := by decide +kernel
theorem dX8_init_334 : decode cX8_init 334 = .ok (.return_, 1) := by decide +kernel
theorem dX8_in_0 : decode cX8_in 0 = .ok (.lload_n 0, 1) := by decide +kernel
theorem dX8_in_1 : decode cX8_in 1 = .ok (.lload_n 2, 1) := by decide +kernel
theorem dX8_in_2 : decode cX8_in 2 = .ok (.lcmp, 1) := by decide +kernel
theorem dX8_in_3 : decode cX8_in 3 = .ok (.ifCond .lt 14, 3) := by decide +kernel
theorem dX8_in_6 : decode cX8_in 6 = .ok (.lload_n 0, 1) := by decide +kernel
theorem dX8_in_7 : decode cX8_in 7 = .ok (.lload 4, 2) := by decide +kernel
theorem dX8_in_9 : decode cX8_in 9 = .ok (.lcmp, 1) := by decide +kernel
theorem dX8_in_10 : decode cX8_in 10 = .ok (.ifCond .gt 7, 3) := by decide +kernel
theorem dX8_in_13 : decode cX8_in 13 = .ok (.iconst 1, 1) := by decide +kernel
theorem dX8_in_14 : decode cX8_in 14 = .ok (.goto 4, 3) := by decide +kernel
theorem dX8_in_17 : decode cX8_in 17 = .ok (.iconst 0, 1) := by decide +kernel
theorem dX8_in_18 : decode cX8_in 18 = .ok (.ireturn, 1) := by decide +kernel
theorem dX8_has_0 : decode cX8_has 0 = .ok (.iload_n 0, 1) := by decide +kernel
theorem dX8_has_1 : decode cX8_has 1 = .ok (.iload_n 1, 1) := by decide +kernel
theorem dX8_has_2 : decode cX8_has 2 = .ok (.ishr, 1) := by decide +kernel
theorem dX8_has_3 : decode cX8_has 3 = .ok (.iconst 1, 1) := by decide +kernel
theorem dX8_has_4 : decode cX8_has 4 = .ok (.iand, 1) := by decide +kernel
theorem dX8_has_5 : decode cX8_has 5 = .ok (.iconst 1, 1) := by decide +kernel
theorem dX8_has_6 : decode cX8_has 6 = .ok (.if_icmp .ne 7, 3) := by decide +kernel
theorem dX8_has_9 : decode cX8_has 9 = .ok (.iconst 1, 1) := by decide +kernel
theorem dX8_has_10 : decode cX8_has 10 = .ok (.goto 4, 3) := by decide +kernel
theorem dX8_has_13 : decode cX8_has 13 = .ok (.iconst 0, 1) := by decide +kernel
theorem dX8_has_14 : decode cX8_has 14 = .ok (.ireturn, 1) := by decide +kernel
theorem dX8_bits_0 : decode cX8_bits 0 = .ok (.iconst 0, 1) := by decide +kernel
theorem dX8_bits_1 : decode cX8_bits 1 = .ok (.istore_n 1, 1) := by decide +kernel
theorem dX8_bits_2 : decode cX8_bits 2 = .ok (.iload_n 0, 1) := by decide +kernel
theorem dX8_bits_3 : decode cX8_bits 3 = .ok (.istore_n 2, 1) := by decide +kernel
theorem dX8_bits_4 : decode cX8_bits 4 = .ok (.iload_n 2, 1) := by decide +kernel
theorem dX8_bits_5 : decode cX8_bits 5 = .ok (.ifCond .eq 15, 3) := by decide +kernel
theorem dX8_bits_8 : decode cX8_bits 8 = .ok (.iinc 1 1, 3) := by decide +kernel
theorem dX8_bits_11 : decode cX8_bits 11 = .ok (.iload_n 2, 1) := by decide +kernel
theorem dX8_bits_12 : decode cX8_bits 12 = .ok (.iload_n 2, 1) := by decide +kernel
theorem dX8_bits_13 : decode cX8_bits 13 = .ok (.iconst 1, 1) := by decide +kernel
theorem dX8_bits_14 : decode cX8_bits 14 = .ok (.isub, 1) := by decide +kernel
theorem dX8_bits_15 : decode cX8_bits 15 = .ok (.iand, 1) := by decide +kernel
theorem dX8_bits_16 : decode cX8_bits 16 = .ok (.istore_n 2, 1) := by decide +kernel
theorem dX8_bits_17 : decode cX8_bits 17 = .ok (.goto (-13), 3) := by decide +kernel
theorem dX8_bits_20 : decode cX8_bits 20 = .ok (.iload_n 1, 1) := by decide +kernel
theorem dX8_bits_21 : decode cX8_bits 21 = .ok (.ireturn, 1) := by decide +kernel
theorem dX8_noTree_0 : decode cX8_noTree 0 = .ok (.aload_n 0, 1) := by decide +kernel
theorem dX8_noTree_1 : decode cX8_noTree 1 = .ok (.getfield 13, 3) := by decide +kernel
theorem dX8_noTree_4 : decode cX8_noTree 4 = .ok (.iload_n 1, 1) := by decide +kernel
theorem dX8_noTree_5 : decode cX8_noTree 5 = .ok (.iconst 0, 1) := by decide +kernel
theorem dX8_noTree_6 : decode cX8_noTree 6 = .ok (.iastore, 1) := by decide +kernel
theorem dX8_noTree_7 : decode cX8_noTree 7 = .ok (.aload_n 0, 1) := by decide +kernel
theorem dX8_noTree_8 : decode cX8_noTree 8 = .ok (.getfield 28, 3) := by decide +kernel
theorem dX8_noTree_11 : decode cX8_noTree 11 = .ok (.iload_n 1, 1) := by decide +kernel
theorem dX8_noTree_12 : decode cX8_noTree 12 = .ok (.iconst 0, 1) := by decide +kernel
theorem dX8_noTree_13 : decode cX8_noTree 13 = .ok (.iastore, 1) := by decide +kernel
theorem dX8_noTree_14 : decode cX8_noTree 14 = .ok (.aload_n 0, 1) := by decide +kernel
theorem dX8_noTree_15 : decode cX8_noTree 15 = .ok (.getfield 40, 3) := by decide +kernel
theorem dX8_noTree_18 : decode cX8_noTree 18 = .ok (.iload_n 1, 1) := by decide +kernel
theorem dX8_noTree_19 : decode cX8_noTree 19 = .ok (.iconst 1, 1) := by decide +kernel
theorem dX8_noTree_20 : decode cX8_noTree 20 = .ok (.iastore, 1) := by decide +kernel
theorem dX8_noTree_21 : decode cX8_noTree 21 = .ok (.aload_n 0, 1) := by decide +kernel
theorem dX8_noTree_22 : decode cX8_noTree 22 = .ok (.getfield 43, 3) := by decide +kernel
theorem dX8_noTree_25 : decode cX8_noTree 25 = .ok (.iload_n 1, 1) := by decide +kernel
theorem dX8_noTree_26 : decode cX8_noTree 26 = .ok (.bipush 40, 2) := by decide +kernel
theorem dX8_noTree_28 : decode cX8_noTree 28 = .ok (.iastore, 1) := by decide +kernel
theorem dX8_noTree_29 : decode cX8_noTree 29 = .ok (.iconst 0, 1) := by decide +kernel
theorem dX8_noTree_30 : decode cX8_noTree 30 = .ok (.istore_n 2, 1) := by decide +kernel
theorem dX8_noTree_31 : decode cX8_noTree 31 = .ok (.iload_n 2, 1) := by decide +kernel
theorem dX8_noTree_32 : decode cX8_noTree 32 = .ok (.iconst 4, 1) := by decide +kernel
theorem dX8_noTree_33 : decode cX8_noTree 33 = .ok (.if_icmp .ge 32, 3) := by decide +kernel
theorem dX8_noTree_36 : decode cX8_noTree 36 = .ok (.aload_n 0, 1) := by decide +kernel
theorem dX8_noTree_37 : decode cX8_noTree 37 = .ok (.getfield 46, 3) := by decide +kernel
theorem dX8_noTree_40 : decode cX8_noTree 40 = .ok (.iconst 4, 1) := by decide +kernel
theorem dX8_noTree_41 : decode cX8_noTree 41 = .ok (.iload_n 1, 1) := by decide +kernel
theorem dX8_noTree_42 : decode cX8_noTree 42 = .ok (.imul, 1) := by decide +kernel
theorem dX8_noTree_43 : decode cX8_noTree 43 = .ok (.iload_n 2, 1) := by decide +kernel
theorem dX8_noTree_44 : decode cX8_noTree 44 = .ok (.iadd, 1) := by decide +kernel
theorem dX8_noTree_45 : decode cX8_noTree 45 = .ok (.iconst 0, 1) := by decide +kernel
theorem dX8_noTree_46 : decode cX8_noTree 46 = .ok (.iastore, 1) := by decide +kernel
theorem dX8_noTree_47 : decode cX8_noTree 47 = .ok (.aload_n 0, 1) := by decide +kernel
theorem dX8_noTree_48 : decode cX8_noTree 48 = .ok (.getfield 49, 3) := by decide +kernel
theorem dX8_noTree_51 : decode cX8_noTree 51 = .ok (.iconst 4, 1) := by decide +kernel
theorem dX8_noTree_52 : decode cX8_noTree 52 = .ok (.iload_n 1, 1) := by decide +kernel
theorem dX8_noTree_53 : decode cX8_noTree 53 = .ok (.imul, 1) := by decide +kernel
theorem dX8_noTree_54 : decode cX8_noTree 54 = .ok (.iload_n 2, 1) := by decide +kernel
theorem dX8_noTree_55 : decode cX8_noTree 55 = .ok (.iadd, 1) := by decide +kernel
theorem dX8_noTree_56 : decode cX8_noTree 56 = .ok (.bipush 10, 2) := by decide +kernel
theorem dX8_noTree_58 : decode cX8_noTree 58 = .ok (.iastore, 1) := by decide +kernel
theorem dX8_noTree_59 : decode cX8_noTree 59 = .ok (.iinc 2 1, 3) := by decide +kernel
theorem dX8_noTree_62 : decode cX8_noTree 62 = .ok (.goto (-31), 3) := by decide +kernel
theorem dX8_noTree_65 : decode cX8_noTree 65 = .ok (.return_, 1) := by decide +kernel
theorem dX8_addThing_0 : decode cX8_addThing 0 = .ok (.bipush 8, 2) := by decide +kernel
theorem dX8_addThing_2 : decode cX8_addThing 2 = .ok (.iload_n 1, 1) := by decide +kernel
theorem dX8_addThing_3 : decode cX8_addThing 3 = .ok (.imul, 1) := by decide +kernel
theorem dX8_addThing_4 : decode cX8_addThing 4 = .ok (.aload_n 0, 1) := by decide +kernel
theorem dX8_addThing_5 : decode cX8_addThing 5 = .ok (.getfield 13, 3) := by decide +kernel
theorem dX8_addThing_8 : decode cX8_addThing 8 = .ok (.iload_n 1, 1) := by decide +kernel
theorem dX8_addThing_9 : decode cX8_addThing 9 = .ok (.iaload, 1) := by decide +kernel
theorem dX8_addThing_10 : decode cX8_addThing 10 = .ok (.iadd, 1) := by decide +kernel
theorem dX8_addThing_11 : decode cX8_addThing 11 = .ok (.istore 6, 2) := by decide +kernel
theorem dX8_addThing_13 : decode cX8_addThing 13 = .ok (.aload_n 0, 1) := by decide +kernel
theorem dX8_addThing_14 : decode cX8_addThing 14 = .ok (.getfield 16, 3) := by decide +kernel
theorem dX8_addThing_17 : decode cX8_addThing 17 = .ok (.iload 6, 2) := by decide +kernel
theorem dX8_addThing_19 : decode cX8_addThing 19 = .ok (.iload_n 2, 1) := by decide +kernel
theorem dX8_addThing_20 : decode cX8_addThing 20 = .ok (.iastore, 1) := by decide +kernel
theorem dX8_addThing_21 : decode cX8_addThing 21 = .ok (.aload_n 0, 1) := by decide +kernel
theorem dX8_addThing_22 : decode cX8_addThing 22 = .ok (.getfield 19, 3) := by decide +kernel
theorem dX8_addThing_25 : decode cX8_addThing 25 = .ok (.iload 6, 2) := by decide +kernel
theorem dX8_addThing_27 : decode cX8_addThing 27 = .ok (.iload_n 3, 1) := by decide +kernel
theorem dX8_addThing_28 : decode cX8_addThing 28 = .ok (.iastore, 1) := by decide +kernel
theorem dX8_addThing_29 : decode cX8_addThing 29 = .ok (.aload_n 0, 1) := by decide +kernel
theorem dX8_addThing_30 : decode cX8_addThing 30 = .ok (.getfield 22, 3) := by decide +kernel
theorem dX8_addThing_33 : decode cX8_addThing 33 = .ok (.iload 6, 2) := by decide +kernel
theorem dX8_addThing_35 : decode cX8_addThing 35 = .ok (.iload 4, 2) := by decide +kernel
theorem dX8_addThing_37 : decode cX8_addThing 37 = .ok (.iastore, 1) := by decide +kernel
theorem dX8_addThing_38 : decode cX8_addThing 38 = .ok (.aload_n 0, 1) := by decide +kernel
theorem dX8_addThing_39 : decode cX8_addThing 39 = .ok (.getfield 25, 3) := by decide +kernel
theorem dX8_addThing_42 : decode cX8_addThing 42 = .ok (.iload 6, 2) := by decide +kernel
theorem dX8_addThing_44 : decode cX8_addThing 44 = .ok (.iload 5, 2) := by decide +kernel
theorem dX8_addThing_46 : decode cX8_addThing 46 = .ok (.iastore, 1) := by decide +kernel
theorem dX8_addThing_47 : decode cX8_addThing 47 = .ok (.aload_n 0, 1) := by decide +kernel
theorem dX8_addThing_48 : decode cX8_addThing 48 = .ok (.getfield 13, 3) := by decide +kernel
theorem dX8_addThing_51 : decode cX8_addThing 51 = .ok (.iload_n 1, 1) := by decide +kernel
theorem dX8_addThing_52 : decode cX8_addThing 52 = .ok (.dup2, 1) := by decide +kernel
theorem dX8_addThing_53 : decode cX8_addThing 53 = .ok (.iaload, 1) := by decide +kernel
theorem dX8_addThing_54 : decode cX8_addThing 54 = .ok (.iconst 1, 1) := by decide +kernel
theorem dX8_addThing_55 : decode cX8_addThing 55 = .ok (.iadd, 1) := by decide +kernel
theorem dX8_addThing_56 : decode cX8_addThing 56 = .ok (.iastore, 1) := by decide +kernel
theorem dX8_addThing_57 : decode cX8_addThing 57 = .ok (.return_, 1) := by decide +kernel
theorem dX8_addParcel_0 : decode cX8_addParcel 0 = .ok (.iconst 4, 1) := by decide +kernel
theorem dX8_addParcel_1 : decode cX8_addParcel 1 = .ok (.iload_n 1, 1) := by decide +kernel
theorem dX8_addParcel_2 : decode cX8_addParcel 2 = .ok (.imul, 1) := by decide +kernel
theorem dX8_addParcel_3 : decode cX8_addParcel 3 = .ok (.aload_n 0, 1) := by decide +kernel
theorem dX8_addParcel_4 : decode cX8_addParcel 4 = .ok (.getfield 28, 3) := by decide +kernel
theorem dX8_addParcel_7 : decode cX8_addParcel 7 = .ok (.iload_n 1, 1) := by decide +kernel
theorem dX8_addParcel_8 : decode cX8_addParcel 8 = .ok (.iaload, 1) := by decide +kernel
theorem dX8_addParcel_9 : decode cX8_addParcel 9 = .ok (.iadd, 1) := by decide +kernel
theorem dX8_addParcel_10 : decode cX8_addParcel 10 = .ok (.istore 5, 2) := by decide +kernel
theorem dX8_addParcel_12 : decode cX8_addParcel 12 = .ok (.aload_n 0, 1) := by decide +kernel
theorem dX8_addParcel_13 : decode cX8_addParcel 13 = .ok (.getfield 31, 3) := by decide +kernel
theorem dX8_addParcel_16 : decode cX8_addParcel 16 = .ok (.iload 5, 2) := by decide +kernel
theorem dX8_addParcel_18 : decode cX8_addParcel 18 = .ok (.iload_n 2, 1) := by decide +kernel
theorem dX8_addParcel_19 : decode cX8_addParcel 19 = .ok (.iastore, 1) := by decide +kernel
theorem dX8_addParcel_20 : decode cX8_addParcel 20 = .ok (.aload_n 0, 1) := by decide +kernel
theorem dX8_addParcel_21 : decode cX8_addParcel 21 = .ok (.getfield 34, 3) := by decide +kernel
theorem dX8_addParcel_24 : decode cX8_addParcel 24 = .ok (.iload 5, 2) := by decide +kernel
theorem dX8_addParcel_26 : decode cX8_addParcel 26 = .ok (.iload_n 3, 1) := by decide +kernel
theorem dX8_addParcel_27 : decode cX8_addParcel 27 = .ok (.iastore, 1) := by decide +kernel
theorem dX8_addParcel_28 : decode cX8_addParcel 28 = .ok (.aload_n 0, 1) := by decide +kernel
theorem dX8_addParcel_29 : decode cX8_addParcel 29 = .ok (.getfield 37, 3) := by decide +kernel
theorem dX8_addParcel_32 : decode cX8_addParcel 32 = .ok (.iload 5, 2) := by decide +kernel
theorem dX8_addParcel_34 : decode cX8_addParcel 34 = .ok (.iload 4, 2) := by decide +kernel
theorem dX8_addParcel_36 : decode cX8_addParcel 36 = .ok (.iastore, 1) := by decide +kernel
theorem dX8_addParcel_37 : decode cX8_addParcel 37 = .ok (.aload_n 0, 1) := by decide +kernel
theorem dX8_addParcel_38 : decode cX8_addParcel 38 = .ok (.getfield 28, 3) := by decide +kernel
theorem dX8_addParcel_41 : decode cX8_addParcel 41 = .ok (.iload_n 1, 1) := by decide +kernel
theorem dX8_addParcel_42 : decode cX8_addParcel 42 = .ok (.dup2, 1) := by decide +kernel
theorem dX8_addParcel_43 : decode cX8_addParcel 43 = .ok (.iaload, 1) := by decide +kernel
theorem dX8_addParcel_44 : decode cX8_addParcel 44 = .ok (.iconst 1, 1) := by decide +kernel
theorem dX8_addParcel_45 : decode cX8_addParcel 45 = .ok (.iadd, 1) := by decide +kernel
theorem dX8_addParcel_46 : decode cX8_addParcel 46 = .ok (.iastore, 1) := by decide +kernel
theorem dX8_addParcel_47 : decode cX8_addParcel 47 = .ok (.return_, 1) := by decide +kernel
theorem dX8_write_0 : decode cX8_write 0 = .ok (.iload_n 1, 1) := by decide +kernel
theorem dX8_write_1 : decode cX8_write 1 = .ok (.i2l, 1) := by decide +kernel
theorem dX8_write_2 : decode cX8_write 2 = .ok (.ldc2_w 105, 3) := by decide +kernel
theorem dX8_write_5 : decode cX8_write 5 = .ok (.ldc2_w 107, 3) := by decide +kernel
theorem dX8_write_8 : decode cX8_write 8 = .ok (.invokestatic 109, 3) := by decide +kernel
theorem dX8_write_11 : decode cX8_write 11 = .ok (.ifCond .ne 5, 3) := by decide +kernel
theorem dX8_write_14 : decode cX8_write 14 = .ok (.iconst (-1), 1) := by decide +kernel
theorem dX8_write_15 : decode cX8_write 15 = .ok (.ireturn, 1) := by decide +kernel
theorem dX8_write_16 : decode cX8_write 16 = .ok (.aload_n 0, 1) := by decide +kernel
theorem dX8_write_17 : decode cX8_write 17 = .ok (.getfield 113, 3) := by decide +kernel
theorem dX8_write_20 : decode cX8_write 20 = .ok (.sipush 200, 3) := by decide +kernel
theorem dX8_write_23 : decode cX8_write 23 = .ok (.if_icmp .ne 6, 3) := by decide +kernel
theorem dX8_write_26 : decode cX8_write 26 = .ok (.bipush (-3), 2) := by decide +kernel
theorem dX8_write_28 : decode cX8_write 28 = .ok (.ireturn, 1) := by decide +kernel
theorem dX8_write_29 : decode cX8_write 29 = .ok (.aload_n 0, 1) := by decide +kernel
theorem dX8_write_30 : decode cX8_write 30 = .ok (.getfield 7, 3) := by decide +kernel
theorem dX8_write_33 : decode cX8_write 33 = .ok (.aload_n 0, 1) := by decide +kernel
theorem dX8_write_34 : decode cX8_write 34 = .ok (.getfield 113, 3) := by decide +kernel
theorem dX8_write_37 : decode cX8_write 37 = .ok (.iload_n 1, 1) := by decide +kernel
theorem dX8_write_38 : decode cX8_write 38 = .ok (.iastore, 1) := by decide +kernel
theorem dX8_write_39 : decode cX8_write 39 = .ok (.aload_n 0, 1) := by decide +kernel
theorem dX8_write_40 : decode cX8_write 40 = .ok (.dup, 1) := by decide +kernel
theorem dX8_write_41 : decode cX8_write 41 = .ok (.getfield 113, 3) := by decide +kernel
theorem dX8_write_44 : decode cX8_write 44 = .ok (.iconst 1, 1) := by decide +kernel
theorem dX8_write_45 : decode cX8_write 45 = .ok (.iadd, 1) := by decide +kernel
end
section
theorem dX8_write_46 : decode cX8_write 46 = .ok (.putfield 113, 3) := by decide +kernel
theorem dX8_write_49 : decode cX8_write 49 = .ok (.aload_n 0, 1) := by decide +kernel
theorem dX8_write_50 : decode cX8_write 50 = .ok (.getfield 113, 3) := by decide +kernel
theorem dX8_write_53 : decode cX8_write 53 = .ok (.ireturn, 1) := by decide +kernel
theorem dX8_wipe_0 : decode cX8_wipe 0 = .ok (.aload_n 0, 1) := by decide +kernel
theorem dX8_wipe_1 : decode cX8_wipe 1 = .ok (.getfield 113, 3) := by decide +kernel
theorem dX8_wipe_4 : decode cX8_wipe 4 = .ok (.istore_n 1, 1) := by decide +kernel
theorem dX8_wipe_5 : decode cX8_wipe 5 = .ok (.aload_n 0, 1) := by decide +kernel
theorem dX8_wipe_6 : decode cX8_wipe 6 = .ok (.iconst 0, 1) := by decide +kernel
theorem dX8_wipe_7 : decode cX8_wipe 7 = .ok (.putfield 113, 3) := by decide +kernel
theorem dX8_wipe_10 : decode cX8_wipe 10 = .ok (.iload_n 1, 1) := by decide +kernel
theorem dX8_wipe_11 : decode cX8_wipe 11 = .ok (.ireturn, 1) := by decide +kernel
theorem dX8_letterAt_0 : decode cX8_letterAt 0 = .ok (.iload_n 1, 1) := by decide +kernel
theorem dX8_letterAt_1 : decode cX8_letterAt 1 = .ok (.aload_n 0, 1) := by decide +kernel
theorem dX8_letterAt_2 : decode cX8_letterAt 2 = .ok (.getfield 113, 3) := by decide +kernel
theorem dX8_letterAt_5 : decode cX8_letterAt 5 = .ok (.if_icmp .ge 12, 3) := by decide +kernel
theorem dX8_letterAt_8 : decode cX8_letterAt 8 = .ok (.aload_n 0, 1) := by decide +kernel
theorem dX8_letterAt_9 : decode cX8_letterAt 9 = .ok (.getfield 7, 3) := by decide +kernel
theorem dX8_letterAt_12 : decode cX8_letterAt 12 = .ok (.iload_n 1, 1) := by decide +kernel
theorem dX8_letterAt_13 : decode cX8_letterAt 13 = .ok (.iaload, 1) := by decide +kernel
theorem dX8_letterAt_14 : decode cX8_letterAt 14 = .ok (.goto 4, 3) := by decide +kernel
theorem dX8_letterAt_17 : decode cX8_letterAt 17 = .ok (.iconst 0, 1) := by decide +kernel
theorem dX8_letterAt_18 : decode cX8_letterAt 18 = .ok (.ireturn, 1) := by decide +kernel
theorem dX8_figures_0 : decode cX8_figures 0 = .ok (.iconst 0, 1) := by decide +kernel
theorem dX8_figures_1 : decode cX8_figures 1 = .ok (.istore_n 2, 1) := by decide +kernel
theorem dX8_figures_2 : decode cX8_figures 2 = .ok (.iload_n 2, 1) := by decide +kernel
theorem dX8_figures_3 : decode cX8_figures 3 = .ok (.iload_n 1, 1) := by decide +kernel
theorem dX8_figures_4 : decode cX8_figures 4 = .ok (.if_icmp .ge 132, 3) := by decide +kernel
theorem dX8_figures_7 : decode cX8_figures 7 = .ok (.iconst 0, 1) := by decide +kernel
theorem dX8_figures_8 : decode cX8_figures 8 = .ok (.istore_n 3, 1) := by decide +kernel
theorem dX8_figures_9 : decode cX8_figures 9 = .ok (.iconst 0, 1) := by decide +kernel
theorem dX8_figures_10 : decode cX8_figures 10 = .ok (.istore 4, 2) := by decide +kernel
theorem dX8_figures_12 : decode cX8_figures 12 = .ok (.aload_n 0, 1) := by decide +kernel
theorem dX8_figures_13 : decode cX8_figures 13 = .ok (.aload_n 0, 1) := by decide +kernel
theorem dX8_figures_14 : decode cX8_figures 14 = .ok (.getfield 117, 3) := by decide +kernel
theorem dX8_figures_17 : decode cX8_figures 17 = .ok (.invokevirtual 120, 3) := by decide +kernel
theorem dX8_figures_20 : decode cX8_figures 20 = .ok (.i2l, 1) := by decide +kernel
theorem dX8_figures_21 : decode cX8_figures 21 = .ok (.ldc2_w 124, 3) := by decide +kernel
theorem dX8_figures_24 : decode cX8_figures 24 = .ok (.ldc2_w 126, 3) := by decide +kernel
theorem dX8_figures_27 : decode cX8_figures 27 = .ok (.invokestatic 109, 3) := by decide +kernel
theorem dX8_figures_30 : decode cX8_figures 30 = .ok (.ifCond .eq 43, 3) := by decide +kernel
theorem dX8_figures_33 : decode cX8_figures 33 = .ok (.iload_n 3, 1) := by decide +kernel
theorem dX8_figures_34 : decode cX8_figures 34 = .ok (.iconst 3, 1) := by decide +kernel
theorem dX8_figures_35 : decode cX8_figures 35 = .ok (.if_icmp .ge 38, 3) := by decide +kernel
theorem dX8_figures_38 : decode cX8_figures 38 = .ok (.bipush 10, 2) := by decide +kernel
theorem dX8_figures_40 : decode cX8_figures 40 = .ok (.iload 4, 2) := by decide +kernel
theorem dX8_figures_42 : decode cX8_figures 42 = .ok (.imul, 1) := by decide +kernel
theorem dX8_figures_43 : decode cX8_figures 43 = .ok (.aload_n 0, 1) := by decide +kernel
theorem dX8_figures_44 : decode cX8_figures 44 = .ok (.aload_n 0, 1) := by decide +kernel
theorem dX8_figures_45 : decode cX8_figures 45 = .ok (.getfield 117, 3) := by decide +kernel
theorem dX8_figures_48 : decode cX8_figures 48 = .ok (.invokevirtual 120, 3) := by decide +kernel
theorem dX8_figures_51 : decode cX8_figures 51 = .ok (.iadd, 1) := by decide +kernel
theorem dX8_figures_52 : decode cX8_figures 52 = .ok (.bipush 48, 2) := by decide +kernel
theorem dX8_figures_54 : decode cX8_figures 54 = .ok (.isub, 1) := by decide +kernel
theorem dX8_figures_55 : decode cX8_figures 55 = .ok (.istore 4, 2) := by decide +kernel
theorem dX8_figures_57 : decode cX8_figures 57 = .ok (.iinc 3 1, 3) := by decide +kernel
theorem dX8_figures_60 : decode cX8_figures 60 = .ok (.aload_n 0, 1) := by decide +kernel
theorem dX8_figures_61 : decode cX8_figures 61 = .ok (.dup, 1) := by decide +kernel
theorem dX8_figures_62 : decode cX8_figures 62 = .ok (.getfield 117, 3) := by decide +kernel
theorem dX8_figures_65 : decode cX8_figures 65 = .ok (.iconst 1, 1) := by decide +kernel
theorem dX8_figures_66 : decode cX8_figures 66 = .ok (.iadd, 1) := by decide +kernel
theorem dX8_figures_67 : decode cX8_figures 67 = .ok (.putfield 117, 3) := by decide +kernel
theorem dX8_figures_70 : decode cX8_figures 70 = .ok (.goto (-58), 3) := by decide +kernel
theorem dX8_figures_73 : decode cX8_figures 73 = .ok (.iload_n 3, 1) := by decide +kernel
theorem dX8_figures_74 : decode cX8_figures 74 = .ok (.i2l, 1) := by decide +kernel
theorem dX8_figures_75 : decode cX8_figures 75 = .ok (.lconst 1, 1) := by decide +kernel
theorem dX8_figures_76 : decode cX8_figures 76 = .ok (.ldc2_w 128, 3) := by decide +kernel
theorem dX8_figures_79 : decode cX8_figures 79 = .ok (.invokestatic 109, 3) := by decide +kernel
theorem dX8_figures_82 : decode cX8_figures 82 = .ok (.ifCond .eq 28, 3) := by decide +kernel
theorem dX8_figures_85 : decode cX8_figures 85 = .ok (.aload_n 0, 1) := by decide +kernel
theorem dX8_figures_86 : decode cX8_figures 86 = .ok (.aload_n 0, 1) := by decide +kernel
theorem dX8_figures_87 : decode cX8_figures 87 = .ok (.getfield 117, 3) := by decide +kernel
theorem dX8_figures_90 : decode cX8_figures 90 = .ok (.invokevirtual 120, 3) := by decide +kernel
theorem dX8_figures_93 : decode cX8_figures 93 = .ok (.iload_n 2, 1) := by decide +kernel
theorem dX8_figures_94 : decode cX8_figures 94 = .ok (.iload_n 1, 1) := by decide +kernel
theorem dX8_figures_95 : decode cX8_figures 95 = .ok (.iconst 1, 1) := by decide +kernel
theorem dX8_figures_96 : decode cX8_figures 96 = .ok (.isub, 1) := by decide +kernel
theorem dX8_figures_97 : decode cX8_figures 97 = .ok (.if_icmp .ge 8, 3) := by decide +kernel
theorem dX8_figures_100 : decode cX8_figures 100 = .ok (.bipush 44, 2) := by decide +kernel
theorem dX8_figures_102 : decode cX8_figures 102 = .ok (.goto 5, 3) := by decide +kernel
theorem dX8_figures_105 : decode cX8_figures 105 = .ok (.bipush 59, 2) := by decide +kernel
theorem dX8_figures_107 : decode cX8_figures 107 = .ok (.if_icmp .eq 5, 3) := by decide +kernel
theorem dX8_figures_110 : decode cX8_figures 110 = .ok (.iconst 0, 1) := by decide +kernel
theorem dX8_figures_111 : decode cX8_figures 111 = .ok (.ireturn, 1) := by decide +kernel
theorem dX8_figures_112 : decode cX8_figures 112 = .ok (.aload_n 0, 1) := by decide +kernel
theorem dX8_figures_113 : decode cX8_figures 113 = .ok (.getfield 67, 3) := by decide +kernel
theorem dX8_figures_116 : decode cX8_figures 116 = .ok (.iload_n 2, 1) := by decide +kernel
theorem dX8_figures_117 : decode cX8_figures 117 = .ok (.iload 4, 2) := by decide +kernel
theorem dX8_figures_119 : decode cX8_figures 119 = .ok (.iastore, 1) := by decide +kernel
theorem dX8_figures_120 : decode cX8_figures 120 = .ok (.aload_n 0, 1) := by decide +kernel
theorem dX8_figures_121 : decode cX8_figures 121 = .ok (.dup, 1) := by decide +kernel
theorem dX8_figures_122 : decode cX8_figures 122 = .ok (.getfield 117, 3) := by decide +kernel
theorem dX8_figures_125 : decode cX8_figures 125 = .ok (.iconst 1, 1) := by decide +kernel
theorem dX8_figures_126 : decode cX8_figures 126 = .ok (.iadd, 1) := by decide +kernel
theorem dX8_figures_127 : decode cX8_figures 127 = .ok (.putfield 117, 3) := by decide +kernel
theorem dX8_figures_130 : decode cX8_figures 130 = .ok (.iinc 2 1, 3) := by decide +kernel
theorem dX8_figures_133 : decode cX8_figures 133 = .ok (.goto (-131), 3) := by decide +kernel
theorem dX8_figures_136 : decode cX8_figures 136 = .ok (.iconst 1, 1) := by decide +kernel
theorem dX8_figures_137 : decode cX8_figures 137 = .ok (.ireturn, 1) := by decide +kernel
theorem dX8_isThingTold_0 : decode cX8_isThingTold 0 = .ok (.aload_n 0, 1) := by decide +kernel
theorem dX8_isThingTold_1 : decode cX8_isThingTold 1 = .ok (.getfield 13, 3) := by decide +kernel
theorem dX8_isThingTold_4 : decode cX8_isThingTold 4 = .ok (.iconst 1, 1) := by decide +kernel
theorem dX8_isThingTold_5 : decode cX8_isThingTold 5 = .ok (.iaload, 1) := by decide +kernel
theorem dX8_isThingTold_6 : decode cX8_isThingTold 6 = .ok (.bipush 8, 2) := by decide +kernel
theorem dX8_isThingTold_8 : decode cX8_isThingTold 8 = .ok (.if_icmp .ge 62, 3) := by decide +kernel
theorem dX8_isThingTold_11 : decode cX8_isThingTold 11 = .ok (.aload_n 0, 1) := by decide +kernel
theorem dX8_isThingTold_12 : decode cX8_isThingTold 12 = .ok (.getfield 67, 3) := by decide +kernel
theorem dX8_isThingTold_15 : decode cX8_isThingTold 15 = .ok (.iconst 0, 1) := by decide +kernel
theorem dX8_isThingTold_16 : decode cX8_isThingTold 16 = .ok (.iaload, 1) := by decide +kernel
theorem dX8_isThingTold_17 : decode cX8_isThingTold 17 = .ok (.i2l, 1) := by decide +kernel
theorem dX8_isThingTold_18 : decode cX8_isThingTold 18 = .ok (.lconst 1, 1) := by decide +kernel
theorem dX8_isThingTold_19 : decode cX8_isThingTold 19 = .ok (.ldc2_w 130, 3) := by decide +kernel
theorem dX8_isThingTold_22 : decode cX8_isThingTold 22 = .ok (.invokestatic 109, 3) := by decide +kernel
theorem dX8_isThingTold_25 : decode cX8_isThingTold 25 = .ok (.ifCond .eq 45, 3) := by decide +kernel
theorem dX8_isThingTold_28 : decode cX8_isThingTold 28 = .ok (.aload_n 0, 1) := by decide +kernel
theorem dX8_isThingTold_29 : decode cX8_isThingTold 29 = .ok (.getfield 67, 3) := by decide +kernel
theorem dX8_isThingTold_32 : decode cX8_isThingTold 32 = .ok (.iconst 1, 1) := by decide +kernel
theorem dX8_isThingTold_33 : decode cX8_isThingTold 33 = .ok (.iaload, 1) := by decide +kernel
theorem dX8_isThingTold_34 : decode cX8_isThingTold 34 = .ok (.iconst 4, 1) := by decide +kernel
theorem dX8_isThingTold_35 : decode cX8_isThingTold 35 = .ok (.if_icmp .ge 35, 3) := by decide +kernel
theorem dX8_isThingTold_38 : decode cX8_isThingTold 38 = .ok (.aload_n 0, 1) := by decide +kernel
theorem dX8_isThingTold_39 : decode cX8_isThingTold 39 = .ok (.getfield 67, 3) := by decide +kernel
theorem dX8_isThingTold_42 : decode cX8_isThingTold 42 = .ok (.iconst 2, 1) := by decide +kernel
theorem dX8_isThingTold_43 : decode cX8_isThingTold 43 = .ok (.iaload, 1) := by decide +kernel
theorem dX8_isThingTold_44 : decode cX8_isThingTold 44 = .ok (.bipush 10, 2) := by decide +kernel
theorem dX8_isThingTold_46 : decode cX8_isThingTold 46 = .ok (.if_icmp .ge 24, 3) := by decide +kernel
theorem dX8_isThingTold_49 : decode cX8_isThingTold 49 = .ok (.aload_n 0, 1) := by decide +kernel
theorem dX8_isThingTold_50 : decode cX8_isThingTold 50 = .ok (.getfield 67, 3) := by decide +kernel
theorem dX8_isThingTold_53 : decode cX8_isThingTold 53 = .ok (.iconst 3, 1) := by decide +kernel
theorem dX8_isThingTold_54 : decode cX8_isThingTold 54 = .ok (.iaload, 1) := by decide +kernel
theorem dX8_isThingTold_55 : decode cX8_isThingTold 55 = .ok (.i2l, 1) := by decide +kernel
theorem dX8_isThingTold_56 : decode cX8_isThingTold 56 = .ok (.lconst 1, 1) := by decide +kernel
theorem dX8_isThingTold_57 : decode cX8_isThingTold 57 = .ok (.ldc2_w 132, 3) := by decide +kernel
theorem dX8_isThingTold_60 : decode cX8_isThingTold 60 = .ok (.invokestatic 109, 3) := by decide +kernel
theorem dX8_isThingTold_63 : decode cX8_isThingTold 63 = .ok (.ifCond .eq 7, 3) := by decide +kernel
theorem dX8_isThingTold_66 : decode cX8_isThingTold 66 = .ok (.iconst 1, 1) := by decide +kernel
theorem dX8_isThingTold_67 : decode cX8_isThingTold 67 = .ok (.goto 4, 3) := by decide +kernel
theorem dX8_isThingTold_70 : decode cX8_isThingTold 70 = .ok (.iconst 0, 1) := by decide +kernel
theorem dX8_isThingTold_71 : decode cX8_isThingTold 71 = .ok (.ireturn, 1) := by decide +kernel
theorem dX8_item_0 : decode cX8_item 0 = .ok (.aload_n 0, 1) := by decide +kernel
theorem dX8_item_1 : decode cX8_item 1 = .ok (.aload_n 0, 1) := by decide +kernel
theorem dX8_item_2 : decode cX8_item 2 = .ok (.getfield 117, 3) := by decide +kernel
theorem dX8_item_5 : decode cX8_item 5 = .ok (.invokevirtual 120, 3) := by decide +kernel
theorem dX8_item_8 : decode cX8_item 8 = .ok (.istore_n 1, 1) := by decide +kernel
theorem dX8_item_9 : decode cX8_item 9 = .ok (.aload_n 0, 1) := by decide +kernel
theorem dX8_item_10 : decode cX8_item 10 = .ok (.dup, 1) := by decide +kernel
theorem dX8_item_11 : decode cX8_item 11 = .ok (.getfield 117, 3) := by decide +kernel
theorem dX8_item_14 : decode cX8_item 14 = .ok (.iconst 1, 1) := by decide +kernel
theorem dX8_item_15 : decode cX8_item 15 = .ok (.iadd, 1) := by decide +kernel
theorem dX8_item_16 : decode cX8_item 16 = .ok (.putfield 117, 3) := by decide +kernel
theorem dX8_item_19 : decode cX8_item 19 = .ok (.iload_n 1, 1) := by decide +kernel
theorem dX8_item_20 : decode cX8_item 20 = .ok (.tableswitch 443 100 116 #[320, 443, 443, 279, 443, 215, 443, 443, 443, 443, 355, 443, 132, 443, 443, 443, 84], 84) := by decide +kernel
theorem dX8_item_104 : decode cX8_item 104 = .ok (.aload_n 0, 1) := by decide +kernel
theorem dX8_item_105 : decode cX8_item 105 = .ok (.iconst 4, 1) := by decide +kernel
theorem dX8_item_106 : decode cX8_item 106 = .ok (.invokevirtual 134, 3) := by decide +kernel
theorem dX8_item_109 : decode cX8_item 109 = .ok (.ifCond .eq 10, 3) := by decide +kernel
theorem dX8_item_112 : decode cX8_item 112 = .ok (.aload_n 0, 1) := by decide +kernel
theorem dX8_item_113 : decode cX8_item 113 = .ok (.invokevirtual 138, 3) := by decide +kernel
theorem dX8_item_116 : decode cX8_item 116 = .ok (.ifCond .ne 5, 3) := by decide +kernel
theorem dX8_item_119 : decode cX8_item 119 = .ok (.iconst 0, 1) := by decide +kernel
theorem dX8_item_120 : decode cX8_item 120 = .ok (.ireturn, 1) := by decide +kernel
theorem dX8_item_121 : decode cX8_item 121 = .ok (.aload_n 0, 1) := by decide +kernel
theorem dX8_item_122 : decode cX8_item 122 = .ok (.iconst 1, 1) := by decide +kernel
theorem dX8_item_123 : decode cX8_item 123 = .ok (.aload_n 0, 1) := by decide +kernel
theorem dX8_item_124 : decode cX8_item 124 = .ok (.getfield 67, 3) := by decide +kernel
theorem dX8_item_127 : decode cX8_item 127 = .ok (.iconst 0, 1) := by decide +kernel
theorem dX8_item_128 : decode cX8_item 128 = .ok (.iaload, 1) := by decide +kernel
theorem dX8_item_129 : decode cX8_item 129 = .ok (.aload_n 0, 1) := by decide +kernel
theorem dX8_item_130 : decode cX8_item 130 = .ok (.getfield 67, 3) := by decide +kernel
theorem dX8_item_133 : decode cX8_item 133 = .ok (.iconst 1, 1) := by decide +kernel
theorem dX8_item_134 : decode cX8_item 134 = .ok (.iaload, 1) := by decide +kernel
theorem dX8_item_135 : decode cX8_item 135 = .ok (.aload_n 0, 1) := by decide +kernel
theorem dX8_item_136 : decode cX8_item 136 = .ok (.getfield 67, 3) := by decide +kernel
theorem dX8_item_139 : decode cX8_item 139 = .ok (.iconst 2, 1) := by decide +kernel
theorem dX8_item_140 : decode cX8_item 140 = .ok (.iaload, 1) := by decide +kernel
theorem dX8_item_141 : decode cX8_item 141 = .ok (.aload_n 0, 1) := by decide +kernel
theorem dX8_item_142 : decode cX8_item 142 = .ok (.getfield 67, 3) := by decide +kernel
theorem dX8_item_145 : decode cX8_item 145 = .ok (.iconst 3, 1) := by decide +kernel
theorem dX8_item_146 : decode cX8_item 146 = .ok (.iaload, 1) := by decide +kernel
theorem dX8_item_147 : decode cX8_item 147 = .ok (.invokevirtual 94, 3) := by decide +kernel
theorem dX8_item_150 : decode cX8_item 150 = .ok (.iconst 1, 1) := by decide +kernel
theorem dX8_item_151 : decode cX8_item 151 = .ok (.ireturn, 1) := by decide +kernel
theorem dX8_item_152 : decode cX8_item 152 = .ok (.aload_n 0, 1) := by decide +kernel
theorem dX8_item_153 : decode cX8_item 153 = .ok (.iconst 3, 1) := by decide +kernel
theorem dX8_item_154 : decode cX8_item 154 = .ok (.invokevirtual 134, 3) := by decide +kernel
theorem dX8_item_157 : decode cX8_item 157 = .ok (.ifCond .eq 51, 3) := by decide +kernel
theorem dX8_item_160 : decode cX8_item 160 = .ok (.aload_n 0, 1) := by decide +kernel
theorem dX8_item_161 : decode cX8_item 161 = .ok (.getfield 28, 3) := by decide +kernel
theorem dX8_item_164 : decode cX8_item 164 = .ok (.iconst 1, 1) := by decide +kernel
theorem dX8_item_165 : decode cX8_item 165 = .ok (.iaload, 1) := by decide +kernel
theorem dX8_item_166 : decode cX8_item 166 = .ok (.iconst 4, 1) := by decide +kernel
theorem dX8_item_167 : decode cX8_item 167 = .ok (.if_icmp .eq 41, 3) := by decide +kernel
theorem dX8_item_170 : decode cX8_item 170 = .ok (.aload_n 0, 1) := by decide +kernel
theorem dX8_item_171 : decode cX8_item 171 = .ok (.getfield 67, 3) := by decide +kernel
theorem dX8_item_174 : decode cX8_item 174 = .ok (.iconst 0, 1) := by decide +kernel
theorem dX8_item_175 : decode cX8_item 175 = .ok (.iaload, 1) := by decide +kernel
theorem dX8_item_176 : decode cX8_item 176 = .ok (.bipush 9, 2) := by decide +kernel
theorem dX8_item_178 : decode cX8_item 178 = .ok (.if_icmp .gt 30, 3) := by decide +kernel
theorem dX8_item_181 : decode cX8_item 181 = .ok (.aload_n 0, 1) := by decide +kernel
theorem dX8_item_182 : decode cX8_item 182 = .ok (.getfield 67, 3) := by decide +kernel
theorem dX8_item_185 : decode cX8_item 185 = .ok (.iconst 1, 1) := by decide +kernel
theorem dX8_item_186 : decode cX8_item 186 = .ok (.iaload, 1) := by decide +kernel
theorem dX8_item_187 : decode cX8_item 187 = .ok (.iconst 1, 1) := by decide +kernel
theorem dX8_item_188 : decode cX8_item 188 = .ok (.if_icmp .gt 20, 3) := by decide +kernel
theorem dX8_item_191 : decode cX8_item 191 = .ok (.aload_n 0, 1) := by decide +kernel
theorem dX8_item_192 : decode cX8_item 192 = .ok (.getfield 67, 3) := by decide +kernel
theorem dX8_item_195 : decode cX8_item 195 = .ok (.iconst 2, 1) := by decide +kernel
theorem dX8_item_196 : decode cX8_item 196 = .ok (.iaload, 1) := by decide +kernel
theorem dX8_item_197 : decode cX8_item 197 = .ok (.i2l, 1) := by decide +kernel
theorem dX8_item_198 : decode cX8_item 198 = .ok (.lconst 1, 1) := by decide +kernel
theorem dX8_item_199 : decode cX8_item 199 = .ok (.ldc2_w 128, 3) := by decide +kernel
theorem dX8_item_202 : decode cX8_item 202 = .ok (.invokestatic 109, 3) := by decide +kernel
theorem dX8_item_205 : decode cX8_item 205 = .ok (.ifCond .ne 5, 3) := by decide +kernel
theorem dX8_item_208 : decode cX8_item 208 = .ok (.iconst 0, 1) := by decide +kernel
theorem dX8_item_209 : decode cX8_item 209 = .ok (.ireturn, 1) := by decide +kernel
theorem dX8_item_210 : decode cX8_item 210 = .ok (.aload_n 0, 1) := by decide +kernel
theorem dX8_item_211 : decode cX8_item 211 = .ok (.iconst 1, 1) := by decide +kernel
theorem dX8_item_212 : decode cX8_item 212 = .ok (.aload_n 0, 1) := by decide +kernel
theorem dX8_item_213 : decode cX8_item 213 = .ok (.getfield 67, 3) := by decide +kernel
theorem dX8_item_216 : decode cX8_item 216 = .ok (.iconst 0, 1) := by decide +kernel
theorem dX8_item_217 : decode cX8_item 217 = .ok (.iaload, 1) := by decide +kernel
theorem dX8_item_218 : decode cX8_item 218 = .ok (.aload_n 0, 1) := by decide +kernel
theorem dX8_item_219 : decode cX8_item 219 = .ok (.getfield 67, 3) := by decide +kernel
theorem dX8_item_222 : decode cX8_item 222 = .ok (.iconst 1, 1) := by decide +kernel
theorem dX8_item_223 : decode cX8_item 223 = .ok (.iaload, 1) := by decide +kernel
theorem dX8_item_224 : decode cX8_item 224 = .ok (.aload_n 0, 1) := by decide +kernel
theorem dX8_item_225 : decode cX8_item 225 = .ok (.getfield 67, 3) := by decide +kernel
theorem dX8_item_228 : decode cX8_item 228 = .ok (.iconst 2, 1) := by decide +kernel
theorem dX8_item_229 : decode cX8_item 229 = .ok (.iaload, 1) := by decide +kernel
theorem dX8_item_230 : decode cX8_item 230 = .ok (.invokevirtual 98, 3) := by decide +kernel
theorem dX8_item_233 : decode cX8_item 233 = .ok (.iconst 1, 1) := by decide +kernel
theorem dX8_item_234 : decode cX8_item 234 = .ok (.ireturn, 1) := by decide +kernel
theorem dX8_item_235 : decode cX8_item 235 = .ok (.aload_n 0, 1) := by decide +kernel
theorem dX8_item_236 : decode cX8_item 236 = .ok (.iconst 2, 1) := by decide +kernel
theorem dX8_item_237 : decode cX8_item 237 = .ok (.invokevirtual 134, 3) := by decide +kernel
theorem dX8_item_240 : decode cX8_item 240 = .ok (.ifCond .eq 33, 3) := by decide +kernel
theorem dX8_item_243 : decode cX8_item 243 = .ok (.aload_n 0, 1) := by decide +kernel
theorem dX8_item_244 : decode cX8_item 244 = .ok (.getfield 67, 3) := by decide +kernel
theorem dX8_item_247 : decode cX8_item 247 = .ok (.iconst 0, 1) := by decide +kernel
theorem dX8_item_248 : decode cX8_item 248 = .ok (.iaload, 1) := by decide +kernel
theorem dX8_item_249 : decode cX8_item 249 = .ok (.aload_n 0, 1) := by decide +kernel
theorem dX8_item_250 : decode cX8_item 250 = .ok (.getfield 28, 3) := by decide +kernel
theorem dX8_item_253 : decode cX8_item 253 = .ok (.iconst 1, 1) := by decide +kernel
theorem dX8_item_254 : decode cX8_item 254 = .ok (.iaload, 1) := by decide +kernel
theorem dX8_item_255 : decode cX8_item 255 = .ok (.if_icmp .ge 18, 3) := by decide +kernel
theorem dX8_item_258 : decode cX8_item 258 = .ok (.aload_n 0, 1) := by decide +kernel
theorem dX8_item_259 : decode cX8_item 259 = .ok (.getfield 67, 3) := by decide +kernel
theorem dX8_item_262 : decode cX8_item 262 = .ok (.iconst 1, 1) := by decide +kernel
theorem dX8_item_263 : decode cX8_item 263 = .ok (.iaload, 1) := by decide +kernel
theorem dX8_item_264 : decode cX8_item 264 = .ok (.aload_n 0, 1) := by decide +kernel
theorem dX8_item_265 : decode cX8_item 265 = .ok (.getfield 13, 3) := by decide +kernel
theorem dX8_item_268 : decode cX8_item 268 = .ok (.iconst 1, 1) := by decide +kernel
theorem dX8_item_269 : decode cX8_item 269 = .ok (.iaload, 1) := by decide +kernel
theorem dX8_item_270 : decode cX8_item 270 = .ok (.if_icmp .lt 5, 3) := by decide +kernel
theorem dX8_item_273 : decode cX8_item 273 = .ok (.iconst 0, 1) := by decide +kernel
theorem dX8_item_274 : decode cX8_item 274 = .ok (.ireturn, 1) := by decide +kernel
theorem dX8_item_275 : decode cX8_item 275 = .ok (.aload_n 0, 1) := by decide +kernel
theorem dX8_item_276 : decode cX8_item 276 = .ok (.getfield 52, 3) := by decide +kernel
theorem dX8_item_279 : decode cX8_item 279 = .ok (.aload_n 0, 1) := by decide +kernel
theorem dX8_item_280 : decode cX8_item 280 = .ok (.getfield 67, 3) := by decide +kernel
theorem dX8_item_283 : decode cX8_item 283 = .ok (.iconst 0, 1) := by decide +kernel
theorem dX8_item_284 : decode cX8_item 284 = .ok (.iaload, 1) := by decide +kernel
theorem dX8_item_285 : decode cX8_item 285 = .ok (.dup2, 1) := by decide +kernel
theorem dX8_item_286 : decode cX8_item 286 = .ok (.iaload, 1) := by decide +kernel
theorem dX8_item_287 : decode cX8_item 287 = .ok (.iconst 1, 1) := by decide +kernel
theorem dX8_item_288 : decode cX8_item 288 = .ok (.aload_n 0, 1) := by decide +kernel
theorem dX8_item_289 : decode cX8_item 289 = .ok (.getfield 67, 3) := by decide +kernel
theorem dX8_item_292 : decode cX8_item 292 = .ok (.iconst 1, 1) := by decide +kernel
theorem dX8_item_293 : decode cX8_item 293 = .ok (.iaload, 1) := by decide +kernel
theorem dX8_item_294 : decode cX8_item 294 = .ok (.ishl, 1) := by decide +kernel
theorem dX8_item_295 : decode cX8_item 295 = .ok (.ior, 1) := by decide +kernel
theorem dX8_item_296 : decode cX8_item 296 = .ok (.iastore, 1) := by decide +kernel
theorem dX8_item_297 : decode cX8_item 297 = .ok (.iconst 1, 1) := by decide +kernel
theorem dX8_item_298 : decode cX8_item 298 = .ok (.ireturn, 1) := by decide +kernel
theorem dX8_item_299 : decode cX8_item 299 = .ok (.aload_n 0, 1) := by decide +kernel
theorem dX8_item_300 : decode cX8_item 300 = .ok (.iconst 1, 1) := by decide +kernel
theorem dX8_item_301 : decode cX8_item 301 = .ok (.invokevirtual 134, 3) := by decide +kernel
theorem dX8_item_304 : decode cX8_item 304 = .ok (.ifCond .eq 20, 3) := by decide +kernel
theorem dX8_item_307 : decode cX8_item 307 = .ok (.aload_n 0, 1) := by decide +kernel
theorem dX8_item_308 : decode cX8_item 308 = .ok (.getfield 67, 3) := by decide +kernel
theorem dX8_item_311 : decode cX8_item 311 = .ok (.iconst 0, 1) := by decide +kernel
theorem dX8_item_312 : decode cX8_item 312 = .ok (.iaload, 1) := by decide +kernel
theorem dX8_item_313 : decode cX8_item 313 = .ok (.i2l, 1) := by decide +kernel
theorem dX8_item_314 : decode cX8_item 314 = .ok (.lconst 1, 1) := by decide +kernel
theorem dX8_item_315 : decode cX8_item 315 = .ok (.ldc2_w 132, 3) := by decide +kernel
theorem dX8_item_318 : decode cX8_item 318 = .ok (.invokestatic 109, 3) := by decide +kernel
theorem dX8_item_321 : decode cX8_item 321 = .ok (.ifCond .ne 5, 3) := by decide +kernel
theorem dX8_item_324 : decode cX8_item 324 = .ok (.iconst 0, 1) := by decide +kernel
theorem dX8_item_325 : decode cX8_item 325 = .ok (.ireturn, 1) := by decide +kernel
theorem dX8_item_326 : decode cX8_item 326 = .ok (.aload_n 0, 1) := by decide +kernel
theorem dX8_item_327 : decode cX8_item 327 = .ok (.getfield 40, 3) := by decide +kernel
theorem dX8_item_330 : decode cX8_item 330 = .ok (.iconst 1, 1) := by decide +kernel
theorem dX8_item_331 : decode cX8_item 331 = .ok (.aload_n 0, 1) := by decide +kernel
theorem dX8_item_332 : decode cX8_item 332 = .ok (.getfield 67, 3) := by decide +kernel
theorem dX8_item_335 : decode cX8_item 335 = .ok (.iconst 0, 1) := by decide +kernel
theorem dX8_item_336 : decode cX8_item 336 = .ok (.iaload, 1) := by decide +kernel
theorem dX8_item_337 : decode cX8_item 337 = .ok (.iastore, 1) := by decide +kernel
theorem dX8_item_338 : decode cX8_item 338 = .ok (.iconst 1, 1) := by decide +kernel
theorem dX8_item_339 : decode cX8_item 339 = .ok (.ireturn, 1) := by decide +kernel
theorem dX8_item_340 : decode cX8_item 340 = .ok (.aload_n 0, 1) := by decide +kernel
theorem dX8_item_341 : decode cX8_item 341 = .ok (.iconst 1, 1) := by decide +kernel
theorem dX8_item_342 : decode cX8_item 342 = .ok (.invokevirtual 134, 3) := by decide +kernel
theorem dX8_item_345 : decode cX8_item 345 = .ok (.ifCond .eq 14, 3) := by decide +kernel
theorem dX8_item_348 : decode cX8_item 348 = .ok (.aload_n 0, 1) := by decide +kernel
theorem dX8_item_349 : decode cX8_item 349 = .ok (.getfield 67, 3) := by decide +kernel
theorem dX8_item_352 : decode cX8_item 352 = .ok (.iconst 0, 1) := by decide +kernel
theorem dX8_item_353 : decode cX8_item 353 = .ok (.iaload, 1) := by decide +kernel
theorem dX8_item_354 : decode cX8_item 354 = .ok (.bipush 40, 2) := by decide +kernel
theorem dX8_item_356 : decode cX8_item 356 = .ok (.if_icmp .le 5, 3) := by decide +kernel
theorem dX8_item_359 : decode cX8_item 359 = .ok (.iconst 0, 1) := by decide +kernel
theorem dX8_item_360 : decode cX8_item 360 = .ok (.ireturn, 1) := by decide +kernel
theorem dX8_item_361 : decode cX8_item 361 = .ok (.aload_n 0, 1) := by decide +kernel
theorem dX8_item_362 : decode cX8_item 362 = .ok (.getfield 43, 3) := by decide +kernel
theorem dX8_item_365 : decode cX8_item 365 = .ok (.iconst 1, 1) := by decide +kernel
theorem dX8_item_366 : decode cX8_item 366 = .ok (.aload_n 0, 1) := by decide +kernel
theorem dX8_item_367 : decode cX8_item 367 = .ok (.getfield 67, 3) := by decide +kernel
theorem dX8_item_370 : decode cX8_item 370 = .ok (.iconst 0, 1) := by decide +kernel
theorem dX8_item_371 : decode cX8_item 371 = .ok (.iaload, 1) := by decide +kernel
theorem dX8_item_372 : decode cX8_item 372 = .ok (.iastore, 1) := by decide +kernel
theorem dX8_item_373 : decode cX8_item 373 = .ok (.iconst 1, 1) := by decide +kernel
theorem dX8_item_374 : decode cX8_item 374 = .ok (.ireturn, 1) := by decide +kernel
theorem dX8_item_375 : decode cX8_item 375 = .ok (.aload_n 0, 1) := by decide +kernel
theorem dX8_item_376 : decode cX8_item 376 = .ok (.iconst 3, 1) := by decide +kernel
theorem dX8_item_377 : decode cX8_item 377 = .ok (.invokevirtual 134, 3) := by decide +kernel
theorem dX8_item_380 : decode cX8_item 380 = .ok (.ifCond .eq 41, 3) := by decide +kernel
theorem dX8_item_383 : decode cX8_item 383 = .ok (.aload_n 0, 1) := by decide +kernel
theorem dX8_item_384 : decode cX8_item 384 = .ok (.getfield 67, 3) := by decide +kernel
theorem dX8_item_387 : decode cX8_item 387 = .ok (.iconst 0, 1) := by decide +kernel
theorem dX8_item_388 : decode cX8_item 388 = .ok (.iaload, 1) := by decide +kernel
theorem dX8_item_389 : decode cX8_item 389 = .ok (.iconst 3, 1) := by decide +kernel
theorem dX8_item_390 : decode cX8_item 390 = .ok (.if_icmp .gt 31, 3) := by decide +kernel
theorem dX8_item_393 : decode cX8_item 393 = .ok (.aload_n 0, 1) := by decide +kernel
theorem dX8_item_394 : decode cX8_item 394 = .ok (.getfield 67, 3) := by decide +kernel
theorem dX8_item_397 : decode cX8_item 397 = .ok (.iconst 1, 1) := by decide +kernel
theorem dX8_item_398 : decode cX8_item 398 = .ok (.iaload, 1) := by decide +kernel
theorem dX8_item_399 : decode cX8_item 399 = .ok (.bipush 9, 2) := by decide +kernel
theorem dX8_item_401 : decode cX8_item 401 = .ok (.if_icmp .gt 20, 3) := by decide +kernel
theorem dX8_item_404 : decode cX8_item 404 = .ok (.aload_n 0, 1) := by decide +kernel
theorem dX8_item_405 : decode cX8_item 405 = .ok (.getfield 67, 3) := by decide +kernel
theorem dX8_item_408 : decode cX8_item 408 = .ok (.iconst 2, 1) := by decide +kernel
theorem dX8_item_409 : decode cX8_item 409 = .ok (.iaload, 1) := by decide +kernel
theorem dX8_item_410 : decode cX8_item 410 = .ok (.i2l, 1) := by decide +kernel
theorem dX8_item_411 : decode cX8_item 411 = .ok (.lconst 1, 1) := by decide +kernel
theorem dX8_item_412 : decode cX8_item 412 = .ok (.ldc2_w 142, 3) := by decide +kernel
theorem dX8_item_415 : decode cX8_item 415 = .ok (.invokestatic 109, 3) := by decide +kernel
theorem dX8_item_418 : decode cX8_item 418 = .ok (.ifCond .ne 5, 3) := by decide +kernel
theorem dX8_item_421 : decode cX8_item 421 = .ok (.iconst 0, 1) := by decide +kernel
theorem dX8_item_422 : decode cX8_item 422 = .ok (.ireturn, 1) := by decide +kernel
theorem dX8_item_423 : decode cX8_item 423 = .ok (.aload_n 0, 1) := by decide +kernel
theorem dX8_item_424 : decode cX8_item 424 = .ok (.getfield 46, 3) := by decide +kernel
theorem dX8_item_427 : decode cX8_item 427 = .ok (.iconst 4, 1) := by decide +kernel
theorem dX8_item_428 : decode cX8_item 428 = .ok (.aload_n 0, 1) := by decide +kernel
theorem dX8_item_429 : decode cX8_item 429 = .ok (.getfield 67, 3) := by decide +kernel
theorem dX8_item_432 : decode cX8_item 432 = .ok (.iconst 0, 1) := by decide +kernel
theorem dX8_item_433 : decode cX8_item 433 = .ok (.iaload, 1) := by decide +kernel
theorem dX8_item_434 : decode cX8_item 434 = .ok (.iadd, 1) := by decide +kernel
theorem dX8_item_435 : decode cX8_item 435 = .ok (.aload_n 0, 1) := by decide +kernel
theorem dX8_item_436 : decode cX8_item 436 = .ok (.getfield 67, 3) := by decide +kernel
theorem dX8_item_439 : decode cX8_item 439 = .ok (.iconst 1, 1) := by decide +kernel
theorem dX8_item_440 : decode cX8_item 440 = .ok (.iaload, 1) := by decide +kernel
theorem dX8_item_441 : decode cX8_item 441 = .ok (.iastore, 1) := by decide +kernel
theorem dX8_item_442 : decode cX8_item 442 = .ok (.aload_n 0, 1) := by decide +kernel
theorem dX8_item_443 : decode cX8_item 443 = .ok (.getfield 49, 3) := by decide +kernel
theorem dX8_item_446 : decode cX8_item 446 = .ok (.iconst 4, 1) := by decide +kernel
theorem dX8_item_447 : decode cX8_item 447 = .ok (.aload_n 0, 1) := by decide +kernel
theorem dX8_item_448 : decode cX8_item 448 = .ok (.getfield 67, 3) := by decide +kernel
theorem dX8_item_451 : decode cX8_item 451 = .ok (.iconst 0, 1) := by decide +kernel
theorem dX8_item_452 : decode cX8_item 452 = .ok (.iaload, 1) := by decide +kernel
theorem dX8_item_453 : decode cX8_item 453 = .ok (.iadd, 1) := by decide +kernel
theorem dX8_item_454 : decode cX8_item 454 = .ok (.aload_n 0, 1) := by decide +kernel
theorem dX8_item_455 : decode cX8_item 455 = .ok (.getfield 67, 3) := by decide +kernel
theorem dX8_item_458 : decode cX8_item 458 = .ok (.iconst 2, 1) := by decide +kernel
theorem dX8_item_459 : decode cX8_item 459 = .ok (.iaload, 1) := by decide +kernel
theorem dX8_item_460 : decode cX8_item 460 = .ok (.iastore, 1) := by decide +kernel
theorem dX8_item_461 : decode cX8_item 461 = .ok (.iconst 1, 1) := by decide +kernel
theorem dX8_item_462 : decode cX8_item 462 = .ok (.ireturn, 1) := by decide +kernel
theorem dX8_item_463 : decode cX8_item 463 = .ok (.iconst 0, 1) := by decide +kernel
theorem dX8_item_464 : decode cX8_item 464 = .ok (.ireturn, 1) := by decide +kernel
theorem dX8_readAll_0 : decode cX8_readAll 0 = .ok (.aload_n 0, 1) := by decide +kernel
theorem dX8_readAll_1 : decode cX8_readAll 1 = .ok (.iconst 1, 1) := by decide +kernel
theorem dX8_readAll_2 : decode cX8_readAll 2 = .ok (.invokevirtual 90, 3) := by decide +kernel
theorem dX8_readAll_5 : decode cX8_readAll 5 = .ok (.iconst 0, 1) := by decide +kernel
theorem dX8_readAll_6 : decode cX8_readAll 6 = .ok (.istore_n 1, 1) := by decide +kernel
theorem dX8_readAll_7 : decode cX8_readAll 7 = .ok (.iload_n 1, 1) := by decide +kernel
theorem dX8_readAll_8 : decode cX8_readAll 8 = .ok (.iconst 4, 1) := by decide +kernel
theorem dX8_readAll_9 : decode cX8_readAll 9 = .ok (.if_icmp .ge 16, 3) := by decide +kernel
theorem dX8_readAll_12 : decode cX8_readAll 12 = .ok (.aload_n 0, 1) := by decide +kernel
theorem dX8_readAll_13 : decode cX8_readAll 13 = .ok (.getfield 52, 3) := by decide +kernel
theorem dX8_readAll_16 : decode cX8_readAll 16 = .ok (.iload_n 1, 1) := by decide +kernel
theorem dX8_readAll_17 : decode cX8_readAll 17 = .ok (.iconst 0, 1) := by decide +kernel
theorem dX8_readAll_18 : decode cX8_readAll 18 = .ok (.iastore, 1) := by decide +kernel
theorem dX8_readAll_19 : decode cX8_readAll 19 = .ok (.iinc 1 1, 3) := by decide +kernel
theorem dX8_readAll_22 : decode cX8_readAll 22 = .ok (.goto (-15), 3) := by decide +kernel
theorem dX8_readAll_25 : decode cX8_readAll 25 = .ok (.aload_n 0, 1) := by decide +kernel
theorem dX8_readAll_26 : decode cX8_readAll 26 = .ok (.iconst 0, 1) := by decide +kernel
theorem dX8_readAll_27 : decode cX8_readAll 27 = .ok (.putfield 117, 3) := by decide +kernel
theorem dX8_readAll_30 : decode cX8_readAll 30 = .ok (.aload_n 0, 1) := by decide +kernel
theorem dX8_readAll_31 : decode cX8_readAll 31 = .ok (.getfield 117, 3) := by decide +kernel
theorem dX8_readAll_34 : decode cX8_readAll 34 = .ok (.aload_n 0, 1) := by decide +kernel
theorem dX8_readAll_35 : decode cX8_readAll 35 = .ok (.getfield 113, 3) := by decide +kernel
theorem dX8_readAll_38 : decode cX8_readAll 38 = .ok (.if_icmp .ge 20, 3) := by decide +kernel
theorem dX8_readAll_41 : decode cX8_readAll 41 = .ok (.aload_n 0, 1) := by decide +kernel
theorem dX8_readAll_42 : decode cX8_readAll 42 = .ok (.getfield 117, 3) := by decide +kernel
theorem dX8_readAll_45 : decode cX8_readAll 45 = .ok (.istore_n 1, 1) := by decide +kernel
theorem dX8_readAll_46 : decode cX8_readAll 46 = .ok (.aload_n 0, 1) := by decide +kernel
theorem dX8_readAll_47 : decode cX8_readAll 47 = .ok (.invokevirtual 144, 3) := by decide +kernel
theorem dX8_readAll_50 : decode cX8_readAll 50 = .ok (.ifCond .ne 5, 3) := by decide +kernel
theorem dX8_readAll_53 : decode cX8_readAll 53 = .ok (.iload_n 1, 1) := by decide +kernel
theorem dX8_readAll_54 : decode cX8_readAll 54 = .ok (.ireturn, 1) := by decide +kernel
theorem dX8_readAll_55 : decode cX8_readAll 55 = .ok (.goto (-25), 3) := by decide +kernel
theorem dX8_readAll_58 : decode cX8_readAll 58 = .ok (.bipush (-4), 2) := by decide +kernel
theorem dX8_readAll_60 : decode cX8_readAll 60 = .ok (.ireturn, 1) := by decide +kernel
theorem dX8_fault_0 : decode cX8_fault 0 = .ok (.aload_n 0, 1) := by decide +kernel
theorem dX8_fault_1 : decode cX8_fault 1 = .ok (.invokevirtual 147, 3) := by decide +kernel
theorem dX8_fault_4 : decode cX8_fault 4 = .ok (.ireturn, 1) := by decide +kernel
theorem dX8_gap_0 : decode cX8_gap 0 = .ok (.iconst 0, 1) := by decide +kernel
theorem dX8_gap_1 : decode cX8_gap 1 = .ok (.istore_n 3, 1) := by decide +kernel
theorem dX8_gap_2 : decode cX8_gap 2 = .ok (.iconst 0, 1) := by decide +kernel
theorem dX8_gap_3 : decode cX8_gap 3 = .ok (.istore 4, 2) := by decide +kernel
theorem dX8_gap_5 : decode cX8_gap 5 = .ok (.iload 4, 2) := by decide +kernel
theorem dX8_gap_7 : decode cX8_gap 7 = .ok (.aload_n 0, 1) := by decide +kernel
theorem dX8_gap_8 : decode cX8_gap 8 = .ok (.getfield 28, 3) := by decide +kernel
theorem dX8_gap_11 : decode cX8_gap 11 = .ok (.iload_n 1, 1) := by decide +kernel
theorem dX8_gap_12 : decode cX8_gap 12 = .ok (.iaload, 1) := by decide +kernel
theorem dX8_gap_13 : decode cX8_gap 13 = .ok (.if_icmp .ge 87, 3) := by decide +kernel
theorem dX8_gap_16 : decode cX8_gap 16 = .ok (.iconst 0, 1) := by decide +kernel
theorem dX8_gap_17 : decode cX8_gap 17 = .ok (.istore 5, 2) := by decide +kernel
theorem dX8_gap_19 : decode cX8_gap 19 = .ok (.iload 5, 2) := by decide +kernel
theorem dX8_gap_21 : decode cX8_gap 21 = .ok (.aload_n 0, 1) := by decide +kernel
theorem dX8_gap_22 : decode cX8_gap 22 = .ok (.getfield 13, 3) := by decide +kernel
theorem dX8_gap_25 : decode cX8_gap 25 = .ok (.iload_n 1, 1) := by decide +kernel
theorem dX8_gap_26 : decode cX8_gap 26 = .ok (.iaload, 1) := by decide +kernel
theorem dX8_gap_27 : decode cX8_gap 27 = .ok (.if_icmp .ge 67, 3) := by decide +kernel
theorem dX8_gap_30 : decode cX8_gap 30 = .ok (.iload_n 2, 1) := by decide +kernel
theorem dX8_gap_31 : decode cX8_gap 31 = .ok (.bipush 8, 2) := by decide +kernel
theorem dX8_gap_33 : decode cX8_gap 33 = .ok (.iload 4, 2) := by decide +kernel
theorem dX8_gap_35 : decode cX8_gap 35 = .ok (.imul, 1) := by decide +kernel
theorem dX8_gap_36 : decode cX8_gap 36 = .ok (.ishr, 1) := by decide +kernel
theorem dX8_gap_37 : decode cX8_gap 37 = .ok (.iload 5, 2) := by decide +kernel
theorem dX8_gap_39 : decode cX8_gap 39 = .ok (.invokestatic 151, 3) := by decide +kernel
theorem dX8_gap_42 : decode cX8_gap 42 = .ok (.ifCond .eq 18, 3) := by decide +kernel
theorem dX8_gap_45 : decode cX8_gap 45 = .ok (.aload_n 0, 1) := by decide +kernel
theorem dX8_gap_46 : decode cX8_gap 46 = .ok (.getfield 22, 3) := by decide +kernel
theorem dX8_gap_49 : decode cX8_gap 49 = .ok (.bipush 8, 2) := by decide +kernel
theorem dX8_gap_51 : decode cX8_gap 51 = .ok (.iload_n 1, 1) := by decide +kernel
theorem dX8_gap_52 : decode cX8_gap 52 = .ok (.imul, 1) := by decide +kernel
theorem dX8_gap_53 : decode cX8_gap 53 = .ok (.iload 5, 2) := by decide +kernel
theorem dX8_gap_55 : decode cX8_gap 55 = .ok (.iadd, 1) := by decide +kernel
theorem dX8_gap_56 : decode cX8_gap 56 = .ok (.iaload, 1) := by decide +kernel
theorem dX8_gap_57 : decode cX8_gap 57 = .ok (.goto 4, 3) := by decide +kernel
theorem dX8_gap_60 : decode cX8_gap 60 = .ok (.iconst 0, 1) := by decide +kernel
theorem dX8_gap_61 : decode cX8_gap 61 = .ok (.istore 6, 2) := by decide +kernel
theorem dX8_gap_63 : decode cX8_gap 63 = .ok (.iload_n 3, 1) := by decide +kernel
theorem dX8_gap_64 : decode cX8_gap 64 = .ok (.aload_n 0, 1) := by decide +kernel
theorem dX8_gap_65 : decode cX8_gap 65 = .ok (.getfield 34, 3) := by decide +kernel
theorem dX8_gap_68 : decode cX8_gap 68 = .ok (.iconst 4, 1) := by decide +kernel
theorem dX8_gap_69 : decode cX8_gap 69 = .ok (.iload_n 1, 1) := by decide +kernel
theorem dX8_gap_70 : decode cX8_gap 70 = .ok (.imul, 1) := by decide +kernel
theorem dX8_gap_71 : decode cX8_gap 71 = .ok (.iload 4, 2) := by decide +kernel
theorem dX8_gap_73 : decode cX8_gap 73 = .ok (.iadd, 1) := by decide +kernel
theorem dX8_gap_74 : decode cX8_gap 74 = .ok (.iaload, 1) := by decide +kernel
theorem dX8_gap_75 : decode cX8_gap 75 = .ok (.ifCond .ne 8, 3) := by decide +kernel
theorem dX8_gap_78 : decode cX8_gap 78 = .ok (.iload 6, 2) := by decide +kernel
theorem dX8_gap_80 : decode cX8_gap 80 = .ok (.goto 6, 3) := by decide +kernel
theorem dX8_gap_83 : decode cX8_gap 83 = .ok (.iload 6, 2) := by decide +kernel
theorem dX8_gap_85 : decode cX8_gap 85 = .ok (.ineg, 1) := by decide +kernel
theorem dX8_gap_86 : decode cX8_gap 86 = .ok (.iadd, 1) := by decide +kernel
theorem dX8_gap_87 : decode cX8_gap 87 = .ok (.istore_n 3, 1) := by decide +kernel
theorem dX8_gap_88 : decode cX8_gap 88 = .ok (.iinc 5 1, 3) := by decide +kernel
theorem dX8_gap_91 : decode cX8_gap 91 = .ok (.goto (-72), 3) := by decide +kernel
theorem dX8_gap_94 : decode cX8_gap 94 = .ok (.iinc 4 1, 3) := by decide +kernel
theorem dX8_gap_97 : decode cX8_gap 97 = .ok (.goto (-92), 3) := by decide +kernel
theorem dX8_gap_100 : decode cX8_gap 100 = .ok (.iload_n 3, 1) := by decide +kernel
theorem dX8_gap_101 : decode cX8_gap 101 = .ok (.ireturn, 1) := by decide +kernel
theorem dX8_isFair_0 : decode cX8_isFair 0 = .ok (.iconst 0, 1) := by decide +kernel
theorem dX8_isFair_1 : decode cX8_isFair 1 = .ok (.istore_n 3, 1) := by decide +kernel
theorem dX8_isFair_2 : decode cX8_isFair 2 = .ok (.iconst 0, 1) := by decide +kernel
theorem dX8_isFair_3 : decode cX8_isFair 3 = .ok (.istore 4, 2) := by decide +kernel
theorem dX8_isFair_5 : decode cX8_isFair 5 = .ok (.iload 4, 2) := by decide +kernel
theorem dX8_isFair_7 : decode cX8_isFair 7 = .ok (.aload_n 0, 1) := by decide +kernel
theorem dX8_isFair_8 : decode cX8_isFair 8 = .ok (.getfield 28, 3) := by decide +kernel
theorem dX8_isFair_11 : decode cX8_isFair 11 = .ok (.iload_n 1, 1) := by decide +kernel
theorem dX8_isFair_12 : decode cX8_isFair 12 = .ok (.iaload, 1) := by decide +kernel
theorem dX8_isFair_13 : decode cX8_isFair 13 = .ok (.if_icmp .ge 25, 3) := by decide +kernel
theorem dX8_isFair_16 : decode cX8_isFair 16 = .ok (.iload_n 3, 1) := by decide +kernel
theorem dX8_isFair_17 : decode cX8_isFair 17 = .ok (.iconst 1, 1) := by decide +kernel
theorem dX8_isFair_18 : decode cX8_isFair 18 = .ok (.aload_n 0, 1) := by decide +kernel
theorem dX8_isFair_19 : decode cX8_isFair 19 = .ok (.getfield 34, 3) := by decide +kernel
theorem dX8_isFair_22 : decode cX8_isFair 22 = .ok (.iconst 4, 1) := by decide +kernel
theorem dX8_isFair_23 : decode cX8_isFair 23 = .ok (.iload_n 1, 1) := by decide +kernel
theorem dX8_isFair_24 : decode cX8_isFair 24 = .ok (.imul, 1) := by decide +kernel
theorem dX8_isFair_25 : decode cX8_isFair 25 = .ok (.iload 4, 2) := by decide +kernel
theorem dX8_isFair_27 : decode cX8_isFair 27 = .ok (.iadd, 1) := by decide +kernel
theorem dX8_isFair_28 : decode cX8_isFair 28 = .ok (.iaload, 1) := by decide +kernel
theorem dX8_isFair_29 : decode cX8_isFair 29 = .ok (.ishl, 1) := by decide +kernel
theorem dX8_isFair_30 : decode cX8_isFair 30 = .ok (.ior, 1) := by decide +kernel
theorem dX8_isFair_31 : decode cX8_isFair 31 = .ok (.istore_n 3, 1) := by decide +kernel
theorem dX8_isFair_32 : decode cX8_isFair 32 = .ok (.iinc 4 1, 3) := by decide +kernel
theorem dX8_isFair_35 : decode cX8_isFair 35 = .ok (.goto (-30), 3) := by decide +kernel
theorem dX8_isFair_38 : decode cX8_isFair 38 = .ok (.iload_n 3, 1) := by decide +kernel
theorem dX8_isFair_39 : decode cX8_isFair 39 = .ok (.iconst 3, 1) := by decide +kernel
theorem dX8_isFair_40 : decode cX8_isFair 40 = .ok (.if_icmp .ne 31, 3) := by decide +kernel
theorem dX8_isFair_43 : decode cX8_isFair 43 = .ok (.aload_n 0, 1) := by decide +kernel
theorem dX8_isFair_44 : decode cX8_isFair 44 = .ok (.iload_n 1, 1) := by decide +kernel
theorem dX8_isFair_45 : decode cX8_isFair 45 = .ok (.iload_n 2, 1) := by decide +kernel
theorem dX8_isFair_46 : decode cX8_isFair 46 = .ok (.invokevirtual 155, 3) := by decide +kernel
theorem dX8_isFair_49 : decode cX8_isFair 49 = .ok (.i2l, 1) := by decide +kernel
theorem dX8_isFair_50 : decode cX8_isFair 50 = .ok (.aload_n 0, 1) := by decide +kernel
theorem dX8_isFair_51 : decode cX8_isFair 51 = .ok (.getfield 43, 3) := by decide +kernel
theorem dX8_isFair_54 : decode cX8_isFair 54 = .ok (.iload_n 1, 1) := by decide +kernel
theorem dX8_isFair_55 : decode cX8_isFair 55 = .ok (.iaload, 1) := by decide +kernel
theorem dX8_isFair_56 : decode cX8_isFair 56 = .ok (.ineg, 1) := by decide +kernel
theorem dX8_isFair_57 : decode cX8_isFair 57 = .ok (.i2l, 1) := by decide +kernel
theorem dX8_isFair_58 : decode cX8_isFair 58 = .ok (.aload_n 0, 1) := by decide +kernel
theorem dX8_isFair_59 : decode cX8_isFair 59 = .ok (.getfield 43, 3) := by decide +kernel
theorem dX8_isFair_62 : decode cX8_isFair 62 = .ok (.iload_n 1, 1) := by decide +kernel
theorem dX8_isFair_63 : decode cX8_isFair 63 = .ok (.iaload, 1) := by decide +kernel
theorem dX8_isFair_64 : decode cX8_isFair 64 = .ok (.i2l, 1) := by decide +kernel
theorem dX8_isFair_65 : decode cX8_isFair 65 = .ok (.invokestatic 109, 3) := by decide +kernel
theorem dX8_isFair_68 : decode cX8_isFair 68 = .ok (.ifCond .eq 7, 3) := by decide +kernel
theorem dX8_isFair_71 : decode cX8_isFair 71 = .ok (.iconst 1, 1) := by decide +kernel
theorem dX8_isFair_72 : decode cX8_isFair 72 = .ok (.goto 4, 3) := by decide +kernel
theorem dX8_isFair_75 : decode cX8_isFair 75 = .ok (.iconst 0, 1) := by decide +kernel
theorem dX8_isFair_76 : decode cX8_isFair 76 = .ok (.ireturn, 1) := by decide +kernel
theorem dX8_codeOf_0 : decode cX8_codeOf 0 = .ok (.iload_n 1, 1) := by decide +kernel
theorem dX8_codeOf_1 : decode cX8_codeOf 1 = .ok (.iload_n 2, 1) := by decide +kernel
theorem dX8_codeOf_2 : decode cX8_codeOf 2 = .ok (.bipush 8, 2) := by decide +kernel
theorem dX8_codeOf_4 : decode cX8_codeOf 4 = .ok (.ishl, 1) := by decide +kernel
theorem dX8_codeOf_5 : decode cX8_codeOf 5 = .ok (.ior, 1) := by decide +kernel
theorem dX8_codeOf_6 : decode cX8_codeOf 6 = .ok (.iload_n 3, 1) := by decide +kernel
theorem dX8_codeOf_7 : decode cX8_codeOf 7 = .ok (.bipush 16, 2) := by decide +kernel
theorem dX8_codeOf_9 : decode cX8_codeOf 9 = .ok (.ishl, 1) := by decide +kernel
theorem dX8_codeOf_10 : decode cX8_codeOf 10 = .ok (.ior, 1) := by decide +kernel
theorem dX8_codeOf_11 : decode cX8_codeOf 11 = .ok (.iload 4, 2) := by decide +kernel
theorem dX8_codeOf_13 : decode cX8_codeOf 13 = .ok (.bipush 24, 2) := by decide +kernel
theorem dX8_codeOf_15 : decode cX8_codeOf 15 = .ok (.ishl, 1) := by decide +kernel
theorem dX8_codeOf_16 : decode cX8_codeOf 16 = .ok (.ior, 1) := by decide +kernel
theorem dX8_codeOf_17 : decode cX8_codeOf 17 = .ok (.ireturn, 1) := by decide +kernel
theorem dX8_isTruth_0 : decode cX8_isTruth 0 = .ok (.iconst 0, 1) := by decide +kernel
theorem dX8_isTruth_1 : decode cX8_isTruth 1 = .ok (.istore_n 1, 1) := by decide +kernel
theorem dX8_isTruth_2 : decode cX8_isTruth 2 = .ok (.iconst 1, 1) := by decide +kernel
theorem dX8_isTruth_3 : decode cX8_isTruth 3 = .ok (.istore_n 2, 1) := by decide +kernel
theorem dX8_isTruth_4 : decode cX8_isTruth 4 = .ok (.iconst 0, 1) := by decide +kernel
theorem dX8_isTruth_5 : decode cX8_isTruth 5 = .ok (.istore_n 3, 1) := by decide +kernel
theorem dX8_isTruth_6 : decode cX8_isTruth 6 = .ok (.iload_n 3, 1) := by decide +kernel
theorem dX8_isTruth_7 : decode cX8_isTruth 7 = .ok (.aload_n 0, 1) := by decide +kernel
theorem dX8_isTruth_8 : decode cX8_isTruth 8 = .ok (.getfield 28, 3) := by decide +kernel
theorem dX8_isTruth_11 : decode cX8_isTruth 11 = .ok (.iconst 1, 1) := by decide +kernel
theorem dX8_isTruth_12 : decode cX8_isTruth 12 = .ok (.iaload, 1) := by decide +kernel
theorem dX8_isTruth_13 : decode cX8_isTruth 13 = .ok (.if_icmp .ge 59, 3) := by decide +kernel
theorem dX8_isTruth_16 : decode cX8_isTruth 16 = .ok (.iload_n 2, 1) := by decide +kernel
theorem dX8_isTruth_17 : decode cX8_isTruth 17 = .ok (.ifCond .eq 38, 3) := by decide +kernel
theorem dX8_isTruth_20 : decode cX8_isTruth 20 = .ok (.aload_n 0, 1) := by decide +kernel
theorem dX8_isTruth_21 : decode cX8_isTruth 21 = .ok (.getfield 52, 3) := by decide +kernel
theorem dX8_isTruth_24 : decode cX8_isTruth 24 = .ok (.iload_n 3, 1) := by decide +kernel
theorem dX8_isTruth_25 : decode cX8_isTruth 25 = .ok (.iaload, 1) := by decide +kernel
theorem dX8_isTruth_26 : decode cX8_isTruth 26 = .ok (.invokestatic 159, 3) := by decide +kernel
theorem dX8_isTruth_29 : decode cX8_isTruth 29 = .ok (.aload_n 0, 1) := by decide +kernel
theorem dX8_isTruth_30 : decode cX8_isTruth 30 = .ok (.getfield 37, 3) := by decide +kernel
theorem dX8_isTruth_33 : decode cX8_isTruth 33 = .ok (.iconst 4, 1) := by decide +kernel
theorem dX8_isTruth_34 : decode cX8_isTruth 34 = .ok (.iload_n 3, 1) := by decide +kernel
theorem dX8_isTruth_35 : decode cX8_isTruth 35 = .ok (.iadd, 1) := by decide +kernel
theorem dX8_isTruth_36 : decode cX8_isTruth 36 = .ok (.iaload, 1) := by decide +kernel
theorem dX8_isTruth_37 : decode cX8_isTruth 37 = .ok (.if_icmp .ne 18, 3) := by decide +kernel
theorem dX8_isTruth_40 : decode cX8_isTruth 40 = .ok (.iload_n 1, 1) := by decide +kernel
theorem dX8_isTruth_41 : decode cX8_isTruth 41 = .ok (.aload_n 0, 1) := by decide +kernel
theorem dX8_isTruth_42 : decode cX8_isTruth 42 = .ok (.getfield 52, 3) := by decide +kernel
theorem dX8_isTruth_45 : decode cX8_isTruth 45 = .ok (.iload_n 3, 1) := by decide +kernel
theorem dX8_isTruth_46 : decode cX8_isTruth 46 = .ok (.iaload, 1) := by decide +kernel
theorem dX8_isTruth_47 : decode cX8_isTruth 47 = .ok (.iand, 1) := by decide +kernel
theorem dX8_isTruth_48 : decode cX8_isTruth 48 = .ok (.ifCond .ne 7, 3) := by decide +kernel
theorem dX8_isTruth_51 : decode cX8_isTruth 51 = .ok (.iconst 1, 1) := by decide +kernel
theorem dX8_isTruth_52 : decode cX8_isTruth 52 = .ok (.goto 4, 3) := by decide +kernel
theorem dX8_isTruth_55 : decode cX8_isTruth 55 = .ok (.iconst 0, 1) := by decide +kernel
theorem dX8_isTruth_56 : decode cX8_isTruth 56 = .ok (.istore_n 2, 1) := by decide +kernel
theorem dX8_isTruth_57 : decode cX8_isTruth 57 = .ok (.iload_n 1, 1) := by decide +kernel
theorem dX8_isTruth_58 : decode cX8_isTruth 58 = .ok (.aload_n 0, 1) := by decide +kernel
theorem dX8_isTruth_59 : decode cX8_isTruth 59 = .ok (.getfield 52, 3) := by decide +kernel
theorem dX8_isTruth_62 : decode cX8_isTruth 62 = .ok (.iload_n 3, 1) := by decide +kernel
theorem dX8_isTruth_63 : decode cX8_isTruth 63 = .ok (.iaload, 1) := by decide +kernel
theorem dX8_isTruth_64 : decode cX8_isTruth 64 = .ok (.ior, 1) := by decide +kernel
theorem dX8_isTruth_65 : decode cX8_isTruth 65 = .ok (.istore_n 1, 1) := by decide +kernel
theorem dX8_isTruth_66 : decode cX8_isTruth 66 = .ok (.iinc 3 1, 3) := by decide +kernel
theorem dX8_isTruth_69 : decode cX8_isTruth 69 = .ok (.goto (-63), 3) := by decide +kernel
theorem dX8_isTruth_72 : decode cX8_isTruth 72 = .ok (.iload_n 2, 1) := by decide +kernel
theorem dX8_isTruth_73 : decode cX8_isTruth 73 = .ok (.ifCond .eq 43, 3) := by decide +kernel
theorem dX8_isTruth_76 : decode cX8_isTruth 76 = .ok (.aload_n 0, 1) := by decide +kernel
theorem dX8_isTruth_77 : decode cX8_isTruth 77 = .ok (.iconst 1, 1) := by decide +kernel
theorem dX8_isTruth_78 : decode cX8_isTruth 78 = .ok (.aload_n 0, 1) := by decide +kernel
theorem dX8_isTruth_79 : decode cX8_isTruth 79 = .ok (.aload_n 0, 1) := by decide +kernel
theorem dX8_isTruth_80 : decode cX8_isTruth 80 = .ok (.getfield 52, 3) := by decide +kernel
theorem dX8_isTruth_83 : decode cX8_isTruth 83 = .ok (.iconst 0, 1) := by decide +kernel
theorem dX8_isTruth_84 : decode cX8_isTruth 84 = .ok (.iaload, 1) := by decide +kernel
theorem dX8_isTruth_85 : decode cX8_isTruth 85 = .ok (.aload_n 0, 1) := by decide +kernel
theorem dX8_isTruth_86 : decode cX8_isTruth 86 = .ok (.getfield 52, 3) := by decide +kernel
theorem dX8_isTruth_89 : decode cX8_isTruth 89 = .ok (.iconst 1, 1) := by decide +kernel
theorem dX8_isTruth_90 : decode cX8_isTruth 90 = .ok (.iaload, 1) := by decide +kernel
theorem dX8_isTruth_91 : decode cX8_isTruth 91 = .ok (.aload_n 0, 1) := by decide +kernel
theorem dX8_isTruth_92 : decode cX8_isTruth 92 = .ok (.getfield 52, 3) := by decide +kernel
theorem dX8_isTruth_95 : decode cX8_isTruth 95 = .ok (.iconst 2, 1) := by decide +kernel
theorem dX8_isTruth_96 : decode cX8_isTruth 96 = .ok (.iaload, 1) := by decide +kernel
theorem dX8_isTruth_97 : decode cX8_isTruth 97 = .ok (.aload_n 0, 1) := by decide +kernel
theorem dX8_isTruth_98 : decode cX8_isTruth 98 = .ok (.getfield 52, 3) := by decide +kernel
theorem dX8_isTruth_101 : decode cX8_isTruth 101 = .ok (.iconst 3, 1) := by decide +kernel
theorem dX8_isTruth_102 : decode cX8_isTruth 102 = .ok (.iaload, 1) := by decide +kernel
theorem dX8_isTruth_103 : decode cX8_isTruth 103 = .ok (.invokevirtual 162, 3) := by decide +kernel
theorem dX8_isTruth_106 : decode cX8_isTruth 106 = .ok (.invokevirtual 166, 3) := by decide +kernel
theorem dX8_isTruth_109 : decode cX8_isTruth 109 = .ok (.ifCond .eq 7, 3) := by decide +kernel
theorem dX8_isTruth_112 : decode cX8_isTruth 112 = .ok (.iconst 1, 1) := by decide +kernel
theorem dX8_isTruth_113 : decode cX8_isTruth 113 = .ok (.goto 4, 3) := by decide +kernel
theorem dX8_isTruth_116 : decode cX8_isTruth 116 = .ok (.iconst 0, 1) := by decide +kernel
theorem dX8_isTruth_117 : decode cX8_isTruth 117 = .ok (.ireturn, 1) := by decide +kernel
theorem dX8_lay_0 : decode cX8_lay 0 = .ok (.aload_n 0, 1) := by decide +kernel
theorem dX8_lay_1 : decode cX8_lay 1 = .ok (.invokevirtual 147, 3) := by decide +kernel
theorem dX8_lay_4 : decode cX8_lay 4 = .ok (.bipush (-4), 2) := by decide +kernel
theorem dX8_lay_6 : decode cX8_lay 6 = .ok (.if_icmp .ne 19, 3) := by decide +kernel
theorem dX8_lay_9 : decode cX8_lay 9 = .ok (.aload_n 0, 1) := by decide +kernel
theorem dX8_lay_10 : decode cX8_lay 10 = .ok (.getfield 28, 3) := by decide +kernel
theorem dX8_lay_13 : decode cX8_lay 13 = .ok (.iconst 1, 1) := by decide +kernel
theorem dX8_lay_14 : decode cX8_lay 14 = .ok (.iaload, 1) := by decide +kernel
theorem dX8_lay_15 : decode cX8_lay 15 = .ok (.ifCond .eq 10, 3) := by decide +kernel
theorem dX8_lay_18 : decode cX8_lay 18 = .ok (.aload_n 0, 1) := by decide +kernel
theorem dX8_lay_19 : decode cX8_lay 19 = .ok (.invokevirtual 169, 3) := by decide +kernel
theorem dX8_lay_22 : decode cX8_lay 22 = .ok (.ifCond .ne 6, 3) := by decide +kernel
theorem dX8_lay_25 : decode cX8_lay 25 = .ok (.bipush (-2), 2) := by decide +kernel
theorem dX8_lay_27 : decode cX8_lay 27 = .ok (.ireturn, 1) := by decide +kernel
theorem dX8_lay_28 : decode cX8_lay 28 = .ok (.aload_n 0, 1) := by decide +kernel
theorem dX8_lay_29 : decode cX8_lay 29 = .ok (.getfield 13, 3) := by decide +kernel
theorem dX8_lay_32 : decode cX8_lay 32 = .ok (.iconst 0, 1) := by decide +kernel
theorem dX8_lay_33 : decode cX8_lay 33 = .ok (.aload_n 0, 1) := by decide +kernel
theorem dX8_lay_34 : decode cX8_lay 34 = .ok (.getfield 13, 3) := by decide +kernel
theorem dX8_lay_37 : decode cX8_lay 37 = .ok (.iconst 1, 1) := by decide +kernel
theorem dX8_lay_38 : decode cX8_lay 38 = .ok (.iaload, 1) := by decide +kernel
theorem dX8_lay_39 : decode cX8_lay 39 = .ok (.iastore, 1) := by decide +kernel
theorem dX8_lay_40 : decode cX8_lay 40 = .ok (.aload_n 0, 1) := by decide +kernel
theorem dX8_lay_41 : decode cX8_lay 41 = .ok (.getfield 28, 3) := by decide +kernel
theorem dX8_lay_44 : decode cX8_lay 44 = .ok (.iconst 0, 1) := by decide +kernel
theorem dX8_lay_45 : decode cX8_lay 45 = .ok (.aload_n 0, 1) := by decide +kernel
theorem dX8_lay_46 : decode cX8_lay 46 = .ok (.getfield 28, 3) := by decide +kernel
theorem dX8_lay_49 : decode cX8_lay 49 = .ok (.iconst 1, 1) := by decide +kernel
theorem dX8_lay_50 : decode cX8_lay 50 = .ok (.iaload, 1) := by decide +kernel
theorem dX8_lay_51 : decode cX8_lay 51 = .ok (.iastore, 1) := by decide +kernel
theorem dX8_lay_52 : decode cX8_lay 52 = .ok (.aload_n 0, 1) := by decide +kernel
theorem dX8_lay_53 : decode cX8_lay 53 = .ok (.getfield 40, 3) := by decide +kernel
theorem dX8_lay_56 : decode cX8_lay 56 = .ok (.iconst 0, 1) := by decide +kernel
theorem dX8_lay_57 : decode cX8_lay 57 = .ok (.aload_n 0, 1) := by decide +kernel
theorem dX8_lay_58 : decode cX8_lay 58 = .ok (.getfield 40, 3) := by decide +kernel
theorem dX8_lay_61 : decode cX8_lay 61 = .ok (.iconst 1, 1) := by decide +kernel
theorem dX8_lay_62 : decode cX8_lay 62 = .ok (.iaload, 1) := by decide +kernel
theorem dX8_lay_63 : decode cX8_lay 63 = .ok (.iastore, 1) := by decide +kernel
theorem dX8_lay_64 : decode cX8_lay 64 = .ok (.aload_n 0, 1) := by decide +kernel
theorem dX8_lay_65 : decode cX8_lay 65 = .ok (.getfield 43, 3) := by decide +kernel
theorem dX8_lay_68 : decode cX8_lay 68 = .ok (.iconst 0, 1) := by decide +kernel
theorem dX8_lay_69 : decode cX8_lay 69 = .ok (.aload_n 0, 1) := by decide +kernel
theorem dX8_lay_70 : decode cX8_lay 70 = .ok (.getfield 43, 3) := by decide +kernel
theorem dX8_lay_73 : decode cX8_lay 73 = .ok (.iconst 1, 1) := by decide +kernel
theorem dX8_lay_74 : decode cX8_lay 74 = .ok (.iaload, 1) := by decide +kernel
theorem dX8_lay_75 : decode cX8_lay 75 = .ok (.iastore, 1) := by decide +kernel
theorem dX8_lay_76 : decode cX8_lay 76 = .ok (.iconst 0, 1) := by decide +kernel
theorem dX8_lay_77 : decode cX8_lay 77 = .ok (.istore_n 1, 1) := by decide +kernel
theorem dX8_lay_78 : decode cX8_lay 78 = .ok (.iload_n 1, 1) := by decide +kernel
theorem dX8_lay_79 : decode cX8_lay 79 = .ok (.bipush 8, 2) := by decide +kernel
theorem dX8_lay_81 : decode cX8_lay 81 = .ok (.if_icmp .ge 69, 3) := by decide +kernel
theorem dX8_lay_84 : decode cX8_lay 84 = .ok (.aload_n 0, 1) := by decide +kernel
theorem dX8_lay_85 : decode cX8_lay 85 = .ok (.getfield 16, 3) := by decide +kernel
theorem dX8_lay_88 : decode cX8_lay 88 = .ok (.iload_n 1, 1) := by decide +kernel
theorem dX8_lay_89 : decode cX8_lay 89 = .ok (.aload_n 0, 1) := by decide +kernel
theorem dX8_lay_90 : decode cX8_lay 90 = .ok (.getfield 16, 3) := by decide +kernel
theorem dX8_lay_93 : decode cX8_lay 93 = .ok (.bipush 8, 2) := by decide +kernel
theorem dX8_lay_95 : decode cX8_lay 95 = .ok (.iload_n 1, 1) := by decide +kernel
theorem dX8_lay_96 : decode cX8_lay 96 = .ok (.iadd, 1) := by decide +kernel
theorem dX8_lay_97 : decode cX8_lay 97 = .ok (.iaload, 1) := by decide +kernel
theorem dX8_lay_98 : decode cX8_lay 98 = .ok (.iastore, 1) := by decide +kernel
theorem dX8_lay_99 : decode cX8_lay 99 = .ok (.aload_n 0, 1) := by decide +kernel
theorem dX8_lay_100 : decode cX8_lay 100 = .ok (.getfield 19, 3) := by decide +kernel
theorem dX8_lay_103 : decode cX8_lay 103 = .ok (.iload_n 1, 1) := by decide +kernel
theorem dX8_lay_104 : decode cX8_lay 104 = .ok (.aload_n 0, 1) := by decide +kernel
theorem dX8_lay_105 : decode cX8_lay 105 = .ok (.getfield 19, 3) := by decide +kernel
theorem dX8_lay_108 : decode cX8_lay 108 = .ok (.bipush 8, 2) := by decide +kernel
theorem dX8_lay_110 : decode cX8_lay 110 = .ok (.iload_n 1, 1) := by decide +kernel
theorem dX8_lay_111 : decode cX8_lay 111 = .ok (.iadd, 1) := by decide +kernel
theorem dX8_lay_112 : decode cX8_lay 112 = .ok (.iaload, 1) := by decide +kernel
theorem dX8_lay_113 : decode cX8_lay 113 = .ok (.iastore, 1) := by decide +kernel
theorem dX8_lay_114 : decode cX8_lay 114 = .ok (.aload_n 0, 1) := by decide +kernel
theorem dX8_lay_115 : decode cX8_lay 115 = .ok (.getfield 22, 3) := by decide +kernel
theorem dX8_lay_118 : decode cX8_lay 118 = .ok (.iload_n 1, 1) := by decide +kernel
theorem dX8_lay_119 : decode cX8_lay 119 = .ok (.aload_n 0, 1) := by decide +kernel
theorem dX8_lay_120 : decode cX8_lay 120 = .ok (.getfield 22, 3) := by decide +kernel
theorem dX8_lay_123 : decode cX8_lay 123 = .ok (.bipush 8, 2) := by decide +kernel
theorem dX8_lay_125 : decode cX8_lay 125 = .ok (.iload_n 1, 1) := by decide +kernel
theorem dX8_lay_126 : decode cX8_lay 126 = .ok (.iadd, 1) := by decide +kernel
theorem dX8_lay_127 : decode cX8_lay 127 = .ok (.iaload, 1) := by decide +kernel
theorem dX8_lay_128 : decode cX8_lay 128 = .ok (.iastore, 1) := by decide +kernel
theorem dX8_lay_129 : decode cX8_lay 129 = .ok (.aload_n 0, 1) := by decide +kernel
theorem dX8_lay_130 : decode cX8_lay 130 = .ok (.getfield 25, 3) := by decide +kernel
theorem dX8_lay_133 : decode cX8_lay 133 = .ok (.iload_n 1, 1) := by decide +kernel
theorem dX8_lay_134 : decode cX8_lay 134 = .ok (.aload_n 0, 1) := by decide +kernel
theorem dX8_lay_135 : decode cX8_lay 135 = .ok (.getfield 25, 3) := by decide +kernel
theorem dX8_lay_138 : decode cX8_lay 138 = .ok (.bipush 8, 2) := by decide +kernel
theorem dX8_lay_140 : decode cX8_lay 140 = .ok (.iload_n 1, 1) := by decide +kernel
theorem dX8_lay_141 : decode cX8_lay 141 = .ok (.iadd, 1) := by decide +kernel
theorem dX8_lay_142 : decode cX8_lay 142 = .ok (.iaload, 1) := by decide +kernel
theorem dX8_lay_143 : decode cX8_lay 143 = .ok (.iastore, 1) := by decide +kernel
theorem dX8_lay_144 : decode cX8_lay 144 = .ok (.iinc 1 1, 3) := by decide +kernel
theorem dX8_lay_147 : decode cX8_lay 147 = .ok (.goto (-69), 3) := by decide +kernel
theorem dX8_lay_150 : decode cX8_lay 150 = .ok (.iconst 0, 1) := by decide +kernel
theorem dX8_lay_151 : decode cX8_lay 151 = .ok (.istore_n 1, 1) := by decide +kernel
theorem dX8_lay_152 : decode cX8_lay 152 = .ok (.iload_n 1, 1) := by decide +kernel
theorem dX8_lay_153 : decode cX8_lay 153 = .ok (.iconst 4, 1) := by decide +kernel
theorem dX8_lay_154 : decode cX8_lay 154 = .ok (.if_icmp .ge 79, 3) := by decide +kernel
theorem dX8_lay_157 : decode cX8_lay 157 = .ok (.aload_n 0, 1) := by decide +kernel
theorem dX8_lay_158 : decode cX8_lay 158 = .ok (.getfield 31, 3) := by decide +kernel
theorem dX8_lay_161 : decode cX8_lay 161 = .ok (.iload_n 1, 1) := by decide +kernel
theorem dX8_lay_162 : decode cX8_lay 162 = .ok (.aload_n 0, 1) := by decide +kernel
theorem dX8_lay_163 : decode cX8_lay 163 = .ok (.getfield 31, 3) := by decide +kernel
theorem dX8_lay_166 : decode cX8_lay 166 = .ok (.iconst 4, 1) := by decide +kernel
theorem dX8_lay_167 : decode cX8_lay 167 = .ok (.iload_n 1, 1) := by decide +kernel
theorem dX8_lay_168 : decode cX8_lay 168 = .ok (.iadd, 1) := by decide +kernel
theorem dX8_lay_169 : decode cX8_lay 169 = .ok (.iaload, 1) := by decide +kernel
theorem dX8_lay_170 : decode cX8_lay 170 = .ok (.iastore, 1) := by decide +kernel
theorem dX8_lay_171 : decode cX8_lay 171 = .ok (.aload_n 0, 1) := by decide +kernel
theorem dX8_lay_172 : decode cX8_lay 172 = .ok (.getfield 34, 3) := by decide +kernel
theorem dX8_lay_175 : decode cX8_lay 175 = .ok (.iload_n 1, 1) := by decide +kernel
theorem dX8_lay_176 : decode cX8_lay 176 = .ok (.aload_n 0, 1) := by decide +kernel
theorem dX8_lay_177 : decode cX8_lay 177 = .ok (.getfield 34, 3) := by decide +kernel
theorem dX8_lay_180 : decode cX8_lay 180 = .ok (.iconst 4, 1) := by decide +kernel
theorem dX8_lay_181 : decode cX8_lay 181 = .ok (.iload_n 1, 1) := by decide +kernel
theorem dX8_lay_182 : decode cX8_lay 182 = .ok (.iadd, 1) := by decide +kernel
theorem dX8_lay_183 : decode cX8_lay 183 = .ok (.iaload, 1) := by decide +kernel
theorem dX8_lay_184 : decode cX8_lay 184 = .ok (.iastore, 1) := by decide +kernel
theorem dX8_lay_185 : decode cX8_lay 185 = .ok (.aload_n 0, 1) := by decide +kernel
theorem dX8_lay_186 : decode cX8_lay 186 = .ok (.getfield 37, 3) := by decide +kernel
theorem dX8_lay_189 : decode cX8_lay 189 = .ok (.iload_n 1, 1) := by decide +kernel
theorem dX8_lay_190 : decode cX8_lay 190 = .ok (.aload_n 0, 1) := by decide +kernel
theorem dX8_lay_191 : decode cX8_lay 191 = .ok (.getfield 37, 3) := by decide +kernel
theorem dX8_lay_194 : decode cX8_lay 194 = .ok (.iconst 4, 1) := by decide +kernel
theorem dX8_lay_195 : decode cX8_lay 195 = .ok (.iload_n 1, 1) := by decide +kernel
theorem dX8_lay_196 : decode cX8_lay 196 = .ok (.iadd, 1) := by decide +kernel
theorem dX8_lay_197 : decode cX8_lay 197 = .ok (.iaload, 1) := by decide +kernel
theorem dX8_lay_198 : decode cX8_lay 198 = .ok (.iastore, 1) := by decide +kernel
theorem dX8_lay_199 : decode cX8_lay 199 = .ok (.aload_n 0, 1) := by decide +kernel
theorem dX8_lay_200 : decode cX8_lay 200 = .ok (.getfield 46, 3) := by decide +kernel
theorem dX8_lay_203 : decode cX8_lay 203 = .ok (.iload_n 1, 1) := by decide +kernel
theorem dX8_lay_204 : decode cX8_lay 204 = .ok (.aload_n 0, 1) := by decide +kernel
theorem dX8_lay_205 : decode cX8_lay 205 = .ok (.getfield 46, 3) := by decide +kernel
theorem dX8_lay_208 : decode cX8_lay 208 = .ok (.iconst 4, 1) := by decide +kernel
theorem dX8_lay_209 : decode cX8_lay 209 = .ok (.iload_n 1, 1) := by decide +kernel
theorem dX8_lay_210 : decode cX8_lay 210 = .ok (.iadd, 1) := by decide +kernel
theorem dX8_lay_211 : decode cX8_lay 211 = .ok (.iaload, 1) := by decide +kernel
theorem dX8_lay_212 : decode cX8_lay 212 = .ok (.iastore, 1) := by decide +kernel
theorem dX8_lay_213 : decode cX8_lay 213 = .ok (.aload_n 0, 1) := by decide +kernel
theorem dX8_lay_214 : decode cX8_lay 214 = .ok (.getfield 49, 3) := by decide +kernel
theorem dX8_lay_217 : decode cX8_lay 217 = .ok (.iload_n 1, 1) := by decide +kernel
theorem dX8_lay_218 : decode cX8_lay 218 = .ok (.aload_n 0, 1) := by decide +kernel
theorem dX8_lay_219 : decode cX8_lay 219 = .ok (.getfield 49, 3) := by decide +kernel
theorem dX8_lay_222 : decode cX8_lay 222 = .ok (.iconst 4, 1) := by decide +kernel
theorem dX8_lay_223 : decode cX8_lay 223 = .ok (.iload_n 1, 1) := by decide +kernel
theorem dX8_lay_224 : decode cX8_lay 224 = .ok (.iadd, 1) := by decide +kernel
theorem dX8_lay_225 : decode cX8_lay 225 = .ok (.iaload, 1) := by decide +kernel
theorem dX8_lay_226 : decode cX8_lay 226 = .ok (.iastore, 1) := by decide +kernel
theorem dX8_lay_227 : decode cX8_lay 227 = .ok (.iinc 1 1, 3) := by decide +kernel
theorem dX8_lay_230 : decode cX8_lay 230 = .ok (.goto (-78), 3) := by decide +kernel
theorem dX8_lay_233 : decode cX8_lay 233 = .ok (.aload_n 0, 1) := by decide +kernel
theorem dX8_lay_234 : decode cX8_lay 234 = .ok (.invokevirtual 102, 3) := by decide +kernel
theorem dX8_lay_237 : decode cX8_lay 237 = .ok (.aload_n 0, 1) := by decide +kernel
theorem dX8_lay_238 : decode cX8_lay 238 = .ok (.getfield 172, 3) := by decide +kernel
theorem dX8_lay_241 : decode cX8_lay 241 = .ok (.ireturn, 1) := by decide +kernel
theorem dX8_layWorlds_0 : decode cX8_layWorlds 0 = .ok (.aload_n 0, 1) := by decide +kernel
theorem dX8_layWorlds_1 : decode cX8_layWorlds 1 = .ok (.iconst 1, 1) := by decide +kernel
theorem dX8_layWorlds_2 : decode cX8_layWorlds 2 = .ok (.putfield 172, 3) := by decide +kernel
theorem dX8_layWorlds_5 : decode cX8_layWorlds 5 = .ok (.aload_n 0, 1) := by decide +kernel
theorem dX8_layWorlds_6 : decode cX8_layWorlds 6 = .ok (.getfield 55, 3) := by decide +kernel
theorem dX8_layWorlds_9 : decode cX8_layWorlds 9 = .ok (.iconst 0, 1) := by decide +kernel
theorem dX8_layWorlds_10 : decode cX8_layWorlds 10 = .ok (.iconst 0, 1) := by decide +kernel
theorem dX8_layWorlds_11 : decode cX8_layWorlds 11 = .ok (.iastore, 1) := by decide +kernel
theorem dX8_layWorlds_12 : decode cX8_layWorlds 12 = .ok (.iconst 0, 1) := by decide +kernel
theorem dX8_layWorlds_13 : decode cX8_layWorlds 13 = .ok (.istore_n 1, 1) := by decide +kernel
theorem dX8_layWorlds_14 : decode cX8_layWorlds 14 = .ok (.iload_n 1, 1) := by decide +kernel
theorem dX8_layWorlds_15 : decode cX8_layWorlds 15 = .ok (.aload_n 0, 1) := by decide +kernel
theorem dX8_layWorlds_16 : decode cX8_layWorlds 16 = .ok (.getfield 28, 3) := by decide +kernel
theorem dX8_layWorlds_19 : decode cX8_layWorlds 19 = .ok (.iconst 0, 1) := by decide +kernel
theorem dX8_layWorlds_20 : decode cX8_layWorlds 20 = .ok (.iaload, 1) := by decide +kernel
theorem dX8_layWorlds_21 : decode cX8_layWorlds 21 = .ok (.if_icmp .ge 156, 3) := by decide +kernel
theorem dX8_layWorlds_24 : decode cX8_layWorlds 24 = .ok (.iconst 0, 1) := by decide +kernel
theorem dX8_layWorlds_25 : decode cX8_layWorlds 25 = .ok (.istore_n 2, 1) := by decide +kernel
theorem dX8_layWorlds_26 : decode cX8_layWorlds 26 = .ok (.iconst 0, 1) := by decide +kernel
theorem dX8_layWorlds_27 : decode cX8_layWorlds 27 = .ok (.istore_n 3, 1) := by decide +kernel
theorem dX8_layWorlds_28 : decode cX8_layWorlds 28 = .ok (.iload_n 3, 1) := by decide +kernel
theorem dX8_layWorlds_29 : decode cX8_layWorlds 29 = .ok (.aload_n 0, 1) := by decide +kernel
theorem dX8_layWorlds_30 : decode cX8_layWorlds 30 = .ok (.getfield 172, 3) := by decide +kernel
theorem dX8_layWorlds_33 : decode cX8_layWorlds 33 = .ok (.if_icmp .ge 108, 3) := by decide +kernel
theorem dX8_layWorlds_36 : decode cX8_layWorlds 36 = .ok (.aload_n 0, 1) := by decide +kernel
theorem dX8_layWorlds_37 : decode cX8_layWorlds 37 = .ok (.getfield 55, 3) := by decide +kernel
theorem dX8_layWorlds_40 : decode cX8_layWorlds 40 = .ok (.iload_n 3, 1) := by decide +kernel
theorem dX8_layWorlds_41 : decode cX8_layWorlds 41 = .ok (.iaload, 1) := by decide +kernel
theorem dX8_layWorlds_42 : decode cX8_layWorlds 42 = .ok (.aload_n 0, 1) := by decide +kernel
theorem dX8_layWorlds_43 : decode cX8_layWorlds 43 = .ok (.getfield 55, 3) := by decide +kernel
theorem dX8_layWorlds_46 : decode cX8_layWorlds 46 = .ok (.iload_n 3, 1) := by decide +kernel
theorem dX8_layWorlds_47 : decode cX8_layWorlds 47 = .ok (.iaload, 1) := by decide +kernel
theorem dX8_layWorlds_48 : decode cX8_layWorlds 48 = .ok (.bipush 8, 2) := by decide +kernel
theorem dX8_layWorlds_50 : decode cX8_layWorlds 50 = .ok (.ishr, 1) := by decide +kernel
theorem dX8_layWorlds_51 : decode cX8_layWorlds 51 = .ok (.ior, 1) := by decide +kernel
theorem dX8_layWorlds_52 : decode cX8_layWorlds 52 = .ok (.aload_n 0, 1) := by decide +kernel
theorem dX8_layWorlds_53 : decode cX8_layWorlds 53 = .ok (.getfield 55, 3) := by decide +kernel
theorem dX8_layWorlds_56 : decode cX8_layWorlds 56 = .ok (.iload_n 3, 1) := by decide +kernel
theorem dX8_layWorlds_57 : decode cX8_layWorlds 57 = .ok (.iaload, 1) := by decide +kernel
theorem dX8_layWorlds_58 : decode cX8_layWorlds 58 = .ok (.bipush 16, 2) := by decide +kernel
theorem dX8_layWorlds_60 : decode cX8_layWorlds 60 = .ok (.ishr, 1) := by decide +kernel
theorem dX8_layWorlds_61 : decode cX8_layWorlds 61 = .ok (.ior, 1) := by decide +kernel
theorem dX8_layWorlds_62 : decode cX8_layWorlds 62 = .ok (.sipush 255, 3) := by decide +kernel
theorem dX8_layWorlds_65 : decode cX8_layWorlds 65 = .ok (.iand, 1) := by decide +kernel
theorem dX8_layWorlds_66 : decode cX8_layWorlds 66 = .ok (.istore 4, 2) := by decide +kernel
theorem dX8_layWorlds_68 : decode cX8_layWorlds 68 = .ok (.iconst 1, 1) := by decide +kernel
theorem dX8_layWorlds_69 : decode cX8_layWorlds 69 = .ok (.istore 5, 2) := by decide +kernel
theorem dX8_layWorlds_71 : decode cX8_layWorlds 71 = .ok (.iload 5, 2) := by decide +kernel
theorem dX8_layWorlds_73 : decode cX8_layWorlds 73 = .ok (.iconst 1, 1) := by decide +kernel
theorem dX8_layWorlds_74 : decode cX8_layWorlds 74 = .ok (.aload_n 0, 1) := by decide +kernel
theorem dX8_layWorlds_75 : decode cX8_layWorlds 75 = .ok (.getfield 13, 3) := by decide +kernel
theorem dX8_layWorlds_78 : decode cX8_layWorlds 78 = .ok (.iconst 0, 1) := by decide +kernel
theorem dX8_layWorlds_79 : decode cX8_layWorlds 79 = .ok (.iaload, 1) := by decide +kernel
theorem dX8_layWorlds_80 : decode cX8_layWorlds 80 = .ok (.ishl, 1) := by decide +kernel
theorem dX8_layWorlds_81 : decode cX8_layWorlds 81 = .ok (.if_icmp .ge 54, 3) := by decide +kernel
theorem dX8_layWorlds_84 : decode cX8_layWorlds 84 = .ok (.iload 5, 2) := by decide +kernel
theorem dX8_layWorlds_86 : decode cX8_layWorlds 86 = .ok (.invokestatic 159, 3) := by decide +kernel
theorem dX8_layWorlds_89 : decode cX8_layWorlds 89 = .ok (.aload_n 0, 1) := by decide +kernel
theorem dX8_layWorlds_90 : decode cX8_layWorlds 90 = .ok (.getfield 37, 3) := by decide +kernel
theorem dX8_layWorlds_93 : decode cX8_layWorlds 93 = .ok (.iload_n 1, 1) := by decide +kernel
theorem dX8_layWorlds_94 : decode cX8_layWorlds 94 = .ok (.iaload, 1) := by decide +kernel
theorem dX8_layWorlds_95 : decode cX8_layWorlds 95 = .ok (.if_icmp .ne 34, 3) := by decide +kernel
theorem dX8_layWorlds_98 : decode cX8_layWorlds 98 = .ok (.iload 5, 2) := by decide +kernel
theorem dX8_layWorlds_100 : decode cX8_layWorlds 100 = .ok (.iload 4, 2) := by decide +kernel
theorem dX8_layWorlds_102 : decode cX8_layWorlds 102 = .ok (.iand, 1) := by decide +kernel
theorem dX8_layWorlds_103 : decode cX8_layWorlds 103 = .ok (.ifCond .ne 26, 3) := by decide +kernel
theorem dX8_layWorlds_106 : decode cX8_layWorlds 106 = .ok (.aload_n 0, 1) := by decide +kernel
theorem dX8_layWorlds_107 : decode cX8_layWorlds 107 = .ok (.getfield 70, 3) := by decide +kernel
theorem dX8_layWorlds_110 : decode cX8_layWorlds 110 = .ok (.iload_n 2, 1) := by decide +kernel
theorem dX8_layWorlds_111 : decode cX8_layWorlds 111 = .ok (.aload_n 0, 1) := by decide +kernel
theorem dX8_layWorlds_112 : decode cX8_layWorlds 112 = .ok (.getfield 55, 3) := by decide +kernel
theorem dX8_layWorlds_115 : decode cX8_layWorlds 115 = .ok (.iload_n 3, 1) := by decide +kernel
theorem dX8_layWorlds_116 : decode cX8_layWorlds 116 = .ok (.iaload, 1) := by decide +kernel
theorem dX8_layWorlds_117 : decode cX8_layWorlds 117 = .ok (.iload 5, 2) := by decide +kernel
theorem dX8_layWorlds_119 : decode cX8_layWorlds 119 = .ok (.bipush 8, 2) := by decide +kernel
theorem dX8_layWorlds_121 : decode cX8_layWorlds 121 = .ok (.iload_n 1, 1) := by decide +kernel
theorem dX8_layWorlds_122 : decode cX8_layWorlds 122 = .ok (.imul, 1) := by decide +kernel
theorem dX8_layWorlds_123 : decode cX8_layWorlds 123 = .ok (.ishl, 1) := by decide +kernel
theorem dX8_layWorlds_124 : decode cX8_layWorlds 124 = .ok (.ior, 1) := by decide +kernel
theorem dX8_layWorlds_125 : decode cX8_layWorlds 125 = .ok (.iastore, 1) := by decide +kernel
theorem dX8_layWorlds_126 : decode cX8_layWorlds 126 = .ok (.iinc 2 1, 3) := by decide +kernel
theorem dX8_layWorlds_129 : decode cX8_layWorlds 129 = .ok (.iinc 5 1, 3) := by decide +kernel
theorem dX8_layWorlds_132 : decode cX8_layWorlds 132 = .ok (.goto (-61), 3) := by decide +kernel
theorem dX8_layWorlds_135 : decode cX8_layWorlds 135 = .ok (.iinc 3 1, 3) := by decide +kernel
theorem dX8_layWorlds_138 : decode cX8_layWorlds 138 = .ok (.goto (-110), 3) := by decide +kernel
theorem dX8_layWorlds_141 : decode cX8_layWorlds 141 = .ok (.aload_n 0, 1) := by decide +kernel
theorem dX8_layWorlds_142 : decode cX8_layWorlds 142 = .ok (.iload_n 2, 1) := by decide +kernel
theorem dX8_layWorlds_143 : decode cX8_layWorlds 143 = .ok (.putfield 172, 3) := by decide +kernel
theorem dX8_layWorlds_146 : decode cX8_layWorlds 146 = .ok (.iconst 0, 1) := by decide +kernel
theorem dX8_layWorlds_147 : decode cX8_layWorlds 147 = .ok (.istore_n 3, 1) := by decide +kernel
theorem dX8_layWorlds_148 : decode cX8_layWorlds 148 = .ok (.iload_n 3, 1) := by decide +kernel
theorem dX8_layWorlds_149 : decode cX8_layWorlds 149 = .ok (.iload_n 2, 1) := by decide +kernel
theorem dX8_layWorlds_150 : decode cX8_layWorlds 150 = .ok (.if_icmp .ge 21, 3) := by decide +kernel
theorem dX8_layWorlds_153 : decode cX8_layWorlds 153 = .ok (.aload_n 0, 1) := by decide +kernel
theorem dX8_layWorlds_154 : decode cX8_layWorlds 154 = .ok (.getfield 55, 3) := by decide +kernel
theorem dX8_layWorlds_157 : decode cX8_layWorlds 157 = .ok (.iload_n 3, 1) := by decide +kernel
theorem dX8_layWorlds_158 : decode cX8_layWorlds 158 = .ok (.aload_n 0, 1) := by decide +kernel
theorem dX8_layWorlds_159 : decode cX8_layWorlds 159 = .ok (.getfield 70, 3) := by decide +kernel
theorem dX8_layWorlds_162 : decode cX8_layWorlds 162 = .ok (.iload_n 3, 1) := by decide +kernel
theorem dX8_layWorlds_163 : decode cX8_layWorlds 163 = .ok (.iaload, 1) := by decide +kernel
theorem dX8_layWorlds_164 : decode cX8_layWorlds 164 = .ok (.iastore, 1) := by decide +kernel
theorem dX8_layWorlds_165 : decode cX8_layWorlds 165 = .ok (.iinc 3 1, 3) := by decide +kernel
theorem dX8_layWorlds_168 : decode cX8_layWorlds 168 = .ok (.goto (-20), 3) := by decide +kernel
theorem dX8_layWorlds_171 : decode cX8_layWorlds 171 = .ok (.iinc 1 1, 3) := by decide +kernel
theorem dX8_layWorlds_174 : decode cX8_layWorlds 174 = .ok (.goto (-160), 3) := by decide +kernel
theorem dX8_layWorlds_177 : decode cX8_layWorlds 177 = .ok (.iconst 0, 1) := by decide +kernel
theorem dX8_layWorlds_178 : decode cX8_layWorlds 178 = .ok (.istore_n 1, 1) := by decide +kernel
theorem dX8_layWorlds_179 : decode cX8_layWorlds 179 = .ok (.iconst 0, 1) := by decide +kernel
theorem dX8_layWorlds_180 : decode cX8_layWorlds 180 = .ok (.istore_n 2, 1) := by decide +kernel
theorem dX8_layWorlds_181 : decode cX8_layWorlds 181 = .ok (.iload_n 2, 1) := by decide +kernel
theorem dX8_layWorlds_182 : decode cX8_layWorlds 182 = .ok (.aload_n 0, 1) := by decide +kernel
theorem dX8_layWorlds_183 : decode cX8_layWorlds 183 = .ok (.getfield 172, 3) := by decide +kernel
theorem dX8_layWorlds_186 : decode cX8_layWorlds 186 = .ok (.if_icmp .ge 43, 3) := by decide +kernel
theorem dX8_layWorlds_189 : decode cX8_layWorlds 189 = .ok (.aload_n 0, 1) := by decide +kernel
theorem dX8_layWorlds_190 : decode cX8_layWorlds 190 = .ok (.getfield 55, 3) := by decide +kernel
theorem dX8_layWorlds_193 : decode cX8_layWorlds 193 = .ok (.iload_n 1, 1) := by decide +kernel
theorem dX8_layWorlds_194 : decode cX8_layWorlds 194 = .ok (.aload_n 0, 1) := by decide +kernel
theorem dX8_layWorlds_195 : decode cX8_layWorlds 195 = .ok (.getfield 55, 3) := by decide +kernel
theorem dX8_layWorlds_198 : decode cX8_layWorlds 198 = .ok (.iload_n 2, 1) := by decide +kernel
theorem dX8_layWorlds_199 : decode cX8_layWorlds 199 = .ok (.iaload, 1) := by decide +kernel
theorem dX8_layWorlds_200 : decode cX8_layWorlds 200 = .ok (.iastore, 1) := by decide +kernel
theorem dX8_layWorlds_201 : decode cX8_layWorlds 201 = .ok (.iload_n 1, 1) := by decide +kernel
theorem dX8_layWorlds_202 : decode cX8_layWorlds 202 = .ok (.aload_n 0, 1) := by decide +kernel
theorem dX8_layWorlds_203 : decode cX8_layWorlds 203 = .ok (.iconst 0, 1) := by decide +kernel
theorem dX8_layWorlds_204 : decode cX8_layWorlds 204 = .ok (.aload_n 0, 1) := by decide +kernel
theorem dX8_layWorlds_205 : decode cX8_layWorlds 205 = .ok (.getfield 55, 3) := by decide +kernel
theorem dX8_layWorlds_208 : decode cX8_layWorlds 208 = .ok (.iload_n 2, 1) := by decide +kernel
theorem dX8_layWorlds_209 : decode cX8_layWorlds 209 = .ok (.iaload, 1) := by decide +kernel
theorem dX8_layWorlds_210 : decode cX8_layWorlds 210 = .ok (.invokevirtual 166, 3) := by decide +kernel
theorem dX8_layWorlds_213 : decode cX8_layWorlds 213 = .ok (.ifCond .eq 7, 3) := by decide +kernel
theorem dX8_layWorlds_216 : decode cX8_layWorlds 216 = .ok (.iconst 1, 1) := by decide +kernel
theorem dX8_layWorlds_217 : decode cX8_layWorlds 217 = .ok (.goto 4, 3) := by decide +kernel
theorem dX8_layWorlds_220 : decode cX8_layWorlds 220 = .ok (.iconst 0, 1) := by decide +kernel
theorem dX8_layWorlds_221 : decode cX8_layWorlds 221 = .ok (.iadd, 1) := by decide +kernel
theorem dX8_layWorlds_222 : decode cX8_layWorlds 222 = .ok (.istore_n 1, 1) := by decide +kernel
theorem dX8_layWorlds_223 : decode cX8_layWorlds 223 = .ok (.iinc 2 1, 3) := by decide +kernel
theorem dX8_layWorlds_226 : decode cX8_layWorlds 226 = .ok (.goto (-45), 3) := by decide +kernel
theorem dX8_layWorlds_229 : decode cX8_layWorlds 229 = .ok (.aload_n 0, 1) := by decide +kernel
theorem dX8_layWorlds_230 : decode cX8_layWorlds 230 = .ok (.iload_n 1, 1) := by decide +kernel
theorem dX8_layWorlds_231 : decode cX8_layWorlds 231 = .ok (.putfield 172, 3) := by decide +kernel
theorem dX8_layWorlds_234 : decode cX8_layWorlds 234 = .ok (.return_, 1) := by decide +kernel
theorem dX8_begin_0 : decode cX8_begin 0 = .ok (.iconst 0, 1) := by decide +kernel
theorem dX8_begin_1 : decode cX8_begin 1 = .ok (.istore_n 1, 1) := by decide +kernel
theorem dX8_begin_2 : decode cX8_begin 2 = .ok (.iload_n 1, 1) := by decide +kernel
theorem dX8_begin_3 : decode cX8_begin 3 = .ok (.bipush 21, 2) := by decide +kernel
theorem dX8_begin_5 : decode cX8_begin 5 = .ok (.if_icmp .ge 30, 3) := by decide +kernel
theorem dX8_begin_8 : decode cX8_begin 8 = .ok (.aload_n 0, 1) := by decide +kernel
theorem dX8_begin_9 : decode cX8_begin 9 = .ok (.getfield 58, 3) := by decide +kernel
theorem dX8_begin_12 : decode cX8_begin 12 = .ok (.iload_n 1, 1) := by decide +kernel
theorem dX8_begin_13 : decode cX8_begin 13 = .ok (.iload_n 1, 1) := by decide +kernel
theorem dX8_begin_14 : decode cX8_begin 14 = .ok (.iconst 4, 1) := by decide +kernel
theorem dX8_begin_15 : decode cX8_begin 15 = .ok (.if_icmp .ge 12, 3) := by decide +kernel
theorem dX8_begin_18 : decode cX8_begin 18 = .ok (.aload_n 0, 1) := by decide +kernel
theorem dX8_begin_19 : decode cX8_begin 19 = .ok (.getfield 52, 3) := by decide +kernel
theorem dX8_begin_22 : decode cX8_begin 22 = .ok (.iload_n 1, 1) := by decide +kernel
theorem dX8_begin_23 : decode cX8_begin 23 = .ok (.iaload, 1) := by decide +kernel
theorem dX8_begin_24 : decode cX8_begin 24 = .ok (.goto 4, 3) := by decide +kernel
theorem dX8_begin_27 : decode cX8_begin 27 = .ok (.iconst 0, 1) := by decide +kernel
theorem dX8_begin_28 : decode cX8_begin 28 = .ok (.iastore, 1) := by decide +kernel
theorem dX8_begin_29 : decode cX8_begin 29 = .ok (.iinc 1 1, 3) := by decide +kernel
theorem dX8_begin_32 : decode cX8_begin 32 = .ok (.goto (-30), 3) := by decide +kernel
theorem dX8_begin_35 : decode cX8_begin 35 = .ok (.aload_n 0, 1) := by decide +kernel
theorem dX8_begin_36 : decode cX8_begin 36 = .ok (.iconst 0, 1) := by decide +kernel
theorem dX8_begin_37 : decode cX8_begin 37 = .ok (.putfield 175, 3) := by decide +kernel
theorem dX8_begin_40 : decode cX8_begin 40 = .ok (.aload_n 0, 1) := by decide +kernel
theorem dX8_begin_41 : decode cX8_begin 41 = .ok (.iconst 0, 1) := by decide +kernel
theorem dX8_begin_42 : decode cX8_begin 42 = .ok (.putfield 178, 3) := by decide +kernel
theorem dX8_begin_45 : decode cX8_begin 45 = .ok (.aload_n 0, 1) := by decide +kernel
theorem dX8_begin_46 : decode cX8_begin 46 = .ok (.invokevirtual 181, 3) := by decide +kernel
theorem dX8_begin_49 : decode cX8_begin 49 = .ok (.return_, 1) := by decide +kernel
theorem dX8_isThing_0 : decode cX8_isThing 0 = .ok (.iload_n 1, 1) := by decide +kernel
theorem dX8_isThing_1 : decode cX8_isThing 1 = .ok (.i2l, 1) := by decide +kernel
theorem dX8_isThing_2 : decode cX8_isThing 2 = .ok (.lconst 0, 1) := by decide +kernel
theorem dX8_isThing_3 : decode cX8_isThing 3 = .ok (.aload_n 0, 1) := by decide +kernel
theorem dX8_isThing_4 : decode cX8_isThing 4 = .ok (.getfield 13, 3) := by decide +kernel
theorem dX8_isThing_7 : decode cX8_isThing 7 = .ok (.iconst 0, 1) := by decide +kernel
theorem dX8_isThing_8 : decode cX8_isThing 8 = .ok (.iaload, 1) := by decide +kernel
theorem dX8_isThing_9 : decode cX8_isThing 9 = .ok (.iconst 1, 1) := by decide +kernel
theorem dX8_isThing_10 : decode cX8_isThing 10 = .ok (.isub, 1) := by decide +kernel
theorem dX8_isThing_11 : decode cX8_isThing 11 = .ok (.i2l, 1) := by decide +kernel
theorem dX8_isThing_12 : decode cX8_isThing 12 = .ok (.invokestatic 109, 3) := by decide +kernel
theorem dX8_isThing_15 : decode cX8_isThing 15 = .ok (.ireturn, 1) := by decide +kernel
theorem dX8_isParcel_0 : decode cX8_isParcel 0 = .ok (.iload_n 1, 1) := by decide +kernel
theorem dX8_isParcel_1 : decode cX8_isParcel 1 = .ok (.i2l, 1) := by decide +kernel
theorem dX8_isParcel_2 : decode cX8_isParcel 2 = .ok (.lconst 0, 1) := by decide +kernel
theorem dX8_isParcel_3 : decode cX8_isParcel 3 = .ok (.aload_n 0, 1) := by decide +kernel
theorem dX8_isParcel_4 : decode cX8_isParcel 4 = .ok (.getfield 28, 3) := by decide +kernel
theorem dX8_isParcel_7 : decode cX8_isParcel 7 = .ok (.iconst 0, 1) := by decide +kernel
theorem dX8_isParcel_8 : decode cX8_isParcel 8 = .ok (.iaload, 1) := by decide +kernel
theorem dX8_isParcel_9 : decode cX8_isParcel 9 = .ok (.iconst 1, 1) := by decide +kernel
theorem dX8_isParcel_10 : decode cX8_isParcel 10 = .ok (.isub, 1) := by decide +kernel
theorem dX8_isParcel_11 : decode cX8_isParcel 11 = .ok (.i2l, 1) := by decide +kernel
theorem dX8_isParcel_12 : decode cX8_isParcel 12 = .ok (.invokestatic 109, 3) := by decide +kernel
theorem dX8_isParcel_15 : decode cX8_isParcel 15 = .ok (.ireturn, 1) := by decide +kernel
theorem dX8_thing_0 : decode cX8_thing 0 = .ok (.aload_n 0, 1) := by decide +kernel
theorem dX8_thing_1 : decode cX8_thing 1 = .ok (.iload_n 1, 1) := by decide +kernel
theorem dX8_thing_2 : decode cX8_thing 2 = .ok (.invokevirtual 184, 3) := by decide +kernel
theorem dX8_thing_5 : decode cX8_thing 5 = .ok (.ifCond .eq 15, 3) := by decide +kernel
theorem dX8_thing_8 : decode cX8_thing 8 = .ok (.iload_n 2, 1) := by decide +kernel
theorem dX8_thing_9 : decode cX8_thing 9 = .ok (.i2l, 1) := by decide +kernel
theorem dX8_thing_10 : decode cX8_thing 10 = .ok (.lconst 0, 1) := by decide +kernel
theorem dX8_thing_11 : decode cX8_thing 11 = .ok (.ldc2_w 187, 3) := by decide +kernel
theorem dX8_thing_14 : decode cX8_thing 14 = .ok (.invokestatic 109, 3) := by decide +kernel
theorem dX8_thing_17 : decode cX8_thing 17 = .ok (.ifCond .ne 5, 3) := by decide +kernel
theorem dX8_thing_20 : decode cX8_thing 20 = .ok (.iconst (-1), 1) := by decide +kernel
theorem dX8_thing_21 : decode cX8_thing 21 = .ok (.ireturn, 1) := by decide +kernel
theorem dX8_thing_22 : decode cX8_thing 22 = .ok (.bipush (-4), 2) := by decide +kernel
theorem dX8_thing_24 : decode cX8_thing 24 = .ok (.istore_n 3, 1) := by decide +kernel
theorem dX8_thing_25 : decode cX8_thing 25 = .ok (.iconst 0, 1) := by decide +kernel
theorem dX8_thing_26 : decode cX8_thing 26 = .ok (.istore 4, 2) := by decide +kernel
theorem dX8_thing_28 : decode cX8_thing 28 = .ok (.iload 4, 2) := by decide +kernel
theorem dX8_thing_30 : decode cX8_thing 30 = .ok (.aload_n 0, 1) := by decide +kernel
theorem dX8_thing_31 : decode cX8_thing 31 = .ok (.getfield 28, 3) := by decide +kernel
theorem dX8_thing_34 : decode cX8_thing 34 = .ok (.iconst 0, 1) := by decide +kernel
theorem dX8_thing_35 : decode cX8_thing 35 = .ok (.iaload, 1) := by decide +kernel
theorem dX8_thing_36 : decode cX8_thing 36 = .ok (.if_icmp .ge 30, 3) := by decide +kernel
theorem dX8_thing_39 : decode cX8_thing 39 = .ok (.aload_n 0, 1) := by decide +kernel
theorem dX8_thing_40 : decode cX8_thing 40 = .ok (.getfield 58, 3) := by decide +kernel
theorem dX8_thing_43 : decode cX8_thing 43 = .ok (.iload 4, 2) := by decide +kernel
theorem dX8_thing_45 : decode cX8_thing 45 = .ok (.iaload, 1) := by decide +kernel
theorem dX8_thing_46 : decode cX8_thing 46 = .ok (.iload_n 1, 1) := by decide +kernel
theorem dX8_thing_47 : decode cX8_thing 47 = .ok (.invokestatic 151, 3) := by decide +kernel
theorem dX8_thing_50 : decode cX8_thing 50 = .ok (.ifCond .eq 8, 3) := by decide +kernel
theorem dX8_thing_53 : decode cX8_thing 53 = .ok (.iload 4, 2) := by decide +kernel
theorem dX8_thing_55 : decode cX8_thing 55 = .ok (.goto 4, 3) := by decide +kernel
theorem dX8_thing_58 : decode cX8_thing 58 = .ok (.iload_n 3, 1) := by decide +kernel
theorem dX8_thing_59 : decode cX8_thing 59 = .ok (.istore_n 3, 1) := by decide +kernel
theorem dX8_thing_60 : decode cX8_thing 60 = .ok (.iinc 4 1, 3) := by decide +kernel
theorem dX8_thing_63 : decode cX8_thing 63 = .ok (.goto (-35), 3) := by decide +kernel
theorem dX8_thing_66 : decode cX8_thing 66 = .ok (.iload_n 2, 1) := by decide +kernel
theorem dX8_thing_67 : decode cX8_thing 67 = .ok (.ifCond .ne 12, 3) := by decide +kernel
theorem dX8_thing_70 : decode cX8_thing 70 = .ok (.aload_n 0, 1) := by decide +kernel
theorem dX8_thing_71 : decode cX8_thing 71 = .ok (.getfield 16, 3) := by decide +kernel
theorem dX8_thing_74 : decode cX8_thing 74 = .ok (.iload_n 1, 1) := by decide +kernel
theorem dX8_thing_75 : decode cX8_thing 75 = .ok (.iaload, 1) := by decide +kernel
theorem dX8_thing_76 : decode cX8_thing 76 = .ok (.goto 46, 3) := by decide +kernel
theorem dX8_thing_79 : decode cX8_thing 79 = .ok (.iload_n 2, 1) := by decide +kernel
theorem dX8_thing_80 : decode cX8_thing 80 = .ok (.iconst 1, 1) := by decide +kernel
theorem dX8_thing_81 : decode cX8_thing 81 = .ok (.if_icmp .ne 12, 3) := by decide +kernel
theorem dX8_thing_84 : decode cX8_thing 84 = .ok (.aload_n 0, 1) := by decide +kernel
theorem dX8_thing_85 : decode cX8_thing 85 = .ok (.getfield 19, 3) := by decide +kernel
theorem dX8_thing_88 : decode cX8_thing 88 = .ok (.iload_n 1, 1) := by decide +kernel
theorem dX8_thing_89 : decode cX8_thing 89 = .ok (.iaload, 1) := by decide +kernel
theorem dX8_thing_90 : decode cX8_thing 90 = .ok (.goto 32, 3) := by decide +kernel
theorem dX8_thing_93 : decode cX8_thing 93 = .ok (.iload_n 2, 1) := by decide +kernel
theorem dX8_thing_94 : decode cX8_thing 94 = .ok (.iconst 2, 1) := by decide +kernel
theorem dX8_thing_95 : decode cX8_thing 95 = .ok (.if_icmp .ne 12, 3) := by decide +kernel
theorem dX8_thing_98 : decode cX8_thing 98 = .ok (.aload_n 0, 1) := by decide +kernel
theorem dX8_thing_99 : decode cX8_thing 99 = .ok (.getfield 22, 3) := by decide +kernel
theorem dX8_thing_102 : decode cX8_thing 102 = .ok (.iload_n 1, 1) := by decide +kernel
theorem dX8_thing_103 : decode cX8_thing 103 = .ok (.iaload, 1) := by decide +kernel
theorem dX8_thing_104 : decode cX8_thing 104 = .ok (.goto 18, 3) := by decide +kernel
theorem dX8_thing_107 : decode cX8_thing 107 = .ok (.iload_n 2, 1) := by decide +kernel
theorem dX8_thing_108 : decode cX8_thing 108 = .ok (.iconst 3, 1) := by decide +kernel
theorem dX8_thing_109 : decode cX8_thing 109 = .ok (.if_icmp .ne 12, 3) := by decide +kernel
theorem dX8_thing_112 : decode cX8_thing 112 = .ok (.aload_n 0, 1) := by decide +kernel
theorem dX8_thing_113 : decode cX8_thing 113 = .ok (.getfield 25, 3) := by decide +kernel
theorem dX8_thing_116 : decode cX8_thing 116 = .ok (.iload_n 1, 1) := by decide +kernel
theorem dX8_thing_117 : decode cX8_thing 117 = .ok (.iaload, 1) := by decide +kernel
theorem dX8_thing_118 : decode cX8_thing 118 = .ok (.goto 4, 3) := by decide +kernel
theorem dX8_thing_121 : decode cX8_thing 121 = .ok (.iload_n 3, 1) := by decide +kernel
theorem dX8_thing_122 : decode cX8_thing 122 = .ok (.ireturn, 1) := by decide +kernel
theorem dX8_parcel_0 : decode cX8_parcel 0 = .ok (.aload_n 0, 1) := by decide +kernel
theorem dX8_parcel_1 : decode cX8_parcel 1 = .ok (.iload_n 1, 1) := by decide +kernel
theorem dX8_parcel_2 : decode cX8_parcel 2 = .ok (.invokevirtual 189, 3) := by decide +kernel
theorem dX8_parcel_5 : decode cX8_parcel 5 = .ok (.ifCond .eq 15, 3) := by decide +kernel
theorem dX8_parcel_8 : decode cX8_parcel 8 = .ok (.iload_n 2, 1) := by decide +kernel
theorem dX8_parcel_9 : decode cX8_parcel 9 = .ok (.i2l, 1) := by decide +kernel
theorem dX8_parcel_10 : decode cX8_parcel 10 = .ok (.lconst 0, 1) := by decide +kernel
theorem dX8_parcel_11 : decode cX8_parcel 11 = .ok (.ldc2_w 187, 3) := by decide +kernel
theorem dX8_parcel_14 : decode cX8_parcel 14 = .ok (.invokestatic 109, 3) := by decide +kernel
theorem dX8_parcel_17 : decode cX8_parcel 17 = .ok (.ifCond .ne 5, 3) := by decide +kernel
theorem dX8_parcel_20 : decode cX8_parcel 20 = .ok (.iconst (-1), 1) := by decide +kernel
theorem dX8_parcel_21 : decode cX8_parcel 21 = .ok (.ireturn, 1) := by decide +kernel
theorem dX8_parcel_22 : decode cX8_parcel 22 = .ok (.iload_n 2, 1) := by decide +kernel
theorem dX8_parcel_23 : decode cX8_parcel 23 = .ok (.ifCond .ne 12, 3) := by decide +kernel
theorem dX8_parcel_26 : decode cX8_parcel 26 = .ok (.aload_n 0, 1) := by decide +kernel
theorem dX8_parcel_27 : decode cX8_parcel 27 = .ok (.getfield 31, 3) := by decide +kernel
theorem dX8_parcel_30 : decode cX8_parcel 30 = .ok (.iload_n 1, 1) := by decide +kernel
theorem dX8_parcel_31 : decode cX8_parcel 31 = .ok (.iaload, 1) := by decide +kernel
theorem dX8_parcel_32 : decode cX8_parcel 32 = .ok (.goto 53, 3) := by decide +kernel
theorem dX8_parcel_35 : decode cX8_parcel 35 = .ok (.iload_n 2, 1) := by decide +kernel
theorem dX8_parcel_36 : decode cX8_parcel 36 = .ok (.iconst 1, 1) := by decide +kernel
theorem dX8_parcel_37 : decode cX8_parcel 37 = .ok (.if_icmp .ne 12, 3) := by decide +kernel
theorem dX8_parcel_40 : decode cX8_parcel 40 = .ok (.aload_n 0, 1) := by decide +kernel
theorem dX8_parcel_41 : decode cX8_parcel 41 = .ok (.getfield 34, 3) := by decide +kernel
theorem dX8_parcel_44 : decode cX8_parcel 44 = .ok (.iload_n 1, 1) := by decide +kernel
theorem dX8_parcel_45 : decode cX8_parcel 45 = .ok (.iaload, 1) := by decide +kernel
theorem dX8_parcel_46 : decode cX8_parcel 46 = .ok (.goto 39, 3) := by decide +kernel
theorem dX8_parcel_49 : decode cX8_parcel 49 = .ok (.iload_n 2, 1) := by decide +kernel
theorem dX8_parcel_50 : decode cX8_parcel 50 = .ok (.iconst 2, 1) := by decide +kernel
theorem dX8_parcel_51 : decode cX8_parcel 51 = .ok (.if_icmp .ne 12, 3) := by decide +kernel
theorem dX8_parcel_54 : decode cX8_parcel 54 = .ok (.aload_n 0, 1) := by decide +kernel
theorem dX8_parcel_55 : decode cX8_parcel 55 = .ok (.getfield 37, 3) := by decide +kernel
theorem dX8_parcel_58 : decode cX8_parcel 58 = .ok (.iload_n 1, 1) := by decide +kernel
theorem dX8_parcel_59 : decode cX8_parcel 59 = .ok (.iaload, 1) := by decide +kernel
theorem dX8_parcel_60 : decode cX8_parcel 60 = .ok (.goto 25, 3) := by decide +kernel
theorem dX8_parcel_63 : decode cX8_parcel 63 = .ok (.iload_n 2, 1) := by decide +kernel
theorem dX8_parcel_64 : decode cX8_parcel 64 = .ok (.iconst 3, 1) := by decide +kernel
theorem dX8_parcel_65 : decode cX8_parcel 65 = .ok (.if_icmp .ne 12, 3) := by decide +kernel
theorem dX8_parcel_68 : decode cX8_parcel 68 = .ok (.aload_n 0, 1) := by decide +kernel
theorem dX8_parcel_69 : decode cX8_parcel 69 = .ok (.getfield 58, 3) := by decide +kernel
theorem dX8_parcel_72 : decode cX8_parcel 72 = .ok (.iload_n 1, 1) := by decide +kernel
theorem dX8_parcel_73 : decode cX8_parcel 73 = .ok (.iaload, 1) := by decide +kernel
theorem dX8_parcel_74 : decode cX8_parcel 74 = .ok (.goto 11, 3) := by decide +kernel
theorem dX8_parcel_77 : decode cX8_parcel 77 = .ok (.aload_n 0, 1) := by decide +kernel
theorem dX8_parcel_78 : decode cX8_parcel 78 = .ok (.getfield 58, 3) := by decide +kernel
theorem dX8_parcel_81 : decode cX8_parcel 81 = .ok (.iconst 4, 1) := by decide +kernel
theorem dX8_parcel_82 : decode cX8_parcel 82 = .ok (.iload_n 1, 1) := by decide +kernel
theorem dX8_parcel_83 : decode cX8_parcel 83 = .ok (.iadd, 1) := by decide +kernel
theorem dX8_parcel_84 : decode cX8_parcel 84 = .ok (.iaload, 1) := by decide +kernel
theorem dX8_parcel_85 : decode cX8_parcel 85 = .ok (.ireturn, 1) := by decide +kernel
theorem dX8_setIn_0 : decode cX8_setIn 0 = .ok (.iload_n 0, 1) := by decide +kernel
theorem dX8_setIn_1 : decode cX8_setIn 1 = .ok (.bipush 8, 2) := by decide +kernel
theorem dX8_setIn_3 : decode cX8_setIn 3 = .ok (.iload_n 1, 1) := by decide +kernel
theorem dX8_setIn_4 : decode cX8_setIn 4 = .ok (.imul, 1) := by decide +kernel
theorem dX8_setIn_5 : decode cX8_setIn 5 = .ok (.ishr, 1) := by decide +kernel
theorem dX8_setIn_6 : decode cX8_setIn 6 = .ok (.sipush 255, 3) := by decide +kernel
theorem dX8_setIn_9 : decode cX8_setIn 9 = .ok (.iand, 1) := by decide +kernel
theorem dX8_setIn_10 : decode cX8_setIn 10 = .ok (.ireturn, 1) := by decide +kernel
theorem dX8_world_0 : decode cX8_world 0 = .ok (.iload_n 1, 1) := by decide +kernel
theorem dX8_world_1 : decode cX8_world 1 = .ok (.ifCond .lt 11, 3) := by decide +kernel
theorem dX8_world_4 : decode cX8_world 4 = .ok (.aload_n 0, 1) := by decide +kernel
theorem dX8_world_5 : decode cX8_world 5 = .ok (.iload_n 2, 1) := by decide +kernel
theorem dX8_world_6 : decode cX8_world 6 = .ok (.invokevirtual 189, 3) := by decide +kernel
theorem dX8_world_9 : decode cX8_world 9 = .ok (.ifCond .ne 7, 3) := by decide +kernel
theorem dX8_world_12 : decode cX8_world 12 = .ok (.iconst (-1), 1) := by decide +kernel
theorem dX8_world_13 : decode cX8_world 13 = .ok (.goto 26, 3) := by decide +kernel
theorem dX8_world_16 : decode cX8_world 16 = .ok (.iload_n 1, 1) := by decide +kernel
theorem dX8_world_17 : decode cX8_world 17 = .ok (.aload_n 0, 1) := by decide +kernel
theorem dX8_world_18 : decode cX8_world 18 = .ok (.getfield 172, 3) := by decide +kernel
theorem dX8_world_21 : decode cX8_world 21 = .ok (.if_icmp .ge 16, 3) := by decide +kernel
theorem dX8_world_24 : decode cX8_world 24 = .ok (.aload_n 0, 1) := by decide +kernel
theorem dX8_world_25 : decode cX8_world 25 = .ok (.getfield 55, 3) := by decide +kernel
theorem dX8_world_28 : decode cX8_world 28 = .ok (.iload_n 1, 1) := by decide +kernel
theorem dX8_world_29 : decode cX8_world 29 = .ok (.iaload, 1) := by decide +kernel
theorem dX8_world_30 : decode cX8_world 30 = .ok (.iload_n 2, 1) := by decide +kernel
theorem dX8_world_31 : decode cX8_world 31 = .ok (.invokestatic 192, 3) := by decide +kernel
theorem dX8_world_34 : decode cX8_world 34 = .ok (.goto 5, 3) := by decide +kernel
theorem dX8_world_37 : decode cX8_world 37 = .ok (.bipush (-4), 2) := by decide +kernel
theorem dX8_world_39 : decode cX8_world 39 = .ok (.ireturn, 1) := by decide +kernel
theorem dX8_weightOf_0 : decode cX8_weightOf 0 = .ok (.aload_n 0, 1) := by decide +kernel
theorem dX8_weightOf_1 : decode cX8_weightOf 1 = .ok (.getfield 31, 3) := by decide +kernel
theorem dX8_weightOf_4 : decode cX8_weightOf 4 = .ok (.iload_n 1, 1) := by decide +kernel
theorem dX8_weightOf_5 : decode cX8_weightOf 5 = .ok (.iaload, 1) := by decide +kernel
theorem dX8_weightOf_6 : decode cX8_weightOf 6 = .ok (.istore_n 3, 1) := by decide +kernel
theorem dX8_weightOf_7 : decode cX8_weightOf 7 = .ok (.iconst 0, 1) := by decide +kernel
theorem dX8_weightOf_8 : decode cX8_weightOf 8 = .ok (.istore 4, 2) := by decide +kernel
theorem dX8_weightOf_10 : decode cX8_weightOf 10 = .ok (.iload 4, 2) := by decide +kernel
theorem dX8_weightOf_12 : decode cX8_weightOf 12 = .ok (.aload_n 0, 1) := by decide +kernel
theorem dX8_weightOf_13 : decode cX8_weightOf 13 = .ok (.getfield 13, 3) := by decide +kernel
theorem dX8_weightOf_16 : decode cX8_weightOf 16 = .ok (.iconst 0, 1) := by decide +kernel
theorem dX8_weightOf_17 : decode cX8_weightOf 17 = .ok (.iaload, 1) := by decide +kernel
theorem dX8_weightOf_18 : decode cX8_weightOf 18 = .ok (.if_icmp .ge 32, 3) := by decide +kernel
theorem dX8_weightOf_21 : decode cX8_weightOf 21 = .ok (.iload_n 3, 1) := by decide +kernel
theorem dX8_weightOf_22 : decode cX8_weightOf 22 = .ok (.iload_n 2, 1) := by decide +kernel
theorem dX8_weightOf_23 : decode cX8_weightOf 23 = .ok (.iload 4, 2) := by decide +kernel
theorem dX8_weightOf_25 : decode cX8_weightOf 25 = .ok (.invokestatic 151, 3) := by decide +kernel
theorem dX8_weightOf_28 : decode cX8_weightOf 28 = .ok (.ifCond .eq 13, 3) := by decide +kernel
theorem dX8_weightOf_31 : decode cX8_weightOf 31 = .ok (.aload_n 0, 1) := by decide +kernel
theorem dX8_weightOf_32 : decode cX8_weightOf 32 = .ok (.getfield 16, 3) := by decide +kernel
theorem dX8_weightOf_35 : decode cX8_weightOf 35 = .ok (.iload 4, 2) := by decide +kernel
theorem dX8_weightOf_37 : decode cX8_weightOf 37 = .ok (.iaload, 1) := by decide +kernel
theorem dX8_weightOf_38 : decode cX8_weightOf 38 = .ok (.goto 4, 3) := by decide +kernel
theorem dX8_weightOf_41 : decode cX8_weightOf 41 = .ok (.iconst 0, 1) := by decide +kernel
theorem dX8_weightOf_42 : decode cX8_weightOf 42 = .ok (.iadd, 1) := by decide +kernel
theorem dX8_weightOf_43 : decode cX8_weightOf 43 = .ok (.istore_n 3, 1) := by decide +kernel
theorem dX8_weightOf_44 : decode cX8_weightOf 44 = .ok (.iinc 4 1, 3) := by decide +kernel
theorem dX8_weightOf_47 : decode cX8_weightOf 47 = .ok (.goto (-37), 3) := by decide +kernel
theorem dX8_weightOf_50 : decode cX8_weightOf 50 = .ok (.iload_n 3, 1) := by decide +kernel
theorem dX8_weightOf_51 : decode cX8_weightOf 51 = .ok (.ireturn, 1) := by decide +kernel
theorem dX8_manyOf_0 : decode cX8_manyOf 0 = .ok (.iconst 0, 1) := by decide +kernel
theorem dX8_manyOf_1 : decode cX8_manyOf 1 = .ok (.istore_n 3, 1) := by decide +kernel
theorem dX8_manyOf_2 : decode cX8_manyOf 2 = .ok (.iconst 0, 1) := by decide +kernel
theorem dX8_manyOf_3 : decode cX8_manyOf 3 = .ok (.istore 4, 2) := by decide +kernel
theorem dX8_manyOf_5 : decode cX8_manyOf 5 = .ok (.iload 4, 2) := by decide +kernel
theorem dX8_manyOf_7 : decode cX8_manyOf 7 = .ok (.aload_n 0, 1) := by decide +kernel
theorem dX8_manyOf_8 : decode cX8_manyOf 8 = .ok (.getfield 13, 3) := by decide +kernel
theorem dX8_manyOf_11 : decode cX8_manyOf 11 = .ok (.iconst 0, 1) := by decide +kernel
theorem dX8_manyOf_12 : decode cX8_manyOf 12 = .ok (.iaload, 1) := by decide +kernel
theorem dX8_manyOf_13 : decode cX8_manyOf 13 = .ok (.if_icmp .ge 37, 3) := by decide +kernel
theorem dX8_manyOf_16 : decode cX8_manyOf 16 = .ok (.iload_n 3, 1) := by decide +kernel
theorem dX8_manyOf_17 : decode cX8_manyOf 17 = .ok (.iload_n 1, 1) := by decide +kernel
theorem dX8_manyOf_18 : decode cX8_manyOf 18 = .ok (.iload 4, 2) := by decide +kernel
theorem dX8_manyOf_20 : decode cX8_manyOf 20 = .ok (.invokestatic 151, 3) := by decide +kernel
theorem dX8_manyOf_23 : decode cX8_manyOf 23 = .ok (.ifCond .eq 18, 3) := by decide +kernel
theorem dX8_manyOf_26 : decode cX8_manyOf 26 = .ok (.aload_n 0, 1) := by decide +kernel
theorem dX8_manyOf_27 : decode cX8_manyOf 27 = .ok (.getfield 19, 3) := by decide +kernel
theorem dX8_manyOf_30 : decode cX8_manyOf 30 = .ok (.iload 4, 2) := by decide +kernel
theorem dX8_manyOf_32 : decode cX8_manyOf 32 = .ok (.iaload, 1) := by decide +kernel
theorem dX8_manyOf_33 : decode cX8_manyOf 33 = .ok (.iload_n 2, 1) := by decide +kernel
theorem dX8_manyOf_34 : decode cX8_manyOf 34 = .ok (.if_icmp .ne 7, 3) := by decide +kernel
theorem dX8_manyOf_37 : decode cX8_manyOf 37 = .ok (.iconst 1, 1) := by decide +kernel
theorem dX8_manyOf_38 : decode cX8_manyOf 38 = .ok (.goto 4, 3) := by decide +kernel
theorem dX8_manyOf_41 : decode cX8_manyOf 41 = .ok (.iconst 0, 1) := by decide +kernel
theorem dX8_manyOf_42 : decode cX8_manyOf 42 = .ok (.iadd, 1) := by decide +kernel
theorem dX8_manyOf_43 : decode cX8_manyOf 43 = .ok (.istore_n 3, 1) := by decide +kernel
theorem dX8_manyOf_44 : decode cX8_manyOf 44 = .ok (.iinc 4 1, 3) := by decide +kernel
theorem dX8_manyOf_47 : decode cX8_manyOf 47 = .ok (.goto (-42), 3) := by decide +kernel
theorem dX8_manyOf_50 : decode cX8_manyOf 50 = .ok (.iload_n 3, 1) := by decide +kernel
theorem dX8_manyOf_51 : decode cX8_manyOf 51 = .ok (.ireturn, 1) := by decide +kernel
theorem dX8_answerOf_0 : decode cX8_answerOf 0 = .ok (.iload_n 2, 1) := by decide +kernel
theorem dX8_answerOf_1 : decode cX8_answerOf 1 = .ok (.tableswitch 86 0 2 #[27, 44, 74], 27) := by decide +kernel
theorem dX8_answerOf_28 : decode cX8_answerOf 28 = .ok (.aload_n 0, 1) := by decide +kernel
theorem dX8_answerOf_29 : decode cX8_answerOf 29 = .ok (.iload_n 1, 1) := by decide +kernel
theorem dX8_answerOf_30 : decode cX8_answerOf 30 = .ok (.iload_n 3, 1) := by decide +kernel
theorem dX8_answerOf_31 : decode cX8_answerOf 31 = .ok (.invokevirtual 195, 3) := by decide +kernel
theorem dX8_answerOf_34 : decode cX8_answerOf 34 = .ok (.iload 4, 2) := by decide +kernel
theorem dX8_answerOf_36 : decode cX8_answerOf 36 = .ok (.iadd, 1) := by decide +kernel
theorem dX8_answerOf_37 : decode cX8_answerOf 37 = .ok (.aload_n 0, 1) := by decide +kernel
theorem dX8_answerOf_38 : decode cX8_answerOf 38 = .ok (.getfield 40, 3) := by decide +kernel
theorem dX8_answerOf_41 : decode cX8_answerOf 41 = .ok (.iconst 0, 1) := by decide +kernel
theorem dX8_answerOf_42 : decode cX8_answerOf 42 = .ok (.iaload, 1) := by decide +kernel
theorem dX8_answerOf_43 : decode cX8_answerOf 43 = .ok (.idiv, 1) := by decide +kernel
theorem dX8_answerOf_44 : decode cX8_answerOf 44 = .ok (.ireturn, 1) := by decide +kernel
theorem dX8_answerOf_45 : decode cX8_answerOf 45 = .ok (.aload_n 0, 1) := by decide +kernel
theorem dX8_answerOf_46 : decode cX8_answerOf 46 = .ok (.iload_n 3, 1) := by decide +kernel
theorem dX8_answerOf_47 : decode cX8_answerOf 47 = .ok (.iconst 2, 1) := by decide +kernel
theorem dX8_answerOf_48 : decode cX8_answerOf 48 = .ok (.invokevirtual 198, 3) := by decide +kernel
theorem dX8_answerOf_51 : decode cX8_answerOf 51 = .ok (.ifCond .le 7, 3) := by decide +kernel
theorem dX8_answerOf_54 : decode cX8_answerOf 54 = .ok (.iconst 2, 1) := by decide +kernel
theorem dX8_answerOf_55 : decode cX8_answerOf 55 = .ok (.goto 4, 3) := by decide +kernel
theorem dX8_answerOf_58 : decode cX8_answerOf 58 = .ok (.iconst 0, 1) := by decide +kernel
theorem dX8_answerOf_59 : decode cX8_answerOf 59 = .ok (.aload_n 0, 1) := by decide +kernel
theorem dX8_answerOf_60 : decode cX8_answerOf 60 = .ok (.iload_n 3, 1) := by decide +kernel
theorem dX8_answerOf_61 : decode cX8_answerOf 61 = .ok (.iconst 1, 1) := by decide +kernel
theorem dX8_answerOf_62 : decode cX8_answerOf 62 = .ok (.invokevirtual 198, 3) := by decide +kernel
theorem dX8_answerOf_65 : decode cX8_answerOf 65 = .ok (.ifCond .le 7, 3) := by decide +kernel
theorem dX8_answerOf_68 : decode cX8_answerOf 68 = .ok (.iconst 1, 1) := by decide +kernel
theorem dX8_answerOf_69 : decode cX8_answerOf 69 = .ok (.goto 4, 3) := by decide +kernel
theorem dX8_answerOf_72 : decode cX8_answerOf 72 = .ok (.iconst 0, 1) := by decide +kernel
theorem dX8_answerOf_73 : decode cX8_answerOf 73 = .ok (.iadd, 1) := by decide +kernel
theorem dX8_answerOf_74 : decode cX8_answerOf 74 = .ok (.ireturn, 1) := by decide +kernel
theorem dX8_answerOf_75 : decode cX8_answerOf 75 = .ok (.iload_n 3, 1) := by decide +kernel
theorem dX8_answerOf_76 : decode cX8_answerOf 76 = .ok (.invokestatic 159, 3) := by decide +kernel
theorem dX8_answerOf_79 : decode cX8_answerOf 79 = .ok (.aload_n 0, 1) := by decide +kernel
theorem dX8_answerOf_80 : decode cX8_answerOf 80 = .ok (.iload_n 3, 1) := by decide +kernel
theorem dX8_answerOf_81 : decode cX8_answerOf 81 = .ok (.iconst 0, 1) := by decide +kernel
theorem dX8_answerOf_82 : decode cX8_answerOf 82 = .ok (.invokevirtual 198, 3) := by decide +kernel
theorem dX8_answerOf_85 : decode cX8_answerOf 85 = .ok (.isub, 1) := by decide +kernel
theorem dX8_answerOf_86 : decode cX8_answerOf 86 = .ok (.ireturn, 1) := by decide +kernel
theorem dX8_answerOf_87 : decode cX8_answerOf 87 = .ok (.iload_n 3, 1) := by decide +kernel
theorem dX8_answerOf_88 : decode cX8_answerOf 88 = .ok (.invokestatic 159, 3) := by decide +kernel
theorem dX8_answerOf_91 : decode cX8_answerOf 91 = .ok (.aload_n 0, 1) := by decide +kernel
theorem dX8_answerOf_92 : decode cX8_answerOf 92 = .ok (.iload_n 3, 1) := by decide +kernel
theorem dX8_answerOf_93 : decode cX8_answerOf 93 = .ok (.iconst 0, 1) := by decide +kernel
theorem dX8_answerOf_94 : decode cX8_answerOf 94 = .ok (.invokevirtual 198, 3) := by decide +kernel
theorem dX8_answerOf_97 : decode cX8_answerOf 97 = .ok (.if_icmp .ne 7, 3) := by decide +kernel
theorem dX8_answerOf_100 : decode cX8_answerOf 100 = .ok (.iconst 1, 1) := by decide +kernel
theorem dX8_answerOf_101 : decode cX8_answerOf 101 = .ok (.goto 4, 3) := by decide +kernel
theorem dX8_answerOf_104 : decode cX8_answerOf 104 = .ok (.iconst 0, 1) := by decide +kernel
theorem dX8_answerOf_105 : decode cX8_answerOf 105 = .ok (.ireturn, 1) := by decide +kernel
theorem dX8_answer_0 : decode cX8_answer 0 = .ok (.aload_n 0, 1) := by decide +kernel
theorem dX8_answer_1 : decode cX8_answer 1 = .ok (.iload_n 1, 1) := by decide +kernel
theorem dX8_answer_2 : decode cX8_answer 2 = .ok (.invokevirtual 189, 3) := by decide +kernel
theorem dX8_answer_5 : decode cX8_answer 5 = .ok (.ifCond .eq 46, 3) := by decide +kernel
theorem dX8_answer_8 : decode cX8_answer 8 = .ok (.iload_n 2, 1) := by decide +kernel
theorem dX8_answer_9 : decode cX8_answer 9 = .ok (.i2l, 1) := by decide +kernel
theorem dX8_answer_10 : decode cX8_answer 10 = .ok (.lconst 0, 1) := by decide +kernel
theorem dX8_answer_11 : decode cX8_answer 11 = .ok (.ldc2_w 201, 3) := by decide +kernel
theorem dX8_answer_14 : decode cX8_answer 14 = .ok (.invokestatic 109, 3) := by decide +kernel
theorem dX8_answer_17 : decode cX8_answer 17 = .ok (.ifCond .eq 34, 3) := by decide +kernel
theorem dX8_answer_20 : decode cX8_answer 20 = .ok (.iload_n 3, 1) := by decide +kernel
theorem dX8_answer_21 : decode cX8_answer 21 = .ok (.i2l, 1) := by decide +kernel
theorem dX8_answer_22 : decode cX8_answer 22 = .ok (.lconst 0, 1) := by decide +kernel
theorem dX8_answer_23 : decode cX8_answer 23 = .ok (.iconst 1, 1) := by decide +kernel
theorem dX8_answer_24 : decode cX8_answer 24 = .ok (.aload_n 0, 1) := by decide +kernel
theorem dX8_answer_25 : decode cX8_answer 25 = .ok (.getfield 13, 3) := by decide +kernel
theorem dX8_answer_28 : decode cX8_answer 28 = .ok (.iconst 0, 1) := by decide +kernel
theorem dX8_answer_29 : decode cX8_answer 29 = .ok (.iaload, 1) := by decide +kernel
theorem dX8_answer_30 : decode cX8_answer 30 = .ok (.ishl, 1) := by decide +kernel
theorem dX8_answer_31 : decode cX8_answer 31 = .ok (.iconst 1, 1) := by decide +kernel
theorem dX8_answer_32 : decode cX8_answer 32 = .ok (.isub, 1) := by decide +kernel
theorem dX8_answer_33 : decode cX8_answer 33 = .ok (.i2l, 1) := by decide +kernel
theorem dX8_answer_34 : decode cX8_answer 34 = .ok (.invokestatic 109, 3) := by decide +kernel
theorem dX8_answer_37 : decode cX8_answer 37 = .ok (.ifCond .eq 14, 3) := by decide +kernel
theorem dX8_answer_40 : decode cX8_answer 40 = .ok (.aload_n 0, 1) := by decide +kernel
theorem dX8_answer_41 : decode cX8_answer 41 = .ok (.iload_n 1, 1) := by decide +kernel
theorem dX8_answer_42 : decode cX8_answer 42 = .ok (.iload_n 2, 1) := by decide +kernel
theorem dX8_answer_43 : decode cX8_answer 43 = .ok (.iload_n 3, 1) := by decide +kernel
theorem dX8_answer_44 : decode cX8_answer 44 = .ok (.iconst 0, 1) := by decide +kernel
theorem dX8_answer_45 : decode cX8_answer 45 = .ok (.invokevirtual 203, 3) := by decide +kernel
theorem dX8_answer_48 : decode cX8_answer 48 = .ok (.goto 4, 3) := by decide +kernel
theorem dX8_answer_51 : decode cX8_answer 51 = .ok (.iconst (-1), 1) := by decide +kernel
theorem dX8_answer_52 : decode cX8_answer 52 = .ok (.ireturn, 1) := by decide +kernel
theorem dX8_note_0 : decode cX8_note 0 = .ok (.aload_n 0, 1) := by decide +kernel
theorem dX8_note_1 : decode cX8_note 1 = .ok (.getfield 175, 3) := by decide +kernel
theorem dX8_note_4 : decode cX8_note 4 = .ok (.bipush 8, 2) := by decide +kernel
theorem dX8_note_6 : decode cX8_note 6 = .ok (.if_icmp .ne 43, 3) := by decide +kernel
theorem dX8_note_9 : decode cX8_note 9 = .ok (.iconst 0, 1) := by decide +kernel
theorem dX8_note_10 : decode cX8_note 10 = .ok (.istore_n 1, 1) := by decide +kernel
theorem dX8_note_11 : decode cX8_note 11 = .ok (.iload_n 1, 1) := by decide +kernel
theorem dX8_note_12 : decode cX8_note 12 = .ok (.sipush 147, 3) := by decide +kernel
theorem dX8_note_15 : decode cX8_note 15 = .ok (.if_icmp .ge 24, 3) := by decide +kernel
theorem dX8_note_18 : decode cX8_note 18 = .ok (.aload_n 0, 1) := by decide +kernel
theorem dX8_note_19 : decode cX8_note 19 = .ok (.getfield 61, 3) := by decide +kernel
theorem dX8_note_22 : decode cX8_note 22 = .ok (.iload_n 1, 1) := by decide +kernel
theorem dX8_note_23 : decode cX8_note 23 = .ok (.aload_n 0, 1) := by decide +kernel
theorem dX8_note_24 : decode cX8_note 24 = .ok (.getfield 61, 3) := by decide +kernel
theorem dX8_note_27 : decode cX8_note 27 = .ok (.bipush 21, 2) := by decide +kernel
theorem dX8_note_29 : decode cX8_note 29 = .ok (.iload_n 1, 1) := by decide +kernel
theorem dX8_note_30 : decode cX8_note 30 = .ok (.iadd, 1) := by decide +kernel
theorem dX8_note_31 : decode cX8_note 31 = .ok (.iaload, 1) := by decide +kernel
theorem dX8_note_32 : decode cX8_note 32 = .ok (.iastore, 1) := by decide +kernel
theorem dX8_note_33 : decode cX8_note 33 = .ok (.iinc 1 1, 3) := by decide +kernel
theorem dX8_note_36 : decode cX8_note 36 = .ok (.goto (-25), 3) := by decide +kernel
theorem dX8_note_39 : decode cX8_note 39 = .ok (.aload_n 0, 1) := by decide +kernel
theorem dX8_note_40 : decode cX8_note 40 = .ok (.dup, 1) := by decide +kernel
theorem dX8_note_41 : decode cX8_note 41 = .ok (.getfield 175, 3) := by decide +kernel
theorem dX8_note_44 : decode cX8_note 44 = .ok (.iconst 1, 1) := by decide +kernel
theorem dX8_note_45 : decode cX8_note 45 = .ok (.isub, 1) := by decide +kernel
theorem dX8_note_46 : decode cX8_note 46 = .ok (.putfield 175, 3) := by decide +kernel
theorem dX8_note_49 : decode cX8_note 49 = .ok (.iconst 0, 1) := by decide +kernel
theorem dX8_note_50 : decode cX8_note 50 = .ok (.istore_n 1, 1) := by decide +kernel
theorem dX8_note_51 : decode cX8_note 51 = .ok (.iload_n 1, 1) := by decide +kernel
theorem dX8_note_52 : decode cX8_note 52 = .ok (.bipush 21, 2) := by decide +kernel
theorem dX8_note_54 : decode cX8_note 54 = .ok (.if_icmp .ge 29, 3) := by decide +kernel
theorem dX8_note_57 : decode cX8_note 57 = .ok (.aload_n 0, 1) := by decide +kernel
theorem dX8_note_58 : decode cX8_note 58 = .ok (.getfield 61, 3) := by decide +kernel
theorem dX8_note_61 : decode cX8_note 61 = .ok (.bipush 21, 2) := by decide +kernel
theorem dX8_note_63 : decode cX8_note 63 = .ok (.aload_n 0, 1) := by decide +kernel
theorem dX8_note_64 : decode cX8_note 64 = .ok (.getfield 175, 3) := by decide +kernel
theorem dX8_note_67 : decode cX8_note 67 = .ok (.imul, 1) := by decide +kernel
theorem dX8_note_68 : decode cX8_note 68 = .ok (.iload_n 1, 1) := by decide +kernel
theorem dX8_note_69 : decode cX8_note 69 = .ok (.iadd, 1) := by decide +kernel
theorem dX8_note_70 : decode cX8_note 70 = .ok (.aload_n 0, 1) := by decide +kernel
theorem dX8_note_71 : decode cX8_note 71 = .ok (.getfield 58, 3) := by decide +kernel
theorem dX8_note_74 : decode cX8_note 74 = .ok (.iload_n 1, 1) := by decide +kernel
theorem dX8_note_75 : decode cX8_note 75 = .ok (.iaload, 1) := by decide +kernel
theorem dX8_note_76 : decode cX8_note 76 = .ok (.iastore, 1) := by decide +kernel
theorem dX8_note_77 : decode cX8_note 77 = .ok (.iinc 1 1, 3) := by decide +kernel
theorem dX8_note_80 : decode cX8_note 80 = .ok (.goto (-29), 3) := by decide +kernel
theorem dX8_note_83 : decode cX8_note 83 = .ok (.aload_n 0, 1) := by decide +kernel
end
section
theorem dX8_note_84 : decode cX8_note 84 = .ok (.dup, 1) := by decide +kernel
theorem dX8_note_85 : decode cX8_note 85 = .ok (.getfield 175, 3) := by decide +kernel
theorem dX8_note_88 : decode cX8_note 88 = .ok (.iconst 1, 1) := by decide +kernel
theorem dX8_note_89 : decode cX8_note 89 = .ok (.iadd, 1) := by decide +kernel
theorem dX8_note_90 : decode cX8_note 90 = .ok (.putfield 175, 3) := by decide +kernel
theorem dX8_note_93 : decode cX8_note 93 = .ok (.return_, 1) := by decide +kernel
theorem dX8_addAnswer_0 : decode cX8_addAnswer 0 = .ok (.aload_n 0, 1) := by decide +kernel
theorem dX8_addAnswer_1 : decode cX8_addAnswer 1 = .ok (.invokevirtual 206, 3) := by decide +kernel
theorem dX8_addAnswer_4 : decode cX8_addAnswer 4 = .ok (.aload_n 0, 1) := by decide +kernel
theorem dX8_addAnswer_5 : decode cX8_addAnswer 5 = .ok (.getfield 58, 3) := by decide +kernel
theorem dX8_addAnswer_8 : decode cX8_addAnswer 8 = .ok (.bipush 9, 2) := by decide +kernel
theorem dX8_addAnswer_10 : decode cX8_addAnswer 10 = .ok (.aload_n 0, 1) := by decide +kernel
theorem dX8_addAnswer_11 : decode cX8_addAnswer 11 = .ok (.getfield 58, 3) := by decide +kernel
theorem dX8_addAnswer_14 : decode cX8_addAnswer 14 = .ok (.bipush 8, 2) := by decide +kernel
theorem dX8_addAnswer_16 : decode cX8_addAnswer 16 = .ok (.iaload, 1) := by decide +kernel
theorem dX8_addAnswer_17 : decode cX8_addAnswer 17 = .ok (.iadd, 1) := by decide +kernel
theorem dX8_addAnswer_18 : decode cX8_addAnswer 18 = .ok (.bipush 16, 2) := by decide +kernel
theorem dX8_addAnswer_20 : decode cX8_addAnswer 20 = .ok (.iload_n 3, 1) := by decide +kernel
theorem dX8_addAnswer_21 : decode cX8_addAnswer 21 = .ok (.imul, 1) := by decide +kernel
theorem dX8_addAnswer_22 : decode cX8_addAnswer 22 = .ok (.iconst 4, 1) := by decide +kernel
theorem dX8_addAnswer_23 : decode cX8_addAnswer 23 = .ok (.iload_n 1, 1) := by decide +kernel
theorem dX8_addAnswer_24 : decode cX8_addAnswer 24 = .ok (.imul, 1) := by decide +kernel
theorem dX8_addAnswer_25 : decode cX8_addAnswer 25 = .ok (.iadd, 1) := by decide +kernel
theorem dX8_addAnswer_26 : decode cX8_addAnswer 26 = .ok (.iload_n 2, 1) := by decide +kernel
theorem dX8_addAnswer_27 : decode cX8_addAnswer 27 = .ok (.iadd, 1) := by decide +kernel
theorem dX8_addAnswer_28 : decode cX8_addAnswer 28 = .ok (.iastore, 1) := by decide +kernel
theorem dX8_addAnswer_29 : decode cX8_addAnswer 29 = .ok (.aload_n 0, 1) := by decide +kernel
theorem dX8_addAnswer_30 : decode cX8_addAnswer 30 = .ok (.getfield 58, 3) := by decide +kernel
theorem dX8_addAnswer_33 : decode cX8_addAnswer 33 = .ok (.bipush 8, 2) := by decide +kernel
theorem dX8_addAnswer_35 : decode cX8_addAnswer 35 = .ok (.dup2, 1) := by decide +kernel
theorem dX8_addAnswer_36 : decode cX8_addAnswer 36 = .ok (.iaload, 1) := by decide +kernel
theorem dX8_addAnswer_37 : decode cX8_addAnswer 37 = .ok (.iconst 1, 1) := by decide +kernel
theorem dX8_addAnswer_38 : decode cX8_addAnswer 38 = .ok (.iadd, 1) := by decide +kernel
theorem dX8_addAnswer_39 : decode cX8_addAnswer 39 = .ok (.iastore, 1) := by decide +kernel
theorem dX8_addAnswer_40 : decode cX8_addAnswer 40 = .ok (.return_, 1) := by decide +kernel
theorem dX8_attempt_0 : decode cX8_attempt 0 = .ok (.aload_n 0, 1) := by decide +kernel
theorem dX8_attempt_1 : decode cX8_attempt 1 = .ok (.iload_n 1, 1) := by decide +kernel
theorem dX8_attempt_2 : decode cX8_attempt 2 = .ok (.invokevirtual 189, 3) := by decide +kernel
theorem dX8_attempt_5 : decode cX8_attempt 5 = .ok (.ifCond .eq 15, 3) := by decide +kernel
theorem dX8_attempt_8 : decode cX8_attempt 8 = .ok (.iload_n 2, 1) := by decide +kernel
theorem dX8_attempt_9 : decode cX8_attempt 9 = .ok (.i2l, 1) := by decide +kernel
theorem dX8_attempt_10 : decode cX8_attempt 10 = .ok (.lconst 0, 1) := by decide +kernel
theorem dX8_attempt_11 : decode cX8_attempt 11 = .ok (.ldc2_w 201, 3) := by decide +kernel
theorem dX8_attempt_14 : decode cX8_attempt 14 = .ok (.invokestatic 109, 3) := by decide +kernel
theorem dX8_attempt_17 : decode cX8_attempt 17 = .ok (.ifCond .ne 5, 3) := by decide +kernel
theorem dX8_attempt_20 : decode cX8_attempt 20 = .ok (.iconst (-1), 1) := by decide +kernel
theorem dX8_attempt_21 : decode cX8_attempt 21 = .ok (.ireturn, 1) := by decide +kernel
theorem dX8_attempt_22 : decode cX8_attempt 22 = .ok (.aload_n 0, 1) := by decide +kernel
theorem dX8_attempt_23 : decode cX8_attempt 23 = .ok (.getfield 58, 3) := by decide +kernel
theorem dX8_attempt_26 : decode cX8_attempt 26 = .ok (.bipush 8, 2) := by decide +kernel
theorem dX8_attempt_28 : decode cX8_attempt 28 = .ok (.iaload, 1) := by decide +kernel
theorem dX8_attempt_29 : decode cX8_attempt 29 = .ok (.bipush 12, 2) := by decide +kernel
theorem dX8_attempt_31 : decode cX8_attempt 31 = .ok (.if_icmp .ne 6, 3) := by decide +kernel
theorem dX8_attempt_34 : decode cX8_attempt 34 = .ok (.bipush (-3), 2) := by decide +kernel
theorem dX8_attempt_36 : decode cX8_attempt 36 = .ok (.ireturn, 1) := by decide +kernel
theorem dX8_attempt_37 : decode cX8_attempt 37 = .ok (.aload_n 0, 1) := by decide +kernel
theorem dX8_attempt_38 : decode cX8_attempt 38 = .ok (.iload_n 1, 1) := by decide +kernel
theorem dX8_attempt_39 : decode cX8_attempt 39 = .ok (.iload_n 2, 1) := by decide +kernel
theorem dX8_attempt_40 : decode cX8_attempt 40 = .ok (.aload_n 0, 1) := by decide +kernel
theorem dX8_attempt_41 : decode cX8_attempt 41 = .ok (.getfield 58, 3) := by decide +kernel
theorem dX8_attempt_44 : decode cX8_attempt 44 = .ok (.iload_n 1, 1) := by decide +kernel
theorem dX8_attempt_45 : decode cX8_attempt 45 = .ok (.iaload, 1) := by decide +kernel
theorem dX8_attempt_46 : decode cX8_attempt 46 = .ok (.aload_n 0, 1) := by decide +kernel
theorem dX8_attempt_47 : decode cX8_attempt 47 = .ok (.getfield 58, 3) := by decide +kernel
theorem dX8_attempt_50 : decode cX8_attempt 50 = .ok (.iconst 4, 1) := by decide +kernel
theorem dX8_attempt_51 : decode cX8_attempt 51 = .ok (.iload_n 1, 1) := by decide +kernel
theorem dX8_attempt_52 : decode cX8_attempt 52 = .ok (.iadd, 1) := by decide +kernel
theorem dX8_attempt_53 : decode cX8_attempt 53 = .ok (.iaload, 1) := by decide +kernel
theorem dX8_attempt_54 : decode cX8_attempt 54 = .ok (.invokevirtual 203, 3) := by decide +kernel
theorem dX8_attempt_57 : decode cX8_attempt 57 = .ok (.istore_n 3, 1) := by decide +kernel
theorem dX8_attempt_58 : decode cX8_attempt 58 = .ok (.aload_n 0, 1) := by decide +kernel
theorem dX8_attempt_59 : decode cX8_attempt 59 = .ok (.iload_n 1, 1) := by decide +kernel
theorem dX8_attempt_60 : decode cX8_attempt 60 = .ok (.iload_n 2, 1) := by decide +kernel
theorem dX8_attempt_61 : decode cX8_attempt 61 = .ok (.iload_n 3, 1) := by decide +kernel
theorem dX8_attempt_62 : decode cX8_attempt 62 = .ok (.invokevirtual 209, 3) := by decide +kernel
theorem dX8_attempt_65 : decode cX8_attempt 65 = .ok (.iload_n 3, 1) := by decide +kernel
theorem dX8_attempt_66 : decode cX8_attempt 66 = .ok (.ireturn, 1) := by decide +kernel
theorem dX8_hear_0 : decode cX8_hear 0 = .ok (.aload_n 0, 1) := by decide +kernel
theorem dX8_hear_1 : decode cX8_hear 1 = .ok (.iload_n 1, 1) := by decide +kernel
theorem dX8_hear_2 : decode cX8_hear 2 = .ok (.invokevirtual 189, 3) := by decide +kernel
theorem dX8_hear_5 : decode cX8_hear 5 = .ok (.ifCond .eq 27, 3) := by decide +kernel
theorem dX8_hear_8 : decode cX8_hear 8 = .ok (.iload_n 2, 1) := by decide +kernel
theorem dX8_hear_9 : decode cX8_hear 9 = .ok (.i2l, 1) := by decide +kernel
theorem dX8_hear_10 : decode cX8_hear 10 = .ok (.lconst 0, 1) := by decide +kernel
theorem dX8_hear_11 : decode cX8_hear 11 = .ok (.ldc2_w 201, 3) := by decide +kernel
theorem dX8_hear_14 : decode cX8_hear 14 = .ok (.invokestatic 109, 3) := by decide +kernel
theorem dX8_hear_17 : decode cX8_hear 17 = .ok (.ifCond .eq 15, 3) := by decide +kernel
theorem dX8_hear_20 : decode cX8_hear 20 = .ok (.iload_n 3, 1) := by decide +kernel
theorem dX8_hear_21 : decode cX8_hear 21 = .ok (.i2l, 1) := by decide +kernel
theorem dX8_hear_22 : decode cX8_hear 22 = .ok (.lconst 0, 1) := by decide +kernel
theorem dX8_hear_23 : decode cX8_hear 23 = .ok (.ldc2_w 213, 3) := by decide +kernel
theorem dX8_hear_26 : decode cX8_hear 26 = .ok (.invokestatic 109, 3) := by decide +kernel
theorem dX8_hear_29 : decode cX8_hear 29 = .ok (.ifCond .ne 5, 3) := by decide +kernel
theorem dX8_hear_32 : decode cX8_hear 32 = .ok (.iconst (-1), 1) := by decide +kernel
theorem dX8_hear_33 : decode cX8_hear 33 = .ok (.ireturn, 1) := by decide +kernel
theorem dX8_hear_34 : decode cX8_hear 34 = .ok (.aload_n 0, 1) := by decide +kernel
theorem dX8_hear_35 : decode cX8_hear 35 = .ok (.getfield 58, 3) := by decide +kernel
theorem dX8_hear_38 : decode cX8_hear 38 = .ok (.bipush 8, 2) := by decide +kernel
theorem dX8_hear_40 : decode cX8_hear 40 = .ok (.iaload, 1) := by decide +kernel
theorem dX8_hear_41 : decode cX8_hear 41 = .ok (.bipush 12, 2) := by decide +kernel
theorem dX8_hear_43 : decode cX8_hear 43 = .ok (.if_icmp .ne 6, 3) := by decide +kernel
theorem dX8_hear_46 : decode cX8_hear 46 = .ok (.bipush (-3), 2) := by decide +kernel
theorem dX8_hear_48 : decode cX8_hear 48 = .ok (.ireturn, 1) := by decide +kernel
theorem dX8_hear_49 : decode cX8_hear 49 = .ok (.aload_n 0, 1) := by decide +kernel
theorem dX8_hear_50 : decode cX8_hear 50 = .ok (.iload_n 1, 1) := by decide +kernel
theorem dX8_hear_51 : decode cX8_hear 51 = .ok (.iload_n 2, 1) := by decide +kernel
theorem dX8_hear_52 : decode cX8_hear 52 = .ok (.iload_n 3, 1) := by decide +kernel
theorem dX8_hear_53 : decode cX8_hear 53 = .ok (.invokevirtual 209, 3) := by decide +kernel
theorem dX8_hear_56 : decode cX8_hear 56 = .ok (.aload_n 0, 1) := by decide +kernel
theorem dX8_hear_57 : decode cX8_hear 57 = .ok (.getfield 58, 3) := by decide +kernel
theorem dX8_hear_60 : decode cX8_hear 60 = .ok (.bipush 8, 2) := by decide +kernel
theorem dX8_hear_62 : decode cX8_hear 62 = .ok (.iaload, 1) := by decide +kernel
theorem dX8_hear_63 : decode cX8_hear 63 = .ok (.ireturn, 1) := by decide +kernel
theorem dX8_truth_0 : decode cX8_truth 0 = .ok (.aload_n 0, 1) := by decide +kernel
theorem dX8_truth_1 : decode cX8_truth 1 = .ok (.aload_n 0, 1) := by decide +kernel
theorem dX8_truth_2 : decode cX8_truth 2 = .ok (.getfield 58, 3) := by decide +kernel
theorem dX8_truth_5 : decode cX8_truth 5 = .ok (.iconst 0, 1) := by decide +kernel
theorem dX8_truth_6 : decode cX8_truth 6 = .ok (.iaload, 1) := by decide +kernel
theorem dX8_truth_7 : decode cX8_truth 7 = .ok (.aload_n 0, 1) := by decide +kernel
theorem dX8_truth_8 : decode cX8_truth 8 = .ok (.getfield 58, 3) := by decide +kernel
theorem dX8_truth_11 : decode cX8_truth 11 = .ok (.iconst 1, 1) := by decide +kernel
theorem dX8_truth_12 : decode cX8_truth 12 = .ok (.iaload, 1) := by decide +kernel
theorem dX8_truth_13 : decode cX8_truth 13 = .ok (.aload_n 0, 1) := by decide +kernel
theorem dX8_truth_14 : decode cX8_truth 14 = .ok (.getfield 58, 3) := by decide +kernel
theorem dX8_truth_17 : decode cX8_truth 17 = .ok (.iconst 2, 1) := by decide +kernel
theorem dX8_truth_18 : decode cX8_truth 18 = .ok (.iaload, 1) := by decide +kernel
theorem dX8_truth_19 : decode cX8_truth 19 = .ok (.aload_n 0, 1) := by decide +kernel
theorem dX8_truth_20 : decode cX8_truth 20 = .ok (.getfield 58, 3) := by decide +kernel
theorem dX8_truth_23 : decode cX8_truth 23 = .ok (.iconst 3, 1) := by decide +kernel
theorem dX8_truth_24 : decode cX8_truth 24 = .ok (.iaload, 1) := by decide +kernel
theorem dX8_truth_25 : decode cX8_truth 25 = .ok (.invokevirtual 162, 3) := by decide +kernel
theorem dX8_truth_28 : decode cX8_truth 28 = .ok (.ireturn, 1) := by decide +kernel
theorem dX8_change_0 : decode cX8_change 0 = .ok (.aload_n 0, 1) := by decide +kernel
theorem dX8_change_1 : decode cX8_change 1 = .ok (.iload_n 1, 1) := by decide +kernel
theorem dX8_change_2 : decode cX8_change 2 = .ok (.invokevirtual 189, 3) := by decide +kernel
theorem dX8_change_5 : decode cX8_change 5 = .ok (.ifCond .eq 16, 3) := by decide +kernel
theorem dX8_change_8 : decode cX8_change 8 = .ok (.aload_n 0, 1) := by decide +kernel
theorem dX8_change_9 : decode cX8_change 9 = .ok (.iload_n 2, 1) := by decide +kernel
theorem dX8_change_10 : decode cX8_change 10 = .ok (.invokevirtual 189, 3) := by decide +kernel
theorem dX8_change_13 : decode cX8_change 13 = .ok (.ifCond .eq 8, 3) := by decide +kernel
theorem dX8_change_16 : decode cX8_change 16 = .ok (.iload_n 1, 1) := by decide +kernel
theorem dX8_change_17 : decode cX8_change 17 = .ok (.iload_n 2, 1) := by decide +kernel
theorem dX8_change_18 : decode cX8_change 18 = .ok (.if_icmp .ne 5, 3) := by decide +kernel
theorem dX8_change_21 : decode cX8_change 21 = .ok (.iconst (-1), 1) := by decide +kernel
theorem dX8_change_22 : decode cX8_change 22 = .ok (.ireturn, 1) := by decide +kernel
theorem dX8_change_23 : decode cX8_change 23 = .ok (.aload_n 0, 1) := by decide +kernel
theorem dX8_change_24 : decode cX8_change 24 = .ok (.getfield 58, 3) := by decide +kernel
theorem dX8_change_27 : decode cX8_change 27 = .ok (.iload_n 1, 1) := by decide +kernel
theorem dX8_change_28 : decode cX8_change 28 = .ok (.iaload, 1) := by decide +kernel
theorem dX8_change_29 : decode cX8_change 29 = .ok (.aload_n 0, 1) := by decide +kernel
theorem dX8_change_30 : decode cX8_change 30 = .ok (.getfield 58, 3) := by decide +kernel
theorem dX8_change_33 : decode cX8_change 33 = .ok (.iload_n 2, 1) := by decide +kernel
theorem dX8_change_34 : decode cX8_change 34 = .ok (.iaload, 1) := by decide +kernel
theorem dX8_change_35 : decode cX8_change 35 = .ok (.ixor, 1) := by decide +kernel
theorem dX8_change_36 : decode cX8_change 36 = .ok (.istore_n 3, 1) := by decide +kernel
theorem dX8_change_37 : decode cX8_change 37 = .ok (.aload_n 0, 1) := by decide +kernel
theorem dX8_change_38 : decode cX8_change 38 = .ok (.invokevirtual 215, 3) := by decide +kernel
theorem dX8_change_41 : decode cX8_change 41 = .ok (.iload_n 3, 1) := by decide +kernel
theorem dX8_change_42 : decode cX8_change 42 = .ok (.bipush 8, 2) := by decide +kernel
theorem dX8_change_44 : decode cX8_change 44 = .ok (.iload_n 1, 1) := by decide +kernel
theorem dX8_change_45 : decode cX8_change 45 = .ok (.imul, 1) := by decide +kernel
theorem dX8_change_46 : decode cX8_change 46 = .ok (.ishl, 1) := by decide +kernel
theorem dX8_change_47 : decode cX8_change 47 = .ok (.ixor, 1) := by decide +kernel
theorem dX8_change_48 : decode cX8_change 48 = .ok (.iload_n 3, 1) := by decide +kernel
theorem dX8_change_49 : decode cX8_change 49 = .ok (.bipush 8, 2) := by decide +kernel
theorem dX8_change_51 : decode cX8_change 51 = .ok (.iload_n 2, 1) := by decide +kernel
theorem dX8_change_52 : decode cX8_change 52 = .ok (.imul, 1) := by decide +kernel
theorem dX8_change_53 : decode cX8_change 53 = .ok (.ishl, 1) := by decide +kernel
theorem dX8_change_54 : decode cX8_change 54 = .ok (.ixor, 1) := by decide +kernel
theorem dX8_change_55 : decode cX8_change 55 = .ok (.istore 4, 2) := by decide +kernel
theorem dX8_change_57 : decode cX8_change 57 = .ok (.aload_n 0, 1) := by decide +kernel
theorem dX8_change_58 : decode cX8_change 58 = .ok (.getfield 37, 3) := by decide +kernel
theorem dX8_change_61 : decode cX8_change 61 = .ok (.iload_n 1, 1) := by decide +kernel
theorem dX8_change_62 : decode cX8_change 62 = .ok (.iaload, 1) := by decide +kernel
theorem dX8_change_63 : decode cX8_change 63 = .ok (.aload_n 0, 1) := by decide +kernel
theorem dX8_change_64 : decode cX8_change 64 = .ok (.getfield 37, 3) := by decide +kernel
theorem dX8_change_67 : decode cX8_change 67 = .ok (.iload_n 2, 1) := by decide +kernel
theorem dX8_change_68 : decode cX8_change 68 = .ok (.iaload, 1) := by decide +kernel
theorem dX8_change_69 : decode cX8_change 69 = .ok (.if_icmp .ne 13, 3) := by decide +kernel
theorem dX8_change_72 : decode cX8_change 72 = .ok (.aload_n 0, 1) := by decide +kernel
theorem dX8_change_73 : decode cX8_change 73 = .ok (.iconst 0, 1) := by decide +kernel
theorem dX8_change_74 : decode cX8_change 74 = .ok (.iload 4, 2) := by decide +kernel
theorem dX8_change_76 : decode cX8_change 76 = .ok (.invokevirtual 166, 3) := by decide +kernel
theorem dX8_change_79 : decode cX8_change 79 = .ok (.ifCond .ne 6, 3) := by decide +kernel
theorem dX8_change_82 : decode cX8_change 82 = .ok (.bipush (-2), 2) := by decide +kernel
theorem dX8_change_84 : decode cX8_change 84 = .ok (.ireturn, 1) := by decide +kernel
theorem dX8_change_85 : decode cX8_change 85 = .ok (.aload_n 0, 1) := by decide +kernel
theorem dX8_change_86 : decode cX8_change 86 = .ok (.invokevirtual 206, 3) := by decide +kernel
theorem dX8_change_89 : decode cX8_change 89 = .ok (.aload_n 0, 1) := by decide +kernel
theorem dX8_change_90 : decode cX8_change 90 = .ok (.getfield 58, 3) := by decide +kernel
theorem dX8_change_93 : decode cX8_change 93 = .ok (.iload_n 1, 1) := by decide +kernel
theorem dX8_change_94 : decode cX8_change 94 = .ok (.dup2, 1) := by decide +kernel
theorem dX8_change_95 : decode cX8_change 95 = .ok (.iaload, 1) := by decide +kernel
theorem dX8_change_96 : decode cX8_change 96 = .ok (.iload_n 3, 1) := by decide +kernel
theorem dX8_change_97 : decode cX8_change 97 = .ok (.ixor, 1) := by decide +kernel
theorem dX8_change_98 : decode cX8_change 98 = .ok (.iastore, 1) := by decide +kernel
theorem dX8_change_99 : decode cX8_change 99 = .ok (.aload_n 0, 1) := by decide +kernel
theorem dX8_change_100 : decode cX8_change 100 = .ok (.getfield 58, 3) := by decide +kernel
theorem dX8_change_103 : decode cX8_change 103 = .ok (.iload_n 2, 1) := by decide +kernel
theorem dX8_change_104 : decode cX8_change 104 = .ok (.dup2, 1) := by decide +kernel
theorem dX8_change_105 : decode cX8_change 105 = .ok (.iaload, 1) := by decide +kernel
theorem dX8_change_106 : decode cX8_change 106 = .ok (.iload_n 3, 1) := by decide +kernel
theorem dX8_change_107 : decode cX8_change 107 = .ok (.ixor, 1) := by decide +kernel
theorem dX8_change_108 : decode cX8_change 108 = .ok (.iastore, 1) := by decide +kernel
theorem dX8_change_109 : decode cX8_change 109 = .ok (.aload_n 0, 1) := by decide +kernel
theorem dX8_change_110 : decode cX8_change 110 = .ok (.getfield 58, 3) := by decide +kernel
theorem dX8_change_113 : decode cX8_change 113 = .ok (.iload_n 1, 1) := by decide +kernel
theorem dX8_change_114 : decode cX8_change 114 = .ok (.iaload, 1) := by decide +kernel
theorem dX8_change_115 : decode cX8_change 115 = .ok (.ireturn, 1) := by decide +kernel
theorem dX8_hide_0 : decode cX8_hide 0 = .ok (.aload_n 0, 1) := by decide +kernel
theorem dX8_hide_1 : decode cX8_hide 1 = .ok (.iload_n 1, 1) := by decide +kernel
theorem dX8_hide_2 : decode cX8_hide 2 = .ok (.invokevirtual 189, 3) := by decide +kernel
theorem dX8_hide_5 : decode cX8_hide 5 = .ok (.ifCond .eq 15, 3) := by decide +kernel
theorem dX8_hide_8 : decode cX8_hide 8 = .ok (.iload_n 2, 1) := by decide +kernel
theorem dX8_hide_9 : decode cX8_hide 9 = .ok (.i2l, 1) := by decide +kernel
theorem dX8_hide_10 : decode cX8_hide 10 = .ok (.lconst 0, 1) := by decide +kernel
theorem dX8_hide_11 : decode cX8_hide 11 = .ok (.ldc2_w 132, 3) := by decide +kernel
theorem dX8_hide_14 : decode cX8_hide 14 = .ok (.invokestatic 109, 3) := by decide +kernel
theorem dX8_hide_17 : decode cX8_hide 17 = .ok (.ifCond .ne 5, 3) := by decide +kernel
theorem dX8_hide_20 : decode cX8_hide 20 = .ok (.iconst (-1), 1) := by decide +kernel
theorem dX8_hide_21 : decode cX8_hide 21 = .ok (.ireturn, 1) := by decide +kernel
theorem dX8_hide_22 : decode cX8_hide 22 = .ok (.aload_n 0, 1) := by decide +kernel
theorem dX8_hide_23 : decode cX8_hide 23 = .ok (.getfield 58, 3) := by decide +kernel
theorem dX8_hide_26 : decode cX8_hide 26 = .ok (.iconst 4, 1) := by decide +kernel
theorem dX8_hide_27 : decode cX8_hide 27 = .ok (.iload_n 1, 1) := by decide +kernel
theorem dX8_hide_28 : decode cX8_hide 28 = .ok (.iadd, 1) := by decide +kernel
theorem dX8_hide_29 : decode cX8_hide 29 = .ok (.iaload, 1) := by decide +kernel
theorem dX8_hide_30 : decode cX8_hide 30 = .ok (.istore_n 3, 1) := by decide +kernel
theorem dX8_hide_31 : decode cX8_hide 31 = .ok (.aload_n 0, 1) := by decide +kernel
theorem dX8_hide_32 : decode cX8_hide 32 = .ok (.invokevirtual 206, 3) := by decide +kernel
theorem dX8_hide_35 : decode cX8_hide 35 = .ok (.aload_n 0, 1) := by decide +kernel
theorem dX8_hide_36 : decode cX8_hide 36 = .ok (.getfield 58, 3) := by decide +kernel
theorem dX8_hide_39 : decode cX8_hide 39 = .ok (.iconst 4, 1) := by decide +kernel
theorem dX8_hide_40 : decode cX8_hide 40 = .ok (.iload_n 1, 1) := by decide +kernel
theorem dX8_hide_41 : decode cX8_hide 41 = .ok (.iadd, 1) := by decide +kernel
theorem dX8_hide_42 : decode cX8_hide 42 = .ok (.iload_n 2, 1) := by decide +kernel
theorem dX8_hide_43 : decode cX8_hide 43 = .ok (.iastore, 1) := by decide +kernel
theorem dX8_hide_44 : decode cX8_hide 44 = .ok (.iload_n 3, 1) := by decide +kernel
theorem dX8_hide_45 : decode cX8_hide 45 = .ok (.ireturn, 1) := by decide +kernel
theorem dX8_undo_0 : decode cX8_undo 0 = .ok (.aload_n 0, 1) := by decide +kernel
theorem dX8_undo_1 : decode cX8_undo 1 = .ok (.getfield 175, 3) := by decide +kernel
theorem dX8_undo_4 : decode cX8_undo 4 = .ok (.ifCond .ne 6, 3) := by decide +kernel
theorem dX8_undo_7 : decode cX8_undo 7 = .ok (.bipush (-2), 2) := by decide +kernel
theorem dX8_undo_9 : decode cX8_undo 9 = .ok (.ireturn, 1) := by decide +kernel
theorem dX8_undo_10 : decode cX8_undo 10 = .ok (.aload_n 0, 1) := by decide +kernel
theorem dX8_undo_11 : decode cX8_undo 11 = .ok (.dup, 1) := by decide +kernel
theorem dX8_undo_12 : decode cX8_undo 12 = .ok (.getfield 175, 3) := by decide +kernel
theorem dX8_undo_15 : decode cX8_undo 15 = .ok (.iconst 1, 1) := by decide +kernel
theorem dX8_undo_16 : decode cX8_undo 16 = .ok (.isub, 1) := by decide +kernel
theorem dX8_undo_17 : decode cX8_undo 17 = .ok (.putfield 175, 3) := by decide +kernel
theorem dX8_undo_20 : decode cX8_undo 20 = .ok (.iconst 0, 1) := by decide +kernel
theorem dX8_undo_21 : decode cX8_undo 21 = .ok (.istore_n 1, 1) := by decide +kernel
theorem dX8_undo_22 : decode cX8_undo 22 = .ok (.iload_n 1, 1) := by decide +kernel
theorem dX8_undo_23 : decode cX8_undo 23 = .ok (.bipush 21, 2) := by decide +kernel
theorem dX8_undo_25 : decode cX8_undo 25 = .ok (.if_icmp .ge 29, 3) := by decide +kernel
theorem dX8_undo_28 : decode cX8_undo 28 = .ok (.aload_n 0, 1) := by decide +kernel
theorem dX8_undo_29 : decode cX8_undo 29 = .ok (.getfield 58, 3) := by decide +kernel
theorem dX8_undo_32 : decode cX8_undo 32 = .ok (.iload_n 1, 1) := by decide +kernel
theorem dX8_undo_33 : decode cX8_undo 33 = .ok (.aload_n 0, 1) := by decide +kernel
theorem dX8_undo_34 : decode cX8_undo 34 = .ok (.getfield 61, 3) := by decide +kernel
theorem dX8_undo_37 : decode cX8_undo 37 = .ok (.bipush 21, 2) := by decide +kernel
theorem dX8_undo_39 : decode cX8_undo 39 = .ok (.aload_n 0, 1) := by decide +kernel
theorem dX8_undo_40 : decode cX8_undo 40 = .ok (.getfield 175, 3) := by decide +kernel
theorem dX8_undo_43 : decode cX8_undo 43 = .ok (.imul, 1) := by decide +kernel
theorem dX8_undo_44 : decode cX8_undo 44 = .ok (.iload_n 1, 1) := by decide +kernel
theorem dX8_undo_45 : decode cX8_undo 45 = .ok (.iadd, 1) := by decide +kernel
theorem dX8_undo_46 : decode cX8_undo 46 = .ok (.iaload, 1) := by decide +kernel
theorem dX8_undo_47 : decode cX8_undo 47 = .ok (.iastore, 1) := by decide +kernel
theorem dX8_undo_48 : decode cX8_undo 48 = .ok (.iinc 1 1, 3) := by decide +kernel
theorem dX8_undo_51 : decode cX8_undo 51 = .ok (.goto (-29), 3) := by decide +kernel
theorem dX8_undo_54 : decode cX8_undo 54 = .ok (.aload_n 0, 1) := by decide +kernel
theorem dX8_undo_55 : decode cX8_undo 55 = .ok (.getfield 175, 3) := by decide +kernel
theorem dX8_undo_58 : decode cX8_undo 58 = .ok (.ireturn, 1) := by decide +kernel
theorem dX8_fits_0 : decode cX8_fits 0 = .ok (.iconst 1, 1) := by decide +kernel
theorem dX8_fits_1 : decode cX8_fits 1 = .ok (.istore_n 3, 1) := by decide +kernel
theorem dX8_fits_2 : decode cX8_fits 2 = .ok (.iconst 0, 1) := by decide +kernel
theorem dX8_fits_3 : decode cX8_fits 3 = .ok (.istore 4, 2) := by decide +kernel
theorem dX8_fits_5 : decode cX8_fits 5 = .ok (.iload 4, 2) := by decide +kernel
theorem dX8_fits_7 : decode cX8_fits 7 = .ok (.iload_n 2, 1) := by decide +kernel
theorem dX8_fits_8 : decode cX8_fits 8 = .ok (.if_icmp .ge 81, 3) := by decide +kernel
theorem dX8_fits_11 : decode cX8_fits 11 = .ok (.iload_n 3, 1) := by decide +kernel
theorem dX8_fits_12 : decode cX8_fits 12 = .ok (.ifCond .eq 77, 3) := by decide +kernel
theorem dX8_fits_15 : decode cX8_fits 15 = .ok (.aload_n 0, 1) := by decide +kernel
theorem dX8_fits_16 : decode cX8_fits 16 = .ok (.getfield 58, 3) := by decide +kernel
theorem dX8_fits_19 : decode cX8_fits 19 = .ok (.bipush 9, 2) := by decide +kernel
theorem dX8_fits_21 : decode cX8_fits 21 = .ok (.iload 4, 2) := by decide +kernel
theorem dX8_fits_23 : decode cX8_fits 23 = .ok (.iadd, 1) := by decide +kernel
theorem dX8_fits_24 : decode cX8_fits 24 = .ok (.iaload, 1) := by decide +kernel
theorem dX8_fits_25 : decode cX8_fits 25 = .ok (.iconst 4, 1) := by decide +kernel
theorem dX8_fits_26 : decode cX8_fits 26 = .ok (.idiv, 1) := by decide +kernel
theorem dX8_fits_27 : decode cX8_fits 27 = .ok (.iconst 4, 1) := by decide +kernel
theorem dX8_fits_28 : decode cX8_fits 28 = .ok (.irem, 1) := by decide +kernel
theorem dX8_fits_29 : decode cX8_fits 29 = .ok (.istore 5, 2) := by decide +kernel
theorem dX8_fits_31 : decode cX8_fits 31 = .ok (.aload_n 0, 1) := by decide +kernel
theorem dX8_fits_32 : decode cX8_fits 32 = .ok (.iload 5, 2) := by decide +kernel
theorem dX8_fits_34 : decode cX8_fits 34 = .ok (.aload_n 0, 1) := by decide +kernel
theorem dX8_fits_35 : decode cX8_fits 35 = .ok (.getfield 58, 3) := by decide +kernel
theorem dX8_fits_38 : decode cX8_fits 38 = .ok (.bipush 9, 2) := by decide +kernel
theorem dX8_fits_40 : decode cX8_fits 40 = .ok (.iload 4, 2) := by decide +kernel
theorem dX8_fits_42 : decode cX8_fits 42 = .ok (.iadd, 1) := by decide +kernel
theorem dX8_fits_43 : decode cX8_fits 43 = .ok (.iaload, 1) := by decide +kernel
theorem dX8_fits_44 : decode cX8_fits 44 = .ok (.iconst 4, 1) := by decide +kernel
theorem dX8_fits_45 : decode cX8_fits 45 = .ok (.irem, 1) := by decide +kernel
theorem dX8_fits_46 : decode cX8_fits 46 = .ok (.aload_n 0, 1) := by decide +kernel
theorem dX8_fits_47 : decode cX8_fits 47 = .ok (.getfield 55, 3) := by decide +kernel
theorem dX8_fits_50 : decode cX8_fits 50 = .ok (.iload_n 1, 1) := by decide +kernel
theorem dX8_fits_51 : decode cX8_fits 51 = .ok (.iaload, 1) := by decide +kernel
theorem dX8_fits_52 : decode cX8_fits 52 = .ok (.iload 5, 2) := by decide +kernel
theorem dX8_fits_54 : decode cX8_fits 54 = .ok (.invokestatic 192, 3) := by decide +kernel
theorem dX8_fits_57 : decode cX8_fits 57 = .ok (.iconst 0, 1) := by decide +kernel
theorem dX8_fits_58 : decode cX8_fits 58 = .ok (.invokevirtual 203, 3) := by decide +kernel
theorem dX8_fits_61 : decode cX8_fits 61 = .ok (.aload_n 0, 1) := by decide +kernel
theorem dX8_fits_62 : decode cX8_fits 62 = .ok (.getfield 58, 3) := by decide +kernel
theorem dX8_fits_65 : decode cX8_fits 65 = .ok (.bipush 9, 2) := by decide +kernel
theorem dX8_fits_67 : decode cX8_fits 67 = .ok (.iload 4, 2) := by decide +kernel
theorem dX8_fits_69 : decode cX8_fits 69 = .ok (.iadd, 1) := by decide +kernel
theorem dX8_fits_70 : decode cX8_fits 70 = .ok (.iaload, 1) := by decide +kernel
theorem dX8_fits_71 : decode cX8_fits 71 = .ok (.bipush 16, 2) := by decide +kernel
theorem dX8_fits_73 : decode cX8_fits 73 = .ok (.idiv, 1) := by decide +kernel
theorem dX8_fits_74 : decode cX8_fits 74 = .ok (.if_icmp .ne 7, 3) := by decide +kernel
theorem dX8_fits_77 : decode cX8_fits 77 = .ok (.iconst 1, 1) := by decide +kernel
theorem dX8_fits_78 : decode cX8_fits 78 = .ok (.goto 4, 3) := by decide +kernel
theorem dX8_fits_81 : decode cX8_fits 81 = .ok (.iconst 0, 1) := by decide +kernel
theorem dX8_fits_82 : decode cX8_fits 82 = .ok (.istore_n 3, 1) := by decide +kernel
theorem dX8_fits_83 : decode cX8_fits 83 = .ok (.iinc 4 1, 3) := by decide +kernel
theorem dX8_fits_86 : decode cX8_fits 86 = .ok (.goto (-81), 3) := by decide +kernel
theorem dX8_fits_89 : decode cX8_fits 89 = .ok (.iload_n 3, 1) := by decide +kernel
theorem dX8_fits_90 : decode cX8_fits 90 = .ok (.ireturn, 1) := by decide +kernel
theorem dX8_layLeft_0 : decode cX8_layLeft 0 = .ok (.iconst 0, 1) := by decide +kernel
theorem dX8_layLeft_1 : decode cX8_layLeft 1 = .ok (.istore_n 2, 1) := by decide +kernel
theorem dX8_layLeft_2 : decode cX8_layLeft 2 = .ok (.iconst 0, 1) := by decide +kernel
theorem dX8_layLeft_3 : decode cX8_layLeft 3 = .ok (.istore_n 3, 1) := by decide +kernel
theorem dX8_layLeft_4 : decode cX8_layLeft 4 = .ok (.iload_n 3, 1) := by decide +kernel
theorem dX8_layLeft_5 : decode cX8_layLeft 5 = .ok (.aload_n 0, 1) := by decide +kernel
theorem dX8_layLeft_6 : decode cX8_layLeft 6 = .ok (.getfield 172, 3) := by decide +kernel
theorem dX8_layLeft_9 : decode cX8_layLeft 9 = .ok (.if_icmp .ge 38, 3) := by decide +kernel
theorem dX8_layLeft_12 : decode cX8_layLeft 12 = .ok (.aload_n 0, 1) := by decide +kernel
theorem dX8_layLeft_13 : decode cX8_layLeft 13 = .ok (.getfield 73, 3) := by decide +kernel
theorem dX8_layLeft_16 : decode cX8_layLeft 16 = .ok (.iload_n 3, 1) := by decide +kernel
theorem dX8_layLeft_17 : decode cX8_layLeft 17 = .ok (.aload_n 0, 1) := by decide +kernel
theorem dX8_layLeft_18 : decode cX8_layLeft 18 = .ok (.iload_n 3, 1) := by decide +kernel
theorem dX8_layLeft_19 : decode cX8_layLeft 19 = .ok (.iload_n 1, 1) := by decide +kernel
theorem dX8_layLeft_20 : decode cX8_layLeft 20 = .ok (.invokevirtual 218, 3) := by decide +kernel
theorem dX8_layLeft_23 : decode cX8_layLeft 23 = .ok (.bastore, 1) := by decide +kernel
theorem dX8_layLeft_24 : decode cX8_layLeft 24 = .ok (.iload_n 2, 1) := by decide +kernel
theorem dX8_layLeft_25 : decode cX8_layLeft 25 = .ok (.aload_n 0, 1) := by decide +kernel
theorem dX8_layLeft_26 : decode cX8_layLeft 26 = .ok (.getfield 73, 3) := by decide +kernel
theorem dX8_layLeft_29 : decode cX8_layLeft 29 = .ok (.iload_n 3, 1) := by decide +kernel
theorem dX8_layLeft_30 : decode cX8_layLeft 30 = .ok (.baload, 1) := by decide +kernel
theorem dX8_layLeft_31 : decode cX8_layLeft 31 = .ok (.ifCond .eq 7, 3) := by decide +kernel
theorem dX8_layLeft_34 : decode cX8_layLeft 34 = .ok (.iconst 1, 1) := by decide +kernel
theorem dX8_layLeft_35 : decode cX8_layLeft 35 = .ok (.goto 4, 3) := by decide +kernel
theorem dX8_layLeft_38 : decode cX8_layLeft 38 = .ok (.iconst 0, 1) := by decide +kernel
theorem dX8_layLeft_39 : decode cX8_layLeft 39 = .ok (.iadd, 1) := by decide +kernel
theorem dX8_layLeft_40 : decode cX8_layLeft 40 = .ok (.istore_n 2, 1) := by decide +kernel
theorem dX8_layLeft_41 : decode cX8_layLeft 41 = .ok (.iinc 3 1, 3) := by decide +kernel
theorem dX8_layLeft_44 : decode cX8_layLeft 44 = .ok (.goto (-40), 3) := by decide +kernel
theorem dX8_layLeft_47 : decode cX8_layLeft 47 = .ok (.iload_n 2, 1) := by decide +kernel
theorem dX8_layLeft_48 : decode cX8_layLeft 48 = .ok (.ireturn, 1) := by decide +kernel
theorem dX8_left_0 : decode cX8_left 0 = .ok (.aload_n 0, 1) := by decide +kernel
theorem dX8_left_1 : decode cX8_left 1 = .ok (.aload_n 0, 1) := by decide +kernel
theorem dX8_left_2 : decode cX8_left 2 = .ok (.getfield 58, 3) := by decide +kernel
theorem dX8_left_5 : decode cX8_left 5 = .ok (.bipush 8, 2) := by decide +kernel
theorem dX8_left_7 : decode cX8_left 7 = .ok (.iaload, 1) := by decide +kernel
theorem dX8_left_8 : decode cX8_left 8 = .ok (.invokevirtual 221, 3) := by decide +kernel
theorem dX8_left_11 : decode cX8_left 11 = .ok (.ireturn, 1) := by decide +kernel
theorem dX8_weighs_0 : decode cX8_weighs 0 = .ok (.lconst 1, 1) := by decide +kernel
theorem dX8_weighs_1 : decode cX8_weighs 1 = .ok (.lstore_n 2, 1) := by decide +kernel
theorem dX8_weighs_2 : decode cX8_weighs 2 = .ok (.iconst 0, 1) := by decide +kernel
theorem dX8_weighs_3 : decode cX8_weighs 3 = .ok (.istore 4, 2) := by decide +kernel
theorem dX8_weighs_5 : decode cX8_weighs 5 = .ok (.iload 4, 2) := by decide +kernel
theorem dX8_weighs_7 : decode cX8_weighs 7 = .ok (.aload_n 0, 1) := by decide +kernel
theorem dX8_weighs_8 : decode cX8_weighs 8 = .ok (.getfield 13, 3) := by decide +kernel
theorem dX8_weighs_11 : decode cX8_weighs 11 = .ok (.iconst 0, 1) := by decide +kernel
theorem dX8_weighs_12 : decode cX8_weighs 12 = .ok (.iaload, 1) := by decide +kernel
theorem dX8_weighs_13 : decode cX8_weighs 13 = .ok (.if_icmp .ge 83, 3) := by decide +kernel
theorem dX8_weighs_16 : decode cX8_weighs 16 = .ok (.iconst 0, 1) := by decide +kernel
theorem dX8_weighs_17 : decode cX8_weighs 17 = .ok (.istore 5, 2) := by decide +kernel
theorem dX8_weighs_19 : decode cX8_weighs 19 = .ok (.iconst 0, 1) := by decide +kernel
theorem dX8_weighs_20 : decode cX8_weighs 20 = .ok (.istore 6, 2) := by decide +kernel
theorem dX8_weighs_22 : decode cX8_weighs 22 = .ok (.iload 6, 2) := by decide +kernel
theorem dX8_weighs_24 : decode cX8_weighs 24 = .ok (.aload_n 0, 1) := by decide +kernel
theorem dX8_weighs_25 : decode cX8_weighs 25 = .ok (.getfield 28, 3) := by decide +kernel
theorem dX8_weighs_28 : decode cX8_weighs 28 = .ok (.iconst 0, 1) := by decide +kernel
theorem dX8_weighs_29 : decode cX8_weighs 29 = .ok (.iaload, 1) := by decide +kernel
theorem dX8_weighs_30 : decode cX8_weighs 30 = .ok (.if_icmp .ge 40, 3) := by decide +kernel
theorem dX8_weighs_33 : decode cX8_weighs 33 = .ok (.iload 5, 2) := by decide +kernel
theorem dX8_weighs_35 : decode cX8_weighs 35 = .ok (.ifCond .ne 22, 3) := by decide +kernel
theorem dX8_weighs_38 : decode cX8_weighs 38 = .ok (.aload_n 0, 1) := by decide +kernel
theorem dX8_weighs_39 : decode cX8_weighs 39 = .ok (.getfield 55, 3) := by decide +kernel
theorem dX8_weighs_42 : decode cX8_weighs 42 = .ok (.iload_n 1, 1) := by decide +kernel
theorem dX8_weighs_43 : decode cX8_weighs 43 = .ok (.iaload, 1) := by decide +kernel
theorem dX8_weighs_44 : decode cX8_weighs 44 = .ok (.iload 6, 2) := by decide +kernel
theorem dX8_weighs_46 : decode cX8_weighs 46 = .ok (.invokestatic 192, 3) := by decide +kernel
theorem dX8_weighs_49 : decode cX8_weighs 49 = .ok (.iload 4, 2) := by decide +kernel
theorem dX8_weighs_51 : decode cX8_weighs 51 = .ok (.invokestatic 151, 3) := by decide +kernel
theorem dX8_weighs_54 : decode cX8_weighs 54 = .ok (.ifCond .eq 7, 3) := by decide +kernel
theorem dX8_weighs_57 : decode cX8_weighs 57 = .ok (.iconst 1, 1) := by decide +kernel
theorem dX8_weighs_58 : decode cX8_weighs 58 = .ok (.goto 4, 3) := by decide +kernel
theorem dX8_weighs_61 : decode cX8_weighs 61 = .ok (.iconst 0, 1) := by decide +kernel
theorem dX8_weighs_62 : decode cX8_weighs 62 = .ok (.istore 5, 2) := by decide +kernel
theorem dX8_weighs_64 : decode cX8_weighs 64 = .ok (.iinc 6 1, 3) := by decide +kernel
theorem dX8_weighs_67 : decode cX8_weighs 67 = .ok (.goto (-45), 3) := by decide +kernel
theorem dX8_weighs_70 : decode cX8_weighs 70 = .ok (.lload_n 2, 1) := by decide +kernel
theorem dX8_weighs_71 : decode cX8_weighs 71 = .ok (.iload 5, 2) := by decide +kernel
theorem dX8_weighs_73 : decode cX8_weighs 73 = .ok (.ifCond .eq 14, 3) := by decide +kernel
theorem dX8_weighs_76 : decode cX8_weighs 76 = .ok (.aload_n 0, 1) := by decide +kernel
theorem dX8_weighs_77 : decode cX8_weighs 77 = .ok (.getfield 25, 3) := by decide +kernel
theorem dX8_weighs_80 : decode cX8_weighs 80 = .ok (.iload 4, 2) := by decide +kernel
theorem dX8_weighs_82 : decode cX8_weighs 82 = .ok (.iaload, 1) := by decide +kernel
theorem dX8_weighs_83 : decode cX8_weighs 83 = .ok (.i2l, 1) := by decide +kernel
theorem dX8_weighs_84 : decode cX8_weighs 84 = .ok (.goto 4, 3) := by decide +kernel
theorem dX8_weighs_87 : decode cX8_weighs 87 = .ok (.lconst 1, 1) := by decide +kernel
theorem dX8_weighs_88 : decode cX8_weighs 88 = .ok (.lmul, 1) := by decide +kernel
theorem dX8_weighs_89 : decode cX8_weighs 89 = .ok (.lstore_n 2, 1) := by decide +kernel
theorem dX8_weighs_90 : decode cX8_weighs 90 = .ok (.iinc 4 1, 3) := by decide +kernel
theorem dX8_weighs_93 : decode cX8_weighs 93 = .ok (.goto (-88), 3) := by decide +kernel
theorem dX8_weighs_96 : decode cX8_weighs 96 = .ok (.lload_n 2, 1) := by decide +kernel
theorem dX8_weighs_97 : decode cX8_weighs 97 = .ok (.lreturn, 1) := by decide +kernel
theorem dX8_common_0 : decode cX8_common 0 = .ok (.lload_n 0, 1) := by decide +kernel
theorem dX8_common_1 : decode cX8_common 1 = .ok (.lstore 4, 2) := by decide +kernel
theorem dX8_common_3 : decode cX8_common 3 = .ok (.lload_n 2, 1) := by decide +kernel
theorem dX8_common_4 : decode cX8_common 4 = .ok (.lstore 6, 2) := by decide +kernel
theorem dX8_common_6 : decode cX8_common 6 = .ok (.lload 6, 2) := by decide +kernel
theorem dX8_common_8 : decode cX8_common 8 = .ok (.lconst 0, 1) := by decide +kernel
theorem dX8_common_9 : decode cX8_common 9 = .ok (.lcmp, 1) := by decide +kernel
theorem dX8_common_10 : decode cX8_common 10 = .ok (.ifCond .eq 21, 3) := by decide +kernel
theorem dX8_common_13 : decode cX8_common 13 = .ok (.lload 4, 2) := by decide +kernel
theorem dX8_common_15 : decode cX8_common 15 = .ok (.lload 6, 2) := by decide +kernel
theorem dX8_common_17 : decode cX8_common 17 = .ok (.lrem, 1) := by decide +kernel
theorem dX8_common_18 : decode cX8_common 18 = .ok (.lstore 8, 2) := by decide +kernel
theorem dX8_common_20 : decode cX8_common 20 = .ok (.lload 6, 2) := by decide +kernel
theorem dX8_common_22 : decode cX8_common 22 = .ok (.lstore 4, 2) := by decide +kernel
theorem dX8_common_24 : decode cX8_common 24 = .ok (.lload 8, 2) := by decide +kernel
theorem dX8_common_26 : decode cX8_common 26 = .ok (.lstore 6, 2) := by decide +kernel
theorem dX8_common_28 : decode cX8_common 28 = .ok (.goto (-22), 3) := by decide +kernel
theorem dX8_common_31 : decode cX8_common 31 = .ok (.lload 4, 2) := by decide +kernel
theorem dX8_common_33 : decode cX8_common 33 = .ok (.lreturn, 1) := by decide +kernel
theorem dX8_likely_0 : decode cX8_likely 0 = .ok (.aload_n 0, 1) := by decide +kernel
theorem dX8_likely_1 : decode cX8_likely 1 = .ok (.iload_n 1, 1) := by decide +kernel
theorem dX8_likely_2 : decode cX8_likely 2 = .ok (.invokevirtual 189, 3) := by decide +kernel
theorem dX8_likely_5 : decode cX8_likely 5 = .ok (.ifCond .eq 21, 3) := by decide +kernel
theorem dX8_likely_8 : decode cX8_likely 8 = .ok (.aload_n 0, 1) := by decide +kernel
theorem dX8_likely_9 : decode cX8_likely 9 = .ok (.iload_n 2, 1) := by decide +kernel
theorem dX8_likely_10 : decode cX8_likely 10 = .ok (.invokevirtual 184, 3) := by decide +kernel
theorem dX8_likely_13 : decode cX8_likely 13 = .ok (.ifCond .eq 13, 3) := by decide +kernel
theorem dX8_likely_16 : decode cX8_likely 16 = .ok (.iload_n 3, 1) := by decide +kernel
theorem dX8_likely_17 : decode cX8_likely 17 = .ok (.i2l, 1) := by decide +kernel
theorem dX8_likely_18 : decode cX8_likely 18 = .ok (.lconst 0, 1) := by decide +kernel
theorem dX8_likely_19 : decode cX8_likely 19 = .ok (.lconst 1, 1) := by decide +kernel
theorem dX8_likely_20 : decode cX8_likely 20 = .ok (.invokestatic 109, 3) := by decide +kernel
theorem dX8_likely_23 : decode cX8_likely 23 = .ok (.ifCond .ne 7, 3) := by decide +kernel
theorem dX8_likely_26 : decode cX8_likely 26 = .ok (.ldc2_w 224, 3) := by decide +kernel
theorem dX8_likely_29 : decode cX8_likely 29 = .ok (.lreturn, 1) := by decide +kernel
theorem dX8_likely_30 : decode cX8_likely 30 = .ok (.aload_n 0, 1) := by decide +kernel
theorem dX8_likely_31 : decode cX8_likely 31 = .ok (.aload_n 0, 1) := by decide +kernel
theorem dX8_likely_32 : decode cX8_likely 32 = .ok (.getfield 58, 3) := by decide +kernel
theorem dX8_likely_35 : decode cX8_likely 35 = .ok (.bipush 8, 2) := by decide +kernel
theorem dX8_likely_37 : decode cX8_likely 37 = .ok (.iaload, 1) := by decide +kernel
theorem dX8_likely_38 : decode cX8_likely 38 = .ok (.invokevirtual 221, 3) := by decide +kernel
theorem dX8_likely_41 : decode cX8_likely 41 = .ok (.ifCond .ne 7, 3) := by decide +kernel
theorem dX8_likely_44 : decode cX8_likely 44 = .ok (.ldc2_w 226, 3) := by decide +kernel
theorem dX8_likely_47 : decode cX8_likely 47 = .ok (.lreturn, 1) := by decide +kernel
theorem dX8_likely_48 : decode cX8_likely 48 = .ok (.lconst 0, 1) := by decide +kernel
theorem dX8_likely_49 : decode cX8_likely 49 = .ok (.lstore 4, 2) := by decide +kernel
theorem dX8_likely_51 : decode cX8_likely 51 = .ok (.lconst 0, 1) := by decide +kernel
theorem dX8_likely_52 : decode cX8_likely 52 = .ok (.lstore 6, 2) := by decide +kernel
theorem dX8_likely_54 : decode cX8_likely 54 = .ok (.iconst 0, 1) := by decide +kernel
theorem dX8_likely_55 : decode cX8_likely 55 = .ok (.istore 8, 2) := by decide +kernel
theorem dX8_likely_57 : decode cX8_likely 57 = .ok (.iload 8, 2) := by decide +kernel
theorem dX8_likely_59 : decode cX8_likely 59 = .ok (.aload_n 0, 1) := by decide +kernel
theorem dX8_likely_60 : decode cX8_likely 60 = .ok (.getfield 172, 3) := by decide +kernel
theorem dX8_likely_63 : decode cX8_likely 63 = .ok (.if_icmp .ge 67, 3) := by decide +kernel
theorem dX8_likely_66 : decode cX8_likely 66 = .ok (.aload_n 0, 1) := by decide +kernel
theorem dX8_likely_67 : decode cX8_likely 67 = .ok (.getfield 73, 3) := by decide +kernel
theorem dX8_likely_70 : decode cX8_likely 70 = .ok (.iload 8, 2) := by decide +kernel
theorem dX8_likely_72 : decode cX8_likely 72 = .ok (.baload, 1) := by decide +kernel
theorem dX8_likely_73 : decode cX8_likely 73 = .ok (.ifCond .eq 12, 3) := by decide +kernel
theorem dX8_likely_76 : decode cX8_likely 76 = .ok (.aload_n 0, 1) := by decide +kernel
theorem dX8_likely_77 : decode cX8_likely 77 = .ok (.iload 8, 2) := by decide +kernel
theorem dX8_likely_79 : decode cX8_likely 79 = .ok (.invokevirtual 228, 3) := by decide +kernel
theorem dX8_likely_82 : decode cX8_likely 82 = .ok (.goto 4, 3) := by decide +kernel
theorem dX8_likely_85 : decode cX8_likely 85 = .ok (.lconst 0, 1) := by decide +kernel
theorem dX8_likely_86 : decode cX8_likely 86 = .ok (.lstore 9, 2) := by decide +kernel
theorem dX8_likely_88 : decode cX8_likely 88 = .ok (.lload 6, 2) := by decide +kernel
theorem dX8_likely_90 : decode cX8_likely 90 = .ok (.lload 9, 2) := by decide +kernel
theorem dX8_likely_92 : decode cX8_likely 92 = .ok (.ladd, 1) := by decide +kernel
theorem dX8_likely_93 : decode cX8_likely 93 = .ok (.lstore 6, 2) := by decide +kernel
theorem dX8_likely_95 : decode cX8_likely 95 = .ok (.lload 4, 2) := by decide +kernel
theorem dX8_likely_97 : decode cX8_likely 97 = .ok (.aload_n 0, 1) := by decide +kernel
theorem dX8_likely_98 : decode cX8_likely 98 = .ok (.getfield 55, 3) := by decide +kernel
theorem dX8_likely_101 : decode cX8_likely 101 = .ok (.iload 8, 2) := by decide +kernel
theorem dX8_likely_103 : decode cX8_likely 103 = .ok (.iaload, 1) := by decide +kernel
theorem dX8_likely_104 : decode cX8_likely 104 = .ok (.iload_n 1, 1) := by decide +kernel
theorem dX8_likely_105 : decode cX8_likely 105 = .ok (.invokestatic 192, 3) := by decide +kernel
theorem dX8_likely_108 : decode cX8_likely 108 = .ok (.iload_n 2, 1) := by decide +kernel
theorem dX8_likely_109 : decode cX8_likely 109 = .ok (.invokestatic 151, 3) := by decide +kernel
theorem dX8_likely_112 : decode cX8_likely 112 = .ok (.ifCond .eq 8, 3) := by decide +kernel
theorem dX8_likely_115 : decode cX8_likely 115 = .ok (.lload 9, 2) := by decide +kernel
theorem dX8_likely_117 : decode cX8_likely 117 = .ok (.goto 4, 3) := by decide +kernel
theorem dX8_likely_120 : decode cX8_likely 120 = .ok (.lconst 0, 1) := by decide +kernel
theorem dX8_likely_121 : decode cX8_likely 121 = .ok (.ladd, 1) := by decide +kernel
theorem dX8_likely_122 : decode cX8_likely 122 = .ok (.lstore 4, 2) := by decide +kernel
theorem dX8_likely_124 : decode cX8_likely 124 = .ok (.iinc 8 1, 3) := by decide +kernel
theorem dX8_likely_127 : decode cX8_likely 127 = .ok (.goto (-70), 3) := by decide +kernel
theorem dX8_likely_130 : decode cX8_likely 130 = .ok (.lload 4, 2) := by decide +kernel
theorem dX8_likely_132 : decode cX8_likely 132 = .ok (.lload 6, 2) := by decide +kernel
theorem dX8_likely_134 : decode cX8_likely 134 = .ok (.invokestatic 232, 3) := by decide +kernel
theorem dX8_likely_137 : decode cX8_likely 137 = .ok (.lstore 8, 2) := by decide +kernel
theorem dX8_likely_139 : decode cX8_likely 139 = .ok (.iload_n 3, 1) := by decide +kernel
theorem dX8_likely_140 : decode cX8_likely 140 = .ok (.ifCond .ne 11, 3) := by decide +kernel
theorem dX8_likely_143 : decode cX8_likely 143 = .ok (.lload 4, 2) := by decide +kernel
theorem dX8_likely_145 : decode cX8_likely 145 = .ok (.lload 8, 2) := by decide +kernel
theorem dX8_likely_147 : decode cX8_likely 147 = .ok (.ldiv, 1) := by decide +kernel
theorem dX8_likely_148 : decode cX8_likely 148 = .ok (.goto 8, 3) := by decide +kernel
theorem dX8_likely_151 : decode cX8_likely 151 = .ok (.lload 6, 2) := by decide +kernel
theorem dX8_likely_153 : decode cX8_likely 153 = .ok (.lload 8, 2) := by decide +kernel
theorem dX8_likely_155 : decode cX8_likely 155 = .ok (.ldiv, 1) := by decide +kernel
theorem dX8_likely_156 : decode cX8_likely 156 = .ok (.lreturn, 1) := by decide +kernel
theorem dX8_sure_0 : decode cX8_sure 0 = .ok (.aload_n 0, 1) := by decide +kernel
theorem dX8_sure_1 : decode cX8_sure 1 = .ok (.iload_n 1, 1) := by decide +kernel
theorem dX8_sure_2 : decode cX8_sure 2 = .ok (.invokevirtual 189, 3) := by decide +kernel
theorem dX8_sure_5 : decode cX8_sure 5 = .ok (.ifCond .ne 5, 3) := by decide +kernel
theorem dX8_sure_8 : decode cX8_sure 8 = .ok (.iconst (-1), 1) := by decide +kernel
theorem dX8_sure_9 : decode cX8_sure 9 = .ok (.ireturn, 1) := by decide +kernel
theorem dX8_sure_10 : decode cX8_sure 10 = .ok (.aload_n 0, 1) := by decide +kernel
theorem dX8_sure_11 : decode cX8_sure 11 = .ok (.aload_n 0, 1) := by decide +kernel
theorem dX8_sure_12 : decode cX8_sure 12 = .ok (.getfield 58, 3) := by decide +kernel
theorem dX8_sure_15 : decode cX8_sure 15 = .ok (.bipush 8, 2) := by decide +kernel
theorem dX8_sure_17 : decode cX8_sure 17 = .ok (.iaload, 1) := by decide +kernel
theorem dX8_sure_18 : decode cX8_sure 18 = .ok (.invokevirtual 221, 3) := by decide +kernel
theorem dX8_sure_21 : decode cX8_sure 21 = .ok (.pop, 1) := by decide +kernel
theorem dX8_sure_22 : decode cX8_sure 22 = .ok (.iconst 1, 1) := by decide +kernel
theorem dX8_sure_23 : decode cX8_sure 23 = .ok (.aload_n 0, 1) := by decide +kernel
theorem dX8_sure_24 : decode cX8_sure 24 = .ok (.getfield 13, 3) := by decide +kernel
theorem dX8_sure_27 : decode cX8_sure 27 = .ok (.iconst 0, 1) := by decide +kernel
theorem dX8_sure_28 : decode cX8_sure 28 = .ok (.iaload, 1) := by decide +kernel
theorem dX8_sure_29 : decode cX8_sure 29 = .ok (.ishl, 1) := by decide +kernel
theorem dX8_sure_30 : decode cX8_sure 30 = .ok (.iconst 1, 1) := by decide +kernel
theorem dX8_sure_31 : decode cX8_sure 31 = .ok (.isub, 1) := by decide +kernel
theorem dX8_sure_32 : decode cX8_sure 32 = .ok (.istore_n 3, 1) := by decide +kernel
theorem dX8_sure_33 : decode cX8_sure 33 = .ok (.iconst 0, 1) := by decide +kernel
theorem dX8_sure_34 : decode cX8_sure 34 = .ok (.istore 4, 2) := by decide +kernel
theorem dX8_sure_36 : decode cX8_sure 36 = .ok (.iload 4, 2) := by decide +kernel
theorem dX8_sure_38 : decode cX8_sure 38 = .ok (.aload_n 0, 1) := by decide +kernel
theorem dX8_sure_39 : decode cX8_sure 39 = .ok (.getfield 172, 3) := by decide +kernel
theorem dX8_sure_42 : decode cX8_sure 42 = .ok (.if_icmp .ge 52, 3) := by decide +kernel
theorem dX8_sure_45 : decode cX8_sure 45 = .ok (.aload_n 0, 1) := by decide +kernel
theorem dX8_sure_46 : decode cX8_sure 46 = .ok (.getfield 55, 3) := by decide +kernel
theorem dX8_sure_49 : decode cX8_sure 49 = .ok (.iload 4, 2) := by decide +kernel
theorem dX8_sure_51 : decode cX8_sure 51 = .ok (.iaload, 1) := by decide +kernel
theorem dX8_sure_52 : decode cX8_sure 52 = .ok (.iload_n 1, 1) := by decide +kernel
theorem dX8_sure_53 : decode cX8_sure 53 = .ok (.invokestatic 192, 3) := by decide +kernel
theorem dX8_sure_56 : decode cX8_sure 56 = .ok (.istore 5, 2) := by decide +kernel
theorem dX8_sure_58 : decode cX8_sure 58 = .ok (.iload_n 3, 1) := by decide +kernel
theorem dX8_sure_59 : decode cX8_sure 59 = .ok (.aload_n 0, 1) := by decide +kernel
theorem dX8_sure_60 : decode cX8_sure 60 = .ok (.getfield 73, 3) := by decide +kernel
theorem dX8_sure_63 : decode cX8_sure 63 = .ok (.iload 4, 2) := by decide +kernel
theorem dX8_sure_65 : decode cX8_sure 65 = .ok (.baload, 1) := by decide +kernel
theorem dX8_sure_66 : decode cX8_sure 66 = .ok (.ifCond .eq 19, 3) := by decide +kernel
theorem dX8_sure_69 : decode cX8_sure 69 = .ok (.iload_n 2, 1) := by decide +kernel
theorem dX8_sure_70 : decode cX8_sure 70 = .ok (.ifCond .eq 10, 3) := by decide +kernel
theorem dX8_sure_73 : decode cX8_sure 73 = .ok (.iload 5, 2) := by decide +kernel
theorem dX8_sure_75 : decode cX8_sure 75 = .ok (.iconst (-1), 1) := by decide +kernel
theorem dX8_sure_76 : decode cX8_sure 76 = .ok (.ixor, 1) := by decide +kernel
theorem dX8_sure_77 : decode cX8_sure 77 = .ok (.goto 9, 3) := by decide +kernel
theorem dX8_sure_80 : decode cX8_sure 80 = .ok (.iload 5, 2) := by decide +kernel
theorem dX8_sure_82 : decode cX8_sure 82 = .ok (.goto 4, 3) := by decide +kernel
theorem dX8_sure_85 : decode cX8_sure 85 = .ok (.iconst (-1), 1) := by decide +kernel
theorem dX8_sure_86 : decode cX8_sure 86 = .ok (.iand, 1) := by decide +kernel
theorem dX8_sure_87 : decode cX8_sure 87 = .ok (.istore_n 3, 1) := by decide +kernel
theorem dX8_sure_88 : decode cX8_sure 88 = .ok (.iinc 4 1, 3) := by decide +kernel
theorem dX8_sure_91 : decode cX8_sure 91 = .ok (.goto (-55), 3) := by decide +kernel
theorem dX8_sure_94 : decode cX8_sure 94 = .ok (.iload_n 3, 1) := by decide +kernel
theorem dX8_sure_95 : decode cX8_sure 95 = .ok (.ireturn, 1) := by decide +kernel
theorem dX8_judge_0 : decode cX8_judge 0 = .ok (.iconst 1, 1) := by decide +kernel
theorem dX8_judge_1 : decode cX8_judge 1 = .ok (.istore_n 1, 1) := by decide +kernel
theorem dX8_judge_2 : decode cX8_judge 2 = .ok (.iload_n 1, 1) := by decide +kernel
theorem dX8_judge_3 : decode cX8_judge 3 = .ok (.aload_n 0, 1) := by decide +kernel
theorem dX8_judge_4 : decode cX8_judge 4 = .ok (.getfield 58, 3) := by decide +kernel
theorem dX8_judge_7 : decode cX8_judge 7 = .ok (.bipush 8, 2) := by decide +kernel
theorem dX8_judge_9 : decode cX8_judge 9 = .ok (.iaload, 1) := by decide +kernel
theorem dX8_judge_10 : decode cX8_judge 10 = .ok (.if_icmp .gt 21, 3) := by decide +kernel
theorem dX8_judge_13 : decode cX8_judge 13 = .ok (.aload_n 0, 1) := by decide +kernel
theorem dX8_judge_14 : decode cX8_judge 14 = .ok (.iload_n 1, 1) := by decide +kernel
theorem dX8_judge_15 : decode cX8_judge 15 = .ok (.invokevirtual 221, 3) := by decide +kernel
theorem dX8_judge_18 : decode cX8_judge 18 = .ok (.ifCond .ne 7, 3) := by decide +kernel
theorem dX8_judge_21 : decode cX8_judge 21 = .ok (.iload_n 1, 1) := by decide +kernel
theorem dX8_judge_22 : decode cX8_judge 22 = .ok (.iconst 1, 1) := by decide +kernel
theorem dX8_judge_23 : decode cX8_judge 23 = .ok (.isub, 1) := by decide +kernel
theorem dX8_judge_24 : decode cX8_judge 24 = .ok (.ireturn, 1) := by decide +kernel
theorem dX8_judge_25 : decode cX8_judge 25 = .ok (.iinc 1 1, 3) := by decide +kernel
theorem dX8_judge_28 : decode cX8_judge 28 = .ok (.goto (-26), 3) := by decide +kernel
theorem dX8_judge_31 : decode cX8_judge 31 = .ok (.bipush (-4), 2) := by decide +kernel
theorem dX8_judge_33 : decode cX8_judge 33 = .ok (.ireturn, 1) := by decide +kernel
theorem dX8_guess_0 : decode cX8_guess 0 = .ok (.aload_n 0, 1) := by decide +kernel
theorem dX8_guess_1 : decode cX8_guess 1 = .ok (.iload_n 1, 1) := by decide +kernel
theorem dX8_guess_2 : decode cX8_guess 2 = .ok (.invokevirtual 189, 3) := by decide +kernel
theorem dX8_guess_5 : decode cX8_guess 5 = .ok (.ifCond .eq 15, 3) := by decide +kernel
theorem dX8_guess_8 : decode cX8_guess 8 = .ok (.iload_n 2, 1) := by decide +kernel
theorem dX8_guess_9 : decode cX8_guess 9 = .ok (.i2l, 1) := by decide +kernel
theorem dX8_guess_10 : decode cX8_guess 10 = .ok (.lconst 0, 1) := by decide +kernel
theorem dX8_guess_11 : decode cX8_guess 11 = .ok (.ldc2_w 128, 3) := by decide +kernel
theorem dX8_guess_14 : decode cX8_guess 14 = .ok (.invokestatic 109, 3) := by decide +kernel
theorem dX8_guess_17 : decode cX8_guess 17 = .ok (.ifCond .ne 7, 3) := by decide +kernel
theorem dX8_guess_20 : decode cX8_guess 20 = .ok (.ldc2_w 224, 3) := by decide +kernel
theorem dX8_guess_23 : decode cX8_guess 23 = .ok (.lreturn, 1) := by decide +kernel
theorem dX8_guess_24 : decode cX8_guess 24 = .ok (.aload_n 0, 1) := by decide +kernel
theorem dX8_guess_25 : decode cX8_guess 25 = .ok (.aload_n 0, 1) := by decide +kernel
theorem dX8_guess_26 : decode cX8_guess 26 = .ok (.getfield 58, 3) := by decide +kernel
theorem dX8_guess_29 : decode cX8_guess 29 = .ok (.bipush 8, 2) := by decide +kernel
theorem dX8_guess_31 : decode cX8_guess 31 = .ok (.iaload, 1) := by decide +kernel
theorem dX8_guess_32 : decode cX8_guess 32 = .ok (.invokevirtual 221, 3) := by decide +kernel
theorem dX8_guess_35 : decode cX8_guess 35 = .ok (.ifCond .ne 7, 3) := by decide +kernel
theorem dX8_guess_38 : decode cX8_guess 38 = .ok (.ldc2_w 226, 3) := by decide +kernel
theorem dX8_guess_41 : decode cX8_guess 41 = .ok (.lreturn, 1) := by decide +kernel
theorem dX8_guess_42 : decode cX8_guess 42 = .ok (.iconst 0, 1) := by decide +kernel
theorem dX8_guess_43 : decode cX8_guess 43 = .ok (.istore_n 3, 1) := by decide +kernel
theorem dX8_guess_44 : decode cX8_guess 44 = .ok (.iload_n 3, 1) := by decide +kernel
theorem dX8_guess_45 : decode cX8_guess 45 = .ok (.sipush 256, 3) := by decide +kernel
theorem dX8_guess_48 : decode cX8_guess 48 = .ok (.if_icmp .ge 16, 3) := by decide +kernel
theorem dX8_guess_51 : decode cX8_guess 51 = .ok (.aload_n 0, 1) := by decide +kernel
theorem dX8_guess_52 : decode cX8_guess 52 = .ok (.getfield 77, 3) := by decide +kernel
theorem dX8_guess_55 : decode cX8_guess 55 = .ok (.iload_n 3, 1) := by decide +kernel
theorem dX8_guess_56 : decode cX8_guess 56 = .ok (.lconst 0, 1) := by decide +kernel
theorem dX8_guess_57 : decode cX8_guess 57 = .ok (.lastore, 1) := by decide +kernel
theorem dX8_guess_58 : decode cX8_guess 58 = .ok (.iinc 3 1, 3) := by decide +kernel
theorem dX8_guess_61 : decode cX8_guess 61 = .ok (.goto (-17), 3) := by decide +kernel
theorem dX8_guess_64 : decode cX8_guess 64 = .ok (.lconst 0, 1) := by decide +kernel
theorem dX8_guess_65 : decode cX8_guess 65 = .ok (.lstore_n 3, 1) := by decide +kernel
theorem dX8_guess_66 : decode cX8_guess 66 = .ok (.iconst 0, 1) := by decide +kernel
theorem dX8_guess_67 : decode cX8_guess 67 = .ok (.istore 5, 2) := by decide +kernel
theorem dX8_guess_69 : decode cX8_guess 69 = .ok (.iload 5, 2) := by decide +kernel
theorem dX8_guess_71 : decode cX8_guess 71 = .ok (.aload_n 0, 1) := by decide +kernel
theorem dX8_guess_72 : decode cX8_guess 72 = .ok (.getfield 172, 3) := by decide +kernel
theorem dX8_guess_75 : decode cX8_guess 75 = .ok (.if_icmp .ge 57, 3) := by decide +kernel
theorem dX8_guess_78 : decode cX8_guess 78 = .ok (.aload_n 0, 1) := by decide +kernel
theorem dX8_guess_79 : decode cX8_guess 79 = .ok (.getfield 73, 3) := by decide +kernel
theorem dX8_guess_82 : decode cX8_guess 82 = .ok (.iload 5, 2) := by decide +kernel
theorem dX8_guess_84 : decode cX8_guess 84 = .ok (.baload, 1) := by decide +kernel
theorem dX8_guess_85 : decode cX8_guess 85 = .ok (.ifCond .eq 12, 3) := by decide +kernel
theorem dX8_guess_88 : decode cX8_guess 88 = .ok (.aload_n 0, 1) := by decide +kernel
theorem dX8_guess_89 : decode cX8_guess 89 = .ok (.iload 5, 2) := by decide +kernel
theorem dX8_guess_91 : decode cX8_guess 91 = .ok (.invokevirtual 228, 3) := by decide +kernel
theorem dX8_guess_94 : decode cX8_guess 94 = .ok (.goto 4, 3) := by decide +kernel
theorem dX8_guess_97 : decode cX8_guess 97 = .ok (.lconst 0, 1) := by decide +kernel
theorem dX8_guess_98 : decode cX8_guess 98 = .ok (.lstore 6, 2) := by decide +kernel
theorem dX8_guess_100 : decode cX8_guess 100 = .ok (.aload_n 0, 1) := by decide +kernel
theorem dX8_guess_101 : decode cX8_guess 101 = .ok (.getfield 77, 3) := by decide +kernel
theorem dX8_guess_104 : decode cX8_guess 104 = .ok (.aload_n 0, 1) := by decide +kernel
theorem dX8_guess_105 : decode cX8_guess 105 = .ok (.getfield 55, 3) := by decide +kernel
theorem dX8_guess_108 : decode cX8_guess 108 = .ok (.iload 5, 2) := by decide +kernel
theorem dX8_guess_110 : decode cX8_guess 110 = .ok (.iaload, 1) := by decide +kernel
theorem dX8_guess_111 : decode cX8_guess 111 = .ok (.iload_n 1, 1) := by decide +kernel
theorem dX8_guess_112 : decode cX8_guess 112 = .ok (.invokestatic 192, 3) := by decide +kernel
theorem dX8_guess_115 : decode cX8_guess 115 = .ok (.dup2, 1) := by decide +kernel
theorem dX8_guess_116 : decode cX8_guess 116 = .ok (.laload, 1) := by decide +kernel
theorem dX8_guess_117 : decode cX8_guess 117 = .ok (.lload 6, 2) := by decide +kernel
theorem dX8_guess_119 : decode cX8_guess 119 = .ok (.ladd, 1) := by decide +kernel
theorem dX8_guess_120 : decode cX8_guess 120 = .ok (.lastore, 1) := by decide +kernel
theorem dX8_guess_121 : decode cX8_guess 121 = .ok (.lload_n 3, 1) := by decide +kernel
theorem dX8_guess_122 : decode cX8_guess 122 = .ok (.lload 6, 2) := by decide +kernel
theorem dX8_guess_124 : decode cX8_guess 124 = .ok (.ladd, 1) := by decide +kernel
theorem dX8_guess_125 : decode cX8_guess 125 = .ok (.lstore_n 3, 1) := by decide +kernel
theorem dX8_guess_126 : decode cX8_guess 126 = .ok (.iinc 5 1, 3) := by decide +kernel
theorem dX8_guess_129 : decode cX8_guess 129 = .ok (.goto (-60), 3) := by decide +kernel
theorem dX8_guess_132 : decode cX8_guess 132 = .ok (.iconst 0, 1) := by decide +kernel
theorem dX8_guess_133 : decode cX8_guess 133 = .ok (.istore 5, 2) := by decide +kernel
theorem dX8_guess_135 : decode cX8_guess 135 = .ok (.iconst 1, 1) := by decide +kernel
theorem dX8_guess_136 : decode cX8_guess 136 = .ok (.istore 6, 2) := by decide +kernel
theorem dX8_guess_138 : decode cX8_guess 138 = .ok (.iload 6, 2) := by decide +kernel
theorem dX8_guess_140 : decode cX8_guess 140 = .ok (.sipush 256, 3) := by decide +kernel
theorem dX8_guess_143 : decode cX8_guess 143 = .ok (.if_icmp .ge 36, 3) := by decide +kernel
theorem dX8_guess_146 : decode cX8_guess 146 = .ok (.aload_n 0, 1) := by decide +kernel
theorem dX8_guess_147 : decode cX8_guess 147 = .ok (.getfield 77, 3) := by decide +kernel
theorem dX8_guess_150 : decode cX8_guess 150 = .ok (.iload 6, 2) := by decide +kernel
theorem dX8_guess_152 : decode cX8_guess 152 = .ok (.laload, 1) := by decide +kernel
theorem dX8_guess_153 : decode cX8_guess 153 = .ok (.aload_n 0, 1) := by decide +kernel
theorem dX8_guess_154 : decode cX8_guess 154 = .ok (.getfield 77, 3) := by decide +kernel
theorem dX8_guess_157 : decode cX8_guess 157 = .ok (.iload 5, 2) := by decide +kernel
theorem dX8_guess_159 : decode cX8_guess 159 = .ok (.laload, 1) := by decide +kernel
theorem dX8_guess_160 : decode cX8_guess 160 = .ok (.lcmp, 1) := by decide +kernel
theorem dX8_guess_161 : decode cX8_guess 161 = .ok (.ifCond .le 8, 3) := by decide +kernel
theorem dX8_guess_164 : decode cX8_guess 164 = .ok (.iload 6, 2) := by decide +kernel
theorem dX8_guess_166 : decode cX8_guess 166 = .ok (.goto 5, 3) := by decide +kernel
theorem dX8_guess_169 : decode cX8_guess 169 = .ok (.iload 5, 2) := by decide +kernel
theorem dX8_guess_171 : decode cX8_guess 171 = .ok (.istore 5, 2) := by decide +kernel
theorem dX8_guess_173 : decode cX8_guess 173 = .ok (.iinc 6 1, 3) := by decide +kernel
theorem dX8_guess_176 : decode cX8_guess 176 = .ok (.goto (-38), 3) := by decide +kernel
theorem dX8_guess_179 : decode cX8_guess 179 = .ok (.aload_n 0, 1) := by decide +kernel
theorem dX8_guess_180 : decode cX8_guess 180 = .ok (.getfield 77, 3) := by decide +kernel
theorem dX8_guess_183 : decode cX8_guess 183 = .ok (.iload 5, 2) := by decide +kernel
theorem dX8_guess_185 : decode cX8_guess 185 = .ok (.laload, 1) := by decide +kernel
theorem dX8_guess_186 : decode cX8_guess 186 = .ok (.lload_n 3, 1) := by decide +kernel
theorem dX8_guess_187 : decode cX8_guess 187 = .ok (.invokestatic 232, 3) := by decide +kernel
theorem dX8_guess_190 : decode cX8_guess 190 = .ok (.lstore 6, 2) := by decide +kernel
theorem dX8_guess_192 : decode cX8_guess 192 = .ok (.iload_n 2, 1) := by decide +kernel
theorem dX8_guess_193 : decode cX8_guess 193 = .ok (.ifCond .ne 9, 3) := by decide +kernel
theorem dX8_guess_196 : decode cX8_guess 196 = .ok (.iload 5, 2) := by decide +kernel
theorem dX8_guess_198 : decode cX8_guess 198 = .ok (.i2l, 1) := by decide +kernel
theorem dX8_guess_199 : decode cX8_guess 199 = .ok (.goto 25, 3) := by decide +kernel
theorem dX8_guess_202 : decode cX8_guess 202 = .ok (.iload_n 2, 1) := by decide +kernel
theorem dX8_guess_203 : decode cX8_guess 203 = .ok (.iconst 1, 1) := by decide +kernel
theorem dX8_guess_204 : decode cX8_guess 204 = .ok (.if_icmp .ne 16, 3) := by decide +kernel
theorem dX8_guess_207 : decode cX8_guess 207 = .ok (.aload_n 0, 1) := by decide +kernel
theorem dX8_guess_208 : decode cX8_guess 208 = .ok (.getfield 77, 3) := by decide +kernel
theorem dX8_guess_211 : decode cX8_guess 211 = .ok (.iload 5, 2) := by decide +kernel
theorem dX8_guess_213 : decode cX8_guess 213 = .ok (.laload, 1) := by decide +kernel
theorem dX8_guess_214 : decode cX8_guess 214 = .ok (.lload 6, 2) := by decide +kernel
theorem dX8_guess_216 : decode cX8_guess 216 = .ok (.ldiv, 1) := by decide +kernel
theorem dX8_guess_217 : decode cX8_guess 217 = .ok (.goto 7, 3) := by decide +kernel
theorem dX8_guess_220 : decode cX8_guess 220 = .ok (.lload_n 3, 1) := by decide +kernel
theorem dX8_guess_221 : decode cX8_guess 221 = .ok (.lload 6, 2) := by decide +kernel
theorem dX8_guess_223 : decode cX8_guess 223 = .ok (.ldiv, 1) := by decide +kernel
theorem dX8_guess_224 : decode cX8_guess 224 = .ok (.lreturn, 1) := by decide +kernel
theorem dX8_worstOf_0 : decode cX8_worstOf 0 = .ok (.iconst 0, 1) := by decide +kernel
theorem dX8_worstOf_1 : decode cX8_worstOf 1 = .ok (.istore_n 3, 1) := by decide +kernel
theorem dX8_worstOf_2 : decode cX8_worstOf 2 = .ok (.iload_n 3, 1) := by decide +kernel
theorem dX8_worstOf_3 : decode cX8_worstOf 3 = .ok (.bipush 60, 2) := by decide +kernel
theorem dX8_worstOf_5 : decode cX8_worstOf 5 = .ok (.if_icmp .ge 16, 3) := by decide +kernel
theorem dX8_worstOf_8 : decode cX8_worstOf 8 = .ok (.aload_n 0, 1) := by decide +kernel
theorem dX8_worstOf_9 : decode cX8_worstOf 9 = .ok (.getfield 81, 3) := by decide +kernel
theorem dX8_worstOf_12 : decode cX8_worstOf 12 = .ok (.iload_n 3, 1) := by decide +kernel
theorem dX8_worstOf_13 : decode cX8_worstOf 13 = .ok (.iconst 0, 1) := by decide +kernel
theorem dX8_worstOf_14 : decode cX8_worstOf 14 = .ok (.iastore, 1) := by decide +kernel
theorem dX8_worstOf_15 : decode cX8_worstOf 15 = .ok (.iinc 3 1, 3) := by decide +kernel
theorem dX8_worstOf_18 : decode cX8_worstOf 18 = .ok (.goto (-16), 3) := by decide +kernel
theorem dX8_worstOf_21 : decode cX8_worstOf 21 = .ok (.iconst 0, 1) := by decide +kernel
theorem dX8_worstOf_22 : decode cX8_worstOf 22 = .ok (.istore_n 3, 1) := by decide +kernel
theorem dX8_worstOf_23 : decode cX8_worstOf 23 = .ok (.iconst 0, 1) := by decide +kernel
theorem dX8_worstOf_24 : decode cX8_worstOf 24 = .ok (.istore 4, 2) := by decide +kernel
theorem dX8_worstOf_26 : decode cX8_worstOf 26 = .ok (.iload 4, 2) := by decide +kernel
theorem dX8_worstOf_28 : decode cX8_worstOf 28 = .ok (.aload_n 0, 1) := by decide +kernel
theorem dX8_worstOf_29 : decode cX8_worstOf 29 = .ok (.getfield 172, 3) := by decide +kernel
theorem dX8_worstOf_32 : decode cX8_worstOf 32 = .ok (.if_icmp .ge 73, 3) := by decide +kernel
theorem dX8_worstOf_35 : decode cX8_worstOf 35 = .ok (.aload_n 0, 1) := by decide +kernel
theorem dX8_worstOf_36 : decode cX8_worstOf 36 = .ok (.getfield 73, 3) := by decide +kernel
theorem dX8_worstOf_39 : decode cX8_worstOf 39 = .ok (.iload 4, 2) := by decide +kernel
theorem dX8_worstOf_41 : decode cX8_worstOf 41 = .ok (.baload, 1) := by decide +kernel
theorem dX8_worstOf_42 : decode cX8_worstOf 42 = .ok (.ifCond .eq 57, 3) := by decide +kernel
theorem dX8_worstOf_45 : decode cX8_worstOf 45 = .ok (.aload_n 0, 1) := by decide +kernel
theorem dX8_worstOf_46 : decode cX8_worstOf 46 = .ok (.iload_n 1, 1) := by decide +kernel
theorem dX8_worstOf_47 : decode cX8_worstOf 47 = .ok (.iload_n 2, 1) := by decide +kernel
theorem dX8_worstOf_48 : decode cX8_worstOf 48 = .ok (.aload_n 0, 1) := by decide +kernel
theorem dX8_worstOf_49 : decode cX8_worstOf 49 = .ok (.getfield 55, 3) := by decide +kernel
theorem dX8_worstOf_52 : decode cX8_worstOf 52 = .ok (.iload 4, 2) := by decide +kernel
theorem dX8_worstOf_54 : decode cX8_worstOf 54 = .ok (.iaload, 1) := by decide +kernel
theorem dX8_worstOf_55 : decode cX8_worstOf 55 = .ok (.iload_n 1, 1) := by decide +kernel
theorem dX8_worstOf_56 : decode cX8_worstOf 56 = .ok (.invokestatic 192, 3) := by decide +kernel
theorem dX8_worstOf_59 : decode cX8_worstOf 59 = .ok (.iconst 0, 1) := by decide +kernel
theorem dX8_worstOf_60 : decode cX8_worstOf 60 = .ok (.invokevirtual 203, 3) := by decide +kernel
theorem dX8_worstOf_63 : decode cX8_worstOf 63 = .ok (.istore 5, 2) := by decide +kernel
theorem dX8_worstOf_65 : decode cX8_worstOf 65 = .ok (.aload_n 0, 1) := by decide +kernel
theorem dX8_worstOf_66 : decode cX8_worstOf 66 = .ok (.getfield 81, 3) := by decide +kernel
theorem dX8_worstOf_69 : decode cX8_worstOf 69 = .ok (.iload 5, 2) := by decide +kernel
theorem dX8_worstOf_71 : decode cX8_worstOf 71 = .ok (.dup2, 1) := by decide +kernel
theorem dX8_worstOf_72 : decode cX8_worstOf 72 = .ok (.iaload, 1) := by decide +kernel
theorem dX8_worstOf_73 : decode cX8_worstOf 73 = .ok (.iconst 1, 1) := by decide +kernel
theorem dX8_worstOf_74 : decode cX8_worstOf 74 = .ok (.iadd, 1) := by decide +kernel
theorem dX8_worstOf_75 : decode cX8_worstOf 75 = .ok (.iastore, 1) := by decide +kernel
theorem dX8_worstOf_76 : decode cX8_worstOf 76 = .ok (.aload_n 0, 1) := by decide +kernel
theorem dX8_worstOf_77 : decode cX8_worstOf 77 = .ok (.getfield 81, 3) := by decide +kernel
theorem dX8_worstOf_80 : decode cX8_worstOf 80 = .ok (.iload 5, 2) := by decide +kernel
theorem dX8_worstOf_82 : decode cX8_worstOf 82 = .ok (.iaload, 1) := by decide +kernel
theorem dX8_worstOf_83 : decode cX8_worstOf 83 = .ok (.iload_n 3, 1) := by decide +kernel
theorem dX8_worstOf_84 : decode cX8_worstOf 84 = .ok (.if_icmp .le 13, 3) := by decide +kernel
theorem dX8_worstOf_87 : decode cX8_worstOf 87 = .ok (.aload_n 0, 1) := by decide +kernel
theorem dX8_worstOf_88 : decode cX8_worstOf 88 = .ok (.getfield 81, 3) := by decide +kernel
theorem dX8_worstOf_91 : decode cX8_worstOf 91 = .ok (.iload 5, 2) := by decide +kernel
theorem dX8_worstOf_93 : decode cX8_worstOf 93 = .ok (.iaload, 1) := by decide +kernel
theorem dX8_worstOf_94 : decode cX8_worstOf 94 = .ok (.goto 4, 3) := by decide +kernel
theorem dX8_worstOf_97 : decode cX8_worstOf 97 = .ok (.iload_n 3, 1) := by decide +kernel
theorem dX8_worstOf_98 : decode cX8_worstOf 98 = .ok (.istore_n 3, 1) := by decide +kernel
theorem dX8_worstOf_99 : decode cX8_worstOf 99 = .ok (.iinc 4 1, 3) := by decide +kernel
theorem dX8_worstOf_102 : decode cX8_worstOf 102 = .ok (.goto (-76), 3) := by decide +kernel
theorem dX8_worstOf_105 : decode cX8_worstOf 105 = .ok (.iload_n 3, 1) := by decide +kernel
theorem dX8_worstOf_106 : decode cX8_worstOf 106 = .ok (.ireturn, 1) := by decide +kernel
theorem dX8_bestTrial_0 : decode cX8_bestTrial 0 = .ok (.bipush (-4), 2) := by decide +kernel
theorem dX8_bestTrial_2 : decode cX8_bestTrial 2 = .ok (.istore_n 1, 1) := by decide +kernel
theorem dX8_bestTrial_3 : decode cX8_bestTrial 3 = .ok (.iconst 0, 1) := by decide +kernel
theorem dX8_bestTrial_4 : decode cX8_bestTrial 4 = .ok (.istore_n 2, 1) := by decide +kernel
theorem dX8_bestTrial_5 : decode cX8_bestTrial 5 = .ok (.iload_n 2, 1) := by decide +kernel
theorem dX8_bestTrial_6 : decode cX8_bestTrial 6 = .ok (.iconst 4, 1) := by decide +kernel
theorem dX8_bestTrial_7 : decode cX8_bestTrial 7 = .ok (.aload_n 0, 1) := by decide +kernel
theorem dX8_bestTrial_8 : decode cX8_bestTrial 8 = .ok (.getfield 28, 3) := by decide +kernel
theorem dX8_bestTrial_11 : decode cX8_bestTrial 11 = .ok (.iconst 0, 1) := by decide +kernel
theorem dX8_bestTrial_12 : decode cX8_bestTrial 12 = .ok (.iaload, 1) := by decide +kernel
theorem dX8_bestTrial_13 : decode cX8_bestTrial 13 = .ok (.imul, 1) := by decide +kernel
theorem dX8_bestTrial_14 : decode cX8_bestTrial 14 = .ok (.if_icmp .ge 39, 3) := by decide +kernel
theorem dX8_bestTrial_17 : decode cX8_bestTrial 17 = .ok (.aload_n 0, 1) := by decide +kernel
theorem dX8_bestTrial_18 : decode cX8_bestTrial 18 = .ok (.iload_n 2, 1) := by decide +kernel
theorem dX8_bestTrial_19 : decode cX8_bestTrial 19 = .ok (.iconst 4, 1) := by decide +kernel
theorem dX8_bestTrial_20 : decode cX8_bestTrial 20 = .ok (.idiv, 1) := by decide +kernel
theorem dX8_bestTrial_21 : decode cX8_bestTrial 21 = .ok (.iload_n 2, 1) := by decide +kernel
theorem dX8_bestTrial_22 : decode cX8_bestTrial 22 = .ok (.iconst 4, 1) := by decide +kernel
theorem dX8_bestTrial_23 : decode cX8_bestTrial 23 = .ok (.irem, 1) := by decide +kernel
theorem dX8_bestTrial_24 : decode cX8_bestTrial 24 = .ok (.invokevirtual 236, 3) := by decide +kernel
theorem dX8_bestTrial_27 : decode cX8_bestTrial 27 = .ok (.istore_n 3, 1) := by decide +kernel
theorem dX8_bestTrial_28 : decode cX8_bestTrial 28 = .ok (.iload_n 1, 1) := by decide +kernel
theorem dX8_bestTrial_29 : decode cX8_bestTrial 29 = .ok (.ifCond .lt 11, 3) := by decide +kernel
theorem dX8_bestTrial_32 : decode cX8_bestTrial 32 = .ok (.iload_n 3, 1) := by decide +kernel
theorem dX8_bestTrial_33 : decode cX8_bestTrial 33 = .ok (.aload_n 0, 1) := by decide +kernel
theorem dX8_bestTrial_34 : decode cX8_bestTrial 34 = .ok (.getfield 239, 3) := by decide +kernel
theorem dX8_bestTrial_37 : decode cX8_bestTrial 37 = .ok (.if_icmp .ge 10, 3) := by decide +kernel
theorem dX8_bestTrial_40 : decode cX8_bestTrial 40 = .ok (.iload_n 2, 1) := by decide +kernel
theorem dX8_bestTrial_41 : decode cX8_bestTrial 41 = .ok (.istore_n 1, 1) := by decide +kernel
theorem dX8_bestTrial_42 : decode cX8_bestTrial 42 = .ok (.aload_n 0, 1) := by decide +kernel
theorem dX8_bestTrial_43 : decode cX8_bestTrial 43 = .ok (.iload_n 3, 1) := by decide +kernel
theorem dX8_bestTrial_44 : decode cX8_bestTrial 44 = .ok (.putfield 239, 3) := by decide +kernel
theorem dX8_bestTrial_47 : decode cX8_bestTrial 47 = .ok (.iinc 2 1, 3) := by decide +kernel
theorem dX8_bestTrial_50 : decode cX8_bestTrial 50 = .ok (.goto (-45), 3) := by decide +kernel
theorem dX8_bestTrial_53 : decode cX8_bestTrial 53 = .ok (.iload_n 1, 1) := by decide +kernel
theorem dX8_bestTrial_54 : decode cX8_bestTrial 54 = .ok (.ireturn, 1) := by decide +kernel
theorem dX8_next_0 : decode cX8_next 0 = .ok (.iload_n 1, 1) := by decide +kernel
theorem dX8_next_1 : decode cX8_next 1 = .ok (.i2l, 1) := by decide +kernel
theorem dX8_next_2 : decode cX8_next 2 = .ok (.lconst 0, 1) := by decide +kernel
theorem dX8_next_3 : decode cX8_next 3 = .ok (.lconst 1, 1) := by decide +kernel
theorem dX8_next_4 : decode cX8_next 4 = .ok (.invokestatic 109, 3) := by decide +kernel
theorem dX8_next_7 : decode cX8_next 7 = .ok (.ifCond .ne 5, 3) := by decide +kernel
theorem dX8_next_10 : decode cX8_next 10 = .ok (.iconst (-1), 1) := by decide +kernel
theorem dX8_next_11 : decode cX8_next 11 = .ok (.ireturn, 1) := by decide +kernel
theorem dX8_next_12 : decode cX8_next 12 = .ok (.aload_n 0, 1) := by decide +kernel
theorem dX8_next_13 : decode cX8_next 13 = .ok (.aload_n 0, 1) := by decide +kernel
theorem dX8_next_14 : decode cX8_next 14 = .ok (.getfield 58, 3) := by decide +kernel
theorem dX8_next_17 : decode cX8_next 17 = .ok (.bipush 8, 2) := by decide +kernel
theorem dX8_next_19 : decode cX8_next 19 = .ok (.iaload, 1) := by decide +kernel
theorem dX8_next_20 : decode cX8_next 20 = .ok (.invokevirtual 221, 3) := by decide +kernel
theorem dX8_next_23 : decode cX8_next 23 = .ok (.ifCond .ne 6, 3) := by decide +kernel
theorem dX8_next_26 : decode cX8_next 26 = .ok (.bipush (-4), 2) := by decide +kernel
theorem dX8_next_28 : decode cX8_next 28 = .ok (.ireturn, 1) := by decide +kernel
theorem dX8_next_29 : decode cX8_next 29 = .ok (.aload_n 0, 1) := by decide +kernel
theorem dX8_next_30 : decode cX8_next 30 = .ok (.invokevirtual 242, 3) := by decide +kernel
theorem dX8_next_33 : decode cX8_next 33 = .ok (.istore_n 2, 1) := by decide +kernel
theorem dX8_next_34 : decode cX8_next 34 = .ok (.iload_n 1, 1) := by decide +kernel
theorem dX8_next_35 : decode cX8_next 35 = .ok (.ifCond .ne 7, 3) := by decide +kernel
theorem dX8_next_38 : decode cX8_next 38 = .ok (.iload_n 2, 1) := by decide +kernel
theorem dX8_next_39 : decode cX8_next 39 = .ok (.goto 7, 3) := by decide +kernel
theorem dX8_next_42 : decode cX8_next 42 = .ok (.aload_n 0, 1) := by decide +kernel
theorem dX8_next_43 : decode cX8_next 43 = .ok (.getfield 239, 3) := by decide +kernel
theorem dX8_next_46 : decode cX8_next 46 = .ok (.ireturn, 1) := by decide +kernel
theorem dX8_meet_0 : decode cX8_meet 0 = .ok (.aload_n 0, 1) := by decide +kernel
theorem dX8_meet_1 : decode cX8_meet 1 = .ok (.getfield 84, 3) := by decide +kernel
theorem dX8_meet_4 : decode cX8_meet 4 = .ok (.iload_n 1, 1) := by decide +kernel
theorem dX8_meet_5 : decode cX8_meet 5 = .ok (.aload_n 0, 1) := by decide +kernel
theorem dX8_meet_6 : decode cX8_meet 6 = .ok (.getfield 84, 3) := by decide +kernel
theorem dX8_meet_9 : decode cX8_meet 9 = .ok (.iload_n 1, 1) := by decide +kernel
theorem dX8_meet_10 : decode cX8_meet 10 = .ok (.iaload, 1) := by decide +kernel
theorem dX8_meet_11 : decode cX8_meet 11 = .ok (.ifCond .eq 13, 3) := by decide +kernel
theorem dX8_meet_14 : decode cX8_meet 14 = .ok (.aload_n 0, 1) := by decide +kernel
theorem dX8_meet_15 : decode cX8_meet 15 = .ok (.getfield 84, 3) := by decide +kernel
theorem dX8_meet_18 : decode cX8_meet 18 = .ok (.iload_n 1, 1) := by decide +kernel
theorem dX8_meet_19 : decode cX8_meet 19 = .ok (.iaload, 1) := by decide +kernel
theorem dX8_meet_20 : decode cX8_meet 20 = .ok (.iload_n 2, 1) := by decide +kernel
theorem dX8_meet_21 : decode cX8_meet 21 = .ok (.if_icmp .ne 7, 3) := by decide +kernel
theorem dX8_meet_24 : decode cX8_meet 24 = .ok (.iload_n 2, 1) := by decide +kernel
theorem dX8_meet_25 : decode cX8_meet 25 = .ok (.goto 4, 3) := by decide +kernel
theorem dX8_meet_28 : decode cX8_meet 28 = .ok (.iconst (-1), 1) := by decide +kernel
theorem dX8_meet_29 : decode cX8_meet 29 = .ok (.iastore, 1) := by decide +kernel
theorem dX8_meet_30 : decode cX8_meet 30 = .ok (.return_, 1) := by decide +kernel
theorem dX8_layTwo_0 : decode cX8_layTwo 0 = .ok (.iconst 0, 1) := by decide +kernel
theorem dX8_layTwo_1 : decode cX8_layTwo 1 = .ok (.istore 4, 2) := by decide +kernel
theorem dX8_layTwo_3 : decode cX8_layTwo 3 = .ok (.iload 4, 2) := by decide +kernel
theorem dX8_layTwo_5 : decode cX8_layTwo 5 = .ok (.sipush 3600, 3) := by decide +kernel
theorem dX8_layTwo_8 : decode cX8_layTwo 8 = .ok (.if_icmp .ge 17, 3) := by decide +kernel
theorem dX8_layTwo_11 : decode cX8_layTwo 11 = .ok (.aload_n 0, 1) := by decide +kernel
theorem dX8_layTwo_12 : decode cX8_layTwo 12 = .ok (.getfield 84, 3) := by decide +kernel
theorem dX8_layTwo_15 : decode cX8_layTwo 15 = .ok (.iload 4, 2) := by decide +kernel
theorem dX8_layTwo_17 : decode cX8_layTwo 17 = .ok (.iconst 0, 1) := by decide +kernel
theorem dX8_layTwo_18 : decode cX8_layTwo 18 = .ok (.iastore, 1) := by decide +kernel
theorem dX8_layTwo_19 : decode cX8_layTwo 19 = .ok (.iinc 4 1, 3) := by decide +kernel
theorem dX8_layTwo_22 : decode cX8_layTwo 22 = .ok (.goto (-19), 3) := by decide +kernel
theorem dX8_layTwo_25 : decode cX8_layTwo 25 = .ok (.iconst 0, 1) := by decide +kernel
theorem dX8_layTwo_26 : decode cX8_layTwo 26 = .ok (.istore 4, 2) := by decide +kernel
theorem dX8_layTwo_28 : decode cX8_layTwo 28 = .ok (.iload 4, 2) := by decide +kernel
theorem dX8_layTwo_30 : decode cX8_layTwo 30 = .ok (.aload_n 0, 1) := by decide +kernel
theorem dX8_layTwo_31 : decode cX8_layTwo 31 = .ok (.getfield 172, 3) := by decide +kernel
theorem dX8_layTwo_34 : decode cX8_layTwo 34 = .ok (.if_icmp .ge 110, 3) := by decide +kernel
theorem dX8_layTwo_37 : decode cX8_layTwo 37 = .ok (.aload_n 0, 1) := by decide +kernel
theorem dX8_layTwo_38 : decode cX8_layTwo 38 = .ok (.getfield 73, 3) := by decide +kernel
theorem dX8_layTwo_41 : decode cX8_layTwo 41 = .ok (.iload 4, 2) := by decide +kernel
theorem dX8_layTwo_43 : decode cX8_layTwo 43 = .ok (.baload, 1) := by decide +kernel
theorem dX8_layTwo_44 : decode cX8_layTwo 44 = .ok (.ifCond .eq 94, 3) := by decide +kernel
theorem dX8_layTwo_47 : decode cX8_layTwo 47 = .ok (.iload_n 2, 1) := by decide +kernel
theorem dX8_layTwo_48 : decode cX8_layTwo 48 = .ok (.ifCond .ge 7, 3) := by decide +kernel
theorem dX8_layTwo_51 : decode cX8_layTwo 51 = .ok (.iconst 0, 1) := by decide +kernel
theorem dX8_layTwo_52 : decode cX8_layTwo 52 = .ok (.goto 27, 3) := by decide +kernel
theorem dX8_layTwo_55 : decode cX8_layTwo 55 = .ok (.aload_n 0, 1) := by decide +kernel
theorem dX8_layTwo_56 : decode cX8_layTwo 56 = .ok (.iload_n 2, 1) := by decide +kernel
theorem dX8_layTwo_57 : decode cX8_layTwo 57 = .ok (.iconst 4, 1) := by decide +kernel
theorem dX8_layTwo_58 : decode cX8_layTwo 58 = .ok (.idiv, 1) := by decide +kernel
theorem dX8_layTwo_59 : decode cX8_layTwo 59 = .ok (.iload_n 2, 1) := by decide +kernel
theorem dX8_layTwo_60 : decode cX8_layTwo 60 = .ok (.iconst 4, 1) := by decide +kernel
theorem dX8_layTwo_61 : decode cX8_layTwo 61 = .ok (.irem, 1) := by decide +kernel
theorem dX8_layTwo_62 : decode cX8_layTwo 62 = .ok (.aload_n 0, 1) := by decide +kernel
theorem dX8_layTwo_63 : decode cX8_layTwo 63 = .ok (.getfield 55, 3) := by decide +kernel
theorem dX8_layTwo_66 : decode cX8_layTwo 66 = .ok (.iload 4, 2) := by decide +kernel
theorem dX8_layTwo_68 : decode cX8_layTwo 68 = .ok (.iaload, 1) := by decide +kernel
theorem dX8_layTwo_69 : decode cX8_layTwo 69 = .ok (.iload_n 2, 1) := by decide +kernel
theorem dX8_layTwo_70 : decode cX8_layTwo 70 = .ok (.iconst 4, 1) := by decide +kernel
theorem dX8_layTwo_71 : decode cX8_layTwo 71 = .ok (.idiv, 1) := by decide +kernel
theorem dX8_layTwo_72 : decode cX8_layTwo 72 = .ok (.invokestatic 192, 3) := by decide +kernel
theorem dX8_layTwo_75 : decode cX8_layTwo 75 = .ok (.iconst 0, 1) := by decide +kernel
theorem dX8_layTwo_76 : decode cX8_layTwo 76 = .ok (.invokevirtual 203, 3) := by decide +kernel
theorem dX8_layTwo_79 : decode cX8_layTwo 79 = .ok (.istore 5, 2) := by decide +kernel
theorem dX8_layTwo_81 : decode cX8_layTwo 81 = .ok (.iload_n 3, 1) := by decide +kernel
theorem dX8_layTwo_82 : decode cX8_layTwo 82 = .ok (.ifCond .ge 7, 3) := by decide +kernel
theorem dX8_layTwo_85 : decode cX8_layTwo 85 = .ok (.iconst 0, 1) := by decide +kernel
theorem dX8_layTwo_86 : decode cX8_layTwo 86 = .ok (.goto 27, 3) := by decide +kernel
theorem dX8_layTwo_89 : decode cX8_layTwo 89 = .ok (.aload_n 0, 1) := by decide +kernel
theorem dX8_layTwo_90 : decode cX8_layTwo 90 = .ok (.iload_n 3, 1) := by decide +kernel
theorem dX8_layTwo_91 : decode cX8_layTwo 91 = .ok (.iconst 4, 1) := by decide +kernel
theorem dX8_layTwo_92 : decode cX8_layTwo 92 = .ok (.idiv, 1) := by decide +kernel
theorem dX8_layTwo_93 : decode cX8_layTwo 93 = .ok (.iload_n 3, 1) := by decide +kernel
theorem dX8_layTwo_94 : decode cX8_layTwo 94 = .ok (.iconst 4, 1) := by decide +kernel
theorem dX8_layTwo_95 : decode cX8_layTwo 95 = .ok (.irem, 1) := by decide +kernel
theorem dX8_layTwo_96 : decode cX8_layTwo 96 = .ok (.aload_n 0, 1) := by decide +kernel
theorem dX8_layTwo_97 : decode cX8_layTwo 97 = .ok (.getfield 55, 3) := by decide +kernel
theorem dX8_layTwo_100 : decode cX8_layTwo 100 = .ok (.iload 4, 2) := by decide +kernel
theorem dX8_layTwo_102 : decode cX8_layTwo 102 = .ok (.iaload, 1) := by decide +kernel
theorem dX8_layTwo_103 : decode cX8_layTwo 103 = .ok (.iload_n 3, 1) := by decide +kernel
theorem dX8_layTwo_104 : decode cX8_layTwo 104 = .ok (.iconst 4, 1) := by decide +kernel
theorem dX8_layTwo_105 : decode cX8_layTwo 105 = .ok (.idiv, 1) := by decide +kernel
theorem dX8_layTwo_106 : decode cX8_layTwo 106 = .ok (.invokestatic 192, 3) := by decide +kernel
theorem dX8_layTwo_109 : decode cX8_layTwo 109 = .ok (.iconst 0, 1) := by decide +kernel
theorem dX8_layTwo_110 : decode cX8_layTwo 110 = .ok (.invokevirtual 203, 3) := by decide +kernel
theorem dX8_layTwo_113 : decode cX8_layTwo 113 = .ok (.istore 6, 2) := by decide +kernel
theorem dX8_layTwo_115 : decode cX8_layTwo 115 = .ok (.aload_n 0, 1) := by decide +kernel
theorem dX8_layTwo_116 : decode cX8_layTwo 116 = .ok (.bipush 60, 2) := by decide +kernel
theorem dX8_layTwo_118 : decode cX8_layTwo 118 = .ok (.iload 5, 2) := by decide +kernel
theorem dX8_layTwo_120 : decode cX8_layTwo 120 = .ok (.imul, 1) := by decide +kernel
theorem dX8_layTwo_121 : decode cX8_layTwo 121 = .ok (.iload 6, 2) := by decide +kernel
theorem dX8_layTwo_123 : decode cX8_layTwo 123 = .ok (.iadd, 1) := by decide +kernel
theorem dX8_layTwo_124 : decode cX8_layTwo 124 = .ok (.aload_n 0, 1) := by decide +kernel
theorem dX8_layTwo_125 : decode cX8_layTwo 125 = .ok (.getfield 55, 3) := by decide +kernel
theorem dX8_layTwo_128 : decode cX8_layTwo 128 = .ok (.iload 4, 2) := by decide +kernel
theorem dX8_layTwo_130 : decode cX8_layTwo 130 = .ok (.iaload, 1) := by decide +kernel
theorem dX8_layTwo_131 : decode cX8_layTwo 131 = .ok (.iload_n 1, 1) := by decide +kernel
theorem dX8_layTwo_132 : decode cX8_layTwo 132 = .ok (.invokestatic 192, 3) := by decide +kernel
theorem dX8_layTwo_135 : decode cX8_layTwo 135 = .ok (.invokevirtual 245, 3) := by decide +kernel
theorem dX8_layTwo_138 : decode cX8_layTwo 138 = .ok (.iinc 4 1, 3) := by decide +kernel
theorem dX8_layTwo_141 : decode cX8_layTwo 141 = .ok (.goto (-113), 3) := by decide +kernel
theorem dX8_layTwo_144 : decode cX8_layTwo 144 = .ok (.return_, 1) := by decide +kernel
theorem dX8_isKnown_0 : decode cX8_isKnown 0 = .ok (.iconst 1, 1) := by decide +kernel
theorem dX8_isKnown_1 : decode cX8_isKnown 1 = .ok (.istore_n 2, 1) := by decide +kernel
theorem dX8_isKnown_2 : decode cX8_isKnown 2 = .ok (.iconst 0, 1) := by decide +kernel
theorem dX8_isKnown_3 : decode cX8_isKnown 3 = .ok (.istore_n 3, 1) := by decide +kernel
theorem dX8_isKnown_4 : decode cX8_isKnown 4 = .ok (.iload_n 3, 1) := by decide +kernel
theorem dX8_isKnown_5 : decode cX8_isKnown 5 = .ok (.bipush 60, 2) := by decide +kernel
theorem dX8_isKnown_7 : decode cX8_isKnown 7 = .ok (.if_icmp .ge 33, 3) := by decide +kernel
theorem dX8_isKnown_10 : decode cX8_isKnown 10 = .ok (.iload_n 2, 1) := by decide +kernel
theorem dX8_isKnown_11 : decode cX8_isKnown 11 = .ok (.ifCond .eq 21, 3) := by decide +kernel
theorem dX8_isKnown_14 : decode cX8_isKnown 14 = .ok (.aload_n 0, 1) := by decide +kernel
theorem dX8_isKnown_15 : decode cX8_isKnown 15 = .ok (.getfield 84, 3) := by decide +kernel
theorem dX8_isKnown_18 : decode cX8_isKnown 18 = .ok (.bipush 60, 2) := by decide +kernel
theorem dX8_isKnown_20 : decode cX8_isKnown 20 = .ok (.iload_n 1, 1) := by decide +kernel
theorem dX8_isKnown_21 : decode cX8_isKnown 21 = .ok (.imul, 1) := by decide +kernel
theorem dX8_isKnown_22 : decode cX8_isKnown 22 = .ok (.iload_n 3, 1) := by decide +kernel
theorem dX8_isKnown_23 : decode cX8_isKnown 23 = .ok (.iadd, 1) := by decide +kernel
theorem dX8_isKnown_24 : decode cX8_isKnown 24 = .ok (.iaload, 1) := by decide +kernel
theorem dX8_isKnown_25 : decode cX8_isKnown 25 = .ok (.ifCond .lt 7, 3) := by decide +kernel
theorem dX8_isKnown_28 : decode cX8_isKnown 28 = .ok (.iconst 1, 1) := by decide +kernel
theorem dX8_isKnown_29 : decode cX8_isKnown 29 = .ok (.goto 4, 3) := by decide +kernel
theorem dX8_isKnown_32 : decode cX8_isKnown 32 = .ok (.iconst 0, 1) := by decide +kernel
theorem dX8_isKnown_33 : decode cX8_isKnown 33 = .ok (.istore_n 2, 1) := by decide +kernel
theorem dX8_isKnown_34 : decode cX8_isKnown 34 = .ok (.iinc 3 1, 3) := by decide +kernel
theorem dX8_isKnown_37 : decode cX8_isKnown 37 = .ok (.goto (-33), 3) := by decide +kernel
theorem dX8_isKnown_40 : decode cX8_isKnown 40 = .ok (.iload_n 2, 1) := by decide +kernel
theorem dX8_isKnown_41 : decode cX8_isKnown 41 = .ok (.ireturn, 1) := by decide +kernel
theorem dX8_isEnough_0 : decode cX8_isEnough 0 = .ok (.iconst 0, 1) := by decide +kernel
theorem dX8_isEnough_1 : decode cX8_isEnough 1 = .ok (.istore_n 3, 1) := by decide +kernel
theorem dX8_isEnough_2 : decode cX8_isEnough 2 = .ok (.iload_n 3, 1) := by decide +kernel
theorem dX8_isEnough_3 : decode cX8_isEnough 3 = .ok (.bipush 60, 2) := by decide +kernel
theorem dX8_isEnough_5 : decode cX8_isEnough 5 = .ok (.if_icmp .ge 16, 3) := by decide +kernel
theorem dX8_isEnough_8 : decode cX8_isEnough 8 = .ok (.aload_n 0, 1) := by decide +kernel
theorem dX8_isEnough_9 : decode cX8_isEnough 9 = .ok (.getfield 87, 3) := by decide +kernel
theorem dX8_isEnough_12 : decode cX8_isEnough 12 = .ok (.iload_n 3, 1) := by decide +kernel
theorem dX8_isEnough_13 : decode cX8_isEnough 13 = .ok (.iconst 0, 1) := by decide +kernel
theorem dX8_isEnough_14 : decode cX8_isEnough 14 = .ok (.bastore, 1) := by decide +kernel
theorem dX8_isEnough_15 : decode cX8_isEnough 15 = .ok (.iinc 3 1, 3) := by decide +kernel
theorem dX8_isEnough_18 : decode cX8_isEnough 18 = .ok (.goto (-16), 3) := by decide +kernel
theorem dX8_isEnough_21 : decode cX8_isEnough 21 = .ok (.iconst 0, 1) := by decide +kernel
theorem dX8_isEnough_22 : decode cX8_isEnough 22 = .ok (.istore_n 3, 1) := by decide +kernel
theorem dX8_isEnough_23 : decode cX8_isEnough 23 = .ok (.iload_n 3, 1) := by decide +kernel
theorem dX8_isEnough_24 : decode cX8_isEnough 24 = .ok (.iconst 4, 1) := by decide +kernel
theorem dX8_isEnough_25 : decode cX8_isEnough 25 = .ok (.aload_n 0, 1) := by decide +kernel
theorem dX8_isEnough_26 : decode cX8_isEnough 26 = .ok (.getfield 28, 3) := by decide +kernel
theorem dX8_isEnough_29 : decode cX8_isEnough 29 = .ok (.iconst 0, 1) := by decide +kernel
theorem dX8_isEnough_30 : decode cX8_isEnough 30 = .ok (.iaload, 1) := by decide +kernel
theorem dX8_isEnough_31 : decode cX8_isEnough 31 = .ok (.imul, 1) := by decide +kernel
theorem dX8_isEnough_32 : decode cX8_isEnough 32 = .ok (.if_icmp .ge 63, 3) := by decide +kernel
theorem dX8_isEnough_35 : decode cX8_isEnough 35 = .ok (.aload_n 0, 1) := by decide +kernel
theorem dX8_isEnough_36 : decode cX8_isEnough 36 = .ok (.iload_n 1, 1) := by decide +kernel
theorem dX8_isEnough_37 : decode cX8_isEnough 37 = .ok (.iload_n 2, 1) := by decide +kernel
theorem dX8_isEnough_38 : decode cX8_isEnough 38 = .ok (.iload_n 3, 1) := by decide +kernel
theorem dX8_isEnough_39 : decode cX8_isEnough 39 = .ok (.invokevirtual 249, 3) := by decide +kernel
theorem dX8_isEnough_42 : decode cX8_isEnough 42 = .ok (.iconst 0, 1) := by decide +kernel
theorem dX8_isEnough_43 : decode cX8_isEnough 43 = .ok (.istore 4, 2) := by decide +kernel
theorem dX8_isEnough_45 : decode cX8_isEnough 45 = .ok (.iload 4, 2) := by decide +kernel
theorem dX8_isEnough_47 : decode cX8_isEnough 47 = .ok (.bipush 60, 2) := by decide +kernel
theorem dX8_isEnough_49 : decode cX8_isEnough 49 = .ok (.if_icmp .ge 40, 3) := by decide +kernel
theorem dX8_isEnough_52 : decode cX8_isEnough 52 = .ok (.aload_n 0, 1) := by decide +kernel
theorem dX8_isEnough_53 : decode cX8_isEnough 53 = .ok (.getfield 87, 3) := by decide +kernel
theorem dX8_isEnough_56 : decode cX8_isEnough 56 = .ok (.iload 4, 2) := by decide +kernel
theorem dX8_isEnough_58 : decode cX8_isEnough 58 = .ok (.aload_n 0, 1) := by decide +kernel
theorem dX8_isEnough_59 : decode cX8_isEnough 59 = .ok (.getfield 87, 3) := by decide +kernel
theorem dX8_isEnough_62 : decode cX8_isEnough 62 = .ok (.iload 4, 2) := by decide +kernel
theorem dX8_isEnough_64 : decode cX8_isEnough 64 = .ok (.baload, 1) := by decide +kernel
theorem dX8_isEnough_65 : decode cX8_isEnough 65 = .ok (.ifCond .ne 12, 3) := by decide +kernel
theorem dX8_isEnough_68 : decode cX8_isEnough 68 = .ok (.aload_n 0, 1) := by decide +kernel
theorem dX8_isEnough_69 : decode cX8_isEnough 69 = .ok (.iload 4, 2) := by decide +kernel
theorem dX8_isEnough_71 : decode cX8_isEnough 71 = .ok (.invokevirtual 252, 3) := by decide +kernel
theorem dX8_isEnough_74 : decode cX8_isEnough 74 = .ok (.ifCond .eq 7, 3) := by decide +kernel
theorem dX8_isEnough_77 : decode cX8_isEnough 77 = .ok (.iconst 1, 1) := by decide +kernel
theorem dX8_isEnough_78 : decode cX8_isEnough 78 = .ok (.goto 4, 3) := by decide +kernel
theorem dX8_isEnough_81 : decode cX8_isEnough 81 = .ok (.iconst 0, 1) := by decide +kernel
theorem dX8_isEnough_82 : decode cX8_isEnough 82 = .ok (.bastore, 1) := by decide +kernel
theorem dX8_isEnough_83 : decode cX8_isEnough 83 = .ok (.iinc 4 1, 3) := by decide +kernel
theorem dX8_isEnough_86 : decode cX8_isEnough 86 = .ok (.goto (-41), 3) := by decide +kernel
theorem dX8_isEnough_89 : decode cX8_isEnough 89 = .ok (.iinc 3 1, 3) := by decide +kernel
theorem dX8_isEnough_92 : decode cX8_isEnough 92 = .ok (.goto (-69), 3) := by decide +kernel
theorem dX8_isEnough_95 : decode cX8_isEnough 95 = .ok (.iconst 1, 1) := by decide +kernel
theorem dX8_isEnough_96 : decode cX8_isEnough 96 = .ok (.istore_n 3, 1) := by decide +kernel
theorem dX8_isEnough_97 : decode cX8_isEnough 97 = .ok (.iconst 0, 1) := by decide +kernel
theorem dX8_isEnough_98 : decode cX8_isEnough 98 = .ok (.istore 4, 2) := by decide +kernel
theorem dX8_isEnough_100 : decode cX8_isEnough 100 = .ok (.iload 4, 2) := by decide +kernel
theorem dX8_isEnough_102 : decode cX8_isEnough 102 = .ok (.bipush 60, 2) := by decide +kernel
theorem dX8_isEnough_104 : decode cX8_isEnough 104 = .ok (.if_icmp .ge 29, 3) := by decide +kernel
theorem dX8_isEnough_107 : decode cX8_isEnough 107 = .ok (.iload_n 3, 1) := by decide +kernel
theorem dX8_isEnough_108 : decode cX8_isEnough 108 = .ok (.ifCond .eq 17, 3) := by decide +kernel
theorem dX8_isEnough_111 : decode cX8_isEnough 111 = .ok (.aload_n 0, 1) := by decide +kernel
theorem dX8_isEnough_112 : decode cX8_isEnough 112 = .ok (.getfield 87, 3) := by decide +kernel
theorem dX8_isEnough_115 : decode cX8_isEnough 115 = .ok (.iload 4, 2) := by decide +kernel
theorem dX8_isEnough_117 : decode cX8_isEnough 117 = .ok (.baload, 1) := by decide +kernel
theorem dX8_isEnough_118 : decode cX8_isEnough 118 = .ok (.ifCond .eq 7, 3) := by decide +kernel
theorem dX8_isEnough_121 : decode cX8_isEnough 121 = .ok (.iconst 1, 1) := by decide +kernel
theorem dX8_isEnough_122 : decode cX8_isEnough 122 = .ok (.goto 4, 3) := by decide +kernel
theorem dX8_isEnough_125 : decode cX8_isEnough 125 = .ok (.iconst 0, 1) := by decide +kernel
theorem dX8_isEnough_126 : decode cX8_isEnough 126 = .ok (.istore_n 3, 1) := by decide +kernel
theorem dX8_isEnough_127 : decode cX8_isEnough 127 = .ok (.iinc 4 1, 3) := by decide +kernel
theorem dX8_isEnough_130 : decode cX8_isEnough 130 = .ok (.goto (-30), 3) := by decide +kernel
theorem dX8_isEnough_133 : decode cX8_isEnough 133 = .ok (.iload_n 3, 1) := by decide +kernel
theorem dX8_isEnough_134 : decode cX8_isEnough 134 = .ok (.ireturn, 1) := by decide +kernel
theorem dX8_few_0 : decode cX8_few 0 = .ok (.aload_n 0, 1) := by decide +kernel
theorem dX8_few_1 : decode cX8_few 1 = .ok (.iload_n 1, 1) := by decide +kernel
theorem dX8_few_2 : decode cX8_few 2 = .ok (.invokevirtual 189, 3) := by decide +kernel
theorem dX8_few_5 : decode cX8_few 5 = .ok (.ifCond .ne 5, 3) := by decide +kernel
theorem dX8_few_8 : decode cX8_few 8 = .ok (.iconst (-1), 1) := by decide +kernel
theorem dX8_few_9 : decode cX8_few 9 = .ok (.ireturn, 1) := by decide +kernel
theorem dX8_few_10 : decode cX8_few 10 = .ok (.aload_n 0, 1) := by decide +kernel
theorem dX8_few_11 : decode cX8_few 11 = .ok (.aload_n 0, 1) := by decide +kernel
theorem dX8_few_12 : decode cX8_few 12 = .ok (.getfield 58, 3) := by decide +kernel
theorem dX8_few_15 : decode cX8_few 15 = .ok (.bipush 8, 2) := by decide +kernel
theorem dX8_few_17 : decode cX8_few 17 = .ok (.iaload, 1) := by decide +kernel
theorem dX8_few_18 : decode cX8_few 18 = .ok (.invokevirtual 221, 3) := by decide +kernel
theorem dX8_few_21 : decode cX8_few 21 = .ok (.ifCond .ne 6, 3) := by decide +kernel
theorem dX8_few_24 : decode cX8_few 24 = .ok (.bipush (-4), 2) := by decide +kernel
theorem dX8_few_26 : decode cX8_few 26 = .ok (.ireturn, 1) := by decide +kernel
theorem dX8_few_27 : decode cX8_few 27 = .ok (.aload_n 0, 1) := by decide +kernel
theorem dX8_few_28 : decode cX8_few 28 = .ok (.iload_n 1, 1) := by decide +kernel
theorem dX8_few_29 : decode cX8_few 29 = .ok (.bipush (-4), 2) := by decide +kernel
theorem dX8_few_31 : decode cX8_few 31 = .ok (.bipush (-4), 2) := by decide +kernel
theorem dX8_few_33 : decode cX8_few 33 = .ok (.invokevirtual 249, 3) := by decide +kernel
theorem dX8_few_36 : decode cX8_few 36 = .ok (.aload_n 0, 1) := by decide +kernel
theorem dX8_few_37 : decode cX8_few 37 = .ok (.iconst 0, 1) := by decide +kernel
theorem dX8_few_38 : decode cX8_few 38 = .ok (.invokevirtual 252, 3) := by decide +kernel
theorem dX8_few_41 : decode cX8_few 41 = .ok (.ifCond .eq 5, 3) := by decide +kernel
theorem dX8_few_44 : decode cX8_few 44 = .ok (.iconst 0, 1) := by decide +kernel
theorem dX8_few_45 : decode cX8_few 45 = .ok (.ireturn, 1) := by decide +kernel
theorem dX8_few_46 : decode cX8_few 46 = .ok (.aload_n 0, 1) := by decide +kernel
theorem dX8_few_47 : decode cX8_few 47 = .ok (.iload_n 1, 1) := by decide +kernel
theorem dX8_few_48 : decode cX8_few 48 = .ok (.bipush (-4), 2) := by decide +kernel
theorem dX8_few_50 : decode cX8_few 50 = .ok (.invokevirtual 255, 3) := by decide +kernel
theorem dX8_few_53 : decode cX8_few 53 = .ok (.ifCond .eq 5, 3) := by decide +kernel
theorem dX8_few_56 : decode cX8_few 56 = .ok (.iconst 1, 1) := by decide +kernel
theorem dX8_few_57 : decode cX8_few 57 = .ok (.ireturn, 1) := by decide +kernel
theorem dX8_few_58 : decode cX8_few 58 = .ok (.iconst 0, 1) := by decide +kernel
theorem dX8_few_59 : decode cX8_few 59 = .ok (.istore_n 2, 1) := by decide +kernel
theorem dX8_few_60 : decode cX8_few 60 = .ok (.iload_n 2, 1) := by decide +kernel
theorem dX8_few_61 : decode cX8_few 61 = .ok (.iconst 4, 1) := by decide +kernel
theorem dX8_few_62 : decode cX8_few 62 = .ok (.aload_n 0, 1) := by decide +kernel
theorem dX8_few_63 : decode cX8_few 63 = .ok (.getfield 28, 3) := by decide +kernel
theorem dX8_few_66 : decode cX8_few 66 = .ok (.iconst 0, 1) := by decide +kernel
theorem dX8_few_67 : decode cX8_few 67 = .ok (.iaload, 1) := by decide +kernel
theorem dX8_few_68 : decode cX8_few 68 = .ok (.imul, 1) := by decide +kernel
theorem dX8_few_69 : decode cX8_few 69 = .ok (.if_icmp .ge 20, 3) := by decide +kernel
theorem dX8_few_72 : decode cX8_few 72 = .ok (.aload_n 0, 1) := by decide +kernel
theorem dX8_few_73 : decode cX8_few 73 = .ok (.iload_n 1, 1) := by decide +kernel
theorem dX8_few_74 : decode cX8_few 74 = .ok (.iload_n 2, 1) := by decide +kernel
theorem dX8_few_75 : decode cX8_few 75 = .ok (.invokevirtual 255, 3) := by decide +kernel
theorem dX8_few_78 : decode cX8_few 78 = .ok (.ifCond .eq 5, 3) := by decide +kernel
theorem dX8_few_81 : decode cX8_few 81 = .ok (.iconst 2, 1) := by decide +kernel
theorem dX8_few_82 : decode cX8_few 82 = .ok (.ireturn, 1) := by decide +kernel
theorem dX8_few_83 : decode cX8_few 83 = .ok (.iinc 2 1, 3) := by decide +kernel
theorem dX8_few_86 : decode cX8_few 86 = .ok (.goto (-26), 3) := by decide +kernel
theorem dX8_few_89 : decode cX8_few 89 = .ok (.bipush (-4), 2) := by decide +kernel
theorem dX8_few_91 : decode cX8_few 91 = .ok (.ireturn, 1) := by decide +kernel
theorem dX8_solve_0 : decode cX8_solve 0 = .ok (.aload_n 0, 1) := by decide +kernel
theorem dX8_solve_1 : decode cX8_solve 1 = .ok (.iconst 0, 1) := by decide +kernel
theorem dX8_solve_2 : decode cX8_solve 2 = .ok (.putfield 258, 3) := by decide +kernel
theorem dX8_solve_5 : decode cX8_solve 5 = .ok (.iconst 0, 1) := by decide +kernel
theorem dX8_solve_6 : decode cX8_solve 6 = .ok (.istore_n 2, 1) := by decide +kernel
theorem dX8_solve_7 : decode cX8_solve 7 = .ok (.iload_n 2, 1) := by decide +kernel
theorem dX8_solve_8 : decode cX8_solve 8 = .ok (.bipush 20, 2) := by decide +kernel
theorem dX8_solve_10 : decode cX8_solve 10 = .ok (.if_icmp .gt 224, 3) := by decide +kernel
theorem dX8_solve_13 : decode cX8_solve 13 = .ok (.iconst 0, 1) := by decide +kernel
theorem dX8_solve_14 : decode cX8_solve 14 = .ok (.istore_n 3, 1) := by decide +kernel
theorem dX8_solve_15 : decode cX8_solve 15 = .ok (.iconst 0, 1) := by decide +kernel
theorem dX8_solve_16 : decode cX8_solve 16 = .ok (.istore 4, 2) := by decide +kernel
theorem dX8_solve_18 : decode cX8_solve 18 = .ok (.iconst 0, 1) := by decide +kernel
theorem dX8_solve_19 : decode cX8_solve 19 = .ok (.istore 5, 2) := by decide +kernel
theorem dX8_solve_21 : decode cX8_solve 21 = .ok (.iload 5, 2) := by decide +kernel
theorem dX8_solve_23 : decode cX8_solve 23 = .ok (.aload_n 0, 1) := by decide +kernel
theorem dX8_solve_24 : decode cX8_solve 24 = .ok (.getfield 172, 3) := by decide +kernel
theorem dX8_solve_27 : decode cX8_solve 27 = .ok (.if_icmp .ge 60, 3) := by decide +kernel
theorem dX8_solve_30 : decode cX8_solve 30 = .ok (.iload_n 3, 1) := by decide +kernel
theorem dX8_solve_31 : decode cX8_solve 31 = .ok (.aload_n 0, 1) := by decide +kernel
theorem dX8_solve_32 : decode cX8_solve 32 = .ok (.getfield 73, 3) := by decide +kernel
theorem dX8_solve_35 : decode cX8_solve 35 = .ok (.iload 5, 2) := by decide +kernel
theorem dX8_solve_37 : decode cX8_solve 37 = .ok (.baload, 1) := by decide +kernel
theorem dX8_solve_38 : decode cX8_solve 38 = .ok (.ifCond .eq 7, 3) := by decide +kernel
theorem dX8_solve_41 : decode cX8_solve 41 = .ok (.iconst 1, 1) := by decide +kernel
theorem dX8_solve_42 : decode cX8_solve 42 = .ok (.goto 4, 3) := by decide +kernel
theorem dX8_solve_45 : decode cX8_solve 45 = .ok (.iconst 0, 1) := by decide +kernel
theorem dX8_solve_46 : decode cX8_solve 46 = .ok (.iadd, 1) := by decide +kernel
theorem dX8_solve_47 : decode cX8_solve 47 = .ok (.istore_n 3, 1) := by decide +kernel
theorem dX8_solve_48 : decode cX8_solve 48 = .ok (.iload 4, 2) := by decide +kernel
theorem dX8_solve_50 : decode cX8_solve 50 = .ok (.ifCond .ne 24, 3) := by decide +kernel
theorem dX8_solve_53 : decode cX8_solve 53 = .ok (.aload_n 0, 1) := by decide +kernel
theorem dX8_solve_54 : decode cX8_solve 54 = .ok (.getfield 73, 3) := by decide +kernel
theorem dX8_solve_57 : decode cX8_solve 57 = .ok (.iload 5, 2) := by decide +kernel
theorem dX8_solve_59 : decode cX8_solve 59 = .ok (.baload, 1) := by decide +kernel
theorem dX8_solve_60 : decode cX8_solve 60 = .ok (.ifCond .eq 18, 3) := by decide +kernel
theorem dX8_solve_63 : decode cX8_solve 63 = .ok (.aload_n 0, 1) := by decide +kernel
theorem dX8_solve_64 : decode cX8_solve 64 = .ok (.getfield 55, 3) := by decide +kernel
theorem dX8_solve_67 : decode cX8_solve 67 = .ok (.iload 5, 2) := by decide +kernel
theorem dX8_solve_69 : decode cX8_solve 69 = .ok (.iaload, 1) := by decide +kernel
theorem dX8_solve_70 : decode cX8_solve 70 = .ok (.iload_n 1, 1) := by decide +kernel
theorem dX8_solve_71 : decode cX8_solve 71 = .ok (.if_icmp .ne 7, 3) := by decide +kernel
theorem dX8_solve_74 : decode cX8_solve 74 = .ok (.iconst 1, 1) := by decide +kernel
theorem dX8_solve_75 : decode cX8_solve 75 = .ok (.goto 4, 3) := by decide +kernel
theorem dX8_solve_78 : decode cX8_solve 78 = .ok (.iconst 0, 1) := by decide +kernel
theorem dX8_solve_79 : decode cX8_solve 79 = .ok (.istore 4, 2) := by decide +kernel
theorem dX8_solve_81 : decode cX8_solve 81 = .ok (.iinc 5 1, 3) := by decide +kernel
theorem dX8_solve_84 : decode cX8_solve 84 = .ok (.goto (-63), 3) := by decide +kernel
theorem dX8_solve_87 : decode cX8_solve 87 = .ok (.iload 4, 2) := by decide +kernel
theorem dX8_solve_89 : decode cX8_solve 89 = .ok (.ifCond .eq 8, 3) := by decide +kernel
theorem dX8_solve_92 : decode cX8_solve 92 = .ok (.iload_n 3, 1) := by decide +kernel
theorem dX8_solve_93 : decode cX8_solve 93 = .ok (.iconst 1, 1) := by decide +kernel
theorem dX8_solve_94 : decode cX8_solve 94 = .ok (.if_icmp .ne 15, 3) := by decide +kernel
theorem dX8_solve_97 : decode cX8_solve 97 = .ok (.iload 4, 2) := by decide +kernel
theorem dX8_solve_99 : decode cX8_solve 99 = .ok (.ifCond .eq 7, 3) := by decide +kernel
theorem dX8_solve_102 : decode cX8_solve 102 = .ok (.iload_n 2, 1) := by decide +kernel
theorem dX8_solve_103 : decode cX8_solve 103 = .ok (.goto 5, 3) := by decide +kernel
theorem dX8_solve_106 : decode cX8_solve 106 = .ok (.bipush (-4), 2) := by decide +kernel
theorem dX8_solve_108 : decode cX8_solve 108 = .ok (.ireturn, 1) := by decide +kernel
theorem dX8_solve_109 : decode cX8_solve 109 = .ok (.aload_n 0, 1) := by decide +kernel
theorem dX8_solve_110 : decode cX8_solve 110 = .ok (.invokevirtual 242, 3) := by decide +kernel
theorem dX8_solve_113 : decode cX8_solve 113 = .ok (.istore 5, 2) := by decide +kernel
theorem dX8_solve_115 : decode cX8_solve 115 = .ok (.aload_n 0, 1) := by decide +kernel
theorem dX8_solve_116 : decode cX8_solve 116 = .ok (.iload 5, 2) := by decide +kernel
theorem dX8_solve_118 : decode cX8_solve 118 = .ok (.iconst 4, 1) := by decide +kernel
theorem dX8_solve_119 : decode cX8_solve 119 = .ok (.idiv, 1) := by decide +kernel
theorem dX8_solve_120 : decode cX8_solve 120 = .ok (.iload 5, 2) := by decide +kernel
theorem dX8_solve_122 : decode cX8_solve 122 = .ok (.iconst 4, 1) := by decide +kernel
theorem dX8_solve_123 : decode cX8_solve 123 = .ok (.irem, 1) := by decide +kernel
theorem dX8_solve_124 : decode cX8_solve 124 = .ok (.iload_n 1, 1) := by decide +kernel
theorem dX8_solve_125 : decode cX8_solve 125 = .ok (.iload 5, 2) := by decide +kernel
theorem dX8_solve_127 : decode cX8_solve 127 = .ok (.iconst 4, 1) := by decide +kernel
theorem dX8_solve_128 : decode cX8_solve 128 = .ok (.idiv, 1) := by decide +kernel
theorem dX8_solve_129 : decode cX8_solve 129 = .ok (.invokestatic 192, 3) := by decide +kernel
theorem dX8_solve_132 : decode cX8_solve 132 = .ok (.iconst 0, 1) := by decide +kernel
theorem dX8_solve_133 : decode cX8_solve 133 = .ok (.invokevirtual 203, 3) := by decide +kernel
theorem dX8_solve_136 : decode cX8_solve 136 = .ok (.istore 6, 2) := by decide +kernel
theorem dX8_solve_138 : decode cX8_solve 138 = .ok (.aload_n 0, 1) := by decide +kernel
theorem dX8_solve_139 : decode cX8_solve 139 = .ok (.dup, 1) := by decide +kernel
theorem dX8_solve_140 : decode cX8_solve 140 = .ok (.getfield 258, 3) := by decide +kernel
theorem dX8_solve_143 : decode cX8_solve 143 = .ok (.aload_n 0, 1) := by decide +kernel
theorem dX8_solve_144 : decode cX8_solve 144 = .ok (.getfield 49, 3) := by decide +kernel
theorem dX8_solve_147 : decode cX8_solve 147 = .ok (.iload 5, 2) := by decide +kernel
theorem dX8_solve_149 : decode cX8_solve 149 = .ok (.iconst 4, 1) := by decide +kernel
theorem dX8_solve_150 : decode cX8_solve 150 = .ok (.irem, 1) := by decide +kernel
theorem dX8_solve_151 : decode cX8_solve 151 = .ok (.iaload, 1) := by decide +kernel
theorem dX8_solve_152 : decode cX8_solve 152 = .ok (.iadd, 1) := by decide +kernel
theorem dX8_solve_153 : decode cX8_solve 153 = .ok (.putfield 258, 3) := by decide +kernel
theorem dX8_solve_156 : decode cX8_solve 156 = .ok (.iconst 0, 1) := by decide +kernel
theorem dX8_solve_157 : decode cX8_solve 157 = .ok (.istore 7, 2) := by decide +kernel
theorem dX8_solve_159 : decode cX8_solve 159 = .ok (.iload 7, 2) := by decide +kernel
theorem dX8_solve_161 : decode cX8_solve 161 = .ok (.aload_n 0, 1) := by decide +kernel
theorem dX8_solve_162 : decode cX8_solve 162 = .ok (.getfield 172, 3) := by decide +kernel
theorem dX8_solve_165 : decode cX8_solve 165 = .ok (.if_icmp .ge 63, 3) := by decide +kernel
theorem dX8_solve_168 : decode cX8_solve 168 = .ok (.aload_n 0, 1) := by decide +kernel
theorem dX8_solve_169 : decode cX8_solve 169 = .ok (.getfield 73, 3) := by decide +kernel
theorem dX8_solve_172 : decode cX8_solve 172 = .ok (.iload 7, 2) := by decide +kernel
theorem dX8_solve_174 : decode cX8_solve 174 = .ok (.aload_n 0, 1) := by decide +kernel
theorem dX8_solve_175 : decode cX8_solve 175 = .ok (.getfield 73, 3) := by decide +kernel
theorem dX8_solve_178 : decode cX8_solve 178 = .ok (.iload 7, 2) := by decide +kernel
theorem dX8_solve_180 : decode cX8_solve 180 = .ok (.baload, 1) := by decide +kernel
theorem dX8_solve_181 : decode cX8_solve 181 = .ok (.ifCond .eq 39, 3) := by decide +kernel
theorem dX8_solve_184 : decode cX8_solve 184 = .ok (.aload_n 0, 1) := by decide +kernel
theorem dX8_solve_185 : decode cX8_solve 185 = .ok (.iload 5, 2) := by decide +kernel
theorem dX8_solve_187 : decode cX8_solve 187 = .ok (.iconst 4, 1) := by decide +kernel
theorem dX8_solve_188 : decode cX8_solve 188 = .ok (.idiv, 1) := by decide +kernel
theorem dX8_solve_189 : decode cX8_solve 189 = .ok (.iload 5, 2) := by decide +kernel
theorem dX8_solve_191 : decode cX8_solve 191 = .ok (.iconst 4, 1) := by decide +kernel
theorem dX8_solve_192 : decode cX8_solve 192 = .ok (.irem, 1) := by decide +kernel
theorem dX8_solve_193 : decode cX8_solve 193 = .ok (.aload_n 0, 1) := by decide +kernel
theorem dX8_solve_194 : decode cX8_solve 194 = .ok (.getfield 55, 3) := by decide +kernel
theorem dX8_solve_197 : decode cX8_solve 197 = .ok (.iload 7, 2) := by decide +kernel
theorem dX8_solve_199 : decode cX8_solve 199 = .ok (.iaload, 1) := by decide +kernel
theorem dX8_solve_200 : decode cX8_solve 200 = .ok (.iload 5, 2) := by decide +kernel
theorem dX8_solve_202 : decode cX8_solve 202 = .ok (.iconst 4, 1) := by decide +kernel
theorem dX8_solve_203 : decode cX8_solve 203 = .ok (.idiv, 1) := by decide +kernel
theorem dX8_solve_204 : decode cX8_solve 204 = .ok (.invokestatic 192, 3) := by decide +kernel
theorem dX8_solve_207 : decode cX8_solve 207 = .ok (.iconst 0, 1) := by decide +kernel
theorem dX8_solve_208 : decode cX8_solve 208 = .ok (.invokevirtual 203, 3) := by decide +kernel
theorem dX8_solve_211 : decode cX8_solve 211 = .ok (.iload 6, 2) := by decide +kernel
theorem dX8_solve_213 : decode cX8_solve 213 = .ok (.if_icmp .ne 7, 3) := by decide +kernel
theorem dX8_solve_216 : decode cX8_solve 216 = .ok (.iconst 1, 1) := by decide +kernel
theorem dX8_solve_217 : decode cX8_solve 217 = .ok (.goto 4, 3) := by decide +kernel
theorem dX8_solve_220 : decode cX8_solve 220 = .ok (.iconst 0, 1) := by decide +kernel
theorem dX8_solve_221 : decode cX8_solve 221 = .ok (.bastore, 1) := by decide +kernel
theorem dX8_solve_222 : decode cX8_solve 222 = .ok (.iinc 7 1, 3) := by decide +kernel
theorem dX8_solve_225 : decode cX8_solve 225 = .ok (.goto (-66), 3) := by decide +kernel
theorem dX8_solve_228 : decode cX8_solve 228 = .ok (.iinc 2 1, 3) := by decide +kernel
theorem dX8_solve_231 : decode cX8_solve 231 = .ok (.goto (-224), 3) := by decide +kernel
theorem dX8_solve_234 : decode cX8_solve 234 = .ok (.bipush (-4), 2) := by decide +kernel
theorem dX8_solve_236 : decode cX8_solve 236 = .ok (.ireturn, 1) := by decide +kernel
theorem dX8_solved_0 : decode cX8_solved 0 = .ok (.iload_n 1, 1) := by decide +kernel
theorem dX8_solved_1 : decode cX8_solved 1 = .ok (.i2l, 1) := by decide +kernel
theorem dX8_solved_2 : decode cX8_solved 2 = .ok (.lconst 0, 1) := by decide +kernel
theorem dX8_solved_3 : decode cX8_solved 3 = .ok (.lconst 1, 1) := by decide +kernel
theorem dX8_solved_4 : decode cX8_solved 4 = .ok (.invokestatic 109, 3) := by decide +kernel
theorem dX8_solved_7 : decode cX8_solved 7 = .ok (.ifCond .ne 5, 3) := by decide +kernel
theorem dX8_solved_10 : decode cX8_solved 10 = .ok (.iconst (-1), 1) := by decide +kernel
theorem dX8_solved_11 : decode cX8_solved 11 = .ok (.ireturn, 1) := by decide +kernel
theorem dX8_solved_12 : decode cX8_solved 12 = .ok (.aload_n 0, 1) := by decide +kernel
theorem dX8_solved_13 : decode cX8_solved 13 = .ok (.aload_n 0, 1) := by decide +kernel
theorem dX8_solved_14 : decode cX8_solved 14 = .ok (.getfield 58, 3) := by decide +kernel
theorem dX8_solved_17 : decode cX8_solved 17 = .ok (.bipush 8, 2) := by decide +kernel
theorem dX8_solved_19 : decode cX8_solved 19 = .ok (.iaload, 1) := by decide +kernel
theorem dX8_solved_20 : decode cX8_solved 20 = .ok (.invokevirtual 221, 3) := by decide +kernel
theorem dX8_solved_23 : decode cX8_solved 23 = .ok (.pop, 1) := by decide +kernel
theorem dX8_solved_24 : decode cX8_solved 24 = .ok (.aload_n 0, 1) := by decide +kernel
theorem dX8_solved_25 : decode cX8_solved 25 = .ok (.aload_n 0, 1) := by decide +kernel
theorem dX8_solved_26 : decode cX8_solved 26 = .ok (.invokevirtual 215, 3) := by decide +kernel
theorem dX8_solved_29 : decode cX8_solved 29 = .ok (.invokevirtual 261, 3) := by decide +kernel
theorem dX8_solved_32 : decode cX8_solved 32 = .ok (.istore_n 2, 1) := by decide +kernel
theorem dX8_solved_33 : decode cX8_solved 33 = .ok (.iload_n 2, 1) := by decide +kernel
theorem dX8_solved_34 : decode cX8_solved 34 = .ok (.ifCond .lt 7, 3) := by decide +kernel
theorem dX8_solved_37 : decode cX8_solved 37 = .ok (.iload_n 1, 1) := by decide +kernel
theorem dX8_solved_38 : decode cX8_solved 38 = .ok (.ifCond .ne 7, 3) := by decide +kernel
theorem dX8_solved_41 : decode cX8_solved 41 = .ok (.iload_n 2, 1) := by decide +kernel
theorem dX8_solved_42 : decode cX8_solved 42 = .ok (.goto 7, 3) := by decide +kernel
theorem dX8_solved_45 : decode cX8_solved 45 = .ok (.aload_n 0, 1) := by decide +kernel
theorem dX8_solved_46 : decode cX8_solved 46 = .ok (.getfield 258, 3) := by decide +kernel
theorem dX8_solved_49 : decode cX8_solved 49 = .ok (.ireturn, 1) := by decide +kernel
theorem dX8_risk_0 : decode cX8_risk 0 = .ok (.iload_n 1, 1) := by decide +kernel
theorem dX8_risk_1 : decode cX8_risk 1 = .ok (.i2l, 1) := by decide +kernel
theorem dX8_risk_2 : decode cX8_risk 2 = .ok (.lconst 0, 1) := by decide +kernel
theorem dX8_risk_3 : decode cX8_risk 3 = .ok (.lconst 1, 1) := by decide +kernel
theorem dX8_risk_4 : decode cX8_risk 4 = .ok (.invokestatic 109, 3) := by decide +kernel
theorem dX8_risk_7 : decode cX8_risk 7 = .ok (.ifCond .ne 7, 3) := by decide +kernel
theorem dX8_risk_10 : decode cX8_risk 10 = .ok (.ldc2_w 224, 3) := by decide +kernel
theorem dX8_risk_13 : decode cX8_risk 13 = .ok (.lreturn, 1) := by decide +kernel
theorem dX8_risk_14 : decode cX8_risk 14 = .ok (.lconst 1, 1) := by decide +kernel
theorem dX8_risk_15 : decode cX8_risk 15 = .ok (.lstore_n 2, 1) := by decide +kernel
theorem dX8_risk_16 : decode cX8_risk 16 = .ok (.lconst 1, 1) := by decide +kernel
theorem dX8_risk_17 : decode cX8_risk 17 = .ok (.lstore 4, 2) := by decide +kernel
theorem dX8_risk_19 : decode cX8_risk 19 = .ok (.iconst 0, 1) := by decide +kernel
theorem dX8_risk_20 : decode cX8_risk 20 = .ok (.istore 6, 2) := by decide +kernel
theorem dX8_risk_22 : decode cX8_risk 22 = .ok (.iload 6, 2) := by decide +kernel
theorem dX8_risk_24 : decode cX8_risk 24 = .ok (.aload_n 0, 1) := by decide +kernel
theorem dX8_risk_25 : decode cX8_risk 25 = .ok (.getfield 58, 3) := by decide +kernel
theorem dX8_risk_28 : decode cX8_risk 28 = .ok (.bipush 8, 2) := by decide +kernel
theorem dX8_risk_30 : decode cX8_risk 30 = .ok (.iaload, 1) := by decide +kernel
theorem dX8_risk_31 : decode cX8_risk 31 = .ok (.if_icmp .ge 41, 3) := by decide +kernel
theorem dX8_risk_34 : decode cX8_risk 34 = .ok (.lload_n 2, 1) := by decide +kernel
theorem dX8_risk_35 : decode cX8_risk 35 = .ok (.bipush 10, 2) := by decide +kernel
theorem dX8_risk_37 : decode cX8_risk 37 = .ok (.aload_n 0, 1) := by decide +kernel
theorem dX8_risk_38 : decode cX8_risk 38 = .ok (.getfield 46, 3) := by decide +kernel
theorem dX8_risk_41 : decode cX8_risk 41 = .ok (.aload_n 0, 1) := by decide +kernel
theorem dX8_risk_42 : decode cX8_risk 42 = .ok (.getfield 58, 3) := by decide +kernel
theorem dX8_risk_45 : decode cX8_risk 45 = .ok (.bipush 9, 2) := by decide +kernel
theorem dX8_risk_47 : decode cX8_risk 47 = .ok (.iload 6, 2) := by decide +kernel
theorem dX8_risk_49 : decode cX8_risk 49 = .ok (.iadd, 1) := by decide +kernel
theorem dX8_risk_50 : decode cX8_risk 50 = .ok (.iaload, 1) := by decide +kernel
theorem dX8_risk_51 : decode cX8_risk 51 = .ok (.iconst 4, 1) := by decide +kernel
theorem dX8_risk_52 : decode cX8_risk 52 = .ok (.irem, 1) := by decide +kernel
theorem dX8_risk_53 : decode cX8_risk 53 = .ok (.iaload, 1) := by decide +kernel
theorem dX8_risk_54 : decode cX8_risk 54 = .ok (.isub, 1) := by decide +kernel
theorem dX8_risk_55 : decode cX8_risk 55 = .ok (.i2l, 1) := by decide +kernel
theorem dX8_risk_56 : decode cX8_risk 56 = .ok (.lmul, 1) := by decide +kernel
theorem dX8_risk_57 : decode cX8_risk 57 = .ok (.lstore_n 2, 1) := by decide +kernel
theorem dX8_risk_58 : decode cX8_risk 58 = .ok (.lload 4, 2) := by decide +kernel
theorem dX8_risk_60 : decode cX8_risk 60 = .ok (.ldc2_w 264, 3) := by decide +kernel
theorem dX8_risk_63 : decode cX8_risk 63 = .ok (.lmul, 1) := by decide +kernel
theorem dX8_risk_64 : decode cX8_risk 64 = .ok (.lstore 4, 2) := by decide +kernel
theorem dX8_risk_66 : decode cX8_risk 66 = .ok (.iinc 6 1, 3) := by decide +kernel
theorem dX8_risk_69 : decode cX8_risk 69 = .ok (.goto (-47), 3) := by decide +kernel
theorem dX8_risk_72 : decode cX8_risk 72 = .ok (.lload 4, 2) := by decide +kernel
end
section
theorem dX8_risk_74 : decode cX8_risk 74 = .ok (.lload_n 2, 1) := by decide +kernel
theorem dX8_risk_75 : decode cX8_risk 75 = .ok (.lsub, 1) := by decide +kernel
theorem dX8_risk_76 : decode cX8_risk 76 = .ok (.lload 4, 2) := by decide +kernel
theorem dX8_risk_78 : decode cX8_risk 78 = .ok (.invokestatic 232, 3) := by decide +kernel
theorem dX8_risk_81 : decode cX8_risk 81 = .ok (.lstore 6, 2) := by decide +kernel
theorem dX8_risk_83 : decode cX8_risk 83 = .ok (.iload_n 1, 1) := by decide +kernel
theorem dX8_risk_84 : decode cX8_risk 84 = .ok (.ifCond .ne 13, 3) := by decide +kernel
theorem dX8_risk_87 : decode cX8_risk 87 = .ok (.lload 4, 2) := by decide +kernel
theorem dX8_risk_89 : decode cX8_risk 89 = .ok (.lload_n 2, 1) := by decide +kernel
theorem dX8_risk_90 : decode cX8_risk 90 = .ok (.lsub, 1) := by decide +kernel
theorem dX8_risk_91 : decode cX8_risk 91 = .ok (.lload 6, 2) := by decide +kernel
theorem dX8_risk_93 : decode cX8_risk 93 = .ok (.ldiv, 1) := by decide +kernel
theorem dX8_risk_94 : decode cX8_risk 94 = .ok (.goto 8, 3) := by decide +kernel
theorem dX8_risk_97 : decode cX8_risk 97 = .ok (.lload 4, 2) := by decide +kernel
theorem dX8_risk_99 : decode cX8_risk 99 = .ok (.lload 6, 2) := by decide +kernel
theorem dX8_risk_101 : decode cX8_risk 101 = .ok (.ldiv, 1) := by decide +kernel
theorem dX8_risk_102 : decode cX8_risk 102 = .ok (.lreturn, 1) := by decide +kernel
theorem dX8_seconds_0 : decode cX8_seconds 0 = .ok (.iconst 0, 1) := by decide +kernel
theorem dX8_seconds_1 : decode cX8_seconds 1 = .ok (.istore_n 1, 1) := by decide +kernel
theorem dX8_seconds_2 : decode cX8_seconds 2 = .ok (.iconst 0, 1) := by decide +kernel
theorem dX8_seconds_3 : decode cX8_seconds 3 = .ok (.istore_n 2, 1) := by decide +kernel
theorem dX8_seconds_4 : decode cX8_seconds 4 = .ok (.iload_n 2, 1) := by decide +kernel
theorem dX8_seconds_5 : decode cX8_seconds 5 = .ok (.aload_n 0, 1) := by decide +kernel
theorem dX8_seconds_6 : decode cX8_seconds 6 = .ok (.getfield 58, 3) := by decide +kernel
theorem dX8_seconds_9 : decode cX8_seconds 9 = .ok (.bipush 8, 2) := by decide +kernel
theorem dX8_seconds_11 : decode cX8_seconds 11 = .ok (.iaload, 1) := by decide +kernel
theorem dX8_seconds_12 : decode cX8_seconds 12 = .ok (.if_icmp .ge 28, 3) := by decide +kernel
theorem dX8_seconds_15 : decode cX8_seconds 15 = .ok (.iload_n 1, 1) := by decide +kernel
theorem dX8_seconds_16 : decode cX8_seconds 16 = .ok (.aload_n 0, 1) := by decide +kernel
theorem dX8_seconds_17 : decode cX8_seconds 17 = .ok (.getfield 49, 3) := by decide +kernel
theorem dX8_seconds_20 : decode cX8_seconds 20 = .ok (.aload_n 0, 1) := by decide +kernel
theorem dX8_seconds_21 : decode cX8_seconds 21 = .ok (.getfield 58, 3) := by decide +kernel
theorem dX8_seconds_24 : decode cX8_seconds 24 = .ok (.bipush 9, 2) := by decide +kernel
theorem dX8_seconds_26 : decode cX8_seconds 26 = .ok (.iload_n 2, 1) := by decide +kernel
theorem dX8_seconds_27 : decode cX8_seconds 27 = .ok (.iadd, 1) := by decide +kernel
theorem dX8_seconds_28 : decode cX8_seconds 28 = .ok (.iaload, 1) := by decide +kernel
theorem dX8_seconds_29 : decode cX8_seconds 29 = .ok (.iconst 4, 1) := by decide +kernel
theorem dX8_seconds_30 : decode cX8_seconds 30 = .ok (.irem, 1) := by decide +kernel
theorem dX8_seconds_31 : decode cX8_seconds 31 = .ok (.iaload, 1) := by decide +kernel
theorem dX8_seconds_32 : decode cX8_seconds 32 = .ok (.iadd, 1) := by decide +kernel
theorem dX8_seconds_33 : decode cX8_seconds 33 = .ok (.istore_n 1, 1) := by decide +kernel
theorem dX8_seconds_34 : decode cX8_seconds 34 = .ok (.iinc 2 1, 3) := by decide +kernel
theorem dX8_seconds_37 : decode cX8_seconds 37 = .ok (.goto (-33), 3) := by decide +kernel
theorem dX8_seconds_40 : decode cX8_seconds 40 = .ok (.iload_n 1, 1) := by decide +kernel
theorem dX8_seconds_41 : decode cX8_seconds 41 = .ok (.ireturn, 1) := by decide +kernel
theorem dX8_misled_0 : decode cX8_misled 0 = .ok (.aload_n 0, 1) := by decide +kernel
theorem dX8_misled_1 : decode cX8_misled 1 = .ok (.iload_n 1, 1) := by decide +kernel
theorem dX8_misled_2 : decode cX8_misled 2 = .ok (.invokevirtual 189, 3) := by decide +kernel
theorem dX8_misled_5 : decode cX8_misled 5 = .ok (.ifCond .eq 13, 3) := by decide +kernel
theorem dX8_misled_8 : decode cX8_misled 8 = .ok (.iload_n 2, 1) := by decide +kernel
theorem dX8_misled_9 : decode cX8_misled 9 = .ok (.i2l, 1) := by decide +kernel
theorem dX8_misled_10 : decode cX8_misled 10 = .ok (.lconst 0, 1) := by decide +kernel
theorem dX8_misled_11 : decode cX8_misled 11 = .ok (.lconst 1, 1) := by decide +kernel
theorem dX8_misled_12 : decode cX8_misled 12 = .ok (.invokestatic 109, 3) := by decide +kernel
theorem dX8_misled_15 : decode cX8_misled 15 = .ok (.ifCond .ne 5, 3) := by decide +kernel
theorem dX8_misled_18 : decode cX8_misled 18 = .ok (.iconst (-1), 1) := by decide +kernel
theorem dX8_misled_19 : decode cX8_misled 19 = .ok (.ireturn, 1) := by decide +kernel
theorem dX8_misled_20 : decode cX8_misled 20 = .ok (.aload_n 0, 1) := by decide +kernel
theorem dX8_misled_21 : decode cX8_misled 21 = .ok (.aload_n 0, 1) := by decide +kernel
theorem dX8_misled_22 : decode cX8_misled 22 = .ok (.getfield 58, 3) := by decide +kernel
theorem dX8_misled_25 : decode cX8_misled 25 = .ok (.bipush 8, 2) := by decide +kernel
theorem dX8_misled_27 : decode cX8_misled 27 = .ok (.iaload, 1) := by decide +kernel
theorem dX8_misled_28 : decode cX8_misled 28 = .ok (.invokevirtual 221, 3) := by decide +kernel
theorem dX8_misled_31 : decode cX8_misled 31 = .ok (.pop, 1) := by decide +kernel
theorem dX8_misled_32 : decode cX8_misled 32 = .ok (.iconst 0, 1) := by decide +kernel
theorem dX8_misled_33 : decode cX8_misled 33 = .ok (.istore_n 3, 1) := by decide +kernel
theorem dX8_misled_34 : decode cX8_misled 34 = .ok (.bipush (-4), 2) := by decide +kernel
theorem dX8_misled_36 : decode cX8_misled 36 = .ok (.istore 4, 2) := by decide +kernel
theorem dX8_misled_38 : decode cX8_misled 38 = .ok (.iconst 0, 1) := by decide +kernel
theorem dX8_misled_39 : decode cX8_misled 39 = .ok (.istore 5, 2) := by decide +kernel
theorem dX8_misled_41 : decode cX8_misled 41 = .ok (.iload 5, 2) := by decide +kernel
theorem dX8_misled_43 : decode cX8_misled 43 = .ok (.bipush 10, 2) := by decide +kernel
theorem dX8_misled_45 : decode cX8_misled 45 = .ok (.if_icmp .ge 119, 3) := by decide +kernel
theorem dX8_misled_48 : decode cX8_misled 48 = .ok (.aload_n 0, 1) := by decide +kernel
theorem dX8_misled_49 : decode cX8_misled 49 = .ok (.iload_n 1, 1) := by decide +kernel
theorem dX8_misled_50 : decode cX8_misled 50 = .ok (.iconst 0, 1) := by decide +kernel
theorem dX8_misled_51 : decode cX8_misled 51 = .ok (.aload_n 0, 1) := by decide +kernel
theorem dX8_misled_52 : decode cX8_misled 52 = .ok (.getfield 58, 3) := by decide +kernel
theorem dX8_misled_55 : decode cX8_misled 55 = .ok (.iload_n 1, 1) := by decide +kernel
theorem dX8_misled_56 : decode cX8_misled 56 = .ok (.iaload, 1) := by decide +kernel
theorem dX8_misled_57 : decode cX8_misled 57 = .ok (.iload 5, 2) := by decide +kernel
theorem dX8_misled_59 : decode cX8_misled 59 = .ok (.invokevirtual 203, 3) := by decide +kernel
theorem dX8_misled_62 : decode cX8_misled 62 = .ok (.istore 6, 2) := by decide +kernel
theorem dX8_misled_64 : decode cX8_misled 64 = .ok (.iconst 0, 1) := by decide +kernel
theorem dX8_misled_65 : decode cX8_misled 65 = .ok (.istore 7, 2) := by decide +kernel
theorem dX8_misled_67 : decode cX8_misled 67 = .ok (.iconst 0, 1) := by decide +kernel
theorem dX8_misled_68 : decode cX8_misled 68 = .ok (.istore 8, 2) := by decide +kernel
theorem dX8_misled_70 : decode cX8_misled 70 = .ok (.iload 8, 2) := by decide +kernel
theorem dX8_misled_72 : decode cX8_misled 72 = .ok (.aload_n 0, 1) := by decide +kernel
theorem dX8_misled_73 : decode cX8_misled 73 = .ok (.getfield 172, 3) := by decide +kernel
theorem dX8_misled_76 : decode cX8_misled 76 = .ok (.if_icmp .ge 52, 3) := by decide +kernel
theorem dX8_misled_79 : decode cX8_misled 79 = .ok (.iload 7, 2) := by decide +kernel
theorem dX8_misled_81 : decode cX8_misled 81 = .ok (.aload_n 0, 1) := by decide +kernel
theorem dX8_misled_82 : decode cX8_misled 82 = .ok (.getfield 73, 3) := by decide +kernel
theorem dX8_misled_85 : decode cX8_misled 85 = .ok (.iload 8, 2) := by decide +kernel
theorem dX8_misled_87 : decode cX8_misled 87 = .ok (.baload, 1) := by decide +kernel
theorem dX8_misled_88 : decode cX8_misled 88 = .ok (.ifCond .eq 30, 3) := by decide +kernel
theorem dX8_misled_91 : decode cX8_misled 91 = .ok (.aload_n 0, 1) := by decide +kernel
theorem dX8_misled_92 : decode cX8_misled 92 = .ok (.iload_n 1, 1) := by decide +kernel
theorem dX8_misled_93 : decode cX8_misled 93 = .ok (.iconst 0, 1) := by decide +kernel
theorem dX8_misled_94 : decode cX8_misled 94 = .ok (.aload_n 0, 1) := by decide +kernel
theorem dX8_misled_95 : decode cX8_misled 95 = .ok (.getfield 55, 3) := by decide +kernel
theorem dX8_misled_98 : decode cX8_misled 98 = .ok (.iload 8, 2) := by decide +kernel
theorem dX8_misled_100 : decode cX8_misled 100 = .ok (.iaload, 1) := by decide +kernel
theorem dX8_misled_101 : decode cX8_misled 101 = .ok (.iload_n 1, 1) := by decide +kernel
theorem dX8_misled_102 : decode cX8_misled 102 = .ok (.invokestatic 192, 3) := by decide +kernel
theorem dX8_misled_105 : decode cX8_misled 105 = .ok (.iconst 0, 1) := by decide +kernel
theorem dX8_misled_106 : decode cX8_misled 106 = .ok (.invokevirtual 203, 3) := by decide +kernel
theorem dX8_misled_109 : decode cX8_misled 109 = .ok (.iload 6, 2) := by decide +kernel
theorem dX8_misled_111 : decode cX8_misled 111 = .ok (.if_icmp .ne 7, 3) := by decide +kernel
theorem dX8_misled_114 : decode cX8_misled 114 = .ok (.iconst 1, 1) := by decide +kernel
theorem dX8_misled_115 : decode cX8_misled 115 = .ok (.goto 4, 3) := by decide +kernel
theorem dX8_misled_118 : decode cX8_misled 118 = .ok (.iconst 0, 1) := by decide +kernel
theorem dX8_misled_119 : decode cX8_misled 119 = .ok (.iadd, 1) := by decide +kernel
theorem dX8_misled_120 : decode cX8_misled 120 = .ok (.istore 7, 2) := by decide +kernel
theorem dX8_misled_122 : decode cX8_misled 122 = .ok (.iinc 8 1, 3) := by decide +kernel
theorem dX8_misled_125 : decode cX8_misled 125 = .ok (.goto (-55), 3) := by decide +kernel
theorem dX8_misled_128 : decode cX8_misled 128 = .ok (.iload 7, 2) := by decide +kernel
theorem dX8_misled_130 : decode cX8_misled 130 = .ok (.iload 4, 2) := by decide +kernel
theorem dX8_misled_132 : decode cX8_misled 132 = .ok (.if_icmp .le 8, 3) := by decide +kernel
theorem dX8_misled_135 : decode cX8_misled 135 = .ok (.iload 5, 2) := by decide +kernel
theorem dX8_misled_137 : decode cX8_misled 137 = .ok (.goto 4, 3) := by decide +kernel
theorem dX8_misled_140 : decode cX8_misled 140 = .ok (.iload_n 3, 1) := by decide +kernel
theorem dX8_misled_141 : decode cX8_misled 141 = .ok (.istore_n 3, 1) := by decide +kernel
theorem dX8_misled_142 : decode cX8_misled 142 = .ok (.iload 7, 2) := by decide +kernel
theorem dX8_misled_144 : decode cX8_misled 144 = .ok (.iload 4, 2) := by decide +kernel
theorem dX8_misled_146 : decode cX8_misled 146 = .ok (.if_icmp .le 8, 3) := by decide +kernel
theorem dX8_misled_149 : decode cX8_misled 149 = .ok (.iload 7, 2) := by decide +kernel
theorem dX8_misled_151 : decode cX8_misled 151 = .ok (.goto 5, 3) := by decide +kernel
theorem dX8_misled_154 : decode cX8_misled 154 = .ok (.iload 4, 2) := by decide +kernel
theorem dX8_misled_156 : decode cX8_misled 156 = .ok (.istore 4, 2) := by decide +kernel
theorem dX8_misled_158 : decode cX8_misled 158 = .ok (.iinc 5 1, 3) := by decide +kernel
theorem dX8_misled_161 : decode cX8_misled 161 = .ok (.goto (-120), 3) := by decide +kernel
theorem dX8_misled_164 : decode cX8_misled 164 = .ok (.iload_n 2, 1) := by decide +kernel
theorem dX8_misled_165 : decode cX8_misled 165 = .ok (.ifCond .ne 7, 3) := by decide +kernel
theorem dX8_misled_168 : decode cX8_misled 168 = .ok (.iload_n 3, 1) := by decide +kernel
theorem dX8_misled_169 : decode cX8_misled 169 = .ok (.goto 5, 3) := by decide +kernel
theorem dX8_misled_172 : decode cX8_misled 172 = .ok (.iload 4, 2) := by decide +kernel
theorem dX8_misled_174 : decode cX8_misled 174 = .ok (.ireturn, 1) := by decide +kernel
theorem dX8_more_0 : decode cX8_more 0 = .ok (.iload_n 1, 1) := by decide +kernel
theorem dX8_more_1 : decode cX8_more 1 = .ok (.i2l, 1) := by decide +kernel
theorem dX8_more_2 : decode cX8_more 2 = .ok (.lconst 0, 1) := by decide +kernel
theorem dX8_more_3 : decode cX8_more 3 = .ok (.ldc2_w 128, 3) := by decide +kernel
theorem dX8_more_6 : decode cX8_more 6 = .ok (.invokestatic 109, 3) := by decide +kernel
theorem dX8_more_9 : decode cX8_more 9 = .ok (.ifCond .ne 5, 3) := by decide +kernel
theorem dX8_more_12 : decode cX8_more 12 = .ok (.iconst (-1), 1) := by decide +kernel
theorem dX8_more_13 : decode cX8_more 13 = .ok (.ireturn, 1) := by decide +kernel
theorem dX8_more_14 : decode cX8_more 14 = .ok (.aload_n 0, 1) := by decide +kernel
theorem dX8_more_15 : decode cX8_more 15 = .ok (.aload_n 0, 1) := by decide +kernel
theorem dX8_more_16 : decode cX8_more 16 = .ok (.getfield 58, 3) := by decide +kernel
theorem dX8_more_19 : decode cX8_more 19 = .ok (.bipush 8, 2) := by decide +kernel
theorem dX8_more_21 : decode cX8_more 21 = .ok (.iaload, 1) := by decide +kernel
theorem dX8_more_22 : decode cX8_more 22 = .ok (.invokevirtual 221, 3) := by decide +kernel
theorem dX8_more_25 : decode cX8_more 25 = .ok (.pop, 1) := by decide +kernel
theorem dX8_more_26 : decode cX8_more 26 = .ok (.iconst 0, 1) := by decide +kernel
theorem dX8_more_27 : decode cX8_more 27 = .ok (.istore_n 2, 1) := by decide +kernel
theorem dX8_more_28 : decode cX8_more 28 = .ok (.iconst 0, 1) := by decide +kernel
theorem dX8_more_29 : decode cX8_more 29 = .ok (.istore_n 3, 1) := by decide +kernel
theorem dX8_more_30 : decode cX8_more 30 = .ok (.iload_n 3, 1) := by decide +kernel
theorem dX8_more_31 : decode cX8_more 31 = .ok (.aload_n 0, 1) := by decide +kernel
theorem dX8_more_32 : decode cX8_more 32 = .ok (.getfield 172, 3) := by decide +kernel
theorem dX8_more_35 : decode cX8_more 35 = .ok (.if_icmp .ge 62, 3) := by decide +kernel
theorem dX8_more_38 : decode cX8_more 38 = .ok (.aload_n 0, 1) := by decide +kernel
theorem dX8_more_39 : decode cX8_more 39 = .ok (.iconst 0, 1) := by decide +kernel
theorem dX8_more_40 : decode cX8_more 40 = .ok (.aload_n 0, 1) := by decide +kernel
theorem dX8_more_41 : decode cX8_more 41 = .ok (.getfield 55, 3) := by decide +kernel
theorem dX8_more_44 : decode cX8_more 44 = .ok (.iload_n 3, 1) := by decide +kernel
theorem dX8_more_45 : decode cX8_more 45 = .ok (.iaload, 1) := by decide +kernel
theorem dX8_more_46 : decode cX8_more 46 = .ok (.invokevirtual 155, 3) := by decide +kernel
theorem dX8_more_49 : decode cX8_more 49 = .ok (.istore 4, 2) := by decide +kernel
theorem dX8_more_51 : decode cX8_more 51 = .ok (.iload_n 2, 1) := by decide +kernel
theorem dX8_more_52 : decode cX8_more 52 = .ok (.aload_n 0, 1) := by decide +kernel
theorem dX8_more_53 : decode cX8_more 53 = .ok (.getfield 73, 3) := by decide +kernel
theorem dX8_more_56 : decode cX8_more 56 = .ok (.iload_n 3, 1) := by decide +kernel
theorem dX8_more_57 : decode cX8_more 57 = .ok (.baload, 1) := by decide +kernel
theorem dX8_more_58 : decode cX8_more 58 = .ok (.ifCond .eq 30, 3) := by decide +kernel
theorem dX8_more_61 : decode cX8_more 61 = .ok (.iload 4, 2) := by decide +kernel
theorem dX8_more_63 : decode cX8_more 63 = .ok (.ifCond .le 7, 3) := by decide +kernel
theorem dX8_more_66 : decode cX8_more 66 = .ok (.iconst 0, 1) := by decide +kernel
theorem dX8_more_67 : decode cX8_more 67 = .ok (.goto 13, 3) := by decide +kernel
theorem dX8_more_70 : decode cX8_more 70 = .ok (.iload 4, 2) := by decide +kernel
theorem dX8_more_72 : decode cX8_more 72 = .ok (.ifCond .ne 7, 3) := by decide +kernel
theorem dX8_more_75 : decode cX8_more 75 = .ok (.iconst 1, 1) := by decide +kernel
theorem dX8_more_76 : decode cX8_more 76 = .ok (.goto 4, 3) := by decide +kernel
theorem dX8_more_79 : decode cX8_more 79 = .ok (.iconst 2, 1) := by decide +kernel
theorem dX8_more_80 : decode cX8_more 80 = .ok (.iload_n 1, 1) := by decide +kernel
theorem dX8_more_81 : decode cX8_more 81 = .ok (.if_icmp .ne 7, 3) := by decide +kernel
theorem dX8_more_84 : decode cX8_more 84 = .ok (.iconst 1, 1) := by decide +kernel
theorem dX8_more_85 : decode cX8_more 85 = .ok (.goto 4, 3) := by decide +kernel
theorem dX8_more_88 : decode cX8_more 88 = .ok (.iconst 0, 1) := by decide +kernel
theorem dX8_more_89 : decode cX8_more 89 = .ok (.iadd, 1) := by decide +kernel
theorem dX8_more_90 : decode cX8_more 90 = .ok (.istore_n 2, 1) := by decide +kernel
theorem dX8_more_91 : decode cX8_more 91 = .ok (.iinc 3 1, 3) := by decide +kernel
theorem dX8_more_94 : decode cX8_more 94 = .ok (.goto (-64), 3) := by decide +kernel
theorem dX8_more_97 : decode cX8_more 97 = .ok (.iload_n 2, 1) := by decide +kernel
theorem dX8_more_98 : decode cX8_more 98 = .ok (.ireturn, 1) := by decide +kernel
theorem dX8_heavier_0 : decode cX8_heavier 0 = .ok (.aload_n 0, 1) := by decide +kernel
theorem dX8_heavier_1 : decode cX8_heavier 1 = .ok (.iload_n 1, 1) := by decide +kernel
theorem dX8_heavier_2 : decode cX8_heavier 2 = .ok (.invokevirtual 189, 3) := by decide +kernel
theorem dX8_heavier_5 : decode cX8_heavier 5 = .ok (.ifCond .eq 16, 3) := by decide +kernel
theorem dX8_heavier_8 : decode cX8_heavier 8 = .ok (.aload_n 0, 1) := by decide +kernel
theorem dX8_heavier_9 : decode cX8_heavier 9 = .ok (.iload_n 2, 1) := by decide +kernel
theorem dX8_heavier_10 : decode cX8_heavier 10 = .ok (.invokevirtual 189, 3) := by decide +kernel
theorem dX8_heavier_13 : decode cX8_heavier 13 = .ok (.ifCond .eq 8, 3) := by decide +kernel
theorem dX8_heavier_16 : decode cX8_heavier 16 = .ok (.iload_n 1, 1) := by decide +kernel
theorem dX8_heavier_17 : decode cX8_heavier 17 = .ok (.iload_n 2, 1) := by decide +kernel
theorem dX8_heavier_18 : decode cX8_heavier 18 = .ok (.if_icmp .ne 5, 3) := by decide +kernel
theorem dX8_heavier_21 : decode cX8_heavier 21 = .ok (.iconst (-1), 1) := by decide +kernel
theorem dX8_heavier_22 : decode cX8_heavier 22 = .ok (.ireturn, 1) := by decide +kernel
theorem dX8_heavier_23 : decode cX8_heavier 23 = .ok (.aload_n 0, 1) := by decide +kernel
theorem dX8_heavier_24 : decode cX8_heavier 24 = .ok (.aload_n 0, 1) := by decide +kernel
theorem dX8_heavier_25 : decode cX8_heavier 25 = .ok (.getfield 58, 3) := by decide +kernel
theorem dX8_heavier_28 : decode cX8_heavier 28 = .ok (.bipush 8, 2) := by decide +kernel
theorem dX8_heavier_30 : decode cX8_heavier 30 = .ok (.iaload, 1) := by decide +kernel
theorem dX8_heavier_31 : decode cX8_heavier 31 = .ok (.invokevirtual 221, 3) := by decide +kernel
theorem dX8_heavier_34 : decode cX8_heavier 34 = .ok (.pop, 1) := by decide +kernel
theorem dX8_heavier_35 : decode cX8_heavier 35 = .ok (.iconst 0, 1) := by decide +kernel
theorem dX8_heavier_36 : decode cX8_heavier 36 = .ok (.istore_n 3, 1) := by decide +kernel
theorem dX8_heavier_37 : decode cX8_heavier 37 = .ok (.iconst 0, 1) := by decide +kernel
theorem dX8_heavier_38 : decode cX8_heavier 38 = .ok (.istore 4, 2) := by decide +kernel
theorem dX8_heavier_40 : decode cX8_heavier 40 = .ok (.iload 4, 2) := by decide +kernel
theorem dX8_heavier_42 : decode cX8_heavier 42 = .ok (.aload_n 0, 1) := by decide +kernel
theorem dX8_heavier_43 : decode cX8_heavier 43 = .ok (.getfield 172, 3) := by decide +kernel
theorem dX8_heavier_46 : decode cX8_heavier 46 = .ok (.if_icmp .ge 62, 3) := by decide +kernel
theorem dX8_heavier_49 : decode cX8_heavier 49 = .ok (.iload_n 3, 1) := by decide +kernel
theorem dX8_heavier_50 : decode cX8_heavier 50 = .ok (.aload_n 0, 1) := by decide +kernel
theorem dX8_heavier_51 : decode cX8_heavier 51 = .ok (.getfield 73, 3) := by decide +kernel
theorem dX8_heavier_54 : decode cX8_heavier 54 = .ok (.iload 4, 2) := by decide +kernel
theorem dX8_heavier_56 : decode cX8_heavier 56 = .ok (.baload, 1) := by decide +kernel
theorem dX8_heavier_57 : decode cX8_heavier 57 = .ok (.ifCond .eq 42, 3) := by decide +kernel
theorem dX8_heavier_60 : decode cX8_heavier 60 = .ok (.aload_n 0, 1) := by decide +kernel
theorem dX8_heavier_61 : decode cX8_heavier 61 = .ok (.iload_n 1, 1) := by decide +kernel
theorem dX8_heavier_62 : decode cX8_heavier 62 = .ok (.aload_n 0, 1) := by decide +kernel
theorem dX8_heavier_63 : decode cX8_heavier 63 = .ok (.getfield 55, 3) := by decide +kernel
theorem dX8_heavier_66 : decode cX8_heavier 66 = .ok (.iload 4, 2) := by decide +kernel
theorem dX8_heavier_68 : decode cX8_heavier 68 = .ok (.iaload, 1) := by decide +kernel
theorem dX8_heavier_69 : decode cX8_heavier 69 = .ok (.iload_n 1, 1) := by decide +kernel
theorem dX8_heavier_70 : decode cX8_heavier 70 = .ok (.invokestatic 192, 3) := by decide +kernel
theorem dX8_heavier_73 : decode cX8_heavier 73 = .ok (.invokevirtual 195, 3) := by decide +kernel
theorem dX8_heavier_76 : decode cX8_heavier 76 = .ok (.aload_n 0, 1) := by decide +kernel
theorem dX8_heavier_77 : decode cX8_heavier 77 = .ok (.iload_n 2, 1) := by decide +kernel
theorem dX8_heavier_78 : decode cX8_heavier 78 = .ok (.aload_n 0, 1) := by decide +kernel
theorem dX8_heavier_79 : decode cX8_heavier 79 = .ok (.getfield 55, 3) := by decide +kernel
theorem dX8_heavier_82 : decode cX8_heavier 82 = .ok (.iload 4, 2) := by decide +kernel
theorem dX8_heavier_84 : decode cX8_heavier 84 = .ok (.iaload, 1) := by decide +kernel
theorem dX8_heavier_85 : decode cX8_heavier 85 = .ok (.iload_n 2, 1) := by decide +kernel
theorem dX8_heavier_86 : decode cX8_heavier 86 = .ok (.invokestatic 192, 3) := by decide +kernel
theorem dX8_heavier_89 : decode cX8_heavier 89 = .ok (.invokevirtual 195, 3) := by decide +kernel
theorem dX8_heavier_92 : decode cX8_heavier 92 = .ok (.if_icmp .le 7, 3) := by decide +kernel
theorem dX8_heavier_95 : decode cX8_heavier 95 = .ok (.iconst 1, 1) := by decide +kernel
theorem dX8_heavier_96 : decode cX8_heavier 96 = .ok (.goto 4, 3) := by decide +kernel
theorem dX8_heavier_99 : decode cX8_heavier 99 = .ok (.iconst 0, 1) := by decide +kernel
theorem dX8_heavier_100 : decode cX8_heavier 100 = .ok (.iadd, 1) := by decide +kernel
theorem dX8_heavier_101 : decode cX8_heavier 101 = .ok (.istore_n 3, 1) := by decide +kernel
theorem dX8_heavier_102 : decode cX8_heavier 102 = .ok (.iinc 4 1, 3) := by decide +kernel
theorem dX8_heavier_105 : decode cX8_heavier 105 = .ok (.goto (-65), 3) := by decide +kernel
theorem dX8_heavier_108 : decode cX8_heavier 108 = .ok (.iload_n 3, 1) := by decide +kernel
theorem dX8_heavier_109 : decode cX8_heavier 109 = .ok (.ireturn, 1) := by decide +kernel
theorem dX8_morning_0 : decode cX8_morning 0 = .ok (.iload_n 1, 1) := by decide +kernel
theorem dX8_morning_1 : decode cX8_morning 1 = .ok (.i2l, 1) := by decide +kernel
theorem dX8_morning_2 : decode cX8_morning 2 = .ok (.lconst 0, 1) := by decide +kernel
theorem dX8_morning_3 : decode cX8_morning 3 = .ok (.ldc2_w 266, 3) := by decide +kernel
theorem dX8_morning_6 : decode cX8_morning 6 = .ok (.invokestatic 109, 3) := by decide +kernel
theorem dX8_morning_9 : decode cX8_morning 9 = .ok (.ifCond .eq 13, 3) := by decide +kernel
theorem dX8_morning_12 : decode cX8_morning 12 = .ok (.iload_n 2, 1) := by decide +kernel
theorem dX8_morning_13 : decode cX8_morning 13 = .ok (.i2l, 1) := by decide +kernel
theorem dX8_morning_14 : decode cX8_morning 14 = .ok (.lconst 0, 1) := by decide +kernel
theorem dX8_morning_15 : decode cX8_morning 15 = .ok (.lconst 1, 1) := by decide +kernel
theorem dX8_morning_16 : decode cX8_morning 16 = .ok (.invokestatic 109, 3) := by decide +kernel
theorem dX8_morning_19 : decode cX8_morning 19 = .ok (.ifCond .ne 5, 3) := by decide +kernel
theorem dX8_morning_22 : decode cX8_morning 22 = .ok (.iconst (-1), 1) := by decide +kernel
theorem dX8_morning_23 : decode cX8_morning 23 = .ok (.ireturn, 1) := by decide +kernel
theorem dX8_morning_24 : decode cX8_morning 24 = .ok (.ldc2_w 268, 3) := by decide +kernel
theorem dX8_morning_27 : decode cX8_morning 27 = .ok (.iload_n 1, 1) := by decide +kernel
theorem dX8_morning_28 : decode cX8_morning 28 = .ok (.i2l, 1) := by decide +kernel
theorem dX8_morning_29 : decode cX8_morning 29 = .ok (.lmul, 1) := by decide +kernel
theorem dX8_morning_30 : decode cX8_morning 30 = .ok (.lconst 1, 1) := by decide +kernel
theorem dX8_morning_31 : decode cX8_morning 31 = .ok (.ladd, 1) := by decide +kernel
theorem dX8_morning_32 : decode cX8_morning 32 = .ok (.lstore_n 3, 1) := by decide +kernel
theorem dX8_morning_33 : decode cX8_morning 33 = .ok (.aload_n 0, 1) := by decide +kernel
theorem dX8_morning_34 : decode cX8_morning 34 = .ok (.iconst 0, 1) := by decide +kernel
theorem dX8_morning_35 : decode cX8_morning 35 = .ok (.invokevirtual 221, 3) := by decide +kernel
theorem dX8_morning_38 : decode cX8_morning 38 = .ok (.pop, 1) := by decide +kernel
theorem dX8_morning_39 : decode cX8_morning 39 = .ok (.aload_n 0, 1) := by decide +kernel
theorem dX8_morning_40 : decode cX8_morning 40 = .ok (.aload_n 0, 1) := by decide +kernel
theorem dX8_morning_41 : decode cX8_morning 41 = .ok (.getfield 55, 3) := by decide +kernel
theorem dX8_morning_44 : decode cX8_morning 44 = .ok (.lload_n 3, 1) := by decide +kernel
theorem dX8_morning_45 : decode cX8_morning 45 = .ok (.lload_n 3, 1) := by decide +kernel
theorem dX8_morning_46 : decode cX8_morning 46 = .ok (.lmul, 1) := by decide +kernel
theorem dX8_morning_47 : decode cX8_morning 47 = .ok (.ldc2_w 270, 3) := by decide +kernel
theorem dX8_morning_50 : decode cX8_morning 50 = .ok (.lrem, 1) := by decide +kernel
theorem dX8_morning_51 : decode cX8_morning 51 = .ok (.l2i, 1) := by decide +kernel
theorem dX8_morning_52 : decode cX8_morning 52 = .ok (.aload_n 0, 1) := by decide +kernel
theorem dX8_morning_53 : decode cX8_morning 53 = .ok (.getfield 172, 3) := by decide +kernel
theorem dX8_morning_56 : decode cX8_morning 56 = .ok (.irem, 1) := by decide +kernel
theorem dX8_morning_57 : decode cX8_morning 57 = .ok (.iaload, 1) := by decide +kernel
theorem dX8_morning_58 : decode cX8_morning 58 = .ok (.invokevirtual 261, 3) := by decide +kernel
theorem dX8_morning_61 : decode cX8_morning 61 = .ok (.istore 5, 2) := by decide +kernel
theorem dX8_morning_63 : decode cX8_morning 63 = .ok (.iload 5, 2) := by decide +kernel
theorem dX8_morning_65 : decode cX8_morning 65 = .ok (.ifCond .lt 7, 3) := by decide +kernel
theorem dX8_morning_68 : decode cX8_morning 68 = .ok (.iload_n 2, 1) := by decide +kernel
theorem dX8_morning_69 : decode cX8_morning 69 = .ok (.ifCond .ne 8, 3) := by decide +kernel
theorem dX8_morning_72 : decode cX8_morning 72 = .ok (.iload 5, 2) := by decide +kernel
theorem dX8_morning_74 : decode cX8_morning 74 = .ok (.goto 7, 3) := by decide +kernel
theorem dX8_morning_77 : decode cX8_morning 77 = .ok (.aload_n 0, 1) := by decide +kernel
theorem dX8_morning_78 : decode cX8_morning 78 = .ok (.getfield 258, 3) := by decide +kernel
theorem dX8_morning_81 : decode cX8_morning 81 = .ok (.ireturn, 1) := by decide +kernel
theorem dX8_keep_0 : decode cX8_keep 0 = .ok (.aload_n 0, 1) := by decide +kernel
theorem dX8_keep_1 : decode cX8_keep 1 = .ok (.getfield 178, 3) := by decide +kernel
theorem dX8_keep_4 : decode cX8_keep 4 = .ok (.iconst 2, 1) := by decide +kernel
theorem dX8_keep_5 : decode cX8_keep 5 = .ok (.if_icmp .ne 6, 3) := by decide +kernel
theorem dX8_keep_8 : decode cX8_keep 8 = .ok (.bipush (-3), 2) := by decide +kernel
theorem dX8_keep_10 : decode cX8_keep 10 = .ok (.ireturn, 1) := by decide +kernel
theorem dX8_keep_11 : decode cX8_keep 11 = .ok (.iconst 0, 1) := by decide +kernel
theorem dX8_keep_12 : decode cX8_keep 12 = .ok (.istore_n 1, 1) := by decide +kernel
theorem dX8_keep_13 : decode cX8_keep 13 = .ok (.iload_n 1, 1) := by decide +kernel
theorem dX8_keep_14 : decode cX8_keep 14 = .ok (.bipush 21, 2) := by decide +kernel
theorem dX8_keep_16 : decode cX8_keep 16 = .ok (.if_icmp .ge 29, 3) := by decide +kernel
theorem dX8_keep_19 : decode cX8_keep 19 = .ok (.aload_n 0, 1) := by decide +kernel
theorem dX8_keep_20 : decode cX8_keep 20 = .ok (.getfield 64, 3) := by decide +kernel
theorem dX8_keep_23 : decode cX8_keep 23 = .ok (.bipush 21, 2) := by decide +kernel
theorem dX8_keep_25 : decode cX8_keep 25 = .ok (.aload_n 0, 1) := by decide +kernel
theorem dX8_keep_26 : decode cX8_keep 26 = .ok (.getfield 178, 3) := by decide +kernel
theorem dX8_keep_29 : decode cX8_keep 29 = .ok (.imul, 1) := by decide +kernel
theorem dX8_keep_30 : decode cX8_keep 30 = .ok (.iload_n 1, 1) := by decide +kernel
theorem dX8_keep_31 : decode cX8_keep 31 = .ok (.iadd, 1) := by decide +kernel
theorem dX8_keep_32 : decode cX8_keep 32 = .ok (.aload_n 0, 1) := by decide +kernel
theorem dX8_keep_33 : decode cX8_keep 33 = .ok (.getfield 58, 3) := by decide +kernel
theorem dX8_keep_36 : decode cX8_keep 36 = .ok (.iload_n 1, 1) := by decide +kernel
theorem dX8_keep_37 : decode cX8_keep 37 = .ok (.iaload, 1) := by decide +kernel
theorem dX8_keep_38 : decode cX8_keep 38 = .ok (.iastore, 1) := by decide +kernel
theorem dX8_keep_39 : decode cX8_keep 39 = .ok (.iinc 1 1, 3) := by decide +kernel
theorem dX8_keep_42 : decode cX8_keep 42 = .ok (.goto (-29), 3) := by decide +kernel
theorem dX8_keep_45 : decode cX8_keep 45 = .ok (.aload_n 0, 1) := by decide +kernel
theorem dX8_keep_46 : decode cX8_keep 46 = .ok (.dup, 1) := by decide +kernel
theorem dX8_keep_47 : decode cX8_keep 47 = .ok (.getfield 178, 3) := by decide +kernel
theorem dX8_keep_50 : decode cX8_keep 50 = .ok (.iconst 1, 1) := by decide +kernel
theorem dX8_keep_51 : decode cX8_keep 51 = .ok (.iadd, 1) := by decide +kernel
theorem dX8_keep_52 : decode cX8_keep 52 = .ok (.putfield 178, 3) := by decide +kernel
theorem dX8_keep_55 : decode cX8_keep 55 = .ok (.aload_n 0, 1) := by decide +kernel
theorem dX8_keep_56 : decode cX8_keep 56 = .ok (.getfield 178, 3) := by decide +kernel
theorem dX8_keep_59 : decode cX8_keep 59 = .ok (.ireturn, 1) := by decide +kernel
theorem dX8_back_0 : decode cX8_back 0 = .ok (.aload_n 0, 1) := by decide +kernel
theorem dX8_back_1 : decode cX8_back 1 = .ok (.getfield 178, 3) := by decide +kernel
theorem dX8_back_4 : decode cX8_back 4 = .ok (.ifCond .ne 6, 3) := by decide +kernel
theorem dX8_back_7 : decode cX8_back 7 = .ok (.bipush (-2), 2) := by decide +kernel
theorem dX8_back_9 : decode cX8_back 9 = .ok (.ireturn, 1) := by decide +kernel
theorem dX8_back_10 : decode cX8_back 10 = .ok (.aload_n 0, 1) := by decide +kernel
theorem dX8_back_11 : decode cX8_back 11 = .ok (.dup, 1) := by decide +kernel
theorem dX8_back_12 : decode cX8_back 12 = .ok (.getfield 178, 3) := by decide +kernel
theorem dX8_back_15 : decode cX8_back 15 = .ok (.iconst 1, 1) := by decide +kernel
theorem dX8_back_16 : decode cX8_back 16 = .ok (.isub, 1) := by decide +kernel
theorem dX8_back_17 : decode cX8_back 17 = .ok (.putfield 178, 3) := by decide +kernel
theorem dX8_back_20 : decode cX8_back 20 = .ok (.iconst 0, 1) := by decide +kernel
theorem dX8_back_21 : decode cX8_back 21 = .ok (.istore_n 1, 1) := by decide +kernel
theorem dX8_back_22 : decode cX8_back 22 = .ok (.iload_n 1, 1) := by decide +kernel
theorem dX8_back_23 : decode cX8_back 23 = .ok (.bipush 21, 2) := by decide +kernel
theorem dX8_back_25 : decode cX8_back 25 = .ok (.if_icmp .ge 29, 3) := by decide +kernel
theorem dX8_back_28 : decode cX8_back 28 = .ok (.aload_n 0, 1) := by decide +kernel
theorem dX8_back_29 : decode cX8_back 29 = .ok (.getfield 58, 3) := by decide +kernel
theorem dX8_back_32 : decode cX8_back 32 = .ok (.iload_n 1, 1) := by decide +kernel
theorem dX8_back_33 : decode cX8_back 33 = .ok (.aload_n 0, 1) := by decide +kernel
theorem dX8_back_34 : decode cX8_back 34 = .ok (.getfield 64, 3) := by decide +kernel
theorem dX8_back_37 : decode cX8_back 37 = .ok (.bipush 21, 2) := by decide +kernel
theorem dX8_back_39 : decode cX8_back 39 = .ok (.aload_n 0, 1) := by decide +kernel
theorem dX8_back_40 : decode cX8_back 40 = .ok (.getfield 178, 3) := by decide +kernel
theorem dX8_back_43 : decode cX8_back 43 = .ok (.imul, 1) := by decide +kernel
theorem dX8_back_44 : decode cX8_back 44 = .ok (.iload_n 1, 1) := by decide +kernel
theorem dX8_back_45 : decode cX8_back 45 = .ok (.iadd, 1) := by decide +kernel
theorem dX8_back_46 : decode cX8_back 46 = .ok (.iaload, 1) := by decide +kernel
theorem dX8_back_47 : decode cX8_back 47 = .ok (.iastore, 1) := by decide +kernel
theorem dX8_back_48 : decode cX8_back 48 = .ok (.iinc 1 1, 3) := by decide +kernel
theorem dX8_back_51 : decode cX8_back 51 = .ok (.goto (-29), 3) := by decide +kernel
theorem dX8_back_54 : decode cX8_back 54 = .ok (.aload_n 0, 1) := by decide +kernel
theorem dX8_back_55 : decode cX8_back 55 = .ok (.iconst 0, 1) := by decide +kernel
theorem dX8_back_56 : decode cX8_back 56 = .ok (.putfield 175, 3) := by decide +kernel
theorem dX8_back_59 : decode cX8_back 59 = .ok (.aload_n 0, 1) := by decide +kernel
theorem dX8_back_60 : decode cX8_back 60 = .ok (.getfield 178, 3) := by decide +kernel
theorem dX8_back_63 : decode cX8_back 63 = .ok (.ireturn, 1) := by decide +kernel
theorem dX8_count_0 : decode cX8_count 0 = .ok (.iload_n 1, 1) := by decide +kernel
theorem dX8_count_1 : decode cX8_count 1 = .ok (.tableswitch 85 0 6 #[43, 50, 57, 62, 70, 75, 80], 43) := by decide +kernel
theorem dX8_count_44 : decode cX8_count 44 = .ok (.aload_n 0, 1) := by decide +kernel
theorem dX8_count_45 : decode cX8_count 45 = .ok (.getfield 13, 3) := by decide +kernel
theorem dX8_count_48 : decode cX8_count 48 = .ok (.iconst 0, 1) := by decide +kernel
theorem dX8_count_49 : decode cX8_count 49 = .ok (.iaload, 1) := by decide +kernel
theorem dX8_count_50 : decode cX8_count 50 = .ok (.ireturn, 1) := by decide +kernel
theorem dX8_count_51 : decode cX8_count 51 = .ok (.aload_n 0, 1) := by decide +kernel
theorem dX8_count_52 : decode cX8_count 52 = .ok (.getfield 28, 3) := by decide +kernel
theorem dX8_count_55 : decode cX8_count 55 = .ok (.iconst 0, 1) := by decide +kernel
theorem dX8_count_56 : decode cX8_count 56 = .ok (.iaload, 1) := by decide +kernel
theorem dX8_count_57 : decode cX8_count 57 = .ok (.ireturn, 1) := by decide +kernel
theorem dX8_count_58 : decode cX8_count 58 = .ok (.aload_n 0, 1) := by decide +kernel
theorem dX8_count_59 : decode cX8_count 59 = .ok (.getfield 172, 3) := by decide +kernel
theorem dX8_count_62 : decode cX8_count 62 = .ok (.ireturn, 1) := by decide +kernel
theorem dX8_count_63 : decode cX8_count 63 = .ok (.aload_n 0, 1) := by decide +kernel
theorem dX8_count_64 : decode cX8_count 64 = .ok (.getfield 58, 3) := by decide +kernel
theorem dX8_count_67 : decode cX8_count 67 = .ok (.bipush 8, 2) := by decide +kernel
theorem dX8_count_69 : decode cX8_count 69 = .ok (.iaload, 1) := by decide +kernel
theorem dX8_count_70 : decode cX8_count 70 = .ok (.ireturn, 1) := by decide +kernel
theorem dX8_count_71 : decode cX8_count 71 = .ok (.aload_n 0, 1) := by decide +kernel
theorem dX8_count_72 : decode cX8_count 72 = .ok (.getfield 175, 3) := by decide +kernel
theorem dX8_count_75 : decode cX8_count 75 = .ok (.ireturn, 1) := by decide +kernel
theorem dX8_count_76 : decode cX8_count 76 = .ok (.aload_n 0, 1) := by decide +kernel
theorem dX8_count_77 : decode cX8_count 77 = .ok (.getfield 178, 3) := by decide +kernel
theorem dX8_count_80 : decode cX8_count 80 = .ok (.ireturn, 1) := by decide +kernel
theorem dX8_count_81 : decode cX8_count 81 = .ok (.aload_n 0, 1) := by decide +kernel
theorem dX8_count_82 : decode cX8_count 82 = .ok (.getfield 113, 3) := by decide +kernel
theorem dX8_count_85 : decode cX8_count 85 = .ok (.ireturn, 1) := by decide +kernel
theorem dX8_count_86 : decode cX8_count 86 = .ok (.iconst (-1), 1) := by decide +kernel
theorem dX8_count_87 : decode cX8_count 87 = .ok (.ireturn, 1) := by decide +kernel
theorem dL_law_0 : decode cL_law 0 = .ok (.new 7, 3) := by decide +kernel
theorem dL_law_3 : decode cL_law 3 = .ok (.dup, 1) := by decide +kernel
theorem dL_law_4 : decode cL_law 4 = .ok (.invokespecial 9, 3) := by decide +kernel
theorem dL_law_7 : decode cL_law 7 = .ok (.astore_n 1, 1) := by decide +kernel
theorem dL_law_8 : decode cL_law 8 = .ok (.new 10, 3) := by decide +kernel
theorem dL_law_11 : decode cL_law 11 = .ok (.dup, 1) := by decide +kernel
theorem dL_law_12 : decode cL_law 12 = .ok (.invokespecial 12, 3) := by decide +kernel
theorem dL_law_15 : decode cL_law 15 = .ok (.astore_n 2, 1) := by decide +kernel
theorem dL_law_16 : decode cL_law 16 = .ok (.iconst 0, 1) := by decide +kernel
theorem dL_law_17 : decode cL_law 17 = .ok (.istore_n 3, 1) := by decide +kernel
theorem dL_law_18 : decode cL_law 18 = .ok (.iload_n 3, 1) := by decide +kernel
theorem dL_law_19 : decode cL_law 19 = .ok (.aload_n 0, 1) := by decide +kernel
theorem dL_law_20 : decode cL_law 20 = .ok (.arraylength, 1) := by decide +kernel
theorem dL_law_21 : decode cL_law 21 = .ok (.iconst 4, 1) := by decide +kernel
theorem dL_law_22 : decode cL_law 22 = .ok (.isub, 1) := by decide +kernel
theorem dL_law_23 : decode cL_law 23 = .ok (.if_icmp .gt 940, 3) := by decide +kernel
theorem dL_law_26 : decode cL_law 26 = .ok (.aload_n 0, 1) := by decide +kernel
theorem dL_law_27 : decode cL_law 27 = .ok (.iload_n 3, 1) := by decide +kernel
theorem dL_law_28 : decode cL_law 28 = .ok (.iaload, 1) := by decide +kernel
theorem dL_law_29 : decode cL_law 29 = .ok (.bipush 31, 2) := by decide +kernel
theorem dL_law_31 : decode cL_law 31 = .ok (.iand, 1) := by decide +kernel
theorem dL_law_32 : decode cL_law 32 = .ok (.tableswitch 925 0 29 #[136, 159, 172, 185, 198, 231, 264, 297, 340, 373, 416, 449, 482, 495, 508, 552, 601, 614, 648, 671, 694, 717, 741, 754, 787, 810, 843, 876, 889, 902], 136) := by decide +kernel
theorem dL_law_168 : decode cL_law 168 = .ok (.aload_n 1, 1) := by decide +kernel
theorem dL_law_169 : decode cL_law 169 = .ok (.aload_n 0, 1) := by decide +kernel
theorem dL_law_170 : decode cL_law 170 = .ok (.iload_n 3, 1) := by decide +kernel
theorem dL_law_171 : decode cL_law 171 = .ok (.iconst 1, 1) := by decide +kernel
theorem dL_law_172 : decode cL_law 172 = .ok (.iadd, 1) := by decide +kernel
theorem dL_law_173 : decode cL_law 173 = .ok (.iaload, 1) := by decide +kernel
theorem dL_law_174 : decode cL_law 174 = .ok (.invokevirtual 13, 3) := by decide +kernel
theorem dL_law_177 : decode cL_law 177 = .ok (.aload_n 2, 1) := by decide +kernel
theorem dL_law_178 : decode cL_law 178 = .ok (.aload_n 0, 1) := by decide +kernel
theorem dL_law_179 : decode cL_law 179 = .ok (.iload_n 3, 1) := by decide +kernel
theorem dL_law_180 : decode cL_law 180 = .ok (.iconst 1, 1) := by decide +kernel
theorem dL_law_181 : decode cL_law 181 = .ok (.iadd, 1) := by decide +kernel
theorem dL_law_182 : decode cL_law 182 = .ok (.iaload, 1) := by decide +kernel
theorem dL_law_183 : decode cL_law 183 = .ok (.invokevirtual 17, 3) := by decide +kernel
theorem dL_law_186 : decode cL_law 186 = .ok (.if_icmp .eq 771, 3) := by decide +kernel
theorem dL_law_189 : decode cL_law 189 = .ok (.iconst 0, 1) := by decide +kernel
theorem dL_law_190 : decode cL_law 190 = .ok (.ireturn, 1) := by decide +kernel
theorem dL_law_191 : decode cL_law 191 = .ok (.aload_n 1, 1) := by decide +kernel
theorem dL_law_192 : decode cL_law 192 = .ok (.invokevirtual 18, 3) := by decide +kernel
theorem dL_law_195 : decode cL_law 195 = .ok (.aload_n 2, 1) := by decide +kernel
theorem dL_law_196 : decode cL_law 196 = .ok (.invokevirtual 22, 3) := by decide +kernel
theorem dL_law_199 : decode cL_law 199 = .ok (.if_icmp .eq 758, 3) := by decide +kernel
theorem dL_law_202 : decode cL_law 202 = .ok (.iconst 0, 1) := by decide +kernel
theorem dL_law_203 : decode cL_law 203 = .ok (.ireturn, 1) := by decide +kernel
theorem dL_law_204 : decode cL_law 204 = .ok (.aload_n 1, 1) := by decide +kernel
theorem dL_law_205 : decode cL_law 205 = .ok (.invokevirtual 23, 3) := by decide +kernel
theorem dL_law_208 : decode cL_law 208 = .ok (.aload_n 2, 1) := by decide +kernel
theorem dL_law_209 : decode cL_law 209 = .ok (.invokevirtual 26, 3) := by decide +kernel
theorem dL_law_212 : decode cL_law 212 = .ok (.if_icmp .eq 745, 3) := by decide +kernel
theorem dL_law_215 : decode cL_law 215 = .ok (.iconst 0, 1) := by decide +kernel
theorem dL_law_216 : decode cL_law 216 = .ok (.ireturn, 1) := by decide +kernel
theorem dL_law_217 : decode cL_law 217 = .ok (.aload_n 1, 1) := by decide +kernel
theorem dL_law_218 : decode cL_law 218 = .ok (.invokevirtual 27, 3) := by decide +kernel
theorem dL_law_221 : decode cL_law 221 = .ok (.aload_n 2, 1) := by decide +kernel
theorem dL_law_222 : decode cL_law 222 = .ok (.invokevirtual 30, 3) := by decide +kernel
theorem dL_law_225 : decode cL_law 225 = .ok (.if_icmp .eq 732, 3) := by decide +kernel
theorem dL_law_228 : decode cL_law 228 = .ok (.iconst 0, 1) := by decide +kernel
theorem dL_law_229 : decode cL_law 229 = .ok (.ireturn, 1) := by decide +kernel
theorem dL_law_230 : decode cL_law 230 = .ok (.aload_n 1, 1) := by decide +kernel
theorem dL_law_231 : decode cL_law 231 = .ok (.aload_n 0, 1) := by decide +kernel
theorem dL_law_232 : decode cL_law 232 = .ok (.iload_n 3, 1) := by decide +kernel
theorem dL_law_233 : decode cL_law 233 = .ok (.iconst 1, 1) := by decide +kernel
theorem dL_law_234 : decode cL_law 234 = .ok (.iadd, 1) := by decide +kernel
theorem dL_law_235 : decode cL_law 235 = .ok (.iaload, 1) := by decide +kernel
theorem dL_law_236 : decode cL_law 236 = .ok (.aload_n 0, 1) := by decide +kernel
theorem dL_law_237 : decode cL_law 237 = .ok (.iload_n 3, 1) := by decide +kernel
theorem dL_law_238 : decode cL_law 238 = .ok (.iconst 2, 1) := by decide +kernel
theorem dL_law_239 : decode cL_law 239 = .ok (.iadd, 1) := by decide +kernel
theorem dL_law_240 : decode cL_law 240 = .ok (.iaload, 1) := by decide +kernel
theorem dL_law_241 : decode cL_law 241 = .ok (.invokevirtual 31, 3) := by decide +kernel
theorem dL_law_244 : decode cL_law 244 = .ok (.aload_n 2, 1) := by decide +kernel
theorem dL_law_245 : decode cL_law 245 = .ok (.aload_n 0, 1) := by decide +kernel
theorem dL_law_246 : decode cL_law 246 = .ok (.iload_n 3, 1) := by decide +kernel
theorem dL_law_247 : decode cL_law 247 = .ok (.iconst 1, 1) := by decide +kernel
theorem dL_law_248 : decode cL_law 248 = .ok (.iadd, 1) := by decide +kernel
theorem dL_law_249 : decode cL_law 249 = .ok (.iaload, 1) := by decide +kernel
theorem dL_law_250 : decode cL_law 250 = .ok (.aload_n 0, 1) := by decide +kernel
theorem dL_law_251 : decode cL_law 251 = .ok (.iload_n 3, 1) := by decide +kernel
theorem dL_law_252 : decode cL_law 252 = .ok (.iconst 2, 1) := by decide +kernel
theorem dL_law_253 : decode cL_law 253 = .ok (.iadd, 1) := by decide +kernel
theorem dL_law_254 : decode cL_law 254 = .ok (.iaload, 1) := by decide +kernel
theorem dL_law_255 : decode cL_law 255 = .ok (.invokevirtual 35, 3) := by decide +kernel
theorem dL_law_258 : decode cL_law 258 = .ok (.if_icmp .eq 699, 3) := by decide +kernel
theorem dL_law_261 : decode cL_law 261 = .ok (.iconst 0, 1) := by decide +kernel
theorem dL_law_262 : decode cL_law 262 = .ok (.ireturn, 1) := by decide +kernel
theorem dL_law_263 : decode cL_law 263 = .ok (.aload_n 1, 1) := by decide +kernel
theorem dL_law_264 : decode cL_law 264 = .ok (.aload_n 0, 1) := by decide +kernel
theorem dL_law_265 : decode cL_law 265 = .ok (.iload_n 3, 1) := by decide +kernel
theorem dL_law_266 : decode cL_law 266 = .ok (.iconst 1, 1) := by decide +kernel
theorem dL_law_267 : decode cL_law 267 = .ok (.iadd, 1) := by decide +kernel
theorem dL_law_268 : decode cL_law 268 = .ok (.iaload, 1) := by decide +kernel
theorem dL_law_269 : decode cL_law 269 = .ok (.aload_n 0, 1) := by decide +kernel
theorem dL_law_270 : decode cL_law 270 = .ok (.iload_n 3, 1) := by decide +kernel
theorem dL_law_271 : decode cL_law 271 = .ok (.iconst 2, 1) := by decide +kernel
theorem dL_law_272 : decode cL_law 272 = .ok (.iadd, 1) := by decide +kernel
theorem dL_law_273 : decode cL_law 273 = .ok (.iaload, 1) := by decide +kernel
theorem dL_law_274 : decode cL_law 274 = .ok (.invokevirtual 36, 3) := by decide +kernel
theorem dL_law_277 : decode cL_law 277 = .ok (.aload_n 2, 1) := by decide +kernel
theorem dL_law_278 : decode cL_law 278 = .ok (.aload_n 0, 1) := by decide +kernel
theorem dL_law_279 : decode cL_law 279 = .ok (.iload_n 3, 1) := by decide +kernel
theorem dL_law_280 : decode cL_law 280 = .ok (.iconst 1, 1) := by decide +kernel
theorem dL_law_281 : decode cL_law 281 = .ok (.iadd, 1) := by decide +kernel
theorem dL_law_282 : decode cL_law 282 = .ok (.iaload, 1) := by decide +kernel
theorem dL_law_283 : decode cL_law 283 = .ok (.aload_n 0, 1) := by decide +kernel
theorem dL_law_284 : decode cL_law 284 = .ok (.iload_n 3, 1) := by decide +kernel
theorem dL_law_285 : decode cL_law 285 = .ok (.iconst 2, 1) := by decide +kernel
theorem dL_law_286 : decode cL_law 286 = .ok (.iadd, 1) := by decide +kernel
theorem dL_law_287 : decode cL_law 287 = .ok (.iaload, 1) := by decide +kernel
theorem dL_law_288 : decode cL_law 288 = .ok (.invokevirtual 39, 3) := by decide +kernel
theorem dL_law_291 : decode cL_law 291 = .ok (.if_icmp .eq 666, 3) := by decide +kernel
theorem dL_law_294 : decode cL_law 294 = .ok (.iconst 0, 1) := by decide +kernel
theorem dL_law_295 : decode cL_law 295 = .ok (.ireturn, 1) := by decide +kernel
theorem dL_law_296 : decode cL_law 296 = .ok (.aload_n 1, 1) := by decide +kernel
theorem dL_law_297 : decode cL_law 297 = .ok (.aload_n 0, 1) := by decide +kernel
theorem dL_law_298 : decode cL_law 298 = .ok (.iload_n 3, 1) := by decide +kernel
theorem dL_law_299 : decode cL_law 299 = .ok (.iconst 1, 1) := by decide +kernel
theorem dL_law_300 : decode cL_law 300 = .ok (.iadd, 1) := by decide +kernel
theorem dL_law_301 : decode cL_law 301 = .ok (.iaload, 1) := by decide +kernel
theorem dL_law_302 : decode cL_law 302 = .ok (.aload_n 0, 1) := by decide +kernel
theorem dL_law_303 : decode cL_law 303 = .ok (.iload_n 3, 1) := by decide +kernel
theorem dL_law_304 : decode cL_law 304 = .ok (.iconst 2, 1) := by decide +kernel
theorem dL_law_305 : decode cL_law 305 = .ok (.iadd, 1) := by decide +kernel
theorem dL_law_306 : decode cL_law 306 = .ok (.iaload, 1) := by decide +kernel
theorem dL_law_307 : decode cL_law 307 = .ok (.invokevirtual 40, 3) := by decide +kernel
theorem dL_law_310 : decode cL_law 310 = .ok (.aload_n 2, 1) := by decide +kernel
theorem dL_law_311 : decode cL_law 311 = .ok (.aload_n 0, 1) := by decide +kernel
theorem dL_law_312 : decode cL_law 312 = .ok (.iload_n 3, 1) := by decide +kernel
theorem dL_law_313 : decode cL_law 313 = .ok (.iconst 1, 1) := by decide +kernel
theorem dL_law_314 : decode cL_law 314 = .ok (.iadd, 1) := by decide +kernel
theorem dL_law_315 : decode cL_law 315 = .ok (.iaload, 1) := by decide +kernel
theorem dL_law_316 : decode cL_law 316 = .ok (.aload_n 0, 1) := by decide +kernel
theorem dL_law_317 : decode cL_law 317 = .ok (.iload_n 3, 1) := by decide +kernel
theorem dL_law_318 : decode cL_law 318 = .ok (.iconst 2, 1) := by decide +kernel
theorem dL_law_319 : decode cL_law 319 = .ok (.iadd, 1) := by decide +kernel
theorem dL_law_320 : decode cL_law 320 = .ok (.iaload, 1) := by decide +kernel
theorem dL_law_321 : decode cL_law 321 = .ok (.invokevirtual 43, 3) := by decide +kernel
theorem dL_law_324 : decode cL_law 324 = .ok (.if_icmp .eq 633, 3) := by decide +kernel
theorem dL_law_327 : decode cL_law 327 = .ok (.iconst 0, 1) := by decide +kernel
theorem dL_law_328 : decode cL_law 328 = .ok (.ireturn, 1) := by decide +kernel
theorem dL_law_329 : decode cL_law 329 = .ok (.aload_n 1, 1) := by decide +kernel
theorem dL_law_330 : decode cL_law 330 = .ok (.aload_n 0, 1) := by decide +kernel
theorem dL_law_331 : decode cL_law 331 = .ok (.iload_n 3, 1) := by decide +kernel
theorem dL_law_332 : decode cL_law 332 = .ok (.iconst 1, 1) := by decide +kernel
theorem dL_law_333 : decode cL_law 333 = .ok (.iadd, 1) := by decide +kernel
theorem dL_law_334 : decode cL_law 334 = .ok (.iaload, 1) := by decide +kernel
theorem dL_law_335 : decode cL_law 335 = .ok (.aload_n 0, 1) := by decide +kernel
theorem dL_law_336 : decode cL_law 336 = .ok (.iload_n 3, 1) := by decide +kernel
theorem dL_law_337 : decode cL_law 337 = .ok (.iconst 2, 1) := by decide +kernel
theorem dL_law_338 : decode cL_law 338 = .ok (.iadd, 1) := by decide +kernel
theorem dL_law_339 : decode cL_law 339 = .ok (.iaload, 1) := by decide +kernel
theorem dL_law_340 : decode cL_law 340 = .ok (.aload_n 0, 1) := by decide +kernel
theorem dL_law_341 : decode cL_law 341 = .ok (.iload_n 3, 1) := by decide +kernel
theorem dL_law_342 : decode cL_law 342 = .ok (.iconst 3, 1) := by decide +kernel
theorem dL_law_343 : decode cL_law 343 = .ok (.iadd, 1) := by decide +kernel
theorem dL_law_344 : decode cL_law 344 = .ok (.iaload, 1) := by decide +kernel
theorem dL_law_345 : decode cL_law 345 = .ok (.invokevirtual 44, 3) := by decide +kernel
theorem dL_law_348 : decode cL_law 348 = .ok (.aload_n 2, 1) := by decide +kernel
theorem dL_law_349 : decode cL_law 349 = .ok (.aload_n 0, 1) := by decide +kernel
theorem dL_law_350 : decode cL_law 350 = .ok (.iload_n 3, 1) := by decide +kernel
theorem dL_law_351 : decode cL_law 351 = .ok (.iconst 1, 1) := by decide +kernel
theorem dL_law_352 : decode cL_law 352 = .ok (.iadd, 1) := by decide +kernel
theorem dL_law_353 : decode cL_law 353 = .ok (.iaload, 1) := by decide +kernel
theorem dL_law_354 : decode cL_law 354 = .ok (.aload_n 0, 1) := by decide +kernel
theorem dL_law_355 : decode cL_law 355 = .ok (.iload_n 3, 1) := by decide +kernel
theorem dL_law_356 : decode cL_law 356 = .ok (.iconst 2, 1) := by decide +kernel
theorem dL_law_357 : decode cL_law 357 = .ok (.iadd, 1) := by decide +kernel
theorem dL_law_358 : decode cL_law 358 = .ok (.iaload, 1) := by decide +kernel
theorem dL_law_359 : decode cL_law 359 = .ok (.aload_n 0, 1) := by decide +kernel
theorem dL_law_360 : decode cL_law 360 = .ok (.iload_n 3, 1) := by decide +kernel
theorem dL_law_361 : decode cL_law 361 = .ok (.iconst 3, 1) := by decide +kernel
theorem dL_law_362 : decode cL_law 362 = .ok (.iadd, 1) := by decide +kernel
theorem dL_law_363 : decode cL_law 363 = .ok (.iaload, 1) := by decide +kernel
theorem dL_law_364 : decode cL_law 364 = .ok (.invokevirtual 48, 3) := by decide +kernel
theorem dL_law_367 : decode cL_law 367 = .ok (.if_icmp .eq 590, 3) := by decide +kernel
theorem dL_law_370 : decode cL_law 370 = .ok (.iconst 0, 1) := by decide +kernel
theorem dL_law_371 : decode cL_law 371 = .ok (.ireturn, 1) := by decide +kernel
theorem dL_law_372 : decode cL_law 372 = .ok (.aload_n 1, 1) := by decide +kernel
theorem dL_law_373 : decode cL_law 373 = .ok (.aload_n 0, 1) := by decide +kernel
theorem dL_law_374 : decode cL_law 374 = .ok (.iload_n 3, 1) := by decide +kernel
theorem dL_law_375 : decode cL_law 375 = .ok (.iconst 1, 1) := by decide +kernel
theorem dL_law_376 : decode cL_law 376 = .ok (.iadd, 1) := by decide +kernel
theorem dL_law_377 : decode cL_law 377 = .ok (.iaload, 1) := by decide +kernel
theorem dL_law_378 : decode cL_law 378 = .ok (.aload_n 0, 1) := by decide +kernel
theorem dL_law_379 : decode cL_law 379 = .ok (.iload_n 3, 1) := by decide +kernel
theorem dL_law_380 : decode cL_law 380 = .ok (.iconst 2, 1) := by decide +kernel
theorem dL_law_381 : decode cL_law 381 = .ok (.iadd, 1) := by decide +kernel
theorem dL_law_382 : decode cL_law 382 = .ok (.iaload, 1) := by decide +kernel
theorem dL_law_383 : decode cL_law 383 = .ok (.invokevirtual 49, 3) := by decide +kernel
theorem dL_law_386 : decode cL_law 386 = .ok (.aload_n 2, 1) := by decide +kernel
theorem dL_law_387 : decode cL_law 387 = .ok (.aload_n 0, 1) := by decide +kernel
theorem dL_law_388 : decode cL_law 388 = .ok (.iload_n 3, 1) := by decide +kernel
theorem dL_law_389 : decode cL_law 389 = .ok (.iconst 1, 1) := by decide +kernel
theorem dL_law_390 : decode cL_law 390 = .ok (.iadd, 1) := by decide +kernel
theorem dL_law_391 : decode cL_law 391 = .ok (.iaload, 1) := by decide +kernel
theorem dL_law_392 : decode cL_law 392 = .ok (.aload_n 0, 1) := by decide +kernel
theorem dL_law_393 : decode cL_law 393 = .ok (.iload_n 3, 1) := by decide +kernel
theorem dL_law_394 : decode cL_law 394 = .ok (.iconst 2, 1) := by decide +kernel
theorem dL_law_395 : decode cL_law 395 = .ok (.iadd, 1) := by decide +kernel
theorem dL_law_396 : decode cL_law 396 = .ok (.iaload, 1) := by decide +kernel
theorem dL_law_397 : decode cL_law 397 = .ok (.invokevirtual 52, 3) := by decide +kernel
theorem dL_law_400 : decode cL_law 400 = .ok (.if_icmp .eq 557, 3) := by decide +kernel
theorem dL_law_403 : decode cL_law 403 = .ok (.iconst 0, 1) := by decide +kernel
theorem dL_law_404 : decode cL_law 404 = .ok (.ireturn, 1) := by decide +kernel
theorem dL_law_405 : decode cL_law 405 = .ok (.aload_n 1, 1) := by decide +kernel
theorem dL_law_406 : decode cL_law 406 = .ok (.aload_n 0, 1) := by decide +kernel
theorem dL_law_407 : decode cL_law 407 = .ok (.iload_n 3, 1) := by decide +kernel
theorem dL_law_408 : decode cL_law 408 = .ok (.iconst 1, 1) := by decide +kernel
theorem dL_law_409 : decode cL_law 409 = .ok (.iadd, 1) := by decide +kernel
theorem dL_law_410 : decode cL_law 410 = .ok (.iaload, 1) := by decide +kernel
theorem dL_law_411 : decode cL_law 411 = .ok (.aload_n 0, 1) := by decide +kernel
theorem dL_law_412 : decode cL_law 412 = .ok (.iload_n 3, 1) := by decide +kernel
theorem dL_law_413 : decode cL_law 413 = .ok (.iconst 2, 1) := by decide +kernel
theorem dL_law_414 : decode cL_law 414 = .ok (.iadd, 1) := by decide +kernel
theorem dL_law_415 : decode cL_law 415 = .ok (.iaload, 1) := by decide +kernel
theorem dL_law_416 : decode cL_law 416 = .ok (.aload_n 0, 1) := by decide +kernel
theorem dL_law_417 : decode cL_law 417 = .ok (.iload_n 3, 1) := by decide +kernel
theorem dL_law_418 : decode cL_law 418 = .ok (.iconst 3, 1) := by decide +kernel
theorem dL_law_419 : decode cL_law 419 = .ok (.iadd, 1) := by decide +kernel
theorem dL_law_420 : decode cL_law 420 = .ok (.iaload, 1) := by decide +kernel
theorem dL_law_421 : decode cL_law 421 = .ok (.invokevirtual 53, 3) := by decide +kernel
theorem dL_law_424 : decode cL_law 424 = .ok (.aload_n 2, 1) := by decide +kernel
theorem dL_law_425 : decode cL_law 425 = .ok (.aload_n 0, 1) := by decide +kernel
theorem dL_law_426 : decode cL_law 426 = .ok (.iload_n 3, 1) := by decide +kernel
theorem dL_law_427 : decode cL_law 427 = .ok (.iconst 1, 1) := by decide +kernel
theorem dL_law_428 : decode cL_law 428 = .ok (.iadd, 1) := by decide +kernel
theorem dL_law_429 : decode cL_law 429 = .ok (.iaload, 1) := by decide +kernel
theorem dL_law_430 : decode cL_law 430 = .ok (.aload_n 0, 1) := by decide +kernel
theorem dL_law_431 : decode cL_law 431 = .ok (.iload_n 3, 1) := by decide +kernel
theorem dL_law_432 : decode cL_law 432 = .ok (.iconst 2, 1) := by decide +kernel
theorem dL_law_433 : decode cL_law 433 = .ok (.iadd, 1) := by decide +kernel
theorem dL_law_434 : decode cL_law 434 = .ok (.iaload, 1) := by decide +kernel
theorem dL_law_435 : decode cL_law 435 = .ok (.aload_n 0, 1) := by decide +kernel
theorem dL_law_436 : decode cL_law 436 = .ok (.iload_n 3, 1) := by decide +kernel
theorem dL_law_437 : decode cL_law 437 = .ok (.iconst 3, 1) := by decide +kernel
theorem dL_law_438 : decode cL_law 438 = .ok (.iadd, 1) := by decide +kernel
theorem dL_law_439 : decode cL_law 439 = .ok (.iaload, 1) := by decide +kernel
theorem dL_law_440 : decode cL_law 440 = .ok (.invokevirtual 56, 3) := by decide +kernel
theorem dL_law_443 : decode cL_law 443 = .ok (.if_icmp .eq 514, 3) := by decide +kernel
theorem dL_law_446 : decode cL_law 446 = .ok (.iconst 0, 1) := by decide +kernel
theorem dL_law_447 : decode cL_law 447 = .ok (.ireturn, 1) := by decide +kernel
theorem dL_law_448 : decode cL_law 448 = .ok (.aload_n 1, 1) := by decide +kernel
theorem dL_law_449 : decode cL_law 449 = .ok (.aload_n 0, 1) := by decide +kernel
theorem dL_law_450 : decode cL_law 450 = .ok (.iload_n 3, 1) := by decide +kernel
theorem dL_law_451 : decode cL_law 451 = .ok (.iconst 1, 1) := by decide +kernel
theorem dL_law_452 : decode cL_law 452 = .ok (.iadd, 1) := by decide +kernel
theorem dL_law_453 : decode cL_law 453 = .ok (.iaload, 1) := by decide +kernel
theorem dL_law_454 : decode cL_law 454 = .ok (.aload_n 0, 1) := by decide +kernel
theorem dL_law_455 : decode cL_law 455 = .ok (.iload_n 3, 1) := by decide +kernel
theorem dL_law_456 : decode cL_law 456 = .ok (.iconst 2, 1) := by decide +kernel
theorem dL_law_457 : decode cL_law 457 = .ok (.iadd, 1) := by decide +kernel
theorem dL_law_458 : decode cL_law 458 = .ok (.iaload, 1) := by decide +kernel
theorem dL_law_459 : decode cL_law 459 = .ok (.invokevirtual 57, 3) := by decide +kernel
theorem dL_law_462 : decode cL_law 462 = .ok (.aload_n 2, 1) := by decide +kernel
theorem dL_law_463 : decode cL_law 463 = .ok (.aload_n 0, 1) := by decide +kernel
theorem dL_law_464 : decode cL_law 464 = .ok (.iload_n 3, 1) := by decide +kernel
theorem dL_law_465 : decode cL_law 465 = .ok (.iconst 1, 1) := by decide +kernel
theorem dL_law_466 : decode cL_law 466 = .ok (.iadd, 1) := by decide +kernel
theorem dL_law_467 : decode cL_law 467 = .ok (.iaload, 1) := by decide +kernel
theorem dL_law_468 : decode cL_law 468 = .ok (.aload_n 0, 1) := by decide +kernel
theorem dL_law_469 : decode cL_law 469 = .ok (.iload_n 3, 1) := by decide +kernel
theorem dL_law_470 : decode cL_law 470 = .ok (.iconst 2, 1) := by decide +kernel
theorem dL_law_471 : decode cL_law 471 = .ok (.iadd, 1) := by decide +kernel
theorem dL_law_472 : decode cL_law 472 = .ok (.iaload, 1) := by decide +kernel
theorem dL_law_473 : decode cL_law 473 = .ok (.invokevirtual 60, 3) := by decide +kernel
theorem dL_law_476 : decode cL_law 476 = .ok (.if_icmp .eq 481, 3) := by decide +kernel
theorem dL_law_479 : decode cL_law 479 = .ok (.iconst 0, 1) := by decide +kernel
theorem dL_law_480 : decode cL_law 480 = .ok (.ireturn, 1) := by decide +kernel
theorem dL_law_481 : decode cL_law 481 = .ok (.aload_n 1, 1) := by decide +kernel
theorem dL_law_482 : decode cL_law 482 = .ok (.aload_n 0, 1) := by decide +kernel
theorem dL_law_483 : decode cL_law 483 = .ok (.iload_n 3, 1) := by decide +kernel
theorem dL_law_484 : decode cL_law 484 = .ok (.iconst 1, 1) := by decide +kernel
theorem dL_law_485 : decode cL_law 485 = .ok (.iadd, 1) := by decide +kernel
theorem dL_law_486 : decode cL_law 486 = .ok (.iaload, 1) := by decide +kernel
theorem dL_law_487 : decode cL_law 487 = .ok (.aload_n 0, 1) := by decide +kernel
theorem dL_law_488 : decode cL_law 488 = .ok (.iload_n 3, 1) := by decide +kernel
theorem dL_law_489 : decode cL_law 489 = .ok (.iconst 2, 1) := by decide +kernel
theorem dL_law_490 : decode cL_law 490 = .ok (.iadd, 1) := by decide +kernel
theorem dL_law_491 : decode cL_law 491 = .ok (.iaload, 1) := by decide +kernel
theorem dL_law_492 : decode cL_law 492 = .ok (.invokevirtual 61, 3) := by decide +kernel
theorem dL_law_495 : decode cL_law 495 = .ok (.aload_n 2, 1) := by decide +kernel
theorem dL_law_496 : decode cL_law 496 = .ok (.aload_n 0, 1) := by decide +kernel
theorem dL_law_497 : decode cL_law 497 = .ok (.iload_n 3, 1) := by decide +kernel
theorem dL_law_498 : decode cL_law 498 = .ok (.iconst 1, 1) := by decide +kernel
theorem dL_law_499 : decode cL_law 499 = .ok (.iadd, 1) := by decide +kernel
theorem dL_law_500 : decode cL_law 500 = .ok (.iaload, 1) := by decide +kernel
theorem dL_law_501 : decode cL_law 501 = .ok (.aload_n 0, 1) := by decide +kernel
theorem dL_law_502 : decode cL_law 502 = .ok (.iload_n 3, 1) := by decide +kernel
theorem dL_law_503 : decode cL_law 503 = .ok (.iconst 2, 1) := by decide +kernel
theorem dL_law_504 : decode cL_law 504 = .ok (.iadd, 1) := by decide +kernel
theorem dL_law_505 : decode cL_law 505 = .ok (.iaload, 1) := by decide +kernel
theorem dL_law_506 : decode cL_law 506 = .ok (.invokevirtual 64, 3) := by decide +kernel
theorem dL_law_509 : decode cL_law 509 = .ok (.if_icmp .eq 448, 3) := by decide +kernel
theorem dL_law_512 : decode cL_law 512 = .ok (.iconst 0, 1) := by decide +kernel
theorem dL_law_513 : decode cL_law 513 = .ok (.ireturn, 1) := by decide +kernel
theorem dL_law_514 : decode cL_law 514 = .ok (.aload_n 1, 1) := by decide +kernel
theorem dL_law_515 : decode cL_law 515 = .ok (.invokevirtual 65, 3) := by decide +kernel
theorem dL_law_518 : decode cL_law 518 = .ok (.aload_n 2, 1) := by decide +kernel
theorem dL_law_519 : decode cL_law 519 = .ok (.invokevirtual 68, 3) := by decide +kernel
theorem dL_law_522 : decode cL_law 522 = .ok (.if_icmp .eq 435, 3) := by decide +kernel
theorem dL_law_525 : decode cL_law 525 = .ok (.iconst 0, 1) := by decide +kernel
theorem dL_law_526 : decode cL_law 526 = .ok (.ireturn, 1) := by decide +kernel
theorem dL_law_527 : decode cL_law 527 = .ok (.aload_n 1, 1) := by decide +kernel
theorem dL_law_528 : decode cL_law 528 = .ok (.invokevirtual 69, 3) := by decide +kernel
theorem dL_law_531 : decode cL_law 531 = .ok (.aload_n 2, 1) := by decide +kernel
theorem dL_law_532 : decode cL_law 532 = .ok (.invokevirtual 72, 3) := by decide +kernel
theorem dL_law_535 : decode cL_law 535 = .ok (.if_icmp .eq 422, 3) := by decide +kernel
theorem dL_law_538 : decode cL_law 538 = .ok (.iconst 0, 1) := by decide +kernel
theorem dL_law_539 : decode cL_law 539 = .ok (.ireturn, 1) := by decide +kernel
theorem dL_law_540 : decode cL_law 540 = .ok (.aload_n 1, 1) := by decide +kernel
theorem dL_law_541 : decode cL_law 541 = .ok (.aload_n 0, 1) := by decide +kernel
theorem dL_law_542 : decode cL_law 542 = .ok (.iload_n 3, 1) := by decide +kernel
theorem dL_law_543 : decode cL_law 543 = .ok (.iconst 1, 1) := by decide +kernel
theorem dL_law_544 : decode cL_law 544 = .ok (.iadd, 1) := by decide +kernel
theorem dL_law_545 : decode cL_law 545 = .ok (.iaload, 1) := by decide +kernel
theorem dL_law_546 : decode cL_law 546 = .ok (.aload_n 0, 1) := by decide +kernel
theorem dL_law_547 : decode cL_law 547 = .ok (.iload_n 3, 1) := by decide +kernel
theorem dL_law_548 : decode cL_law 548 = .ok (.iconst 2, 1) := by decide +kernel
theorem dL_law_549 : decode cL_law 549 = .ok (.iadd, 1) := by decide +kernel
theorem dL_law_550 : decode cL_law 550 = .ok (.iaload, 1) := by decide +kernel
theorem dL_law_551 : decode cL_law 551 = .ok (.aload_n 0, 1) := by decide +kernel
theorem dL_law_552 : decode cL_law 552 = .ok (.iload_n 3, 1) := by decide +kernel
theorem dL_law_553 : decode cL_law 553 = .ok (.iconst 3, 1) := by decide +kernel
theorem dL_law_554 : decode cL_law 554 = .ok (.iadd, 1) := by decide +kernel
theorem dL_law_555 : decode cL_law 555 = .ok (.iaload, 1) := by decide +kernel
theorem dL_law_556 : decode cL_law 556 = .ok (.invokevirtual 73, 3) := by decide +kernel
theorem dL_law_559 : decode cL_law 559 = .ok (.aload_n 2, 1) := by decide +kernel
theorem dL_law_560 : decode cL_law 560 = .ok (.aload_n 0, 1) := by decide +kernel
theorem dL_law_561 : decode cL_law 561 = .ok (.iload_n 3, 1) := by decide +kernel
theorem dL_law_562 : decode cL_law 562 = .ok (.iconst 1, 1) := by decide +kernel
theorem dL_law_563 : decode cL_law 563 = .ok (.iadd, 1) := by decide +kernel
theorem dL_law_564 : decode cL_law 564 = .ok (.iaload, 1) := by decide +kernel
theorem dL_law_565 : decode cL_law 565 = .ok (.aload_n 0, 1) := by decide +kernel
theorem dL_law_566 : decode cL_law 566 = .ok (.iload_n 3, 1) := by decide +kernel
theorem dL_law_567 : decode cL_law 567 = .ok (.iconst 2, 1) := by decide +kernel
theorem dL_law_568 : decode cL_law 568 = .ok (.iadd, 1) := by decide +kernel
theorem dL_law_569 : decode cL_law 569 = .ok (.iaload, 1) := by decide +kernel
theorem dL_law_570 : decode cL_law 570 = .ok (.aload_n 0, 1) := by decide +kernel
theorem dL_law_571 : decode cL_law 571 = .ok (.iload_n 3, 1) := by decide +kernel
theorem dL_law_572 : decode cL_law 572 = .ok (.iconst 3, 1) := by decide +kernel
theorem dL_law_573 : decode cL_law 573 = .ok (.iadd, 1) := by decide +kernel
theorem dL_law_574 : decode cL_law 574 = .ok (.iaload, 1) := by decide +kernel
theorem dL_law_575 : decode cL_law 575 = .ok (.invokevirtual 77, 3) := by decide +kernel
theorem dL_law_578 : decode cL_law 578 = .ok (.lcmp, 1) := by decide +kernel
theorem dL_law_579 : decode cL_law 579 = .ok (.ifCond .eq 378, 3) := by decide +kernel
theorem dL_law_582 : decode cL_law 582 = .ok (.iconst 0, 1) := by decide +kernel
theorem dL_law_583 : decode cL_law 583 = .ok (.ireturn, 1) := by decide +kernel
theorem dL_law_584 : decode cL_law 584 = .ok (.aload_n 1, 1) := by decide +kernel
theorem dL_law_585 : decode cL_law 585 = .ok (.aload_n 0, 1) := by decide +kernel
theorem dL_law_586 : decode cL_law 586 = .ok (.iload_n 3, 1) := by decide +kernel
theorem dL_law_587 : decode cL_law 587 = .ok (.iconst 1, 1) := by decide +kernel
theorem dL_law_588 : decode cL_law 588 = .ok (.iadd, 1) := by decide +kernel
theorem dL_law_589 : decode cL_law 589 = .ok (.iaload, 1) := by decide +kernel
theorem dL_law_590 : decode cL_law 590 = .ok (.aload_n 0, 1) := by decide +kernel
theorem dL_law_591 : decode cL_law 591 = .ok (.iload_n 3, 1) := by decide +kernel
theorem dL_law_592 : decode cL_law 592 = .ok (.iconst 2, 1) := by decide +kernel
theorem dL_law_593 : decode cL_law 593 = .ok (.iadd, 1) := by decide +kernel
theorem dL_law_594 : decode cL_law 594 = .ok (.iaload, 1) := by decide +kernel
theorem dL_law_595 : decode cL_law 595 = .ok (.ifCond .eq 7, 3) := by decide +kernel
theorem dL_law_598 : decode cL_law 598 = .ok (.iconst 1, 1) := by decide +kernel
theorem dL_law_599 : decode cL_law 599 = .ok (.goto 4, 3) := by decide +kernel
theorem dL_law_602 : decode cL_law 602 = .ok (.iconst 0, 1) := by decide +kernel
theorem dL_law_603 : decode cL_law 603 = .ok (.invokevirtual 78, 3) := by decide +kernel
theorem dL_law_606 : decode cL_law 606 = .ok (.aload_n 2, 1) := by decide +kernel
theorem dL_law_607 : decode cL_law 607 = .ok (.aload_n 0, 1) := by decide +kernel
theorem dL_law_608 : decode cL_law 608 = .ok (.iload_n 3, 1) := by decide +kernel
theorem dL_law_609 : decode cL_law 609 = .ok (.iconst 1, 1) := by decide +kernel
theorem dL_law_610 : decode cL_law 610 = .ok (.iadd, 1) := by decide +kernel
theorem dL_law_611 : decode cL_law 611 = .ok (.iaload, 1) := by decide +kernel
theorem dL_law_612 : decode cL_law 612 = .ok (.aload_n 0, 1) := by decide +kernel
theorem dL_law_613 : decode cL_law 613 = .ok (.iload_n 3, 1) := by decide +kernel
theorem dL_law_614 : decode cL_law 614 = .ok (.iconst 2, 1) := by decide +kernel
theorem dL_law_615 : decode cL_law 615 = .ok (.iadd, 1) := by decide +kernel
theorem dL_law_616 : decode cL_law 616 = .ok (.iaload, 1) := by decide +kernel
theorem dL_law_617 : decode cL_law 617 = .ok (.ifCond .eq 7, 3) := by decide +kernel
theorem dL_law_620 : decode cL_law 620 = .ok (.iconst 1, 1) := by decide +kernel
theorem dL_law_621 : decode cL_law 621 = .ok (.goto 4, 3) := by decide +kernel
theorem dL_law_624 : decode cL_law 624 = .ok (.iconst 0, 1) := by decide +kernel
theorem dL_law_625 : decode cL_law 625 = .ok (.invokevirtual 82, 3) := by decide +kernel
theorem dL_law_628 : decode cL_law 628 = .ok (.if_icmp .eq 329, 3) := by decide +kernel
theorem dL_law_631 : decode cL_law 631 = .ok (.iconst 0, 1) := by decide +kernel
theorem dL_law_632 : decode cL_law 632 = .ok (.ireturn, 1) := by decide +kernel
theorem dL_law_633 : decode cL_law 633 = .ok (.aload_n 1, 1) := by decide +kernel
theorem dL_law_634 : decode cL_law 634 = .ok (.invokevirtual 83, 3) := by decide +kernel
theorem dL_law_637 : decode cL_law 637 = .ok (.aload_n 2, 1) := by decide +kernel
theorem dL_law_638 : decode cL_law 638 = .ok (.invokevirtual 86, 3) := by decide +kernel
theorem dL_law_641 : decode cL_law 641 = .ok (.if_icmp .eq 316, 3) := by decide +kernel
theorem dL_law_644 : decode cL_law 644 = .ok (.iconst 0, 1) := by decide +kernel
theorem dL_law_645 : decode cL_law 645 = .ok (.ireturn, 1) := by decide +kernel
theorem dL_law_646 : decode cL_law 646 = .ok (.aload_n 1, 1) := by decide +kernel
theorem dL_law_647 : decode cL_law 647 = .ok (.aload_n 0, 1) := by decide +kernel
theorem dL_law_648 : decode cL_law 648 = .ok (.iload_n 3, 1) := by decide +kernel
theorem dL_law_649 : decode cL_law 649 = .ok (.iconst 1, 1) := by decide +kernel
theorem dL_law_650 : decode cL_law 650 = .ok (.iadd, 1) := by decide +kernel
theorem dL_law_651 : decode cL_law 651 = .ok (.iaload, 1) := by decide +kernel
theorem dL_law_652 : decode cL_law 652 = .ok (.aload_n 0, 1) := by decide +kernel
theorem dL_law_653 : decode cL_law 653 = .ok (.iload_n 3, 1) := by decide +kernel
theorem dL_law_654 : decode cL_law 654 = .ok (.iconst 2, 1) := by decide +kernel
theorem dL_law_655 : decode cL_law 655 = .ok (.iadd, 1) := by decide +kernel
theorem dL_law_656 : decode cL_law 656 = .ok (.iaload, 1) := by decide +kernel
theorem dL_law_657 : decode cL_law 657 = .ok (.invokevirtual 87, 3) := by decide +kernel
theorem dL_law_660 : decode cL_law 660 = .ok (.aload_n 2, 1) := by decide +kernel
theorem dL_law_661 : decode cL_law 661 = .ok (.aload_n 0, 1) := by decide +kernel
theorem dL_law_662 : decode cL_law 662 = .ok (.iload_n 3, 1) := by decide +kernel
theorem dL_law_663 : decode cL_law 663 = .ok (.iconst 1, 1) := by decide +kernel
theorem dL_law_664 : decode cL_law 664 = .ok (.iadd, 1) := by decide +kernel
theorem dL_law_665 : decode cL_law 665 = .ok (.iaload, 1) := by decide +kernel
theorem dL_law_666 : decode cL_law 666 = .ok (.aload_n 0, 1) := by decide +kernel
theorem dL_law_667 : decode cL_law 667 = .ok (.iload_n 3, 1) := by decide +kernel
theorem dL_law_668 : decode cL_law 668 = .ok (.iconst 2, 1) := by decide +kernel
theorem dL_law_669 : decode cL_law 669 = .ok (.iadd, 1) := by decide +kernel
theorem dL_law_670 : decode cL_law 670 = .ok (.iaload, 1) := by decide +kernel
theorem dL_law_671 : decode cL_law 671 = .ok (.invokevirtual 91, 3) := by decide +kernel
theorem dL_law_674 : decode cL_law 674 = .ok (.lcmp, 1) := by decide +kernel
theorem dL_law_675 : decode cL_law 675 = .ok (.ifCond .eq 282, 3) := by decide +kernel
theorem dL_law_678 : decode cL_law 678 = .ok (.iconst 0, 1) := by decide +kernel
theorem dL_law_679 : decode cL_law 679 = .ok (.ireturn, 1) := by decide +kernel
theorem dL_law_680 : decode cL_law 680 = .ok (.aload_n 1, 1) := by decide +kernel
theorem dL_law_681 : decode cL_law 681 = .ok (.aload_n 0, 1) := by decide +kernel
theorem dL_law_682 : decode cL_law 682 = .ok (.iload_n 3, 1) := by decide +kernel
theorem dL_law_683 : decode cL_law 683 = .ok (.iconst 1, 1) := by decide +kernel
theorem dL_law_684 : decode cL_law 684 = .ok (.iadd, 1) := by decide +kernel
theorem dL_law_685 : decode cL_law 685 = .ok (.iaload, 1) := by decide +kernel
theorem dL_law_686 : decode cL_law 686 = .ok (.invokevirtual 92, 3) := by decide +kernel
theorem dL_law_689 : decode cL_law 689 = .ok (.aload_n 2, 1) := by decide +kernel
theorem dL_law_690 : decode cL_law 690 = .ok (.aload_n 0, 1) := by decide +kernel
theorem dL_law_691 : decode cL_law 691 = .ok (.iload_n 3, 1) := by decide +kernel
theorem dL_law_692 : decode cL_law 692 = .ok (.iconst 1, 1) := by decide +kernel
theorem dL_law_693 : decode cL_law 693 = .ok (.iadd, 1) := by decide +kernel
theorem dL_law_694 : decode cL_law 694 = .ok (.iaload, 1) := by decide +kernel
theorem dL_law_695 : decode cL_law 695 = .ok (.invokevirtual 95, 3) := by decide +kernel
theorem dL_law_698 : decode cL_law 698 = .ok (.if_icmp .eq 259, 3) := by decide +kernel
theorem dL_law_701 : decode cL_law 701 = .ok (.iconst 0, 1) := by decide +kernel
theorem dL_law_702 : decode cL_law 702 = .ok (.ireturn, 1) := by decide +kernel
theorem dL_law_703 : decode cL_law 703 = .ok (.aload_n 1, 1) := by decide +kernel
theorem dL_law_704 : decode cL_law 704 = .ok (.aload_n 0, 1) := by decide +kernel
theorem dL_law_705 : decode cL_law 705 = .ok (.iload_n 3, 1) := by decide +kernel
theorem dL_law_706 : decode cL_law 706 = .ok (.iconst 1, 1) := by decide +kernel
theorem dL_law_707 : decode cL_law 707 = .ok (.iadd, 1) := by decide +kernel
theorem dL_law_708 : decode cL_law 708 = .ok (.iaload, 1) := by decide +kernel
theorem dL_law_709 : decode cL_law 709 = .ok (.invokevirtual 96, 3) := by decide +kernel
theorem dL_law_712 : decode cL_law 712 = .ok (.aload_n 2, 1) := by decide +kernel
theorem dL_law_713 : decode cL_law 713 = .ok (.aload_n 0, 1) := by decide +kernel
theorem dL_law_714 : decode cL_law 714 = .ok (.iload_n 3, 1) := by decide +kernel
theorem dL_law_715 : decode cL_law 715 = .ok (.iconst 1, 1) := by decide +kernel
theorem dL_law_716 : decode cL_law 716 = .ok (.iadd, 1) := by decide +kernel
theorem dL_law_717 : decode cL_law 717 = .ok (.iaload, 1) := by decide +kernel
theorem dL_law_718 : decode cL_law 718 = .ok (.invokevirtual 99, 3) := by decide +kernel
theorem dL_law_721 : decode cL_law 721 = .ok (.if_icmp .eq 236, 3) := by decide +kernel
theorem dL_law_724 : decode cL_law 724 = .ok (.iconst 0, 1) := by decide +kernel
theorem dL_law_725 : decode cL_law 725 = .ok (.ireturn, 1) := by decide +kernel
theorem dL_law_726 : decode cL_law 726 = .ok (.aload_n 1, 1) := by decide +kernel
theorem dL_law_727 : decode cL_law 727 = .ok (.aload_n 0, 1) := by decide +kernel
theorem dL_law_728 : decode cL_law 728 = .ok (.iload_n 3, 1) := by decide +kernel
theorem dL_law_729 : decode cL_law 729 = .ok (.iconst 1, 1) := by decide +kernel
theorem dL_law_730 : decode cL_law 730 = .ok (.iadd, 1) := by decide +kernel
theorem dL_law_731 : decode cL_law 731 = .ok (.iaload, 1) := by decide +kernel
theorem dL_law_732 : decode cL_law 732 = .ok (.invokevirtual 100, 3) := by decide +kernel
theorem dL_law_735 : decode cL_law 735 = .ok (.aload_n 2, 1) := by decide +kernel
theorem dL_law_736 : decode cL_law 736 = .ok (.aload_n 0, 1) := by decide +kernel
theorem dL_law_737 : decode cL_law 737 = .ok (.iload_n 3, 1) := by decide +kernel
theorem dL_law_738 : decode cL_law 738 = .ok (.iconst 1, 1) := by decide +kernel
theorem dL_law_739 : decode cL_law 739 = .ok (.iadd, 1) := by decide +kernel
theorem dL_law_740 : decode cL_law 740 = .ok (.iaload, 1) := by decide +kernel
theorem dL_law_741 : decode cL_law 741 = .ok (.invokevirtual 103, 3) := by decide +kernel
theorem dL_law_744 : decode cL_law 744 = .ok (.if_icmp .eq 213, 3) := by decide +kernel
theorem dL_law_747 : decode cL_law 747 = .ok (.iconst 0, 1) := by decide +kernel
theorem dL_law_748 : decode cL_law 748 = .ok (.ireturn, 1) := by decide +kernel
theorem dL_law_749 : decode cL_law 749 = .ok (.aload_n 1, 1) := by decide +kernel
theorem dL_law_750 : decode cL_law 750 = .ok (.aload_n 0, 1) := by decide +kernel
theorem dL_law_751 : decode cL_law 751 = .ok (.iload_n 3, 1) := by decide +kernel
theorem dL_law_752 : decode cL_law 752 = .ok (.iconst 1, 1) := by decide +kernel
theorem dL_law_753 : decode cL_law 753 = .ok (.iadd, 1) := by decide +kernel
theorem dL_law_754 : decode cL_law 754 = .ok (.iaload, 1) := by decide +kernel
theorem dL_law_755 : decode cL_law 755 = .ok (.invokevirtual 104, 3) := by decide +kernel
theorem dL_law_758 : decode cL_law 758 = .ok (.aload_n 2, 1) := by decide +kernel
theorem dL_law_759 : decode cL_law 759 = .ok (.aload_n 0, 1) := by decide +kernel
theorem dL_law_760 : decode cL_law 760 = .ok (.iload_n 3, 1) := by decide +kernel
theorem dL_law_761 : decode cL_law 761 = .ok (.iconst 1, 1) := by decide +kernel
theorem dL_law_762 : decode cL_law 762 = .ok (.iadd, 1) := by decide +kernel
theorem dL_law_763 : decode cL_law 763 = .ok (.iaload, 1) := by decide +kernel
theorem dL_law_764 : decode cL_law 764 = .ok (.invokevirtual 108, 3) := by decide +kernel
theorem dL_law_767 : decode cL_law 767 = .ok (.lcmp, 1) := by decide +kernel
theorem dL_law_768 : decode cL_law 768 = .ok (.ifCond .eq 189, 3) := by decide +kernel
theorem dL_law_771 : decode cL_law 771 = .ok (.iconst 0, 1) := by decide +kernel
theorem dL_law_772 : decode cL_law 772 = .ok (.ireturn, 1) := by decide +kernel
theorem dL_law_773 : decode cL_law 773 = .ok (.aload_n 1, 1) := by decide +kernel
theorem dL_law_774 : decode cL_law 774 = .ok (.invokevirtual 109, 3) := by decide +kernel
theorem dL_law_777 : decode cL_law 777 = .ok (.aload_n 2, 1) := by decide +kernel
theorem dL_law_778 : decode cL_law 778 = .ok (.invokevirtual 112, 3) := by decide +kernel
theorem dL_law_781 : decode cL_law 781 = .ok (.if_icmp .eq 176, 3) := by decide +kernel
theorem dL_law_784 : decode cL_law 784 = .ok (.iconst 0, 1) := by decide +kernel
theorem dL_law_785 : decode cL_law 785 = .ok (.ireturn, 1) := by decide +kernel
theorem dL_law_786 : decode cL_law 786 = .ok (.aload_n 1, 1) := by decide +kernel
theorem dL_law_787 : decode cL_law 787 = .ok (.aload_n 0, 1) := by decide +kernel
theorem dL_law_788 : decode cL_law 788 = .ok (.iload_n 3, 1) := by decide +kernel
theorem dL_law_789 : decode cL_law 789 = .ok (.iconst 1, 1) := by decide +kernel
theorem dL_law_790 : decode cL_law 790 = .ok (.iadd, 1) := by decide +kernel
theorem dL_law_791 : decode cL_law 791 = .ok (.iaload, 1) := by decide +kernel
theorem dL_law_792 : decode cL_law 792 = .ok (.aload_n 0, 1) := by decide +kernel
theorem dL_law_793 : decode cL_law 793 = .ok (.iload_n 3, 1) := by decide +kernel
theorem dL_law_794 : decode cL_law 794 = .ok (.iconst 2, 1) := by decide +kernel
theorem dL_law_795 : decode cL_law 795 = .ok (.iadd, 1) := by decide +kernel
theorem dL_law_796 : decode cL_law 796 = .ok (.iaload, 1) := by decide +kernel
theorem dL_law_797 : decode cL_law 797 = .ok (.invokevirtual 113, 3) := by decide +kernel
theorem dL_law_800 : decode cL_law 800 = .ok (.aload_n 2, 1) := by decide +kernel
theorem dL_law_801 : decode cL_law 801 = .ok (.aload_n 0, 1) := by decide +kernel
theorem dL_law_802 : decode cL_law 802 = .ok (.iload_n 3, 1) := by decide +kernel
theorem dL_law_803 : decode cL_law 803 = .ok (.iconst 1, 1) := by decide +kernel
theorem dL_law_804 : decode cL_law 804 = .ok (.iadd, 1) := by decide +kernel
theorem dL_law_805 : decode cL_law 805 = .ok (.iaload, 1) := by decide +kernel
theorem dL_law_806 : decode cL_law 806 = .ok (.aload_n 0, 1) := by decide +kernel
theorem dL_law_807 : decode cL_law 807 = .ok (.iload_n 3, 1) := by decide +kernel
theorem dL_law_808 : decode cL_law 808 = .ok (.iconst 2, 1) := by decide +kernel
theorem dL_law_809 : decode cL_law 809 = .ok (.iadd, 1) := by decide +kernel
theorem dL_law_810 : decode cL_law 810 = .ok (.iaload, 1) := by decide +kernel
theorem dL_law_811 : decode cL_law 811 = .ok (.invokevirtual 116, 3) := by decide +kernel
theorem dL_law_814 : decode cL_law 814 = .ok (.if_icmp .eq 143, 3) := by decide +kernel
theorem dL_law_817 : decode cL_law 817 = .ok (.iconst 0, 1) := by decide +kernel
theorem dL_law_818 : decode cL_law 818 = .ok (.ireturn, 1) := by decide +kernel
theorem dL_law_819 : decode cL_law 819 = .ok (.aload_n 1, 1) := by decide +kernel
theorem dL_law_820 : decode cL_law 820 = .ok (.aload_n 0, 1) := by decide +kernel
theorem dL_law_821 : decode cL_law 821 = .ok (.iload_n 3, 1) := by decide +kernel
theorem dL_law_822 : decode cL_law 822 = .ok (.iconst 1, 1) := by decide +kernel
theorem dL_law_823 : decode cL_law 823 = .ok (.iadd, 1) := by decide +kernel
theorem dL_law_824 : decode cL_law 824 = .ok (.iaload, 1) := by decide +kernel
theorem dL_law_825 : decode cL_law 825 = .ok (.invokevirtual 117, 3) := by decide +kernel
theorem dL_law_828 : decode cL_law 828 = .ok (.aload_n 2, 1) := by decide +kernel
theorem dL_law_829 : decode cL_law 829 = .ok (.aload_n 0, 1) := by decide +kernel
theorem dL_law_830 : decode cL_law 830 = .ok (.iload_n 3, 1) := by decide +kernel
theorem dL_law_831 : decode cL_law 831 = .ok (.iconst 1, 1) := by decide +kernel
theorem dL_law_832 : decode cL_law 832 = .ok (.iadd, 1) := by decide +kernel
theorem dL_law_833 : decode cL_law 833 = .ok (.iaload, 1) := by decide +kernel
theorem dL_law_834 : decode cL_law 834 = .ok (.invokevirtual 120, 3) := by decide +kernel
theorem dL_law_837 : decode cL_law 837 = .ok (.if_icmp .eq 120, 3) := by decide +kernel
theorem dL_law_840 : decode cL_law 840 = .ok (.iconst 0, 1) := by decide +kernel
theorem dL_law_841 : decode cL_law 841 = .ok (.ireturn, 1) := by decide +kernel
theorem dL_law_842 : decode cL_law 842 = .ok (.aload_n 1, 1) := by decide +kernel
theorem dL_law_843 : decode cL_law 843 = .ok (.aload_n 0, 1) := by decide +kernel
theorem dL_law_844 : decode cL_law 844 = .ok (.iload_n 3, 1) := by decide +kernel
theorem dL_law_845 : decode cL_law 845 = .ok (.iconst 1, 1) := by decide +kernel
theorem dL_law_846 : decode cL_law 846 = .ok (.iadd, 1) := by decide +kernel
theorem dL_law_847 : decode cL_law 847 = .ok (.iaload, 1) := by decide +kernel
theorem dL_law_848 : decode cL_law 848 = .ok (.aload_n 0, 1) := by decide +kernel
theorem dL_law_849 : decode cL_law 849 = .ok (.iload_n 3, 1) := by decide +kernel
theorem dL_law_850 : decode cL_law 850 = .ok (.iconst 2, 1) := by decide +kernel
theorem dL_law_851 : decode cL_law 851 = .ok (.iadd, 1) := by decide +kernel
theorem dL_law_852 : decode cL_law 852 = .ok (.iaload, 1) := by decide +kernel
theorem dL_law_853 : decode cL_law 853 = .ok (.invokevirtual 121, 3) := by decide +kernel
theorem dL_law_856 : decode cL_law 856 = .ok (.aload_n 2, 1) := by decide +kernel
theorem dL_law_857 : decode cL_law 857 = .ok (.aload_n 0, 1) := by decide +kernel
theorem dL_law_858 : decode cL_law 858 = .ok (.iload_n 3, 1) := by decide +kernel
theorem dL_law_859 : decode cL_law 859 = .ok (.iconst 1, 1) := by decide +kernel
theorem dL_law_860 : decode cL_law 860 = .ok (.iadd, 1) := by decide +kernel
theorem dL_law_861 : decode cL_law 861 = .ok (.iaload, 1) := by decide +kernel
theorem dL_law_862 : decode cL_law 862 = .ok (.aload_n 0, 1) := by decide +kernel
theorem dL_law_863 : decode cL_law 863 = .ok (.iload_n 3, 1) := by decide +kernel
theorem dL_law_864 : decode cL_law 864 = .ok (.iconst 2, 1) := by decide +kernel
theorem dL_law_865 : decode cL_law 865 = .ok (.iadd, 1) := by decide +kernel
theorem dL_law_866 : decode cL_law 866 = .ok (.iaload, 1) := by decide +kernel
theorem dL_law_867 : decode cL_law 867 = .ok (.invokevirtual 124, 3) := by decide +kernel
theorem dL_law_870 : decode cL_law 870 = .ok (.if_icmp .eq 87, 3) := by decide +kernel
theorem dL_law_873 : decode cL_law 873 = .ok (.iconst 0, 1) := by decide +kernel
theorem dL_law_874 : decode cL_law 874 = .ok (.ireturn, 1) := by decide +kernel
theorem dL_law_875 : decode cL_law 875 = .ok (.aload_n 1, 1) := by decide +kernel
theorem dL_law_876 : decode cL_law 876 = .ok (.aload_n 0, 1) := by decide +kernel
theorem dL_law_877 : decode cL_law 877 = .ok (.iload_n 3, 1) := by decide +kernel
theorem dL_law_878 : decode cL_law 878 = .ok (.iconst 1, 1) := by decide +kernel
theorem dL_law_879 : decode cL_law 879 = .ok (.iadd, 1) := by decide +kernel
theorem dL_law_880 : decode cL_law 880 = .ok (.iaload, 1) := by decide +kernel
theorem dL_law_881 : decode cL_law 881 = .ok (.aload_n 0, 1) := by decide +kernel
theorem dL_law_882 : decode cL_law 882 = .ok (.iload_n 3, 1) := by decide +kernel
theorem dL_law_883 : decode cL_law 883 = .ok (.iconst 2, 1) := by decide +kernel
theorem dL_law_884 : decode cL_law 884 = .ok (.iadd, 1) := by decide +kernel
theorem dL_law_885 : decode cL_law 885 = .ok (.iaload, 1) := by decide +kernel
theorem dL_law_886 : decode cL_law 886 = .ok (.invokevirtual 125, 3) := by decide +kernel
theorem dL_law_889 : decode cL_law 889 = .ok (.aload_n 2, 1) := by decide +kernel
theorem dL_law_890 : decode cL_law 890 = .ok (.aload_n 0, 1) := by decide +kernel
theorem dL_law_891 : decode cL_law 891 = .ok (.iload_n 3, 1) := by decide +kernel
theorem dL_law_892 : decode cL_law 892 = .ok (.iconst 1, 1) := by decide +kernel
theorem dL_law_893 : decode cL_law 893 = .ok (.iadd, 1) := by decide +kernel
theorem dL_law_894 : decode cL_law 894 = .ok (.iaload, 1) := by decide +kernel
theorem dL_law_895 : decode cL_law 895 = .ok (.aload_n 0, 1) := by decide +kernel
theorem dL_law_896 : decode cL_law 896 = .ok (.iload_n 3, 1) := by decide +kernel
theorem dL_law_897 : decode cL_law 897 = .ok (.iconst 2, 1) := by decide +kernel
theorem dL_law_898 : decode cL_law 898 = .ok (.iadd, 1) := by decide +kernel
theorem dL_law_899 : decode cL_law 899 = .ok (.iaload, 1) := by decide +kernel
theorem dL_law_900 : decode cL_law 900 = .ok (.invokevirtual 128, 3) := by decide +kernel
theorem dL_law_903 : decode cL_law 903 = .ok (.if_icmp .eq 54, 3) := by decide +kernel
theorem dL_law_906 : decode cL_law 906 = .ok (.iconst 0, 1) := by decide +kernel
theorem dL_law_907 : decode cL_law 907 = .ok (.ireturn, 1) := by decide +kernel
theorem dL_law_908 : decode cL_law 908 = .ok (.aload_n 1, 1) := by decide +kernel
theorem dL_law_909 : decode cL_law 909 = .ok (.invokevirtual 129, 3) := by decide +kernel
theorem dL_law_912 : decode cL_law 912 = .ok (.aload_n 2, 1) := by decide +kernel
theorem dL_law_913 : decode cL_law 913 = .ok (.invokevirtual 132, 3) := by decide +kernel
theorem dL_law_916 : decode cL_law 916 = .ok (.if_icmp .eq 41, 3) := by decide +kernel
theorem dL_law_919 : decode cL_law 919 = .ok (.iconst 0, 1) := by decide +kernel
theorem dL_law_920 : decode cL_law 920 = .ok (.ireturn, 1) := by decide +kernel
theorem dL_law_921 : decode cL_law 921 = .ok (.aload_n 1, 1) := by decide +kernel
theorem dL_law_922 : decode cL_law 922 = .ok (.invokevirtual 133, 3) := by decide +kernel
theorem dL_law_925 : decode cL_law 925 = .ok (.aload_n 2, 1) := by decide +kernel
theorem dL_law_926 : decode cL_law 926 = .ok (.invokevirtual 136, 3) := by decide +kernel
theorem dL_law_929 : decode cL_law 929 = .ok (.if_icmp .eq 28, 3) := by decide +kernel
theorem dL_law_932 : decode cL_law 932 = .ok (.iconst 0, 1) := by decide +kernel
theorem dL_law_933 : decode cL_law 933 = .ok (.ireturn, 1) := by decide +kernel
theorem dL_law_934 : decode cL_law 934 = .ok (.aload_n 1, 1) := by decide +kernel
theorem dL_law_935 : decode cL_law 935 = .ok (.aload_n 0, 1) := by decide +kernel
theorem dL_law_936 : decode cL_law 936 = .ok (.iload_n 3, 1) := by decide +kernel
theorem dL_law_937 : decode cL_law 937 = .ok (.iconst 1, 1) := by decide +kernel
theorem dL_law_938 : decode cL_law 938 = .ok (.iadd, 1) := by decide +kernel
theorem dL_law_939 : decode cL_law 939 = .ok (.iaload, 1) := by decide +kernel
theorem dL_law_940 : decode cL_law 940 = .ok (.invokevirtual 137, 3) := by decide +kernel
theorem dL_law_943 : decode cL_law 943 = .ok (.aload_n 2, 1) := by decide +kernel
theorem dL_law_944 : decode cL_law 944 = .ok (.aload_n 0, 1) := by decide +kernel
theorem dL_law_945 : decode cL_law 945 = .ok (.iload_n 3, 1) := by decide +kernel
theorem dL_law_946 : decode cL_law 946 = .ok (.iconst 1, 1) := by decide +kernel
theorem dL_law_947 : decode cL_law 947 = .ok (.iadd, 1) := by decide +kernel
theorem dL_law_948 : decode cL_law 948 = .ok (.iaload, 1) := by decide +kernel
theorem dL_law_949 : decode cL_law 949 = .ok (.invokevirtual 140, 3) := by decide +kernel
theorem dL_law_952 : decode cL_law 952 = .ok (.if_icmp .eq 5, 3) := by decide +kernel
theorem dL_law_955 : decode cL_law 955 = .ok (.iconst 0, 1) := by decide +kernel
theorem dL_law_956 : decode cL_law 956 = .ok (.ireturn, 1) := by decide +kernel
theorem dL_law_957 : decode cL_law 957 = .ok (.iinc 3 4, 3) := by decide +kernel
theorem dL_law_960 : decode cL_law 960 = .ok (.goto (-942), 3) := by decide +kernel
theorem dL_law_963 : decode cL_law 963 = .ok (.iconst 1, 1) := by decide +kernel
theorem dL_law_964 : decode cL_law 964 = .ok (.ireturn, 1) := by decide +kernel
end
section
/-! the pure machine: a heap of cells by address, and a judgement zEx over it; every row of it is proved once out of the kit's rows -/
abbrev zC : Type := (FieldType × vp_A) ⊕ (Nat × List Value)
abbrev zF : Type := Nat → Option zC
abbrev zG : Type := Launch × va_G × Heap × (Nat × Nat × (Nat → Int32)) × (Nat → Nat) × (Nat → Nat)
abbrev zM : Type := MethodName × ByteArray × Nat × Option FieldType
abbrev zQ : Type := Option Value → zF → Nat → Prop
abbrev zCl : List vw_C := [(RX0, TX0, 9), (RX1, TX1, 5), (RX2, TX2, 2), (RX3, TX3, 4), (RX4, TX4, 11), (RX5, TX5, 10), (RX6, TX6, 2), (RX7, TX7, 13), (RX8, TX8, 33)]
def zTbl : List Cond := lw_tbl.filter goodWord
def zIsN : Cond → Bool
  | .fieldLinkNest _ _ _ _ _ _ => true
  | .methodLinkNest _ _ _ _ => true
  | _ => false
def zNest : List Cond := lw_tbl.filter zIsN
theorem zmem {w : Cond} (i : Nat) (h : lw_tbl[i]? = some w) (g : goodWord w = true) : w ∈ zTbl := List.mem_filter.mpr ⟨List.mem_of_getElem? h, g⟩
theorem zmemN {w : Cond} (i : Nat) (h : lw_tbl[i]? = some w) (g : zIsN w = true) : w ∈ zNest := List.mem_filter.mpr ⟨List.mem_of_getElem? h, g⟩
abbrev zH0 (G : zG) : Heap := G.2.2.1
def zA (G : zG) : Nat → Prop := fun q => G.2.2.1.size ≤ q
def zStr : List Int32 := [116, 53, 44, 48, 44, 51, 44, 52, 59, 116, 57, 44, 49, 44, 51, 44, 50, 59, 116, 53, 44, 50, 44, 52, 44, 49, 59, 116, 55, 44, 51, 44, 50, 44, 51, 59, 112, 49, 44, 48, 44, 49, 59, 112, 50, 44, 49, 44, 50, 59, 105, 48, 44, 50, 59, 105, 49, 44, 48, 59, 105, 49, 44, 51, 59, 103, 50, 59, 100, 53, 59, 110, 48, 44, 49, 44, 50, 48, 59, 110, 50, 44, 51, 44, 53, 59]
def zText : String := "t5,0,3,4;t9,1,3,2;t5,2,4,1;t7,3,2,3;p1,0,1;p2,1,2;i0,2;i1,0;i1,3;g2;d5;n0,1,20;n2,3,5;"
/-- what lies below the law's own cells: the script, the one String constant, two statics -/
def zOld (G : zG) (U : State) : Prop := va_X G.2.2.2.1.1 G.2.2.2.1.2.1 G.2.2.2.1.2.2 U (zH0 G) ∧ G.2.2.2.1.1 < (zH0 G).size ∧ vk_S 1 [86] [zStr] G.2.2.2.2.1 G.2.2.2.2.2 (zA G) U (zH0 G) ∧ vk_R "ShakenParcels" 77 zText (G.2.2.2.2.1 0) U ∧ va_Z "java/lang/String" "COMPACT_STRINGS" "Z" (.int 1) (zA G) U (zH0 G) ∧ va_Zq "jdk/internal/util/Preconditions" "SIOOBE_FORMATTER" "Ljava/util/function/BiFunction;" (zA G) U (zH0 G) ∧ va_AO "ShakenParcels$Scene" U
/-- what holds of the tables -/
def zK (G : zG) (U : State) : Prop := va_K G.2.1 zCl [] U ∧ (∀ w ∈ zNest, va_Nw w U) ∧ zOld G U
theorem zK.warm {G : zG} {s U : State} (hW : s.WarmedH U.vm) (h : zK G s) : zK G U := by
  obtain ⟨h1, h2, h3, h4, h5, h6, h7, h8, h9⟩ := h
  refine ⟨va_K.moved hW.alike h1, fun w hw => ?_, va_X.moved hW.alike h3, h4, vk_S.moved hW.alike h5, vk_R.warm hW h6, va_Z.moved hW.alike h7, va_Zq.moved hW.alike h8, va_AO.moved hW.alike h9⟩
  have hn := (List.mem_filter.mp hw).2
  have hz := h2 w hw
  cases w <;> first | exact va_Nw.warmF hW hz | exact va_Nw.warmM hW hz | (exact absurd hn (by simp [zIsN]))
theorem zK.same {G : zG} {s U : State} (hv : s.vm = U.vm) (h : zK G s) : zK G U := by
  obtain ⟨h1, h2, h3, h4, h5, h6, h7, h8, h9⟩ := h
  have ha : s.vm.Alike U.vm := by rw [hv]; exact Vm.Alike.refl _
  refine ⟨va_K.moved ha h1, fun w hw => ?_, va_X.moved ha h3, h4, vk_S.moved ha h5, vk_R.same hv.symm h6, va_Z.moved ha h7, va_Zq.moved ha h8, va_AO.moved ha h9⟩
  have hn := (List.mem_filter.mp hw).2
  have hz := h2 w hw
  cases w <;> first | exact va_Nw.same rfl hv hz | (exact absurd hn (by simp [zIsN]))
/-- a cell of the pure heap, in the machine's -/
def zat (G : zG) (U : State) (H : Heap) (a : Nat) (c : zC) : Prop := match c with
  | .inl q => ∃ cA : ClassId, (ArrOfT U cA q.1 ∧ va_RA U cA q.1) ∧ H[a]? = some (vp_cell cA q.2)
  | .inr o => ∃ r : vw_C, zCl[o.1]? = some r ∧ t_OB a (G.2.1.1 o.1) r.2.2 (G.2.1.2 o.1) H (vp_V o.2)
theorem zat.moved {G : zG} {u U : State} {H : Heap} {a : Nat} {c : zC} (hvm : u.vm.Alike U.vm) (h : zat G u H a c) : zat G U H a c := by
  cases c with
  | inl q => obtain ⟨cA, ⟨h1, h2⟩, h3⟩ := h; exact ⟨cA, ⟨arrOfT_moved hvm h1, h2.moved hvm⟩, h3⟩
  | inr o => exact h
theorem zat.kept {G : zG} {U : State} {H H1 : Heap} {a : Nat} {c : zC} (h : zat G U H a c) (hq : H1[a]? = H[a]?) : zat G U H1 a c := by
  cases c with
  | inl q => obtain ⟨cA, h1, h3⟩ := h; exact ⟨cA, h1, hq.trans h3⟩
  | inr o => obtain ⟨r, h1, h2⟩ := h; exact ⟨r, h1, h2.kept hq⟩
def zHp (G : zG) (U : State) (H : Heap) (h : zF) (n : Nat) : Prop := H.size = n ∧ (zH0 G).size ≤ n ∧ (∀ q : Nat, q < (zH0 G).size → H[q]? = (zH0 G)[q]?) ∧ ∀ (a : Nat) (c : zC), h a = some c → (zH0 G).size ≤ a ∧ a < n ∧ zat G U H a c
theorem zHp.moved {G : zG} {u U : State} {H : Heap} {h : zF} {n : Nat} (hvm : u.vm.Alike U.vm) (hh : zHp G u H h n) : zHp G U H h n := ⟨hh.1, hh.2.1, hh.2.2.1, fun a c hc => ⟨(hh.2.2.2 a c hc).1, (hh.2.2.2 a c hc).2.1, (hh.2.2.2 a c hc).2.2.moved hvm⟩⟩
theorem zHp.set {G : zG} {U : State} {H H1 : Heap} {h : zF} {n a : Nat} {c c0 : zC} (hh : zHp G U H h n) (ha : h a = some c0) (z : H1.size = H.size) (o : ∀ q : Nat, q ≠ a → H1[q]? = H[q]?) (hc : zat G U H1 a c) : zHp G U H1 (va_up h a (some c)) n := by
  have h0 := hh.2.2.2 a c0 ha
  refine ⟨z.trans hh.1, hh.2.1, fun q hq => (o q (by omega)).trans (hh.2.2.1 q hq), fun b d hb => ?_⟩
  unfold va_up at hb
  by_cases hba : b = a
  · subst hba
    rw [if_pos rfl] at hb
    cases hb
    exact ⟨h0.1, h0.2.1, hc⟩
  · rw [if_neg hba] at hb
    have h1 := hh.2.2.2 b d hb
    exact ⟨h1.1, h1.2.1, h1.2.2.kept (o b hba)⟩
theorem zHp.push {G : zG} {U : State} {H H1 : Heap} {h : zF} {n : Nat} {c : zC} (hh : zHp G U H h n) (z : H1.size = n + 1) (o : ∀ q : Nat, q < n → H1[q]? = H[q]?) (hc : zat G U H1 n c) : zHp G U H1 (va_up h n (some c)) (n + 1) := by
  have h0 := hh.2.1
  refine ⟨z, by omega, fun q hq => (o q (by omega)).trans (hh.2.2.1 q hq), fun b d hb => ?_⟩
  unfold va_up at hb
  by_cases hba : b = n
  · subst hba
    rw [if_pos rfl] at hb
    cases hb
    exact ⟨h0, by omega, hc⟩
  · rw [if_neg hba] at hb
    have h1 := hh.2.2.2 b d hb
    exact ⟨h1.1, by omega, h1.2.2.kept (o b h1.2.1)⟩
/-- the locals by their places -/
def zg : List (Option Value) → Nat → Option Value
  | [], _ => none
  | a :: _, 0 => a
  | _ :: t, i + 1 => zg t i
def zL (ls : Array Slot) (nL : Nat) (lv : List (Option Value)) : Prop := ls.size = nL ∧ lv_wf ls ∧ ∀ (i : Nat) (v : Value), zg lv i = some v → ls[i]? = some (.val v)
def zas : Nat → List (Option Value) → List (Nat × Value)
  | _, [] => []
  | i, none :: t => zas (i + 1) t
  | i, some v :: t => (i, v) :: zas (i + 1) t
theorem zas_mem {q : Nat × Value} : ∀ (lv : List (Option Value)) (i : Nat), q ∈ zas i lv ↔ ∃ j, q.1 = i + j ∧ zg lv j = some q.2
  | [], i => by simp [zas, zg]
  | none :: t, i => by
    simp only [zas, zas_mem t (i + 1)]
    constructor
    · rintro ⟨j, h1, h2⟩; exact ⟨j + 1, by omega, h2⟩
    · rintro ⟨j, h1, h2⟩
      cases j with
      | zero => simp [zg] at h2
      | succ j => exact ⟨j, by omega, h2⟩
  | some v :: t, i => by
    simp only [zas, List.mem_cons, zas_mem t (i + 1)]
    constructor
    · rintro (h | ⟨j, h1, h2⟩)
      · exact ⟨0, by rw [h]; rfl, by rw [h]; rfl⟩
      · exact ⟨j + 1, by omega, h2⟩
    · rintro ⟨j, h1, h2⟩
      cases j with
      | zero => left; simp only [zg] at h2; cases q; simp at h1 h2; simp [h1, h2]
      | succ j => right; exact ⟨j, by omega, h2⟩
theorem zL.kit {ls : Array Slot} {nL : Nat} {lv : List (Option Value)} (h : zL ls nL lv) : lv_has ls nL (zas 0 lv) := ⟨h.1, h.2.1, fun q hq => by
  obtain ⟨j, h1, h2⟩ := (zas_mem lv 0).mp hq
  rw [h1, Nat.zero_add]; exact h.2.2 j q.2 h2⟩
def zset : List (Option Value) → Nat → Option Value → List (Option Value)
  | [], _, _ => []
  | _ :: t, 0, v => v :: t
  | a :: t, i + 1, v => a :: zset t i v
theorem zg_zset : ∀ (lv : List (Option Value)) (i j : Nat) (v : Option Value), zg (zset lv i v) j = if j = i ∧ i < lv.length then v else zg lv j
  | [], i, j, v => by simp [zset, zg]
  | a :: t, 0, 0, v => by simp [zset, zg]
  | a :: t, 0, j + 1, v => by simp [zset, zg]
  | a :: t, i + 1, 0, v => by simp [zset, zg]
  | a :: t, i + 1, j + 1, v => by simp only [zset, zg, zg_zset t i j v, List.length_cons]; simp
/-- what stands just before place i is no long -/
def zok : List (Option Value) → Nat → Bool
  | _, 0 => true
  | lv, i + 1 => match zg lv i with
    | some v => v.category == 1
    | none => true
theorem zL.store {ls' : Array Slot} {nL i : Nat} {v : Value} {lv : List (Option Value)} (ho : zok lv i = true) (h : lv_has ls' nL ((i, v) :: (zas 0 lv).filter (fun q => !(q.1 == i) && !(q.1 + 1 == i && q.2.category == 2)))) : zL ls' nL (zset lv i (some v)) := by
  refine ⟨h.1, h.2.1, fun j w hw => ?_⟩
  rw [zg_zset] at hw
  by_cases hj : j = i ∧ i < lv.length
  · rw [if_pos hj] at hw
    cases hw
    rw [hj.1]
    exact h.2.2 (i, v) List.mem_cons_self
  · rw [if_neg hj] at hw
    by_cases hji : j = i
    · subst hji
      exfalso
      have hlt : ¬ j < lv.length := fun q => hj ⟨rfl, q⟩
      have hn : ∀ (l : List (Option Value)) (j : Nat), ¬ j < l.length → zg l j = none := by
        intro l
        induction l with
        | nil => intro j _; rfl
        | cons a t ih => intro j hj; cases j with
          | zero => exact absurd (Nat.zero_lt_succ _) hj
          | succ j => exact ih j (fun q => hj (Nat.succ_lt_succ q))
      rw [hn lv j hlt] at hw
      cases hw
    · refine h.2.2 (j, w) (List.mem_cons_of_mem _ (List.mem_filter.mpr ⟨(zas_mem lv 0).mpr ⟨j, by simp, hw⟩, ?_⟩))
      cases i with
      | zero => simp [hji]
      | succ i =>
        by_cases hj2 : j = i
        · subst hj2
          simp only [zok, hw, beq_iff_eq] at ho
          simp [ho]
        · simp [hji, hj2]
theorem zL.store2 {ls' : Array Slot} {nL i : Nat} {v : Value} {lv : List (Option Value)} (ho : zok lv i = true) (h : lv_has ls' nL ((i, v) :: (zas 0 lv).filter (fun q => !(q.1 == i) && (!(q.1 == i + 1) && !(q.1 + 1 == i && q.2.category == 2))))) : zL ls' nL (zset (zset lv i (some v)) (i + 1) none) := by
  refine ⟨h.1, h.2.1, fun j w hw => ?_⟩
  rw [zg_zset] at hw
  by_cases hj1 : j = i + 1
  · subst hj1
    by_cases hl : i + 1 < (zset lv i (some v)).length
    · rw [if_pos ⟨rfl, hl⟩] at hw; cases hw
    · have hn : ∀ (l : List (Option Value)) (j : Nat), ¬ j < l.length → zg l j = none := by
        intro l
        induction l with
        | nil => intro j _; rfl
        | cons a t ih => intro j hj; cases j with
          | zero => exact absurd (Nat.zero_lt_succ _) hj
          | succ j => exact ih j (fun q => hj (Nat.succ_lt_succ q))
      rw [if_neg (fun q => hl q.2), hn _ _ hl] at hw
      cases hw
  · rw [if_neg (fun q => hj1 q.1), zg_zset] at hw
    by_cases hj : j = i ∧ i < lv.length
    · rw [if_pos hj] at hw
      cases hw
      rw [hj.1]
      exact h.2.2 (i, v) List.mem_cons_self
    · rw [if_neg hj] at hw
      by_cases hji : j = i
      · subst hji
        exfalso
        have hlt : ¬ j < lv.length := fun q => hj ⟨rfl, q⟩
        have hn : ∀ (l : List (Option Value)) (j : Nat), ¬ j < l.length → zg l j = none := by
          intro l
          induction l with
          | nil => intro j _; rfl
          | cons a t ih => intro j hj; cases j with
            | zero => exact absurd (Nat.zero_lt_succ _) hj
            | succ j => exact ih j (fun q => hj (Nat.succ_lt_succ q))
        rw [hn lv j hlt] at hw
        cases hw
      · refine h.2.2 (j, w) (List.mem_cons_of_mem _ (List.mem_filter.mpr ⟨(zas_mem lv 0).mpr ⟨j, by simp, hw⟩, ?_⟩))
        cases i with
        | zero => simp [hji, hj1]
        | succ i =>
          by_cases hj2 : j = i
          · subst hj2
            simp only [zok, hw, beq_iff_eq] at ho
            simp [ho]; omega
          · simp [hji, hj1, hj2]
def zWs (M : zM) : List Cond := .code M.1 M.2.1 M.2.2.1 M.2.2.2 :: zTbl
/-- a contract: from this heap, with these arguments, the method returns with Q -/
def zCt (G : zG) (M : zM) (k mc ms : Nat) (av : List Value) (h : zF) (n : Nat) (Q : zQ) : Prop :=
  ∀ d : Nat, k ≤ d → Met G.1 M.1 (zWs M) { frames := d, cells := mc, slots := ms, locals := 60 * d } (va_Pc av (fun U => zK G U ∧ zHp G U U.heap h n)) (fun _ _ oc t => ∃ (r : Option Value) (h' : zF) (n' : Nat), oc = .returned r ∧ Q r h' n' ∧ zHp G t t.heap h' n') mc ms (zA G)
def zCx (G : zG) (M : zM) (d mc ms : Nat) (p : Program) (R : Room) (s : State) (m : MethodId) (args : Array Value) (meth : Method) (c : Code) : Prop :=
  p.tables.exec = Jvm.exec ∧ c.code = M.2.1 ∧ c.maxLocals = M.2.2.1 ∧ s.vm.findClass M.1.cls = some m.cls ∧ (∀ w ∈ zTbl, w.before args s = true) ∧ zK G s ∧ (d ≤ R.frames ∧ 60 * d ≤ R.locals) ∧ (mc ≤ R.cells ∧ ms ≤ R.slots) ∧ meth.name = M.1.name
def zRet (M : zM) (pc : Nat) (r : Option Value) : Prop := match r with
  | none => M.2.2.2 = none ∧ decode M.2.1 pc = .ok (.return_, 1)
  | some (.int v) => (∃ ty, M.2.2.2 = some ty ∧ narrow ty (.int v) = .int v) ∧ decode M.2.1 pc = .ok (.ireturn, 1)
  | some (.long _) => M.2.2.2 = some .long ∧ decode M.2.1 pc = .ok (.lreturn, 1)
  | some (.ref _) => (∃ n, M.2.2.2 = some (.object n)) ∧ decode M.2.1 pc = .ok (.areturn, 1)
  | _ => False
def zFin (G : zG) (M : zM) (mc ms : Nat) (p : Program) (e : Env) (R : Room) (s : State) (m : MethodId) (args : Array Value) (below : List Frame) (meth : Method) (c : Code) (Q : zQ) (Qz : State → Prop) : Prop :=
  ∀ (r : Option Value) (h' : zF) (n' : Nat) (H : Heap) (locs : List Loc) (ls : Array Slot) (cells slots pc : Nat), Q r h' n' → zHp G s H h' n' → (∀ q ∈ locs, zA G q.base) → cells ≤ mc → slots ≤ ms → zRet M pc r → W p G.1 e R s m args below meth c H locs cells slots Qz (F0 m pc ls r.toList)
def zEx (G : zG) (M : zM) (k mc ms pc : Nat) (lv : List (Option Value)) (st : List Value) (h : zF) (n : Nat) (u : Nat × Nat) (Q : zQ) : Prop :=
  ∀ (d : Nat) (p : Program) (e : Env) (R : Room) (s : State) (m : MethodId) (args : Array Value) (below : List Frame) (meth : Method) (c : Code) (Qz : State → Prop), k ≤ d → zCx G M d mc ms p R s m args meth c → zFin G M mc ms p e R s m args below meth c Q Qz →
    ∀ (H : Heap) (locs : List Loc) (ls : Array Slot), zHp G s H h n → (∀ q ∈ locs, zA G q.base) → zL ls M.2.2.1 lv → W p G.1 e R s m args below meth c H locs u.1 u.2 Qz (F0 m pc ls st)
def zent : List Value → List (Option Value)
  | [] => []
  | v :: t => match v.category with
    | 2 => some v :: none :: zent t
    | _ => some v :: zent t
def zpad : Nat → List (Option Value) → List (Option Value)
  | 0, _ => []
  | n + 1, [] => none :: zpad n []
  | n + 1, a :: t => a :: zpad n t
theorem zg_zpad : ∀ (n : Nat) (l : List (Option Value)) (i : Nat) (v : Value), zg (zpad n l) i = some v → zg l i = some v
  | 0, l, i, v, h => by simp [zpad, zg] at h
  | n + 1, [], 0, v, h => by simp [zpad, zg] at h
  | n + 1, [], i + 1, v, h => by simp only [zpad, zg] at h; have := zg_zpad n [] i v h; simp [zg] at this
  | n + 1, a :: t, 0, v, h => by simpa [zpad, zg] using h
  | n + 1, a :: t, i + 1, v, h => by simp only [zpad, zg] at h ⊢; exact zg_zpad n t i v h
theorem zent_args : ∀ (av : List Value) (i j : Nat) (v : Value), zg (zent av) j = some v → (i + j, v) ∈ lv_args i av
  | [], i, j, v, h => by simp [zent, zg] at h
  | x :: t, i, j, v, h => by
    rcases lv_cat x with hx | hx
    · simp only [zent, hx] at h
      cases j with
      | zero => simp only [zg] at h; cases h; simp [lv_args]
      | succ j =>
        have := zent_args t (i + 1) j v h
        rw [show i + (j + 1) = i + 1 + j by omega]
        simp [lv_args, hx, this]
    · simp only [zent, hx] at h
      cases j with
      | zero => simp only [zg] at h; cases h; simp [lv_args]
      | succ j => cases j with
        | zero => simp [zg] at h
        | succ j =>
          have := zent_args t (i + 2) j v h
          rw [show i + (j + 1 + 1) = i + 2 + j by omega]
          simp [lv_args, hx, this]
end
section
section ZR
variable {G : zG} {M : zM} {k mc ms pc n : Nat} {lv : List (Option Value)} {st : List Value} {h : zF} {u : Nat × Nat} {Q : zQ}
/-- a contract out of the judgement at the entry -/
theorem zCt.of {av : List Value} (hy : plainName M.1.cls = true) (hav : (lg_sl av).length ≤ M.2.2.1) (hl : zpad M.2.2.1 (zent av) = lv) (K : zEx G M k mc ms 0 lv [] h n (0, 0) Q) : zCt G M k mc ms av h n Q := by
  intro d hd
  refine Met.ofW (cc := M.2.1) (maxL := M.2.2.1) (ret := M.2.2.2) hy rfl ?_
  intro p e s m args below meth c s₁ B hml hv
  obtain ⟨rfl, hK, hH⟩ := hv
  have hts := atoms_spec (ws := zWs M) B.pre
  have hown : s.vm.findClass M.1.cls = some m.cls := findClass_of_methodNamed B.named
  have hin : meth.name = M.1.name := (name_of_methodNamed B.named B.method).1
  have hx := B.exec
  have hb := B.bytes
  have hr := B.returns
  have hlocks := B.notSynchronized
  have hl0 := lv_entry av (n := M.2.2.1) hav
  rw [lg_entry_eq]
  generalize (lg_sl av ++ List.replicate (M.2.2.1 - (lg_sl av).length) Slot.unset).toArray = ls at hl0 ⊢
  have hL : zL ls M.2.2.1 lv := ⟨hl0.1, hl0.2.1, fun i v hi => by
    rw [← hl] at hi
    have := zent_args av 0 i v (zg_zpad _ _ _ _ hi)
    rw [Nat.zero_add] at this
    exact hl0.2.2 _ this⟩
  refine K d p e _ s m av.toArray below meth c _ hd ⟨hx, hb, hml, hown, fun w hw => hts w (List.mem_cons_of_mem _ hw), hK, ⟨Nat.le_refl _, Nat.le_refl _⟩, ⟨Nat.le_refl _, Nat.le_refl _⟩, hin⟩ ?_ s.heap [] ls hH (fun q hq => by cases hq) hL
  intro r h' n' H locs ls cells slots pc hQ hH' hlc hc hs hR
  refine W.widen (k := mc) (n := ms) hc hs ?_
  have hq : ∀ t : State, t.heap = H → s.WarmedH t.vm → ∃ (r1 : Option Value) (h1 : zF) (n1 : Nat), Outcome.returned r = .returned r1 ∧ Q r1 h1 n1 ∧ zHp G t t.heap h1 n1 := fun t ht hW => ⟨r, h', n', rfl, hQ, by rw [ht]; exact hH'.moved hW.alike⟩
  match r, hR, hq with
  | none, hR, hq => exact W.vret hx hb (by rw [hr]; exact hR.1) hq hlc hR.2
  | some (.int v), hR, hq => obtain ⟨⟨ty, h1, h2⟩, h3⟩ := hR; exact W.zret hx hb (by rw [hr]; exact h1) h2 hq hlc h3
  | some (.long v), hR, hq => exact W.lret hx hb (by rw [hr]; exact hR.1) hq hlc hR.2
  | some (.ref v), hR, hq => obtain ⟨⟨nm, h1⟩, h3⟩ := hR; exact W.aret hx hb (by rw [hr]; exact h1) (Or.inl ⟨nm, rfl⟩) (Or.inr ⟨v, rfl⟩) hq hlc h3
theorem zEx.lift {pc' : Nat} {st' : List Value} (f : ∀ {p : Program} {e : Env} {R : Room} {s : State} {m : MethodId} {args : Array Value} {below : List Frame} {meth : Method} {c : Code} {H : Heap} {locs : List Loc} {Qz : State → Prop} {ls : Array Slot}, p.tables.exec = Jvm.exec → c.code = M.2.1 → W p G.1 e R s m args below meth c H locs u.1 u.2 Qz (F0 m pc' ls st') → W p G.1 e R s m args below meth c H locs u.1 u.2 Qz (F0 m pc ls st)) (K : zEx G M k mc ms pc' lv st' h n u Q) : zEx G M k mc ms pc lv st h n u Q := by
  intro d p e R s m args below meth c Qz hk hC hF H locs ls hH hl hL
  exact f hC.1 hC.2.1 (K d p e R s m args below meth c Qz hk hC hF H locs ls hH hl hL)
theorem zEx.lift2 {pc1 pc2 : Nat} {st1 : List Value} {P1 P2 : Prop} (f : ∀ {p : Program} {e : Env} {R : Room} {s : State} {m : MethodId} {args : Array Value} {below : List Frame} {meth : Method} {c : Code} {H : Heap} {locs : List Loc} {Qz : State → Prop} {ls : Array Slot}, p.tables.exec = Jvm.exec → c.code = M.2.1 → (P1 → W p G.1 e R s m args below meth c H locs u.1 u.2 Qz (F0 m pc1 ls st1)) → (P2 → W p G.1 e R s m args below meth c H locs u.1 u.2 Qz (F0 m pc2 ls st1)) → W p G.1 e R s m args below meth c H locs u.1 u.2 Qz (F0 m pc ls st)) (K1 : P1 → zEx G M k mc ms pc1 lv st1 h n u Q) (K2 : P2 → zEx G M k mc ms pc2 lv st1 h n u Q) : zEx G M k mc ms pc lv st h n u Q := by
  intro d p e R s m args below meth c Qz hk hC hF H locs ls hH hl hL
  exact f hC.1 hC.2.1 (fun q => K1 q d p e R s m args below meth c Qz hk hC hF H locs ls hH hl hL) (fun q => K2 q d p e R s m args below meth c Qz hk hC hF H locs ls hH hl hL)
-- constants
theorem x_iconst {z : Int} {v : Int32} (hd : decode M.2.1 pc = .ok (.iconst z, 1)) (hv : Int32.ofInt z = v) (K : zEx G M k mc ms (pc + 1) lv (.int v :: st) h n u Q) : zEx G M k mc ms pc lv st h n u Q := zEx.lift (fun hx hb q => lv_iconst hx hb hd hv q) K
theorem x_bipush {z : Int} {v : Int32} (hd : decode M.2.1 pc = .ok (.bipush z, 2)) (hv : (Int8.ofInt z).toInt32 = v) (K : zEx G M k mc ms (pc + 2) lv (.int v :: st) h n u Q) : zEx G M k mc ms pc lv st h n u Q := zEx.lift (fun hx hb q => lv_bipush hx hb hd hv q) K
theorem x_sipush {z : Int} {v : Int32} (hd : decode M.2.1 pc = .ok (.sipush z, 3)) (hv : (Int16.ofInt z).toInt32 = v) (K : zEx G M k mc ms (pc + 3) lv (.int v :: st) h n u Q) : zEx G M k mc ms pc lv st h n u Q := zEx.lift (fun hx hb q => lv_sipush hx hb hd hv q) K
theorem x_lconst {z : Fin 2} {v : Int64} (hd : decode M.2.1 pc = .ok (.lconst z, 1)) (hv : Int64.ofNat (z : Nat) = v) (K : zEx G M k mc ms (pc + 1) lv (.long v :: st) h n u Q) : zEx G M k mc ms pc lv st h n u Q := zEx.lift (fun hx hb q => lv_lconst hx hb hd hv q) K
theorem x_ldc {i : Nat} {v : Int32} (hd : decode M.2.1 pc = .ok (.ldc i, 2)) (hw : Cond.constant M.1.cls i v ∈ zTbl) (K : zEx G M k mc ms (pc + 2) lv (.int v :: st) h n u Q) : zEx G M k mc ms pc lv st h n u Q := by
  intro d p e R s m args below meth c Qz hk hC hF H locs ls hH hl hL
  exact lv_ldc hC.1 hC.2.1 hC.2.2.2.1 (hC.2.2.2.2.1 _ hw) hd (K d p e R s m args below meth c Qz hk hC hF H locs ls hH hl hL)
theorem x_ldcw {i : Nat} {v : Int32} (hd : decode M.2.1 pc = .ok (.ldc_w i, 3)) (hw : Cond.constant M.1.cls i v ∈ zTbl) (K : zEx G M k mc ms (pc + 3) lv (.int v :: st) h n u Q) : zEx G M k mc ms pc lv st h n u Q := by
  intro d p e R s m args below meth c Qz hk hC hF H locs ls hH hl hL
  exact lv_ldcw hC.1 hC.2.1 hC.2.2.2.1 (hC.2.2.2.2.1 _ hw) hd (K d p e R s m args below meth c Qz hk hC hF H locs ls hH hl hL)
theorem x_ldc2 {i : Nat} {v : Int64} (hd : decode M.2.1 pc = .ok (.ldc2_w i, 3)) (hw : Cond.constantLong M.1.cls i v ∈ zTbl) (K : zEx G M k mc ms (pc + 3) lv (.long v :: st) h n u Q) : zEx G M k mc ms pc lv st h n u Q := by
  intro d p e R s m args below meth c Qz hk hC hF H locs ls hH hl hL
  exact lv_ldc2 hC.1 hC.2.1 hC.2.2.2.1 (hC.2.2.2.2.1 _ hw) hd (K d p e R s m args below meth c Qz hk hC hF H locs ls hH hl hL)
-- loads
theorem x_iload_n {q : Fin 4} {x : Int32} (hd : decode M.2.1 pc = .ok (.iload_n q, 1)) (hv : zg lv q.val = some (.int x)) (K : zEx G M k mc ms (pc + 1) lv (.int x :: st) h n u Q) : zEx G M k mc ms pc lv st h n u Q := by
  intro d p e R s m args below meth c Qz hk hC hF H locs ls hH hl hL
  exact lv_iload_n hC.1 hC.2.1 hd rfl (hL.2.2 _ _ hv) (K d p e R s m args below meth c Qz hk hC hF H locs ls hH hl hL)
theorem x_iload {i : Nat} {x : Int32} (hd : decode M.2.1 pc = .ok (.iload i, 2)) (hv : zg lv i = some (.int x)) (K : zEx G M k mc ms (pc + 2) lv (.int x :: st) h n u Q) : zEx G M k mc ms pc lv st h n u Q := by
  intro d p e R s m args below meth c Qz hk hC hF H locs ls hH hl hL
  exact lv_iload hC.1 hC.2.1 hd (hL.2.2 _ _ hv) (K d p e R s m args below meth c Qz hk hC hF H locs ls hH hl hL)
theorem x_lload_n {q : Fin 4} {x : Int64} (hd : decode M.2.1 pc = .ok (.lload_n q, 1)) (hv : zg lv q.val = some (.long x)) (K : zEx G M k mc ms (pc + 1) lv (.long x :: st) h n u Q) : zEx G M k mc ms pc lv st h n u Q := by
  intro d p e R s m args below meth c Qz hk hC hF H locs ls hH hl hL
  have h1 := hL.2.2 _ _ hv
  exact lv_lload_n hC.1 hC.2.1 hd rfl h1 (K d p e R s m args below meth c Qz hk hC hF H locs ls hH hl hL)
theorem x_lload {i : Nat} {x : Int64} (hd : decode M.2.1 pc = .ok (.lload i, 2)) (hv : zg lv i = some (.long x)) (K : zEx G M k mc ms (pc + 2) lv (.long x :: st) h n u Q) : zEx G M k mc ms pc lv st h n u Q := by
  intro d p e R s m args below meth c Qz hk hC hF H locs ls hH hl hL
  have h1 := hL.2.2 _ _ hv
  exact lv_lload hC.1 hC.2.1 hd h1 (K d p e R s m args below meth c Qz hk hC hF H locs ls hH hl hL)
theorem x_aload_n {q : Fin 4} {x : Nat} (hd : decode M.2.1 pc = .ok (.aload_n q, 1)) (hv : zg lv q.val = some (.ref x)) (K : zEx G M k mc ms (pc + 1) lv (.ref x :: st) h n u Q) : zEx G M k mc ms pc lv st h n u Q := by
  intro d p e R s m args below meth c Qz hk hC hF H locs ls hH hl hL
  exact lv_aload_n hC.1 hC.2.1 hd rfl (hL.2.2 _ _ hv) (K d p e R s m args below meth c Qz hk hC hF H locs ls hH hl hL)
theorem x_aload {i : Nat} {x : Nat} (hd : decode M.2.1 pc = .ok (.aload i, 2)) (hv : zg lv i = some (.ref x)) (K : zEx G M k mc ms (pc + 2) lv (.ref x :: st) h n u Q) : zEx G M k mc ms pc lv st h n u Q := by
  intro d p e R s m args below meth c Qz hk hC hF H locs ls hH hl hL
  exact lv_aload hC.1 hC.2.1 hd (hL.2.2 _ _ hv) (K d p e R s m args below meth c Qz hk hC hF H locs ls hH hl hL)
-- stores
theorem x_istore_n {q : Fin 4} {x : Int32} {lv' : List (Option Value)} (hd : decode M.2.1 pc = .ok (.istore_n q, 1)) (hn : q.val < M.2.2.1) (ho : zok lv q.val = true) (he : zset lv q.val (some (.int x)) = lv') (K : zEx G M k mc ms (pc + 1) lv' st h n u Q) : zEx G M k mc ms pc lv (.int x :: st) h n u Q := by
  intro d p e R s m args below meth c Qz hk hC hF H locs ls hH hl hL
  exact lv_istore_n hC.1 hC.2.1 hd rfl hL.kit hn rfl (fun ls' hL' => K d p e R s m args below meth c Qz hk hC hF H locs ls' hH hl (he ▸ zL.store ho hL'))
theorem x_istore {i : Nat} {x : Int32} {lv' : List (Option Value)} (hd : decode M.2.1 pc = .ok (.istore i, 2)) (hn : i < M.2.2.1) (ho : zok lv i = true) (he : zset lv i (some (.int x)) = lv') (K : zEx G M k mc ms (pc + 2) lv' st h n u Q) : zEx G M k mc ms pc lv (.int x :: st) h n u Q := by
  intro d p e R s m args below meth c Qz hk hC hF H locs ls hH hl hL
  exact lv_istore hC.1 hC.2.1 hd hL.kit hn rfl (fun ls' hL' => K d p e R s m args below meth c Qz hk hC hF H locs ls' hH hl (he ▸ zL.store ho hL'))
theorem x_lstore_n {q : Fin 4} {x : Int64} {lv' : List (Option Value)} (hd : decode M.2.1 pc = .ok (.lstore_n q, 1)) (hn : q.val + 1 < M.2.2.1) (ho : zok lv q.val = true) (he : zset (zset lv q.val (some (.long x))) (q.val + 1) none = lv') (K : zEx G M k mc ms (pc + 1) lv' st h n u Q) : zEx G M k mc ms pc lv (.long x :: st) h n u Q := by
  intro d p e R s m args below meth c Qz hk hC hF H locs ls hH hl hL
  exact lv_lstore_n hC.1 hC.2.1 hd rfl hL.kit hn rfl (fun ls' hL' => K d p e R s m args below meth c Qz hk hC hF H locs ls' hH hl (he ▸ zL.store2 ho hL'))
theorem x_lstore {i : Nat} {x : Int64} {lv' : List (Option Value)} (hd : decode M.2.1 pc = .ok (.lstore i, 2)) (hn : i + 1 < M.2.2.1) (ho : zok lv i = true) (he : zset (zset lv i (some (.long x))) (i + 1) none = lv') (K : zEx G M k mc ms (pc + 2) lv' st h n u Q) : zEx G M k mc ms pc lv (.long x :: st) h n u Q := by
  intro d p e R s m args below meth c Qz hk hC hF H locs ls hH hl hL
  exact lv_lstore hC.1 hC.2.1 hd hL.kit hn rfl (fun ls' hL' => K d p e R s m args below meth c Qz hk hC hF H locs ls' hH hl (he ▸ zL.store2 ho hL'))
theorem x_astore_n {q : Fin 4} {x : Nat} {lv' : List (Option Value)} (hd : decode M.2.1 pc = .ok (.astore_n q, 1)) (hn : q.val < M.2.2.1) (ho : zok lv q.val = true) (he : zset lv q.val (some (.ref x)) = lv') (K : zEx G M k mc ms (pc + 1) lv' st h n u Q) : zEx G M k mc ms pc lv (.ref x :: st) h n u Q := by
  intro d p e R s m args below meth c Qz hk hC hF H locs ls hH hl hL
  exact lv_astore_n hC.1 hC.2.1 hd rfl hL.kit hn rfl (fun ls' hL' => K d p e R s m args below meth c Qz hk hC hF H locs ls' hH hl (he ▸ zL.store ho hL'))
theorem x_astore {i : Nat} {x : Nat} {lv' : List (Option Value)} (hd : decode M.2.1 pc = .ok (.astore i, 2)) (hn : i < M.2.2.1) (ho : zok lv i = true) (he : zset lv i (some (.ref x)) = lv') (K : zEx G M k mc ms (pc + 2) lv' st h n u Q) : zEx G M k mc ms pc lv (.ref x :: st) h n u Q := by
  intro d p e R s m args below meth c Qz hk hC hF H locs ls hH hl hL
  exact lv_astore hC.1 hC.2.1 hd hL.kit hn rfl (fun ls' hL' => K d p e R s m args below meth c Qz hk hC hF H locs ls' hH hl (he ▸ zL.store ho hL'))
theorem x_iinc {i : Nat} {z : Int} {x v : Int32} {lv' : List (Option Value)} (hd : decode M.2.1 pc = .ok (.iinc i z, 3)) (hn : i < M.2.2.1) (hv : zg lv i = some (.int x)) (hz : x + Int32.ofInt z = v) (ho : zok lv i = true) (he : zset lv i (some (.int v)) = lv') (K : zEx G M k mc ms (pc + 3) lv' st h n u Q) : zEx G M k mc ms pc lv st h n u Q := by
  intro d p e R s m args below meth c Qz hk hC hF H locs ls hH hl hL
  obtain ⟨kk, hkk⟩ := List.getElem?_of_mem ((zas_mem (q := (i, Value.int x)) lv 0).mpr ⟨i, by simp, hv⟩)
  exact lv_iinc hC.1 hC.2.1 hd hL.kit hkk hz hn rfl (fun ls' hL' => K d p e R s m args below meth c Qz hk hC hF H locs ls' hH hl (he ▸ zL.store ho hL'))
-- returns
theorem x_ret {r : Option Value} (hq : Q r h n) (hr : zRet M pc r) (hu : u.1 ≤ mc ∧ u.2 ≤ ms) : zEx G M k mc ms pc lv r.toList h n u Q := by
  intro d p e R s m args below meth c Qz hk hC hF H locs ls hH hl hL
  exact hF r h n H locs ls u.1 u.2 pc hq hH hl hu.1 hu.2 hr
theorem x_iret {v : Int32} {ty : FieldType} (hd : decode M.2.1 pc = .ok (.ireturn, 1)) (hty : M.2.2.2 = some ty) (hn : narrow ty (.int v) = .int v) (hu : u.1 ≤ mc ∧ u.2 ≤ ms) (hq : Q (some (.int v)) h n) : zEx G M k mc ms pc lv [.int v] h n u Q := x_ret (r := some (.int v)) hq ⟨⟨ty, hty, hn⟩, hd⟩ hu
theorem x_lret {v : Int64} (hd : decode M.2.1 pc = .ok (.lreturn, 1)) (hty : M.2.2.2 = some .long) (hu : u.1 ≤ mc ∧ u.2 ≤ ms) (hq : Q (some (.long v)) h n) : zEx G M k mc ms pc lv [.long v] h n u Q := x_ret (r := some (.long v)) hq ⟨hty, hd⟩ hu
theorem x_vret (hd : decode M.2.1 pc = .ok (.return_, 1)) (hty : M.2.2.2 = none) (hu : u.1 ≤ mc ∧ u.2 ≤ ms) (hq : Q none h n) : zEx G M k mc ms pc lv [] h n u Q := x_ret (r := none) hq ⟨hty, hd⟩ hu
theorem x_aret {v : Nat} {nm : String} (hd : decode M.2.1 pc = .ok (.areturn, 1)) (hty : M.2.2.2 = some (.object nm)) (hu : u.1 ≤ mc ∧ u.2 ≤ ms) (hq : Q (some (.ref v)) h n) : zEx G M k mc ms pc lv [.ref v] h n u Q := x_ret (r := some (.ref v)) hq ⟨⟨nm, hty⟩, hd⟩ hu
end ZR
end
section
section ZS
variable {G : zG} {M : zM} {k mc ms pc n : Nat} {lv : List (Option Value)} {st : List Value} {h : zF} {u : Nat × Nat} {Q : zQ}
theorem x_iadd {x y : Int32} (hdg : decode M.2.1 pc = .ok (.iadd, 1)) (K : zEx G M k mc ms (pc + 1) lv (.int (x + y) :: st) h n u Q) : zEx G M k mc ms pc lv (.int y :: .int x :: st) h n u Q := zEx.lift (fun hx hb q => lv_iadd hx hb hdg q) K
theorem x_isub {x y : Int32} (hdg : decode M.2.1 pc = .ok (.isub, 1)) (K : zEx G M k mc ms (pc + 1) lv (.int (x - y) :: st) h n u Q) : zEx G M k mc ms pc lv (.int y :: .int x :: st) h n u Q := zEx.lift (fun hx hb q => lv_isub hx hb hdg q) K
theorem x_imul {x y : Int32} (hdg : decode M.2.1 pc = .ok (.imul, 1)) (K : zEx G M k mc ms (pc + 1) lv (.int (x * y) :: st) h n u Q) : zEx G M k mc ms pc lv (.int y :: .int x :: st) h n u Q := zEx.lift (fun hx hb q => lv_imul hx hb hdg q) K
theorem x_iand {x y : Int32} (hdg : decode M.2.1 pc = .ok (.iand, 1)) (K : zEx G M k mc ms (pc + 1) lv (.int (x &&& y) :: st) h n u Q) : zEx G M k mc ms pc lv (.int y :: .int x :: st) h n u Q := zEx.lift (fun hx hb q => lv_iand hx hb hdg q) K
theorem x_ior {x y : Int32} (hdg : decode M.2.1 pc = .ok (.ior, 1)) (K : zEx G M k mc ms (pc + 1) lv (.int (x ||| y) :: st) h n u Q) : zEx G M k mc ms pc lv (.int y :: .int x :: st) h n u Q := zEx.lift (fun hx hb q => lv_ior hx hb hdg q) K
theorem x_ixor {x y : Int32} (hdg : decode M.2.1 pc = .ok (.ixor, 1)) (K : zEx G M k mc ms (pc + 1) lv (.int (x ^^^ y) :: st) h n u Q) : zEx G M k mc ms pc lv (.int y :: .int x :: st) h n u Q := zEx.lift (fun hx hb q => lv_ixor hx hb hdg q) K
theorem x_idiv {x y : Int32} (hdg : decode M.2.1 pc = .ok (.idiv, 1)) (hne : ¬ y = 0) (K : zEx G M k mc ms (pc + 1) lv (.int (x / y) :: st) h n u Q) : zEx G M k mc ms pc lv (.int y :: .int x :: st) h n u Q := zEx.lift (fun hx hb q => lv_idiv hx hb hdg hne q) K
theorem x_irem {x y : Int32} (hdg : decode M.2.1 pc = .ok (.irem, 1)) (hne : ¬ y = 0) (K : zEx G M k mc ms (pc + 1) lv (.int (x - x / y * y) :: st) h n u Q) : zEx G M k mc ms pc lv (.int y :: .int x :: st) h n u Q := zEx.lift (fun hx hb q => lv_irem hx hb hdg hne q) K
theorem x_ineg {x : Int32} (hdg : decode M.2.1 pc = .ok (.ineg, 1)) (K : zEx G M k mc ms (pc + 1) lv (.int (-x) :: st) h n u Q) : zEx G M k mc ms pc lv (.int x :: st) h n u Q := zEx.lift (fun hx hb q => lv_ineg hx hb hdg q) K
theorem x_ladd {x y : Int64} (hdg : decode M.2.1 pc = .ok (.ladd, 1)) (K : zEx G M k mc ms (pc + 1) lv (.long (x + y) :: st) h n u Q) : zEx G M k mc ms pc lv (.long y :: .long x :: st) h n u Q := zEx.lift (fun hx hb q => lv_ladd hx hb hdg q) K
theorem x_lsub {x y : Int64} (hdg : decode M.2.1 pc = .ok (.lsub, 1)) (K : zEx G M k mc ms (pc + 1) lv (.long (x - y) :: st) h n u Q) : zEx G M k mc ms pc lv (.long y :: .long x :: st) h n u Q := zEx.lift (fun hx hb q => lv_lsub hx hb hdg q) K
theorem x_lmul {x y : Int64} (hdg : decode M.2.1 pc = .ok (.lmul, 1)) (K : zEx G M k mc ms (pc + 1) lv (.long (x * y) :: st) h n u Q) : zEx G M k mc ms pc lv (.long y :: .long x :: st) h n u Q := zEx.lift (fun hx hb q => lv_lmul hx hb hdg q) K
theorem x_ldiv {x y : Int64} (hdg : decode M.2.1 pc = .ok (.ldiv, 1)) (hne : ¬ y = 0) (K : zEx G M k mc ms (pc + 1) lv (.long (x / y) :: st) h n u Q) : zEx G M k mc ms pc lv (.long y :: .long x :: st) h n u Q := zEx.lift (fun hx hb q => lv_ldiv hx hb hdg hne q) K
theorem x_lrem {x y : Int64} (hdg : decode M.2.1 pc = .ok (.lrem, 1)) (hne : ¬ y = 0) (K : zEx G M k mc ms (pc + 1) lv (.long (x - x / y * y) :: st) h n u Q) : zEx G M k mc ms pc lv (.long y :: .long x :: st) h n u Q := zEx.lift (fun hx hb q => lv_lrem hx hb hdg hne q) K
theorem x_ishl {x y : Int32} (hdg : decode M.2.1 pc = .ok (.ishl, 1)) (K : zEx G M k mc ms (pc + 1) lv (.int (x <<< (y &&& 31)) :: st) h n u Q) : zEx G M k mc ms pc lv (.int y :: .int x :: st) h n u Q := zEx.lift (fun hx hb q => lv_ishl hx hb hdg q) K
theorem x_ishr {x y : Int32} (hdg : decode M.2.1 pc = .ok (.ishr, 1)) (K : zEx G M k mc ms (pc + 1) lv (.int (x >>> (y &&& 31)) :: st) h n u Q) : zEx G M k mc ms pc lv (.int y :: .int x :: st) h n u Q := zEx.lift (fun hx hb q => lv_ishr hx hb hdg q) K
theorem x_i2l {x : Int32} {v : Int64} (hdg : decode M.2.1 pc = .ok (.i2l, 1)) (hv : x.toInt64 = v) (K : zEx G M k mc ms (pc + 1) lv (.long v :: st) h n u Q) : zEx G M k mc ms pc lv (.int x :: st) h n u Q := zEx.lift (fun hx hb q => lv_i2l hx hb hdg hv q) K
theorem x_l2i {x : Int64} {v : Int32} (hdg : decode M.2.1 pc = .ok (.l2i, 1)) (hv : x.toInt32 = v) (K : zEx G M k mc ms (pc + 1) lv (.int v :: st) h n u Q) : zEx G M k mc ms pc lv (.long x :: st) h n u Q := zEx.lift (fun hx hb q => lv_l2i hx hb hdg hv q) K
theorem x_i2c {x : Int32} {v : Int32} (hdg : decode M.2.1 pc = .ok (.i2c, 1)) (hv : (x.toUInt32 % 65536).toInt32 = v) (K : zEx G M k mc ms (pc + 1) lv (.int v :: st) h n u Q) : zEx G M k mc ms pc lv (.int x :: st) h n u Q := zEx.lift (fun hx hb q => lv_i2c hx hb hdg hv q) K
theorem x_iushr {x y v : Int32} (hdg : decode M.2.1 pc = .ok (.iushr, 1)) (hv : (x.toUInt32 >>> (y.toUInt32 &&& Int32.toUInt32 31)).toInt32 = v) (K : zEx G M k mc ms (pc + 1) lv (.int v :: st) h n u Q) : zEx G M k mc ms pc lv (.int y :: .int x :: st) h n u Q := zEx.lift (fun hx hb q => lv_iushr hx hb hdg hv q) K
theorem x_dup {va : Value} (hdg : decode M.2.1 pc = .ok (.dup, 1)) (hva : va.category = 1) (K : zEx G M k mc ms (pc + 1) lv (va :: va :: st) h n u Q) : zEx G M k mc ms pc lv (va :: st) h n u Q := zEx.lift (fun hx hb q => lv_dup hx hb hdg hva q) K
theorem x_pop {va : Value} (hdg : decode M.2.1 pc = .ok (.pop, 1)) (hva : va.category = 1) (K : zEx G M k mc ms (pc + 1) lv (st) h n u Q) : zEx G M k mc ms pc lv (va :: st) h n u Q := zEx.lift (fun hx hb q => lv_pop hx hb hdg hva q) K
theorem x_dup2_11 {va vb : Value} (hdg : decode M.2.1 pc = .ok (.dup2, 1)) (hva : va.category = 1) (hvb : vb.category = 1) (K : zEx G M k mc ms (pc + 1) lv (va :: vb :: va :: vb :: st) h n u Q) : zEx G M k mc ms pc lv (va :: vb :: st) h n u Q := zEx.lift (fun hx hb q => lv_dup2_11 hx hb hdg hva hvb q) K
theorem x_goto {off : Int} {tgt : Nat} (hdg : decode M.2.1 pc = .ok (.goto off, 3)) (ht : (pc : Int) + off = (tgt : Int)) (K : zEx G M k mc ms tgt lv (st) h n u Q) : zEx G M k mc ms pc lv (st) h n u Q := zEx.lift (fun hx hb q => lv_goto hx hb hdg ht q) K
theorem x_null (hdg : decode M.2.1 pc = .ok (.aconst_null, 1)) (K : zEx G M k mc ms (pc + 1) lv (.null :: st) h n u Q) : zEx G M k mc ms pc lv (st) h n u Q := zEx.lift (fun hx hb q => lv_null hx hb hdg q) K
theorem x_ifnull {x : Nat} {off : Int} (hdg : decode M.2.1 pc = .ok (.ifnull off, 3)) (K : zEx G M k mc ms (pc + 3) lv (st) h n u Q) : zEx G M k mc ms pc lv (.ref x :: st) h n u Q := zEx.lift (fun hx hb q => lv_ifnull hx hb hdg q) K
theorem x_ifnonnull {x : Nat} {off : Int} {tgt : Nat} (hdg : decode M.2.1 pc = .ok (.ifnonnull off, 3)) (ht : (pc : Int) + off = (tgt : Int)) (K : zEx G M k mc ms tgt lv (st) h n u Q) : zEx G M k mc ms pc lv (.ref x :: st) h n u Q := zEx.lift (fun hx hb q => lv_ifnonnull hx hb hdg ht q) K
theorem x_ifnullN {off : Int} {tgt : Nat} (hdg : decode M.2.1 pc = .ok (.ifnull off, 3)) (ht : (pc : Int) + off = (tgt : Int)) (K : zEx G M k mc ms tgt lv (st) h n u Q) : zEx G M k mc ms pc lv (.null :: st) h n u Q := zEx.lift (fun hx hb q => lv_ifnullN hx hb hdg ht q) K
theorem x_ifnonnullN {off : Int} (hdg : decode M.2.1 pc = .ok (.ifnonnull off, 3)) (K : zEx G M k mc ms (pc + 3) lv (st) h n u Q) : zEx G M k mc ms pc lv (.null :: st) h n u Q := zEx.lift (fun hx hb q => lv_ifnonnullN hx hb hdg q) K
theorem x_lcmp {x y : Int64} (hdg : decode M.2.1 pc = .ok (.lcmp, 1)) (K : zEx G M k mc ms (pc + 1) lv (.int (lg_cmp x y) :: st) h n u Q) : zEx G M k mc ms pc lv (.long y :: .long x :: st) h n u Q := zEx.lift (fun hx hb q => W.lcmp hx hb hdg q) K
theorem x_tableOut {dflt lo hi : Int} {offs : Array Int} {len : Nat} {x : Int32} {tgt : Nat} (hdg : decode M.2.1 pc = .ok (.tableswitch dflt lo hi offs, len)) (hh : x.toInt < lo ∨ hi < x.toInt) (ht : (pc : Int) + dflt = (tgt : Int)) (K : zEx G M k mc ms tgt lv (st) h n u Q) : zEx G M k mc ms pc lv (.int x :: st) h n u Q := zEx.lift (fun hx hb q => lv_tableOut hx hb hdg hh ht q) K
theorem x_tableIn {dflt lo hi : Int} {offs : Array Int} {len : Nat} {x : Int32} {off : Int} {tgt : Nat} (hdg : decode M.2.1 pc = .ok (.tableswitch dflt lo hi offs, len)) (h1 : ¬ x.toInt < lo) (h2 : ¬ hi < x.toInt) (ho : offs[(x.toInt - lo).toNat]? = some off) (ht : (pc : Int) + off = (tgt : Int)) (K : zEx G M k mc ms tgt lv (st) h n u Q) : zEx G M k mc ms pc lv (.int x :: st) h n u Q := zEx.lift (fun hx hb q => lv_tableIn hx hb hdg h1 h2 ho ht q) K
theorem x_lookup {dflt : Int} {ps : Array (Int × Int)} {len : Nat} {x : Int32} {off : Int} {tgt : Nat} (hdg : decode M.2.1 pc = .ok (.lookupswitch dflt ps, len)) (hp : (ps.toList.zip (ps.toList.drop 1)).all (fun (a, next) => a.1 < next.1) = true) (ho : Op.lookupswitch.offset ps.toList dflt x.toInt = off) (ht : (pc : Int) + off = (tgt : Int)) (K : zEx G M k mc ms tgt lv (st) h n u Q) : zEx G M k mc ms pc lv (.int x :: st) h n u Q := zEx.lift (fun hx hb q => lv_lookup hx hb hdg hp ho ht q) K
theorem x_if_eq {x : Int32} {off : Int} {tgt : Nat} (hdg : decode M.2.1 pc = .ok (.ifCond .eq off, 3)) (ht : (pc : Int) + off = (tgt : Int)) (K1 : x = 0 → zEx G M k mc ms tgt lv (st) h n u Q) (K2 : ¬ x = 0 → zEx G M k mc ms (pc + 3) lv (st) h n u Q) : zEx G M k mc ms pc lv (.int x :: st) h n u Q := zEx.lift2 (fun hx hb q1 q2 => lv_if_eq hx hb hdg ht q1 q2) K1 K2
theorem x_icmp_eq {x y : Int32} {off : Int} {tgt : Nat} (hdg : decode M.2.1 pc = .ok (.if_icmp .eq off, 3)) (ht : (pc : Int) + off = (tgt : Int)) (K1 : x = y → zEx G M k mc ms tgt lv (st) h n u Q) (K2 : ¬ x = y → zEx G M k mc ms (pc + 3) lv (st) h n u Q) : zEx G M k mc ms pc lv (.int y :: .int x :: st) h n u Q := zEx.lift2 (fun hx hb q1 q2 => lv_icmp_eq hx hb hdg ht q1 q2) K1 K2
theorem x_if_ne {x : Int32} {off : Int} {tgt : Nat} (hdg : decode M.2.1 pc = .ok (.ifCond .ne off, 3)) (ht : (pc : Int) + off = (tgt : Int)) (K1 : ¬ x = 0 → zEx G M k mc ms tgt lv (st) h n u Q) (K2 : x = 0 → zEx G M k mc ms (pc + 3) lv (st) h n u Q) : zEx G M k mc ms pc lv (.int x :: st) h n u Q := zEx.lift2 (fun hx hb q1 q2 => lv_if_ne hx hb hdg ht q1 q2) K1 K2
theorem x_icmp_ne {x y : Int32} {off : Int} {tgt : Nat} (hdg : decode M.2.1 pc = .ok (.if_icmp .ne off, 3)) (ht : (pc : Int) + off = (tgt : Int)) (K1 : ¬ x = y → zEx G M k mc ms tgt lv (st) h n u Q) (K2 : x = y → zEx G M k mc ms (pc + 3) lv (st) h n u Q) : zEx G M k mc ms pc lv (.int y :: .int x :: st) h n u Q := zEx.lift2 (fun hx hb q1 q2 => lv_icmp_ne hx hb hdg ht q1 q2) K1 K2
theorem x_if_lt {x : Int32} {off : Int} {tgt : Nat} (hdg : decode M.2.1 pc = .ok (.ifCond .lt off, 3)) (ht : (pc : Int) + off = (tgt : Int)) (K1 : x < 0 → zEx G M k mc ms tgt lv (st) h n u Q) (K2 : ¬ x < 0 → zEx G M k mc ms (pc + 3) lv (st) h n u Q) : zEx G M k mc ms pc lv (.int x :: st) h n u Q := zEx.lift2 (fun hx hb q1 q2 => lv_if_lt hx hb hdg ht q1 q2) K1 K2
theorem x_icmp_lt {x y : Int32} {off : Int} {tgt : Nat} (hdg : decode M.2.1 pc = .ok (.if_icmp .lt off, 3)) (ht : (pc : Int) + off = (tgt : Int)) (K1 : x < y → zEx G M k mc ms tgt lv (st) h n u Q) (K2 : ¬ x < y → zEx G M k mc ms (pc + 3) lv (st) h n u Q) : zEx G M k mc ms pc lv (.int y :: .int x :: st) h n u Q := zEx.lift2 (fun hx hb q1 q2 => lv_icmp_lt hx hb hdg ht q1 q2) K1 K2
theorem x_if_ge {x : Int32} {off : Int} {tgt : Nat} (hdg : decode M.2.1 pc = .ok (.ifCond .ge off, 3)) (ht : (pc : Int) + off = (tgt : Int)) (K1 : 0 ≤ x → zEx G M k mc ms tgt lv (st) h n u Q) (K2 : ¬ 0 ≤ x → zEx G M k mc ms (pc + 3) lv (st) h n u Q) : zEx G M k mc ms pc lv (.int x :: st) h n u Q := zEx.lift2 (fun hx hb q1 q2 => lv_if_ge hx hb hdg ht q1 q2) K1 K2
theorem x_icmp_ge {x y : Int32} {off : Int} {tgt : Nat} (hdg : decode M.2.1 pc = .ok (.if_icmp .ge off, 3)) (ht : (pc : Int) + off = (tgt : Int)) (K1 : y ≤ x → zEx G M k mc ms tgt lv (st) h n u Q) (K2 : ¬ y ≤ x → zEx G M k mc ms (pc + 3) lv (st) h n u Q) : zEx G M k mc ms pc lv (.int y :: .int x :: st) h n u Q := zEx.lift2 (fun hx hb q1 q2 => lv_icmp_ge hx hb hdg ht q1 q2) K1 K2
theorem x_if_gt {x : Int32} {off : Int} {tgt : Nat} (hdg : decode M.2.1 pc = .ok (.ifCond .gt off, 3)) (ht : (pc : Int) + off = (tgt : Int)) (K1 : 0 < x → zEx G M k mc ms tgt lv (st) h n u Q) (K2 : ¬ 0 < x → zEx G M k mc ms (pc + 3) lv (st) h n u Q) : zEx G M k mc ms pc lv (.int x :: st) h n u Q := zEx.lift2 (fun hx hb q1 q2 => lv_if_gt hx hb hdg ht q1 q2) K1 K2
theorem x_icmp_gt {x y : Int32} {off : Int} {tgt : Nat} (hdg : decode M.2.1 pc = .ok (.if_icmp .gt off, 3)) (ht : (pc : Int) + off = (tgt : Int)) (K1 : y < x → zEx G M k mc ms tgt lv (st) h n u Q) (K2 : ¬ y < x → zEx G M k mc ms (pc + 3) lv (st) h n u Q) : zEx G M k mc ms pc lv (.int y :: .int x :: st) h n u Q := zEx.lift2 (fun hx hb q1 q2 => lv_icmp_gt hx hb hdg ht q1 q2) K1 K2
theorem x_if_le {x : Int32} {off : Int} {tgt : Nat} (hdg : decode M.2.1 pc = .ok (.ifCond .le off, 3)) (ht : (pc : Int) + off = (tgt : Int)) (K1 : x ≤ 0 → zEx G M k mc ms tgt lv (st) h n u Q) (K2 : ¬ x ≤ 0 → zEx G M k mc ms (pc + 3) lv (st) h n u Q) : zEx G M k mc ms pc lv (.int x :: st) h n u Q := zEx.lift2 (fun hx hb q1 q2 => lv_if_le hx hb hdg ht q1 q2) K1 K2
theorem x_icmp_le {x y : Int32} {off : Int} {tgt : Nat} (hdg : decode M.2.1 pc = .ok (.if_icmp .le off, 3)) (ht : (pc : Int) + off = (tgt : Int)) (K1 : x ≤ y → zEx G M k mc ms tgt lv (st) h n u Q) (K2 : ¬ x ≤ y → zEx G M k mc ms (pc + 3) lv (st) h n u Q) : zEx G M k mc ms pc lv (.int y :: .int x :: st) h n u Q := zEx.lift2 (fun hx hb q1 q2 => lv_icmp_le hx hb hdg ht q1 q2) K1 K2
end ZS
end
section
section ZH
variable {G : zG} {M : zM} {k mc ms pc n : Nat} {lv : List (Option Value)} {st : List Value} {h : zF} {u : Nat × Nat} {Q : zQ}
/-- a field's link: class number ci of zCl, its field i, by the pool entry idx of the class own -/
def zFld (own : String) (idx ci i : Nat) : Prop := ∃ r : vw_C, zCl[ci]? = some r ∧ i < r.2.2 ∧ (r.2.1 i).1 = r.1 ∧ (∀ w ∈ u_ws r.1 r.2.1 r.2.2, w ∈ zTbl) ∧ (Cond.fieldLink own idx r.1 (r.2.1 i).2.1 (r.2.1 i).2.2.1 ∈ zTbl ∨ ∃ host, Cond.fieldLinkNest own idx r.1 (r.2.1 i).2.1 (r.2.1 i).2.2.1 host ∈ zNest)
/-- what a store into a field asks of the class's table -/
def zFty (ci i : Nat) (ty : FieldType) (fin : Bool) : Prop := ∀ r : vw_C, zCl[ci]? = some r → ∃ ty0 : Nat → FieldType, (∀ k, k < r.2.2 → parseFieldDescriptor (r.2.1 k).2.2.1 = some (ty0 k)) ∧ (∀ a, a < r.2.2 → ∀ b, b < r.2.2 → a ≠ b → (r.2.1 a).2.1 ≠ (r.2.1 b).2.1) ∧ parseFieldDescriptor (r.2.1 i).2.2.1 = some ty ∧ (r.2.1 i).2.2.2 = fin
theorem zP1 {G : zG} {U : State} {H : Heap} {a ci : Nat} {fs : List Value} (hz : zat G U H a (.inr (ci, fs))) : va_P G.2.1 zCl [(a, .inr (ci, fs))] H := by
  intro k0 q hq
  cases k0 with
  | zero => simp at hq; subst hq; exact hz
  | succ k0 => simp at hq
theorem x_getf {a idx ci i : Nat} {fs : List Value} {v : Value} (hd : decode M.2.1 pc = .ok (.getfield idx, 3)) (hk : zFld M.1.cls idx ci i) (hc : h a = some (.inr (ci, fs))) (hv : fs[i]? = some v) (K : zEx G M k mc ms (pc + 3) lv (v :: st) h n u Q) : zEx G M k mc ms pc lv (.ref a :: st) h n u Q := by
  intro d p e R s m args below meth c Qz hkd hC hF H locs ls hH hl hL
  obtain ⟨hx, hb, hml, hown, hts, hK, hR, hR2, hnm⟩ := id hC
  obtain ⟨⟨C, T, N⟩, h1, h2, h3, h4, h5⟩ := hk
  have hP := zP1 (hH.2.2.2 a _ hc).2.2
  have KK := K d p e R s m args below meth c Qz hkd hC hF H locs ls hH hl hL
  rcases h5 with h5 | ⟨host, h5⟩
  · exact va_get (D := G.2.1) (ci := ci) (C := C) (T := T) (N := N) (ref := C) hx hb hts h4 hown hK.1 hP 0 rfl h1 i h2 (hts _ h5) (fun x hx9 => by simp only at h3; rw [h3] at hx9; exact hx9) hv hd KK
  · exact va_getN (D := G.2.1) (ci := ci) (C := C) (T := T) (N := N) (ref := C) (host := host) hx hb hts h4 hown hK.1 hP 0 rfl h1 i h2 (va_Nw.use rfl (hK.2.1 _ h5)) (fun x hx9 => by simp only at h3; rw [h3] at hx9; exact hx9) hv hd KK
theorem x_putf {a idx ci i : Nat} {fs : List Value} {v : Value} {ty : FieldType} (hd : decode M.2.1 pc = .ok (.putfield idx, 3)) (hk : zFld M.1.cls idx ci i) (hty : zFty ci i ty false) (hc : h a = some (.inr (ci, fs))) (hn : narrow ty v = v) (hfit : fits ty v = true) (hlen : i < fs.length) (K : zEx G M k mc ms (pc + 3) lv st (va_up h a (some (.inr (ci, fs.set i v)))) n u Q) : zEx G M k mc ms pc lv (v :: .ref a :: st) h n u Q := by
  intro d p e R s m args below meth c Qz hkd hC hF H locs ls hH hl hL
  obtain ⟨hx, hb, hml, hown, hts, hK, hR, hR2, hnm⟩ := id hC
  obtain ⟨⟨C, T, N⟩, h1, h2, h3, hin, h5⟩ := hk
  obtain ⟨ty0, t1, t2, t3, t4⟩ := hty _ h1
  have hz := (hH.2.2.2 a _ hc)
  have hap := va_apart (own := M.1.cls) hts hin ty0 t1 t2 hK.1 h1
  obtain ⟨r, g1, cell, q1, q2, q3, q4⟩ := hz.2.2
  have hr : r = (C, T, N) := Option.some.inj (g1.symm.trans h1)
  subst hr
  obtain ⟨hS, hfc, kC, hkC, hkind⟩ := hK.1.1 ci _ h1
  obtain ⟨cf, kf, fi, f, hi, hsl⟩ := hS i h2
  have hlay := hts _ (hin _ (u_in_lay h2))
  unfold u_lay at hlay
  rw [if_neg (by rw [t4]; decide)] at hlay
  have hst := (u_facts hfc hkC (u_lays hts hin h2) hi).1
  have h6 := u_store hfc hkC hkind hlay hi t3 hn hfit
  have hi2 : s.fieldFound? C (T i).2.1 (T i).2.2.1 = some (cf, kf, fi, f) := by
    have : (T i).1 = C := h3
    rw [← this]; exact hi
  have fin : ∀ H' : Heap, H'[a]? = some (cell.setSlot f.slot v) → H'.size = H.size → (∀ q, q ≠ a → H'[q]? = H[q]?) → W p G.1 e R s m args below meth c H' (locs ++ [⟨a, f.slot⟩]) u.1 u.2 Qz (F0 m (pc + 3) ls st) := by
    intro H' e1 e2 e3
    refine K d p e R s m args below meth c Qz hkd hC hF H' _ ls (hH.set hc e2 e3 ?_) ?_ hL
    · rw [hsl] at e1
      exact ⟨_, h1, t_OB.to (V := updV (vp_V fs) i v) ⟨_, e1, q2, q3, t_set q4 hap h2 v⟩ (fun j _ => vp_updV_set hlen v j)⟩
    · intro q hq
      rcases List.mem_append.mp hq with hq | hq
      · exact hl q hq
      · rw [List.mem_singleton.mp hq]; exact hz.1
  rcases h5 with h5 | ⟨host, h5⟩
  · exact W.putK hx hb (f := f) ⟨hown, hts _ h5, ⟨_, _, _, hi2⟩, hst⟩ (by rw [q2]; exact h6) q1 q3 (by rw [hsl]; exact k2_hasslot (q4 i h2)) rfl rfl hd fin
  · exact va_WputK hx hb (f := f) hown (va_Nw.use rfl (hK.2.1 _ h5)) hi2 hst (by rw [q2]; exact h6) q1 q3 (by rw [hsl]; exact k2_hasslot (q4 i h2)) rfl rfl hd fin
theorem x_putF {a idx ci i : Nat} {fs : List Value} {v : Value} {ty : FieldType} (hd : decode M.2.1 pc = .ok (.putfield idx, 3)) (hk : zFld M.1.cls idx ci i) (hty : zFty ci i ty true) (hmn : M.1.name = "<init>") (hcl : ∀ r : vw_C, zCl[ci]? = some r → r.1 = M.1.cls) (hlk : ∀ r : vw_C, zCl[ci]? = some r → Cond.fieldLink M.1.cls idx r.1 (r.2.1 i).2.1 (r.2.1 i).2.2.1 ∈ zTbl) (hc : h a = some (.inr (ci, fs))) (hn : narrow ty v = v) (hfit : fits ty v = true) (hlen : i < fs.length) (K : zEx G M k mc ms (pc + 3) lv st (va_up h a (some (.inr (ci, fs.set i v)))) n u Q) : zEx G M k mc ms pc lv (v :: .ref a :: st) h n u Q := by
  intro d p e R s m args below meth c Qz hkd hC hF H locs ls hH hl hL
  obtain ⟨hx, hb, hml, hown, hts, hK, hR, hR2, hnm⟩ := id hC
  obtain ⟨⟨C, T, N⟩, h1, h2, h3, hin, h5⟩ := hk
  obtain ⟨ty0, t1, t2, t3, t4⟩ := hty _ h1
  have hz := (hH.2.2.2 a _ hc)
  have hap := va_apart (own := M.1.cls) hts hin ty0 t1 t2 hK.1 h1
  obtain ⟨r, g1, cell, q1, q2, q3, q4⟩ := hz.2.2
  have hr : r = (C, T, N) := Option.some.inj (g1.symm.trans h1)
  subst hr
  obtain ⟨hS, hfc, kC, hkC, hkind⟩ := hK.1.1 ci _ h1
  obtain ⟨cf, kf, fi, f, hi, hsl⟩ := hS i h2
  have hlay := hts _ (hin _ (u_in_lay h2))
  unfold u_lay at hlay
  rw [if_pos t4] at hlay
  have hst := (u_facts hfc hkC (u_lays hts hin h2) hi).1
  have hC9 : C = M.1.cls := hcl _ h1
  have h39 : (T i).1 = C := h3
  have hcf : m.cls = cf := by
    obtain ⟨_, _, c', _, _, _, -, -, hf', -, -, -, hown2, -⟩ := Cond.laysFinal_spec hlay
    have e1 : c' = cf := by have := hi.symm.trans hf'; simp at this; exact this.1.symm
    rw [h39, hC9] at hown2
    rw [← e1]; exact Option.some.inj (hown.symm.trans hown2)
  have h6 := u_fits hfc hkC hkind (Or.inr hlay) hi t3 hn hfit
  have hi2 : s.fieldFound? C (T i).2.1 (T i).2.2.1 = some (cf, kf, fi, f) := by
    rw [← h39]; exact hi
  refine W.putFinK hx hb hown (hts _ (hlk _ h1)) hi2 hst hcf (hnm.trans hmn) (by rw [q2]; exact h6) q1 q3 (by rw [hsl]; exact k2_hasslot (q4 i h2)) rfl rfl hd fun H' e1 e2 e3 => ?_
  refine K d p e R s m args below meth c Qz hkd hC hF H' _ ls (hH.set hc e2 e3 ?_) ?_ hL
  · rw [hsl] at e1
    exact ⟨_, h1, t_OB.to (V := updV (vp_V fs) i v) ⟨_, e1, q2, q3, t_set q4 hap h2 v⟩ (fun j _ => vp_updV_set hlen v j)⟩
  · intro q hq
    rcases List.mem_append.mp hq with hq | hq
    · exact hl q hq
    · rw [List.mem_singleton.mp hq]; exact hz.1
-- arrays
theorem zK.arr {G : zG} {U : State} {cA : ClassId} {ty : FieldType} (hK : zK G U) (hA : ArrOfT U cA ty ∧ va_RA U cA ty) : va_K G.2.1 zCl [(cA, ty)] U := ⟨hK.1.1, fun k0 q hq => by
  cases k0 with
  | zero => simp at hq; subst hq; exact hA
  | succ k0 => simp at hq⟩
theorem zPa {D : va_G} {H : Heap} {a : Nat} {cA : ClassId} {x : vp_A} (hz : H[a]? = some (vp_cell cA x)) : va_P D zCl [(a, .inl (cA, x))] H := by
  intro k0 q hq
  cases k0 with
  | zero => simp at hq; subst hq; exact hz
  | succ k0 => simp at hq
theorem x_iald {a len : Nat} {f : Nat → Int32} {i : Int32} (hd : decode M.2.1 pc = .ok (.iaload, 1)) (hc : h a = some (.inl (.int, len, .inl f))) (hi : vp_in i len) (K : zEx G M k mc ms (pc + 1) lv (.int (f i.toNatClampNeg) :: st) h n u Q) : zEx G M k mc ms pc lv (.int i :: .ref a :: st) h n u Q := by
  intro d p e R s m args below meth c Qz hkd hC hF H locs ls hH hl hL
  obtain ⟨hx, hb, hml, hown, hts, hK, hR, hR2, hnm⟩ := id hC
  obtain ⟨cA, hA, hz⟩ := (hH.2.2.2 a _ hc).2.2
  exact va_iald hx hb (hK.arr hA) (zPa hz) 0 0 rfl rfl hi hd (K d p e R s m args below meth c Qz hkd hC hF H locs ls hH hl hL)
theorem x_zald {a len : Nat} {f : Nat → Int32} {i : Int32} (hd : decode M.2.1 pc = .ok (.baload, 1)) (hc : h a = some (.inl (.boolean, len, .inl f))) (hi : vp_in i len) (K : zEx G M k mc ms (pc + 1) lv (.int (f i.toNatClampNeg) :: st) h n u Q) : zEx G M k mc ms pc lv (.int i :: .ref a :: st) h n u Q := by
  intro d p e R s m args below meth c Qz hkd hC hF H locs ls hH hl hL
  obtain ⟨hx, hb, hml, hown, hts, hK, hR, hR2, hnm⟩ := id hC
  obtain ⟨cA, hA, hz⟩ := (hH.2.2.2 a _ hc).2.2
  exact va_zald hx hb (hK.arr hA) (zPa hz) 0 0 rfl rfl hi hd (K d p e R s m args below meth c Qz hkd hC hF H locs ls hH hl hL)
theorem x_cald {a len : Nat} {f : Nat → Int32} {i : Int32} (hd : decode M.2.1 pc = .ok (.caload, 1)) (hc : h a = some (.inl (.char, len, .inl f))) (hi : vp_in i len) (K : zEx G M k mc ms (pc + 1) lv (.int (f i.toNatClampNeg) :: st) h n u Q) : zEx G M k mc ms pc lv (.int i :: .ref a :: st) h n u Q := by
  intro d p e R s m args below meth c Qz hkd hC hF H locs ls hH hl hL
  obtain ⟨hx, hb, hml, hown, hts, hK, hR, hR2, hnm⟩ := id hC
  obtain ⟨cA, hA, hz⟩ := (hH.2.2.2 a _ hc).2.2
  exact va_cald hx hb (hK.arr hA) (zPa hz) 0 0 rfl rfl hi hd (K d p e R s m args below meth c Qz hkd hC hF H locs ls hH hl hL)
theorem x_lald {a len : Nat} {f : Nat → Int64} {i : Int32} (hd : decode M.2.1 pc = .ok (.laload, 1)) (hc : h a = some (.inl (.long, len, .inr (.inl f)))) (hi : vp_in i len) (K : zEx G M k mc ms (pc + 1) lv (.long (f i.toNatClampNeg) :: st) h n u Q) : zEx G M k mc ms pc lv (.int i :: .ref a :: st) h n u Q := by
  intro d p e R s m args below meth c Qz hkd hC hF H locs ls hH hl hL
  obtain ⟨hx, hb, hml, hown, hts, hK, hR, hR2, hnm⟩ := id hC
  obtain ⟨cA, hA, hz⟩ := (hH.2.2.2 a _ hc).2.2
  exact va_lald hx hb (hK.arr hA) (zPa hz) 0 0 rfl rfl hi hd (K d p e R s m args below meth c Qz hkd hC hF H locs ls hH hl hL)
theorem x_aald {a len : Nat} {C : String} {f : Nat → Option Nat} {i : Int32} (hd : decode M.2.1 pc = .ok (.aaload, 1)) (hc : h a = some (.inl (.object C, len, .inr (.inr (.inr (.inr f)))))) (hi : vp_in i len) (K : zEx G M k mc ms (pc + 1) lv (va_rf (f i.toNatClampNeg) :: st) h n u Q) : zEx G M k mc ms pc lv (.int i :: .ref a :: st) h n u Q := by
  intro d p e R s m args below meth c Qz hkd hC hF H locs ls hH hl hL
  obtain ⟨hx, hb, hml, hown, hts, hK, hR, hR2, hnm⟩ := id hC
  obtain ⟨cA, hA, hz⟩ := (hH.2.2.2 a _ hc).2.2
  exact va_aldq hx hb (hK.arr hA) (zPa hz) 0 0 rfl rfl hi hd (K d p e R s m args below meth c Qz hkd hC hF H locs ls hH hl hL)
theorem x_alen {a : Nat} {ty : FieldType} {x : vp_A} {v : Int32} (hd : decode M.2.1 pc = .ok (.arraylength, 1)) (hc : h a = some (.inl (ty, x))) (hv : Int32.ofNat x.1 = v) (K : zEx G M k mc ms (pc + 1) lv (.int v :: st) h n u Q) : zEx G M k mc ms pc lv (.ref a :: st) h n u Q := by
  intro d p e R s m args below meth c Qz hkd hC hF H locs ls hH hl hL
  obtain ⟨hx, hb, hml, hown, hts, hK, hR, hR2, hnm⟩ := id hC
  obtain ⟨cA, hA, hz⟩ := (hH.2.2.2 a _ hc).2.2
  exact va_alen hx hb (hK.arr hA) (zPa hz) 0 0 rfl rfl hv hd (K d p e R s m args below meth c Qz hkd hC hF H locs ls hH hl hL)
theorem zlocs {G : zG} {locs : List Loc} {a i : Nat} (hl : ∀ q ∈ locs, zA G q.base) (ha : (zH0 G).size ≤ a) : ∀ q ∈ locs ++ [(⟨a, i⟩ : Loc)], zA G q.base := by
  intro q hq
  rcases List.mem_append.mp hq with hq | hq
  · exact hl q hq
  · rw [List.mem_singleton.mp hq]; exact ha
theorem zupv {α : Type} (f : Nat → α) (g : α → Value) (k : Nat) (x : α) : updV (fun j => g (f j)) k (g x) = fun j => g (va_up f k x j) := by
  funext q
  by_cases hq : q = k
  · subst hq; simp [updV, va_up]
  · simp [updV, va_up, hq]
theorem x_iast {a len : Nat} {f : Nat → Int32} {i x : Int32} (hd : decode M.2.1 pc = .ok (.iastore, 1)) (hc : h a = some (.inl (.int, len, .inl f))) (hi : vp_in i len) (K : zEx G M k mc ms (pc + 1) lv st (va_up h a (some (.inl (.int, len, .inl (va_up f i.toNatClampNeg x))))) n u Q) : zEx G M k mc ms pc lv (.int x :: .int i :: .ref a :: st) h n u Q := by
  intro d p e R s m args below meth c Qz hkd hC hF H locs ls hH hl hL
  obtain ⟨hx, hb, hml, hown, hts, hK, hR, hR2, hnm⟩ := id hC
  have h0 := hH.2.2.2 a _ hc
  obtain ⟨cA, hA, hz⟩ := h0.2.2
  refine W.iast hx hb hz (hA.1 len (fun j => .int (f j))) (fun q => by cases q) (by show ¬ (i < 0 ∨ (arrV _ _ _).slots.size ≤ _); rw [arrV_size]; exact hi) rfl rfl hd fun H1 e1 z oq => ?_
  refine K d p e R s m args below meth c Qz hkd hC hF H1 _ ls (hH.set hc z oq ⟨cA, hA, ?_⟩) (zlocs hl h0.1) hL
  rw [e1]
  dsimp only
  rw [vp_cell_i, vp_cell_i, arrV_store, zupv f (fun x => Value.int x)]
theorem x_zast {a len : Nat} {f : Nat → Int32} {i x : Int32} (hd : decode M.2.1 pc = .ok (.bastore, 1)) (hc : h a = some (.inl (.boolean, len, .inl f))) (hi : vp_in i len) (hn : narrow .boolean (.int x) = .int x) (K : zEx G M k mc ms (pc + 1) lv st (va_up h a (some (.inl (.boolean, len, .inl (va_up f i.toNatClampNeg x))))) n u Q) : zEx G M k mc ms pc lv (.int x :: .int i :: .ref a :: st) h n u Q := by
  intro d p e R s m args below meth c Qz hkd hC hF H locs ls hH hl hL
  obtain ⟨hx, hb, hml, hown, hts, hK, hR, hR2, hnm⟩ := id hC
  have h0 := hH.2.2.2 a _ hc
  obtain ⟨cA, hA, hz⟩ := h0.2.2
  refine W.zast hx hb hz (hA.1 len (fun j => .int (f j))) (fun q => by cases q) (by show ¬ (i < 0 ∨ (arrV _ _ _).slots.size ≤ _); rw [arrV_size]; exact hi) rfl rfl hd fun H1 e1 z oq => ?_
  refine K d p e R s m args below meth c Qz hkd hC hF H1 _ ls (hH.set hc z oq ⟨cA, hA, ?_⟩) (zlocs hl h0.1) hL
  rw [e1, hn]
  dsimp only
  rw [vp_cell_i, vp_cell_i, arrV_store, zupv f (fun x => Value.int x)]
theorem x_cast {a len : Nat} {f : Nat → Int32} {i x : Int32} (hd : decode M.2.1 pc = .ok (.castore, 1)) (hc : h a = some (.inl (.char, len, .inl f))) (hi : vp_in i len) (hn : narrow .char (.int x) = .int x) (K : zEx G M k mc ms (pc + 1) lv st (va_up h a (some (.inl (.char, len, .inl (va_up f i.toNatClampNeg x))))) n u Q) : zEx G M k mc ms pc lv (.int x :: .int i :: .ref a :: st) h n u Q := by
  intro d p e R s m args below meth c Qz hkd hC hF H locs ls hH hl hL
  obtain ⟨hx, hb, hml, hown, hts, hK, hR, hR2, hnm⟩ := id hC
  have h0 := hH.2.2.2 a _ hc
  obtain ⟨cA, hA, hz⟩ := h0.2.2
  refine W.cast hx hb hz (hA.1 len (fun j => .int (f j))) (fun q => by cases q) (by show ¬ (i < 0 ∨ (arrV _ _ _).slots.size ≤ _); rw [arrV_size]; exact hi) rfl rfl hd fun H1 e1 z oq => ?_
  refine K d p e R s m args below meth c Qz hkd hC hF H1 _ ls (hH.set hc z oq ⟨cA, hA, ?_⟩) (zlocs hl h0.1) hL
  rw [e1, hn]
  dsimp only
  rw [vp_cell_i, vp_cell_i, arrV_store, zupv f (fun x => Value.int x)]
theorem x_last {a len : Nat} {f : Nat → Int64} {i : Int32} {x : Int64} (hd : decode M.2.1 pc = .ok (.lastore, 1)) (hc : h a = some (.inl (.long, len, .inr (.inl f)))) (hi : vp_in i len) (K : zEx G M k mc ms (pc + 1) lv st (va_up h a (some (.inl (.long, len, .inr (.inl (va_up f i.toNatClampNeg x)))))) n u Q) : zEx G M k mc ms pc lv (.long x :: .int i :: .ref a :: st) h n u Q := by
  intro d p e R s m args below meth c Qz hkd hC hF H locs ls hH hl hL
  obtain ⟨hx, hb, hml, hown, hts, hK, hR, hR2, hnm⟩ := id hC
  have h0 := hH.2.2.2 a _ hc
  obtain ⟨cA, hA, hz⟩ := h0.2.2
  refine W.last hx hb hz (hA.1 len (fun j => .long (f j))) (fun q => by cases q) (by show ¬ (i < 0 ∨ (arrV _ _ _).slots.size ≤ _); rw [arrV_size]; exact hi) rfl rfl hd fun H1 e1 z oq => ?_
  refine K d p e R s m args below meth c Qz hkd hC hF H1 _ ls (hH.set hc z oq ⟨cA, hA, ?_⟩) (zlocs hl h0.1) hL
  rw [e1]
  dsimp only
  rw [vp_cell_l, vp_cell_l, arrV_store, zupv f (fun x => Value.long x)]
theorem x_aast {a len ci v : Nat} {C : String} {vs : List Value} {r : vw_C} {f : Nat → Option Nat} {i : Int32} (hd : decode M.2.1 pc = .ok (.aastore, 1)) (hc : h a = some (.inl (.object C, len, .inr (.inr (.inr (.inr f)))))) (hvc : h v = some (.inr (ci, vs))) (hr : zCl[ci]? = some r) (hC : r.1 = C) (hi : vp_in i len) (K : zEx G M k mc ms (pc + 1) lv st (va_up h a (some (.inl (.object C, len, .inr (.inr (.inr (.inr (va_up f i.toNatClampNeg (some v))))))))) n u Q) : zEx G M k mc ms pc lv (.ref v :: .int i :: .ref a :: st) h n u Q := by
  intro d p e R s m args below meth c Qz hkd hCx hF H locs ls hH hl hL
  obtain ⟨hx, hb, hml, hown, hts, hK, hR, hR2, hnm⟩ := id hCx
  subst hC
  have h0 := hH.2.2.2 a _ hc
  obtain ⟨cA, hA, hz⟩ := h0.2.2
  have hlt : i.toNatClampNeg < len := Nat.not_le.mp fun q => hi (Or.inr q)
  have h00 : ¬ i < 0 := fun q => hi (Or.inl q)
  obtain ⟨r', hr', cellV, g1, g2, g3, -⟩ := (hH.2.2.2 v _ hvc).2.2
  have hcls := (hK.1.1 ci r hr).2
  obtain ⟨kA, comp, k1, k2, k3, -⟩ := hA.2
  have hcomp : comp = G.2.1.1 ci := Option.some.inj (k3.symm.trans hcls.1)
  subst hcomp
  obtain ⟨kC, hkC, -⟩ := hcls.2
  refine W.aast hx hb hz (fun q h => by cases h) (fun h => by cases h) k1 k2 rfl hkC ⟨h00, by show _ < (arrV _ _ _).slots.size; rw [arrV_size]; exact hlt⟩ g1 (fun q h => by rw [g3] at h; cases h) (by rw [g2]; exact hkC) (by rw [g2]; exact va_assign hcls) rfl rfl hd fun H1 e1 z oq => ?_
  refine K d p e R s m args below meth c Qz hkd hCx hF H1 _ ls (hH.set hc z oq ⟨cA, hA, ?_⟩) (zlocs hl h0.1) hL
  rw [e1]
  dsimp only
  rw [vp_cell_q, vp_cell_q, arrV_store, ← zupv f va_rf]
  rfl
end ZH
end
section
section ZN
variable {G : zG} {M : zM} {k mc ms pc n : Nat} {lv : List (Option Value)} {st : List Value} {h : zF} {u : Nat × Nat} {Q : zQ}
-- new cells
theorem x_new {idx ci : Nat} {r : vw_C} {fs : List Value} (hd : decode M.2.1 pc = .ok (.new idx, 3)) (hr : zCl[ci]? = some r) (hin : ∀ w ∈ u_ws r.1 r.2.1 r.2.2, w ∈ zTbl) (hw : Cond.classLink M.1.cls idx r.1 ∈ zTbl ∧ Cond.instantiable r.1 r.2.2 ∈ zTbl ∧ Cond.initialized r.1 ∈ zTbl) (ty : Nat → FieldType) (hty : ∀ k, k < r.2.2 → parseFieldDescriptor (r.2.1 k).2.2.1 = some (ty k)) (hfs : ∀ j, j < r.2.2 → defaultValue (ty j) = vp_V fs j) (hu : u.1 + 1 ≤ mc ∧ u.2 + r.2.2 ≤ ms) (K : zEx G M k mc ms (pc + 3) lv (.ref n :: st) (va_up h n (some (.inr (ci, fs)))) (n + 1) (u.1 + 1, u.2 + r.2.2) Q) : zEx G M k mc ms pc lv st h n u Q := by
  intro d p e R s m args below meth c Qz hkd hC hF H locs ls hH hl hL
  obtain ⟨hx, hb, hml, hown, hts, hK, hR, hR2, hnm⟩ := id hC
  obtain ⟨C, T, N⟩ := r
  have hKn := hK.1.1 ci _ hr
  refine W.newcK hx hb hown (hts _ hw.1) (hts _ hw.2.1) (hts _ hw.2.2) rfl hd (Nat.le_trans hu.1 hR2.1) (Nat.le_trans hu.2 hR2.2) hKn.2.1 hH.1 fun H1 kC hkC e1 z1 o1 => ?_
  exact K d p e R s m args below meth c Qz hkd hC hF H1 locs ls (hH.push z1 o1 ⟨_, hr, (u_born ty hts hin hKn hkC e1 hty).to hfs⟩) hl hL
theorem x_newa {at0 : ArrayType} {ty : FieldType} {i : Int32} {N : Nat} {a0 : vp_A} (hd : decode M.2.1 pc = .ok (.newarray at0, 2)) (hty : newarray.typeOf at0 = ty) (hw : Cond.arrayClass ty ∈ zTbl) (ha : ∀ cA : ClassId, vp_cell cA a0 = arrV cA N (fun _ => defaultValue ty)) (hn : ¬ i < 0) (hN : i.toNatClampNeg = N) (hbytes : N * componentBytes ty ≤ 536870912) (hu : u.1 + 1 ≤ mc ∧ u.2 + N ≤ ms) (K : zEx G M k mc ms (pc + 2) lv (.ref n :: st) (va_up h n (some (.inl (ty, a0)))) (n + 1) (u.1 + 1, u.2 + N) Q) : zEx G M k mc ms pc lv (.int i :: st) h n u Q := by
  intro d p e R s m args below meth c Qz hkd hC hF H locs ls hH hl hL
  obtain ⟨hx, hb, hml, hown, hts, hK, hR, hR2, hnm⟩ := id hC
  subst hty
  refine va_newaK hx hb (hts _ hw) rfl hd rfl hn hN hbytes (Nat.le_trans hu.1 hR2.1) (Nat.le_trans hu.2 hR2.2) hH.1 fun H1 cA e1 z1 o1 hAr hNm => ?_
  refine K d p e R s m args below meth c Qz hkd hC hF H1 locs ls (hH.push z1 o1 ⟨cA, ⟨hAr, by cases at0 <;> exact hNm⟩, ?_⟩) hl hL
  rw [e1]
  exact congrArg some (ha cA).symm
theorem x_newq {idx : Nat} {i : Int32} {N : Nat} (hd : decode M.2.1 pc = .ok (.anewarray idx, 3)) (hw : Cond.classLink M.1.cls idx "ShakenParcels$Scene" ∈ zTbl) (hn : ¬ i < 0) (hN : i.toNatClampNeg = N) (hbytes : N * 4 ≤ 536870912) (hu : u.1 + 1 ≤ mc ∧ u.2 + N ≤ ms) (K : zEx G M k mc ms (pc + 3) lv (.ref n :: st) (va_up h n (some (.inl (.object "ShakenParcels$Scene", N, .inr (.inr (.inr (.inr (fun _ => none)))))))) (n + 1) (u.1 + 1, u.2 + N) Q) : zEx G M k mc ms pc lv (.int i :: st) h n u Q := by
  intro d p e R s m args below meth c Qz hkd hC hF H locs ls hH hl hL
  obtain ⟨hx, hb, hml, hown, hts, hK, hR, hR2, hnm⟩ := id hC
  subst hN
  refine W.anew hx hb hown (hts _ hw) (va_AO.use hK.2.2.2.2.2.2.2.2) rfl hd rfl hn hbytes (Nat.le_trans hu.1 hR2.1) (Nat.le_trans hu.2 hR2.2) fun cA kA comp f1 f2 f3 f4 => ?_
  have hHs : H.size = n := hH.1
  generalize hH1 : H.push ({ cls := cA, slots := Array.replicate i.toNatClampNeg .null, vm := .none } : Cell) = H1
  have z1 : H1.size = n + 1 := by rw [← hH1, Array.size_push, hHs]
  have e1 : H1[n]? = some (arrV cA i.toNatClampNeg (fun _ => .null)) := by rw [← hH1, ← hHs, Array.getElem?_push_size, ← arrV_new]
  have o1 : ∀ q : Nat, q < n → H1[q]? = H[q]? := fun q hq => by rw [← hH1, Array.getElem?_push, if_neg (by omega)]
  have hAr : ArrOfT s cA (.object "ShakenParcels$Scene") := fun N z => ⟨(fun k h => by cases h), kA, f2, comp, f3⟩
  rw [hHs]
  refine K d p e R s m args below meth c Qz hkd hC hF H1 locs ls (hH.push z1 o1 ⟨cA, ⟨hAr, ⟨kA, comp, f2, f3, f4, f1⟩⟩, ?_⟩) hl hL
  rw [e1]
  rfl
-- the law's script
theorem zHp.S {s : State} {H : Heap} {locs : List Loc} (hH : zHp G s H h n) (hl : ∀ q ∈ locs, zA G q.base) : va_S (zA G) (zH0 G) H locs := ⟨by rw [hH.1]; exact hH.2.1, fun q hq _ => hH.2.2.1 q hq, hl⟩
theorem x_sld {i : Int32} (hd : decode M.2.1 pc = .ok (.iaload, 1)) (hi : vp_in i G.2.2.2.1.2.1) (K : zEx G M k mc ms (pc + 1) lv (.int (G.2.2.2.1.2.2 i.toNatClampNeg) :: st) h n u Q) : zEx G M k mc ms pc lv (.int i :: .ref G.2.2.2.1.1 :: st) h n u Q := by
  intro d p e R s m args below meth c Qz hkd hC hF H locs ls hH hl hL
  obtain ⟨hx, hb, hml, hown, hts, hK, hR, hR2, hnm⟩ := id hC
  exact va_sld hx hb hK.2.2.1 hK.2.2.2.1 (Nat.not_le.mpr hK.2.2.2.1) (zHp.S hH hl) hi hd (K d p e R s m args below meth c Qz hkd hC hF H locs ls hH hl hL)
theorem x_slen (hd : decode M.2.1 pc = .ok (.arraylength, 1)) (K : zEx G M k mc ms (pc + 1) lv (.int (Int32.ofNat G.2.2.2.1.2.1) :: st) h n u Q) : zEx G M k mc ms pc lv (.ref G.2.2.2.1.1 :: st) h n u Q := by
  intro d p e R s m args below meth c Qz hkd hC hF H locs ls hH hl hL
  obtain ⟨hx, hb, hml, hown, hts, hK, hR, hR2, hnm⟩ := id hC
  exact va_slen hx hb hK.2.2.1 hK.2.2.2.1 (Nat.not_le.mpr hK.2.2.2.1) (zHp.S hH hl) hd (K d p e R s m args below meth c Qz hkd hC hF H locs ls hH hl hL)
-- calls
/-- what is told of a method ahead of any call -/
def zMd (M' : zM) (na : Nat) : Prop := Cond.code M'.1 M'.2.1 M'.2.2.1 M'.2.2.2 ∈ zTbl ∧ Cond.initialized M'.1.cls ∈ zTbl ∧ (M'.1.cls ≠ "java/lang/invoke/MethodHandle" ∧ M'.1.cls ≠ "java/lang/invoke/VarHandle" ∧ (parseMethodDescriptor M'.1.desc).map (fun d => d.parameters.length) = some na) ∧ M'.2.2.1 ≤ 41
def zLk (own : String) (idx : Nat) (M' : zM) : Prop := Cond.methodLink own idx M'.1 ∈ zTbl ∨ ∃ host, Cond.methodLinkNest own idx M'.1 host ∈ zNest
theorem zGood {M M' : zM} (hc : Cond.code M'.1 M'.2.1 M'.2.2.1 M'.2.2.2 ∈ zTbl) : GoodIn zTbl (zWs M') := by
  intro w hw
  have : w ∈ zTbl := by
    rcases List.mem_cons.mp hw with h | h
    · rw [h]; exact hc
    · exact h
  exact ⟨this, good_of_word (List.mem_filter.mp this).2⟩
/-- behind a call -/
theorem x_run {M' : zM} {mc' ms' : Nat} {Q' : zQ} {rest : List Value} {a0 : Array Value} (K : ∀ (r : Option Value) (h' : zF) (n' : Nat), Q' r h' n' → zEx G M k mc ms (pc + 3) lv (r.toList ++ rest) h' n' (u.1 + mc', u.2 + ms') Q)
    (hr : ∀ (d : Nat) (p : Program) (e : Env) (R : Room) (s : State) (m : MethodId) (args : Array Value) (below : List Frame) (meth : Method) (c : Code), k ≤ d → zCx G M d mc ms p R s m args meth c → ∀ (H : Heap) (locs : List Loc) (ls : Array Slot), zHp G s H h n → zL ls M.2.2.1 lv → va_Run p G.1 e R s m args below meth c H locs u.1 u.2 mc' ms' (F0 m pc ls st) rest (fun _ oc t => ∃ (r : Option Value) (h' : zF) (n' : Nat), oc = .returned r ∧ Q' r h' n' ∧ zHp G t t.heap h' n') (zA G)) : zEx G M k mc ms pc lv st h n u Q := by
  intro d p e R s m args below meth c Qz hkd hC hF H locs ls hH hl hL
  intro T hT X
  obtain ⟨v, st₀, t, T', L, h0, X', hLL, e1, e2, ⟨r, h', n', hv, hp, hb⟩, hst⟩ := hr d p e R s m args below meth c hkd hC H locs ls hH hL T hT X
  cases hv
  have hH' : zHp G s T'.heap h' n' := by
    rw [e1]
    exact hb.moved (Vm.Alike.symm (by rw [← e2]; exact X'.warmed.alike))
  obtain ⟨t2, a1, b1⟩ := K _ h' n' hp d p e R s m args below meth c Qz hkd hC hF T'.heap (locs ++ L) ls hH' (fun q hq => by
      rcases List.mem_append.mp hq with h | h
      · exact hl q h
      · exact hLL q h) hL T' rfl X'
  exact ⟨t2, hst t2 a1, b1⟩
theorem zBlind {av : List Value} : FrameBlind (va_Pc av (fun U => zK G U ∧ zHp G U U.heap h n)) := by
  intro a U g mk q
  obtain ⟨q0, q1, q2⟩ := q
  exact ⟨q0, zK.same (s := U) (U := U.calling g mk a) rfl q1, zHp.moved (u := U) (U := U.calling g mk a) (Vm.Alike.refl U.vm) q2⟩
theorem zRoom {R : Room} {d k' k maxL : Nat} (hk : k' + 1 ≤ k) (hkd : k ≤ d) (hR : d ≤ R.frames ∧ 60 * d ≤ R.locals) (hm : maxL ≤ 41) : (d - 1) + 1 ≤ R.frames ∧ 8 + (maxL + 11) + 60 * (d - 1) ≤ R.locals := by
  constructor <;> omega
theorem x_callS {M' : zM} {k' mc' ms' idx na : Nat} {As rest : List Value} {Q' : zQ} (hd : decode M.2.1 pc = .ok (.invokestatic idx, 3)) (hlk : zLk M.1.cls idx M') (hmd : zMd M' na) (hst : Cond.static M'.1 ∈ zTbl) (hk : k' + 1 ≤ k) (hct : zCt G M' k' mc' ms' As h n Q') (hna : As.length = na) (hrest : (rest.map fun v => v.category).sum ≤ 8) (hstk : As.reverse ++ rest = st) (hu : u.1 + mc' ≤ mc ∧ u.2 + ms' ≤ ms)
    (K : ∀ (r : Option Value) (h' : zF) (n' : Nat), Q' r h' n' → zEx G M k mc ms (pc + 3) lv (r.toList ++ rest) h' n' (u.1 + mc', u.2 + ms') Q) : zEx G M k mc ms pc lv st h n u Q := by
  subst hstk
  refine x_run (M' := M') (a0 := #[]) K ?_
  intro d p e R s m args below meth c hkd hC H locs ls hH hL
  obtain ⟨hx, hb, hml, hown, hts, hK, hR, hR2, hnm⟩ := id hC
  have hcell : u.1 + mc' ≤ R.cells ∧ u.2 + ms' ≤ R.slots := ⟨Nat.le_trans hu.1 hR2.1, Nat.le_trans hu.2 hR2.2⟩
  have hpre : PreS s H (va_Pc As (fun U => zK G U ∧ zHp G U U.heap h n)) As := ⟨zBlind, fun U hU hW => ⟨rfl, hK.warm hW, by rw [hU]; exact hH.moved hW.alike⟩⟩
  have hrm := zRoom hk hkd hR hmd.2.2.2
  rcases hlk with hlk | ⟨host, hlk⟩
  · exact va_runS (As := As) (rest := rest) ⟨hx, hb, hml, hown, hts⟩ (hct (d - 1) (by omega)) ⟨callB_of na hts (zGood (M := M) hmd.1) rfl rfl rfl (hts _ hmd.2.1) (hts _ hlk) hmd.2.2.1 hrm, hts _ hst⟩ hpre rfl hna hL.1 rfl (lv_room hrest) hd hcell
  · exact va_runSN (As := As) (rest := rest) (host := host) ⟨hx, hb, hml, hown, hts⟩ (hct (d - 1) (by omega)) ⟨va_cnB na hts (zGood (M := M) hmd.1) rfl rfl rfl (hK.2.1 _ hlk) (hts _ hmd.2.1) hmd.2.2.1 hrm, hts _ hst, trivial⟩ hpre rfl hna hL.1 rfl (lv_room hrest) hd hcell
theorem x_callV {M' : zM} {k' mc' ms' idx na a ci : Nat} {fs As rest : List Value} {r : vw_C} {Q' : zQ} (hd : decode M.2.1 pc = .ok (.invokevirtual idx, 3)) (hlk : zLk M.1.cls idx M') (hmd : zMd M' na) (hinst : Cond.instanceMethod M'.1 ∈ zTbl ∧ Cond.selects M'.1.cls M'.1 M'.1 ∈ zTbl) (hr : zCl[ci]? = some r) (hrc : r.1 = M'.1.cls) (hc : h a = some (.inr (ci, fs))) (hk : k' + 1 ≤ k) (hct : zCt G M' k' mc' ms' (.ref a :: As) h n Q') (hna : As.length = na) (hrest : (rest.map fun v => v.category).sum ≤ 8) (hstk : As.reverse ++ .ref a :: rest = st) (hu : u.1 + mc' ≤ mc ∧ u.2 + ms' ≤ ms)
    (K : ∀ (r : Option Value) (h' : zF) (n' : Nat), Q' r h' n' → zEx G M k mc ms (pc + 3) lv (r.toList ++ rest) h' n' (u.1 + mc', u.2 + ms') Q) : zEx G M k mc ms pc lv st h n u Q := by
  subst hstk
  refine x_run (M' := M') (a0 := #[]) K ?_
  intro d p e R s m args below meth c hkd hC H locs ls hH hL
  obtain ⟨hx, hb, hml, hown, hts, hK, hR, hR2, hnm⟩ := id hC
  have hcell : u.1 + mc' ≤ R.cells ∧ u.2 + ms' ≤ R.slots := ⟨Nat.le_trans hu.1 hR2.1, Nat.le_trans hu.2 hR2.2⟩
  have hrecv := va_recv (q := r) (q0 := 0) hK.1 (zP1 (hH.2.2.2 a _ hc).2.2) hr rfl
  rw [hrc] at hrecv
  have hpre : PreV s H M'.1.cls a (va_Pc (.ref a :: As) (fun U => zK G U ∧ zHp G U U.heap h n)) As := ⟨zBlind, hrecv, fun U hU hW => ⟨rfl, hK.warm hW, by rw [hU]; exact hH.moved hW.alike⟩⟩
  have hrm := zRoom hk hkd hR hmd.2.2.2
  rcases hlk with hlk | ⟨host, hlk⟩
  · exact va_runV (C := M'.1.cls) (As := As) (rest := rest) ⟨hx, hb, hml, hown, hts⟩ (hct (d - 1) (by omega)) ⟨callB_of na hts (zGood (M := M) hmd.1) rfl rfl rfl (hts _ hmd.2.1) (hts _ hlk) hmd.2.2.1 hrm, hts _ hinst.1, hts _ hinst.2⟩ hpre rfl hna hL.1 rfl (lv_room hrest) hd hcell
  · exact va_runVN (C := M'.1.cls) (As := As) (rest := rest) (host := host) ⟨hx, hb, hml, hown, hts⟩ (hct (d - 1) (by omega)) ⟨va_cnB na hts (zGood (M := M) hmd.1) rfl rfl rfl (hK.2.1 _ hlk) (hts _ hmd.2.1) hmd.2.2.1 hrm, hts _ hinst.1, hts _ hinst.2⟩ hpre rfl hna hL.1 rfl (lv_room hrest) hd hcell
theorem x_callI {M' : zM} {k' mc' ms' idx na a : Nat} {As rest : List Value} {Q' : zQ} (hd : decode M.2.1 pc = .ok (.invokespecial idx, 3)) (hlk : zLk M.1.cls idx M') (hmd : zMd M' na) (hret : M'.2.2.2 = none) (hnm2 : M'.1.name = "<init>") (hinst : Cond.instanceMethod M'.1 ∈ zTbl) (hk : k' + 1 ≤ k) (hct : zCt G M' k' mc' ms' (.ref a :: As) h n Q') (hna : As.length = na) (hrest : (rest.map fun v => v.category).sum ≤ 8) (hstk : As.reverse ++ .ref a :: rest = st) (hu : u.1 + mc' ≤ mc ∧ u.2 + ms' ≤ ms)
    (K : ∀ (r : Option Value) (h' : zF) (n' : Nat), Q' r h' n' → zEx G M k mc ms (pc + 3) lv (r.toList ++ rest) h' n' (u.1 + mc', u.2 + ms') Q) : zEx G M k mc ms pc lv st h n u Q := by
  subst hstk
  refine x_run (M' := M') (a0 := #[]) K ?_
  intro d p e R s m args below meth c hkd hC H locs ls hH hL
  obtain ⟨hx, hb, hml, hown, hts, hK, hR, hR2, hnm⟩ := id hC
  have hcell : u.1 + mc' ≤ R.cells ∧ u.2 + ms' ≤ R.slots := ⟨Nat.le_trans hu.1 hR2.1, Nat.le_trans hu.2 hR2.2⟩
  have hpre : PreS s H (va_Pc (.ref a :: As) (fun U => zK G U ∧ zHp G U U.heap h n)) (.ref a :: As) := ⟨zBlind, fun U hU hW => ⟨rfl, hK.warm hW, by rw [hU]; exact hH.moved hW.alike⟩⟩
  have hrm := zRoom hk hkd hR hmd.2.2.2
  rcases hlk with hlk | ⟨host, hlk⟩
  · exact va_runI (bytes := M'.2.1) (maxL := M'.2.2.1) (As := As) (rest := rest) ⟨hx, hb, hml, hown, hts⟩ (hct (d - 1) (by omega)) ⟨hret ▸ callB_of na hts (zGood (M := M) hmd.1) rfl rfl rfl (hts _ hmd.2.1) (hts _ hlk) hmd.2.2.1 hrm, hnm2, hts _ hinst⟩ hpre rfl hna hL.1 rfl (lv_room hrest) hd hcell
  · exact va_runIN (bytes := M'.2.1) (maxL := M'.2.2.1) (As := As) (rest := rest) (host := host) ⟨hx, hb, hml, hown, hts⟩ (hct (d - 1) (by omega)) ⟨hret ▸ va_cnB na hts (zGood (M := M) hmd.1) rfl rfl rfl (hK.2.1 _ hlk) (hts _ hmd.2.1) hmd.2.2.1 hrm, hnm2, hts _ hinst⟩ hpre rfl hna hL.1 rfl (lv_room hrest) hd hcell
theorem x_objInit {idx a : Nat} (hd : decode M.2.1 pc = .ok (.invokespecial idx, 3)) (hw : Cond.methodLink M.1.cls idx Lib.objectInit ∈ zTbl ∧ Cond.instanceMethod Lib.objectInit ∈ zTbl ∧ Cond.code Lib.objectInit ⟨#[0xb1]⟩ 1 none ∈ zTbl) (hk : 1 ≤ k) (hrest : (st.map fun v => v.category).sum ≤ 8) (K : zEx G M k mc ms (pc + 3) lv st h n u Q) : zEx G M k mc ms pc lv (.ref a :: st) h n u Q := by
  intro d p e R s m args below meth c Qz hkd hC hF H locs ls hH hl hL
  obtain ⟨hx, hb, hml, hown, hts, hK, hR, hR2, hnm⟩ := id hC
  have h8 := lv_room (m := m) (pc := pc) (ls := ls) (rest := Value.ref a :: st) hrest
  exact W.objInit hx hb hown (hts _ hw.1) (hts _ hw.2.1) (hts _ hw.2.2) rfl (by rw [hml]; exact hL.1) rfl hd (by omega) (by show 2 * (F0 m pc ls (Value.ref a :: st)).monitorRoom + _ + 12 ≤ _; omega) (K d p e R s m args below meth c Qz hkd hC hF H locs ls hH hl hL)
end ZN
end
section
theorem uX0 : ∀ w ∈ u_ws RX0 TX0 9, w ∈ zTbl := by decide +kernel
theorem uX1 : ∀ w ∈ u_ws RX1 TX1 5, w ∈ zTbl := by decide +kernel
theorem uX2 : ∀ w ∈ u_ws RX2 TX2 2, w ∈ zTbl := by decide +kernel
theorem uX3 : ∀ w ∈ u_ws RX3 TX3 4, w ∈ zTbl := by decide +kernel
theorem uX4 : ∀ w ∈ u_ws RX4 TX4 11, w ∈ zTbl := by decide +kernel
theorem uX5 : ∀ w ∈ u_ws RX5 TX5 10, w ∈ zTbl := by decide +kernel
theorem uX6 : ∀ w ∈ u_ws RX6 TX6 2, w ∈ zTbl := by decide +kernel
theorem uX7 : ∀ w ∈ u_ws RX7 TX7 13, w ∈ zTbl := by decide +kernel
theorem uX8 : ∀ w ∈ u_ws RX8 TX8 33, w ∈ zTbl := by decide +kernel
theorem ftX0_0 : zFty 0 0 .int false := fun r hr => by cases hr; exact ⟨tyX0, tyX0_ok, nmX0, by decide +kernel, rfl⟩
theorem ftX0_1 : zFty 0 1 .int false := fun r hr => by cases hr; exact ⟨tyX0, tyX0_ok, nmX0, by decide +kernel, rfl⟩
theorem ftX0_2 : zFty 0 2 .int false := fun r hr => by cases hr; exact ⟨tyX0, tyX0_ok, nmX0, by decide +kernel, rfl⟩
theorem ftX0_3 : zFty 0 3 .int false := fun r hr => by cases hr; exact ⟨tyX0, tyX0_ok, nmX0, by decide +kernel, rfl⟩
theorem ftX0_4 : zFty 0 4 (.array .int) true := fun r hr => by cases hr; exact ⟨tyX0, tyX0_ok, nmX0, by decide +kernel, rfl⟩
theorem ftX0_5 : zFty 0 5 (.array .int) true := fun r hr => by cases hr; exact ⟨tyX0, tyX0_ok, nmX0, by decide +kernel, rfl⟩
theorem ftX0_6 : zFty 0 6 (.array .int) true := fun r hr => by cases hr; exact ⟨tyX0, tyX0_ok, nmX0, by decide +kernel, rfl⟩
theorem ftX0_7 : zFty 0 7 (.array .int) true := fun r hr => by cases hr; exact ⟨tyX0, tyX0_ok, nmX0, by decide +kernel, rfl⟩
theorem ftX0_8 : zFty 0 8 (.array .int) true := fun r hr => by cases hr; exact ⟨tyX0, tyX0_ok, nmX0, by decide +kernel, rfl⟩
theorem ftX1_0 : zFty 1 0 .int false := fun r hr => by cases hr; exact ⟨tyX1, tyX1_ok, nmX1, by decide +kernel, rfl⟩
theorem ftX1_1 : zFty 1 1 (.array .int) true := fun r hr => by cases hr; exact ⟨tyX1, tyX1_ok, nmX1, by decide +kernel, rfl⟩
theorem ftX1_2 : zFty 1 2 (.array .int) true := fun r hr => by cases hr; exact ⟨tyX1, tyX1_ok, nmX1, by decide +kernel, rfl⟩
theorem ftX1_3 : zFty 1 3 (.array .int) true := fun r hr => by cases hr; exact ⟨tyX1, tyX1_ok, nmX1, by decide +kernel, rfl⟩
theorem ftX1_4 : zFty 1 4 .int false := fun r hr => by cases hr; exact ⟨tyX1, tyX1_ok, nmX1, by decide +kernel, rfl⟩
theorem ftX2_0 : zFty 2 0 (.array (.object "ShakenParcels$Scene")) true := fun r hr => by cases hr; exact ⟨tyX2, tyX2_ok, nmX2, by decide +kernel, rfl⟩
theorem ftX2_1 : zFty 2 1 .int false := fun r hr => by cases hr; exact ⟨tyX2, tyX2_ok, nmX2, by decide +kernel, rfl⟩
theorem ftX3_0 : zFty 3 0 (.array .char) true := fun r hr => by cases hr; exact ⟨tyX3, tyX3_ok, nmX3, by decide +kernel, rfl⟩
theorem ftX3_1 : zFty 3 1 .int false := fun r hr => by cases hr; exact ⟨tyX3, tyX3_ok, nmX3, by decide +kernel, rfl⟩
theorem ftX3_2 : zFty 3 2 (.array .int) true := fun r hr => by cases hr; exact ⟨tyX3, tyX3_ok, nmX3, by decide +kernel, rfl⟩
theorem ftX3_3 : zFty 3 3 .int false := fun r hr => by cases hr; exact ⟨tyX3, tyX3_ok, nmX3, by decide +kernel, rfl⟩
theorem ftX4_0 : zFty 4 0 (.array .int) true := fun r hr => by cases hr; exact ⟨tyX4, tyX4_ok, nmX4, by decide +kernel, rfl⟩
theorem ftX4_1 : zFty 4 1 (.array .int) true := fun r hr => by cases hr; exact ⟨tyX4, tyX4_ok, nmX4, by decide +kernel, rfl⟩
theorem ftX4_2 : zFty 4 2 (.array .int) true := fun r hr => by cases hr; exact ⟨tyX4, tyX4_ok, nmX4, by decide +kernel, rfl⟩
theorem ftX4_3 : zFty 4 3 (.array .int) true := fun r hr => by cases hr; exact ⟨tyX4, tyX4_ok, nmX4, by decide +kernel, rfl⟩
theorem ftX4_4 : zFty 4 4 .int false := fun r hr => by cases hr; exact ⟨tyX4, tyX4_ok, nmX4, by decide +kernel, rfl⟩
theorem ftX4_5 : zFty 4 5 (.array .int) true := fun r hr => by cases hr; exact ⟨tyX4, tyX4_ok, nmX4, by decide +kernel, rfl⟩
theorem ftX4_6 : zFty 4 6 (.array .int) true := fun r hr => by cases hr; exact ⟨tyX4, tyX4_ok, nmX4, by decide +kernel, rfl⟩
theorem ftX4_7 : zFty 4 7 (.array .int) true := fun r hr => by cases hr; exact ⟨tyX4, tyX4_ok, nmX4, by decide +kernel, rfl⟩
theorem ftX4_8 : zFty 4 8 .int false := fun r hr => by cases hr; exact ⟨tyX4, tyX4_ok, nmX4, by decide +kernel, rfl⟩
theorem ftX4_9 : zFty 4 9 .int false := fun r hr => by cases hr; exact ⟨tyX4, tyX4_ok, nmX4, by decide +kernel, rfl⟩
theorem ftX4_10 : zFty 4 10 .int false := fun r hr => by cases hr; exact ⟨tyX4, tyX4_ok, nmX4, by decide +kernel, rfl⟩
theorem ftX5_0 : zFty 5 0 (.object "ShakenParcels$Things") true := fun r hr => by cases hr; exact ⟨tyX5, tyX5_ok, nmX5, by decide +kernel, rfl⟩
theorem ftX5_1 : zFty 5 1 (.array .int) true := fun r hr => by cases hr; exact ⟨tyX5, tyX5_ok, nmX5, by decide +kernel, rfl⟩
theorem ftX5_2 : zFty 5 2 (.array .int) true := fun r hr => by cases hr; exact ⟨tyX5, tyX5_ok, nmX5, by decide +kernel, rfl⟩
theorem ftX5_3 : zFty 5 3 (.array .int) true := fun r hr => by cases hr; exact ⟨tyX5, tyX5_ok, nmX5, by decide +kernel, rfl⟩
theorem ftX5_4 : zFty 5 4 .int false := fun r hr => by cases hr; exact ⟨tyX5, tyX5_ok, nmX5, by decide +kernel, rfl⟩
theorem ftX5_5 : zFty 5 5 .int false := fun r hr => by cases hr; exact ⟨tyX5, tyX5_ok, nmX5, by decide +kernel, rfl⟩
theorem ftX5_6 : zFty 5 6 .int false := fun r hr => by cases hr; exact ⟨tyX5, tyX5_ok, nmX5, by decide +kernel, rfl⟩
theorem ftX5_7 : zFty 5 7 .int false := fun r hr => by cases hr; exact ⟨tyX5, tyX5_ok, nmX5, by decide +kernel, rfl⟩
theorem ftX5_8 : zFty 5 8 (.array .int) true := fun r hr => by cases hr; exact ⟨tyX5, tyX5_ok, nmX5, by decide +kernel, rfl⟩
theorem ftX5_9 : zFty 5 9 (.array .int) true := fun r hr => by cases hr; exact ⟨tyX5, tyX5_ok, nmX5, by decide +kernel, rfl⟩
theorem ftX6_0 : zFty 6 0 (.array .int) false := fun r hr => by cases hr; exact ⟨tyX6, tyX6_ok, nmX6, by decide +kernel, rfl⟩
theorem ftX6_1 : zFty 6 1 .int false := fun r hr => by cases hr; exact ⟨tyX6, tyX6_ok, nmX6, by decide +kernel, rfl⟩
theorem ftX7_0 : zFty 7 0 (.object "ShakenParcels$Text") true := fun r hr => by cases hr; exact ⟨tyX7, tyX7_ok, nmX7, by decide +kernel, rfl⟩
theorem ftX7_1 : zFty 7 1 (.object "ShakenParcels$Tree") false := fun r hr => by cases hr; exact ⟨tyX7, tyX7_ok, nmX7, by decide +kernel, rfl⟩
theorem ftX7_2 : zFty 7 2 (.object "ShakenParcels$Tree") false := fun r hr => by cases hr; exact ⟨tyX7, tyX7_ok, nmX7, by decide +kernel, rfl⟩
theorem ftX7_3 : zFty 7 3 (.object "ShakenParcels$Worlds") true := fun r hr => by cases hr; exact ⟨tyX7, tyX7_ok, nmX7, by decide +kernel, rfl⟩
theorem ftX7_4 : zFty 7 4 (.object "ShakenParcels$Worlds") true := fun r hr => by cases hr; exact ⟨tyX7, tyX7_ok, nmX7, by decide +kernel, rfl⟩
theorem ftX7_5 : zFty 7 5 (.object "ShakenParcels$Worlds") true := fun r hr => by cases hr; exact ⟨tyX7, tyX7_ok, nmX7, by decide +kernel, rfl⟩
theorem ftX7_6 : zFty 7 6 (.object "ShakenParcels$Finder") true := fun r hr => by cases hr; exact ⟨tyX7, tyX7_ok, nmX7, by decide +kernel, rfl⟩
theorem ftX7_7 : zFty 7 7 (.object "ShakenParcels$Scene") true := fun r hr => by cases hr; exact ⟨tyX7, tyX7_ok, nmX7, by decide +kernel, rfl⟩
theorem ftX7_8 : zFty 7 8 (.object "ShakenParcels$Scenes") true := fun r hr => by cases hr; exact ⟨tyX7, tyX7_ok, nmX7, by decide +kernel, rfl⟩
theorem ftX7_9 : zFty 7 9 (.object "ShakenParcels$Scenes") true := fun r hr => by cases hr; exact ⟨tyX7, tyX7_ok, nmX7, by decide +kernel, rfl⟩
theorem ftX7_10 : zFty 7 10 (.array .long) true := fun r hr => by cases hr; exact ⟨tyX7, tyX7_ok, nmX7, by decide +kernel, rfl⟩
theorem ftX7_11 : zFty 7 11 .boolean false := fun r hr => by cases hr; exact ⟨tyX7, tyX7_ok, nmX7, by decide +kernel, rfl⟩
theorem ftX7_12 : zFty 7 12 .int false := fun r hr => by cases hr; exact ⟨tyX7, tyX7_ok, nmX7, by decide +kernel, rfl⟩
theorem ftX8_0 : zFty 8 0 .int false := fun r hr => by cases hr; exact ⟨tyX8, tyX8_ok, nmX8, by decide +kernel, rfl⟩
theorem ftX8_1 : zFty 8 1 (.array .int) true := fun r hr => by cases hr; exact ⟨tyX8, tyX8_ok, nmX8, by decide +kernel, rfl⟩
theorem ftX8_2 : zFty 8 2 (.array .int) true := fun r hr => by cases hr; exact ⟨tyX8, tyX8_ok, nmX8, by decide +kernel, rfl⟩
theorem ftX8_3 : zFty 8 3 (.array .int) true := fun r hr => by cases hr; exact ⟨tyX8, tyX8_ok, nmX8, by decide +kernel, rfl⟩
theorem ftX8_4 : zFty 8 4 (.array .int) true := fun r hr => by cases hr; exact ⟨tyX8, tyX8_ok, nmX8, by decide +kernel, rfl⟩
theorem ftX8_5 : zFty 8 5 (.array .int) true := fun r hr => by cases hr; exact ⟨tyX8, tyX8_ok, nmX8, by decide +kernel, rfl⟩
theorem ftX8_6 : zFty 8 6 (.array .int) true := fun r hr => by cases hr; exact ⟨tyX8, tyX8_ok, nmX8, by decide +kernel, rfl⟩
theorem ftX8_7 : zFty 8 7 (.array .int) true := fun r hr => by cases hr; exact ⟨tyX8, tyX8_ok, nmX8, by decide +kernel, rfl⟩
theorem ftX8_8 : zFty 8 8 (.array .int) true := fun r hr => by cases hr; exact ⟨tyX8, tyX8_ok, nmX8, by decide +kernel, rfl⟩
theorem ftX8_9 : zFty 8 9 (.array .int) true := fun r hr => by cases hr; exact ⟨tyX8, tyX8_ok, nmX8, by decide +kernel, rfl⟩
theorem ftX8_10 : zFty 8 10 (.array .int) true := fun r hr => by cases hr; exact ⟨tyX8, tyX8_ok, nmX8, by decide +kernel, rfl⟩
theorem ftX8_11 : zFty 8 11 (.array .int) true := fun r hr => by cases hr; exact ⟨tyX8, tyX8_ok, nmX8, by decide +kernel, rfl⟩
theorem ftX8_12 : zFty 8 12 (.array .int) true := fun r hr => by cases hr; exact ⟨tyX8, tyX8_ok, nmX8, by decide +kernel, rfl⟩
theorem ftX8_13 : zFty 8 13 (.array .int) true := fun r hr => by cases hr; exact ⟨tyX8, tyX8_ok, nmX8, by decide +kernel, rfl⟩
theorem ftX8_14 : zFty 8 14 (.array .int) true := fun r hr => by cases hr; exact ⟨tyX8, tyX8_ok, nmX8, by decide +kernel, rfl⟩
theorem ftX8_15 : zFty 8 15 (.array .int) true := fun r hr => by cases hr; exact ⟨tyX8, tyX8_ok, nmX8, by decide +kernel, rfl⟩
theorem ftX8_16 : zFty 8 16 (.array .int) true := fun r hr => by cases hr; exact ⟨tyX8, tyX8_ok, nmX8, by decide +kernel, rfl⟩
theorem ftX8_17 : zFty 8 17 .int false := fun r hr => by cases hr; exact ⟨tyX8, tyX8_ok, nmX8, by decide +kernel, rfl⟩
theorem ftX8_18 : zFty 8 18 (.array .int) true := fun r hr => by cases hr; exact ⟨tyX8, tyX8_ok, nmX8, by decide +kernel, rfl⟩
theorem ftX8_19 : zFty 8 19 (.array .int) true := fun r hr => by cases hr; exact ⟨tyX8, tyX8_ok, nmX8, by decide +kernel, rfl⟩
theorem ftX8_20 : zFty 8 20 .int false := fun r hr => by cases hr; exact ⟨tyX8, tyX8_ok, nmX8, by decide +kernel, rfl⟩
theorem ftX8_21 : zFty 8 21 (.array .int) true := fun r hr => by cases hr; exact ⟨tyX8, tyX8_ok, nmX8, by decide +kernel, rfl⟩
theorem ftX8_22 : zFty 8 22 .int false := fun r hr => by cases hr; exact ⟨tyX8, tyX8_ok, nmX8, by decide +kernel, rfl⟩
theorem ftX8_23 : zFty 8 23 .int false := fun r hr => by cases hr; exact ⟨tyX8, tyX8_ok, nmX8, by decide +kernel, rfl⟩
theorem ftX8_24 : zFty 8 24 (.array .int) true := fun r hr => by cases hr; exact ⟨tyX8, tyX8_ok, nmX8, by decide +kernel, rfl⟩
theorem ftX8_25 : zFty 8 25 (.array .int) true := fun r hr => by cases hr; exact ⟨tyX8, tyX8_ok, nmX8, by decide +kernel, rfl⟩
theorem ftX8_26 : zFty 8 26 (.array .boolean) true := fun r hr => by cases hr; exact ⟨tyX8, tyX8_ok, nmX8, by decide +kernel, rfl⟩
theorem ftX8_27 : zFty 8 27 (.array .long) true := fun r hr => by cases hr; exact ⟨tyX8, tyX8_ok, nmX8, by decide +kernel, rfl⟩
theorem ftX8_28 : zFty 8 28 (.array .int) true := fun r hr => by cases hr; exact ⟨tyX8, tyX8_ok, nmX8, by decide +kernel, rfl⟩
theorem ftX8_29 : zFty 8 29 .int false := fun r hr => by cases hr; exact ⟨tyX8, tyX8_ok, nmX8, by decide +kernel, rfl⟩
theorem ftX8_30 : zFty 8 30 (.array .int) true := fun r hr => by cases hr; exact ⟨tyX8, tyX8_ok, nmX8, by decide +kernel, rfl⟩
theorem ftX8_31 : zFty 8 31 (.array .boolean) true := fun r hr => by cases hr; exact ⟨tyX8, tyX8_ok, nmX8, by decide +kernel, rfl⟩
theorem ftX8_32 : zFty 8 32 .int false := fun r hr => by cases hr; exact ⟨tyX8, tyX8_ok, nmX8, by decide +kernel, rfl⟩
theorem flX3_9 : zFld RX3 9 3 0 := ⟨(RX3, TX3, 4), rfl, by decide, rfl, uX3, Or.inl (zmem 93 (by decide +kernel) rfl)⟩
theorem fkX3_9 : Cond.fieldLink RX3 9 RX3 "letters" "[C" ∈ zTbl := zmem 93 (by decide +kernel) rfl
theorem flX3_19 : zFld RX3 19 3 1 := ⟨(RX3, TX3, 4), rfl, by decide, rfl, uX3, Or.inl (zmem 94 (by decide +kernel) rfl)⟩
theorem flX3_15 : zFld RX3 15 3 2 := ⟨(RX3, TX3, 4), rfl, by decide, rfl, uX3, Or.inl (zmem 96 (by decide +kernel) rfl)⟩
theorem fkX3_15 : Cond.fieldLink RX3 15 RX3 "numbers" "[I" ∈ zTbl := zmem 96 (by decide +kernel) rfl
theorem flX3_35 : zFld RX3 35 3 3 := ⟨(RX3, TX3, 4), rfl, by decide, rfl, uX3, Or.inl (zmem 97 (by decide +kernel) rfl)⟩
theorem flX4_9 : zFld RX4 9 4 0 := ⟨(RX4, TX4, 11), rfl, by decide, rfl, uX4, Or.inl (zmem 121 (by decide +kernel) rfl)⟩
theorem fkX4_9 : Cond.fieldLink RX4 9 RX4 "weight" "[I" ∈ zTbl := zmem 121 (by decide +kernel) rfl
theorem flX4_15 : zFld RX4 15 4 1 := ⟨(RX4, TX4, 11), rfl, by decide, rfl, uX4, Or.inl (zmem 123 (by decide +kernel) rfl)⟩
theorem fkX4_15 : Cond.fieldLink RX4 15 RX4 "kind" "[I" ∈ zTbl := zmem 123 (by decide +kernel) rfl
theorem flX4_18 : zFld RX4 18 4 2 := ⟨(RX4, TX4, 11), rfl, by decide, rfl, uX4, Or.inl (zmem 125 (by decide +kernel) rfl)⟩
theorem fkX4_18 : Cond.fieldLink RX4 18 RX4 "worth" "[I" ∈ zTbl := zmem 125 (by decide +kernel) rfl
theorem flX4_21 : zFld RX4 21 4 3 := ⟨(RX4, TX4, 11), rfl, by decide, rfl, uX4, Or.inl (zmem 127 (by decide +kernel) rfl)⟩
theorem fkX4_21 : Cond.fieldLink RX4 21 RX4 "chance" "[I" ∈ zTbl := zmem 127 (by decide +kernel) rfl
theorem flX4_33 : zFld RX4 33 4 4 := ⟨(RX4, TX4, 11), rfl, by decide, rfl, uX4, Or.inl (zmem 129 (by decide +kernel) rfl)⟩
theorem flX4_24 : zFld RX4 24 4 5 := ⟨(RX4, TX4, 11), rfl, by decide, rfl, uX4, Or.inl (zmem 133 (by decide +kernel) rfl)⟩
theorem fkX4_24 : Cond.fieldLink RX4 24 RX4 "weightOfSet" "[I" ∈ zTbl := zmem 133 (by decide +kernel) rfl
theorem flX4_27 : zFld RX4 27 4 6 := ⟨(RX4, TX4, 11), rfl, by decide, rfl, uX4, Or.inl (zmem 135 (by decide +kernel) rfl)⟩
theorem fkX4_27 : Cond.fieldLink RX4 27 RX4 "worthOfSet" "[I" ∈ zTbl := zmem 135 (by decide +kernel) rfl
theorem flX4_30 : zFld RX4 30 4 7 := ⟨(RX4, TX4, 11), rfl, by decide, rfl, uX4, Or.inl (zmem 137 (by decide +kernel) rfl)⟩
theorem fkX4_30 : Cond.fieldLink RX4 30 RX4 "chanceOfSet" "[I" ∈ zTbl := zmem 137 (by decide +kernel) rfl
theorem flX4_37 : zFld RX4 37 4 8 := ⟨(RX4, TX4, 11), rfl, by decide, rfl, uX4, Or.inl (zmem 139 (by decide +kernel) rfl)⟩
theorem flX4_40 : zFld RX4 40 4 9 := ⟨(RX4, TX4, 11), rfl, by decide, rfl, uX4, Or.inl (zmem 140 (by decide +kernel) rfl)⟩
theorem flX4_43 : zFld RX4 43 4 10 := ⟨(RX4, TX4, 11), rfl, by decide, rfl, uX4, Or.inl (zmem 141 (by decide +kernel) rfl)⟩
theorem flX5_12 : zFld RX5 12 5 0 := ⟨(RX5, TX5, 10), rfl, by decide, rfl, uX5, Or.inl (zmem 165 (by decide +kernel) rfl)⟩
theorem fkX5_12 : Cond.fieldLink RX5 12 RX5 "things" "LShakenParcels$Things;" ∈ zTbl := zmem 165 (by decide +kernel) rfl
theorem flX5_18 : zFld RX5 18 5 1 := ⟨(RX5, TX5, 10), rfl, by decide, rfl, uX5, Or.inl (zmem 168 (by decide +kernel) rfl)⟩
theorem fkX5_18 : Cond.fieldLink RX5 18 RX5 "box" "[I" ∈ zTbl := zmem 168 (by decide +kernel) rfl
theorem flX5_22 : zFld RX5 22 5 2 := ⟨(RX5, TX5, 10), rfl, by decide, rfl, uX5, Or.inl (zmem 170 (by decide +kernel) rfl)⟩
theorem fkX5_22 : Cond.fieldLink RX5 22 RX5 "child" "[I" ∈ zTbl := zmem 170 (by decide +kernel) rfl
theorem flX5_25 : zFld RX5 25 5 3 := ⟨(RX5, TX5, 10), rfl, by decide, rfl, uX5, Or.inl (zmem 172 (by decide +kernel) rfl)⟩
theorem fkX5_25 : Cond.fieldLink RX5 25 RX5 "room" "[I" ∈ zTbl := zmem 172 (by decide +kernel) rfl
theorem flX5_41 : zFld RX5 41 5 4 := ⟨(RX5, TX5, 10), rfl, by decide, rfl, uX5, Or.inl (zmem 174 (by decide +kernel) rfl)⟩
theorem flX5_44 : zFld RX5 44 5 5 := ⟨(RX5, TX5, 10), rfl, by decide, rfl, uX5, Or.inl (zmem 177 (by decide +kernel) rfl)⟩
theorem flX5_28 : zFld RX5 28 5 6 := ⟨(RX5, TX5, 10), rfl, by decide, rfl, uX5, Or.inl (zmem 179 (by decide +kernel) rfl)⟩
theorem flX5_47 : zFld RX5 47 5 7 := ⟨(RX5, TX5, 10), rfl, by decide, rfl, uX5, Or.inl (zmem 180 (by decide +kernel) rfl)⟩
theorem flX5_32 : zFld RX5 32 5 8 := ⟨(RX5, TX5, 10), rfl, by decide, rfl, uX5, Or.inl (zmem 181 (by decide +kernel) rfl)⟩
theorem fkX5_32 : Cond.fieldLink RX5 32 RX5 "noticed" "[I" ∈ zTbl := zmem 181 (by decide +kernel) rfl
theorem flX5_35 : zFld RX5 35 5 9 := ⟨(RX5, TX5, 10), rfl, by decide, rfl, uX5, Or.inl (zmem 183 (by decide +kernel) rfl)⟩
theorem fkX5_35 : Cond.fieldLink RX5 35 RX5 "lasting" "[I" ∈ zTbl := zmem 183 (by decide +kernel) rfl
theorem flX6_7 : zFld RX6 7 6 0 := ⟨(RX6, TX6, 2), rfl, by decide, rfl, uX6, Or.inl (zmem 213 (by decide +kernel) rfl)⟩
theorem flX6_13 : zFld RX6 13 6 1 := ⟨(RX6, TX6, 2), rfl, by decide, rfl, uX6, Or.inl (zmem 215 (by decide +kernel) rfl)⟩
theorem flX0_27 : zFld RX0 27 0 0 := ⟨(RX0, TX0, 9), rfl, by decide, rfl, uX0, Or.inl (zmem 228 (by decide +kernel) rfl)⟩
theorem flX0_36 : zFld RX0 36 0 1 := ⟨(RX0, TX0, 9), rfl, by decide, rfl, uX0, Or.inl (zmem 230 (by decide +kernel) rfl)⟩
theorem flX0_86 : zFld RX0 86 0 2 := ⟨(RX0, TX0, 9), rfl, by decide, rfl, uX0, Or.inl (zmem 232 (by decide +kernel) rfl)⟩
theorem flX0_89 : zFld RX0 89 0 3 := ⟨(RX0, TX0, 9), rfl, by decide, rfl, uX0, Or.inl (zmem 234 (by decide +kernel) rfl)⟩
theorem flX0_9 : zFld RX0 9 0 4 := ⟨(RX0, TX0, 9), rfl, by decide, rfl, uX0, Or.inl (zmem 236 (by decide +kernel) rfl)⟩
theorem fkX0_9 : Cond.fieldLink RX0 9 RX0 "bySet" "[I" ∈ zTbl := zmem 236 (by decide +kernel) rfl
theorem flX0_15 : zFld RX0 15 0 5 := ⟨(RX0, TX0, 9), rfl, by decide, rfl, uX0, Or.inl (zmem 237 (by decide +kernel) rfl)⟩
theorem fkX0_15 : Cond.fieldLink RX0 15 RX0 "byReply" "[I" ∈ zTbl := zmem 237 (by decide +kernel) rfl
theorem flX0_18 : zFld RX0 18 0 6 := ⟨(RX0, TX0, 9), rfl, by decide, rfl, uX0, Or.inl (zmem 239 (by decide +kernel) rfl)⟩
theorem fkX0_18 : Cond.fieldLink RX0 18 RX0 "starts" "[I" ∈ zTbl := zmem 239 (by decide +kernel) rfl
theorem flX0_21 : zFld RX0 21 0 7 := ⟨(RX0, TX0, 9), rfl, by decide, rfl, uX0, Or.inl (zmem 240 (by decide +kernel) rfl)⟩
theorem fkX0_21 : Cond.fieldLink RX0 21 RX0 "known" "[I" ∈ zTbl := zmem 240 (by decide +kernel) rfl
theorem flX0_24 : zFld RX0 24 0 8 := ⟨(RX0, TX0, 9), rfl, by decide, rfl, uX0, Or.inl (zmem 241 (by decide +kernel) rfl)⟩
theorem fkX0_24 : Cond.fieldLink RX0 24 RX0 "replyOfSet" "[I" ∈ zTbl := zmem 241 (by decide +kernel) rfl
theorem flX1_21 : zFld RX1 21 1 0 := ⟨(RX1, TX1, 5), rfl, by decide, rfl, uX1, Or.inl (zmem 267 (by decide +kernel) rfl)⟩
theorem flX1_9 : zFld RX1 9 1 1 := ⟨(RX1, TX1, 5), rfl, by decide, rfl, uX1, Or.inl (zmem 269 (by decide +kernel) rfl)⟩
theorem fkX1_9 : Cond.fieldLink RX1 9 RX1 "hidden" "[I" ∈ zTbl := zmem 269 (by decide +kernel) rfl
theorem flX1_15 : zFld RX1 15 1 2 := ⟨(RX1, TX1, 5), rfl, by decide, rfl, uX1, Or.inl (zmem 271 (by decide +kernel) rfl)⟩
theorem fkX1_15 : Cond.fieldLink RX1 15 RX1 "trials" "[I" ∈ zTbl := zmem 271 (by decide +kernel) rfl
theorem flX1_18 : zFld RX1 18 1 3 := ⟨(RX1, TX1, 5), rfl, by decide, rfl, uX1, Or.inl (zmem 273 (by decide +kernel) rfl)⟩
theorem fkX1_18 : Cond.fieldLink RX1 18 RX1 "replies" "[I" ∈ zTbl := zmem 273 (by decide +kernel) rfl
theorem flX1_31 : zFld RX1 31 1 4 := ⟨(RX1, TX1, 5), rfl, by decide, rfl, uX1, Or.inl (zmem 275 (by decide +kernel) rfl)⟩
theorem flX2_15 : zFld RX2 15 2 0 := ⟨(RX2, TX2, 2), rfl, by decide, rfl, uX2, Or.inl (zmem 300 (by decide +kernel) rfl)⟩
theorem fkX2_15 : Cond.fieldLink RX2 15 RX2 "row" "[LShakenParcels$Scene;" ∈ zTbl := zmem 300 (by decide +kernel) rfl
theorem flX2_22 : zFld RX2 22 2 1 := ⟨(RX2, TX2, 2), rfl, by decide, rfl, uX2, Or.inl (zmem 301 (by decide +kernel) rfl)⟩
theorem flX7_12 : zFld RX7 12 7 0 := ⟨(RX7, TX7, 13), rfl, by decide, rfl, uX7, Or.inl (zmem 519 (by decide +kernel) rfl)⟩
theorem fkX7_12 : Cond.fieldLink RX7 12 RX7 "text" "LShakenParcels$Text;" ∈ zTbl := zmem 519 (by decide +kernel) rfl
theorem flX7_19 : zFld RX7 19 7 1 := ⟨(RX7, TX7, 13), rfl, by decide, rfl, uX7, Or.inl (zmem 520 (by decide +kernel) rfl)⟩
theorem flX7_23 : zFld RX7 23 7 2 := ⟨(RX7, TX7, 13), rfl, by decide, rfl, uX7, Or.inl (zmem 521 (by decide +kernel) rfl)⟩
theorem flX7_29 : zFld RX7 29 7 3 := ⟨(RX7, TX7, 13), rfl, by decide, rfl, uX7, Or.inl (zmem 522 (by decide +kernel) rfl)⟩
theorem fkX7_29 : Cond.fieldLink RX7 29 RX7 "all" "LShakenParcels$Worlds;" ∈ zTbl := zmem 522 (by decide +kernel) rfl
theorem flX7_33 : zFld RX7 33 7 4 := ⟨(RX7, TX7, 13), rfl, by decide, rfl, uX7, Or.inl (zmem 523 (by decide +kernel) rfl)⟩
theorem fkX7_33 : Cond.fieldLink RX7 33 RX7 "remaining" "LShakenParcels$Worlds;" ∈ zTbl := zmem 523 (by decide +kernel) rfl
theorem flX7_36 : zFld RX7 36 7 5 := ⟨(RX7, TX7, 13), rfl, by decide, rfl, uX7, Or.inl (zmem 524 (by decide +kernel) rfl)⟩
theorem fkX7_36 : Cond.fieldLink RX7 36 RX7 "scratch" "LShakenParcels$Worlds;" ∈ zTbl := zmem 524 (by decide +kernel) rfl
theorem flX7_42 : zFld RX7 42 7 6 := ⟨(RX7, TX7, 13), rfl, by decide, rfl, uX7, Or.inl (zmem 525 (by decide +kernel) rfl)⟩
theorem fkX7_42 : Cond.fieldLink RX7 42 RX7 "finder" "LShakenParcels$Finder;" ∈ zTbl := zmem 525 (by decide +kernel) rfl
theorem flX7_49 : zFld RX7 49 7 7 := ⟨(RX7, TX7, 13), rfl, by decide, rfl, uX7, Or.inl (zmem 526 (by decide +kernel) rfl)⟩
theorem fkX7_49 : Cond.fieldLink RX7 49 RX7 "now" "LShakenParcels$Scene;" ∈ zTbl := zmem 526 (by decide +kernel) rfl
theorem flX7_58 : zFld RX7 58 7 8 := ⟨(RX7, TX7, 13), rfl, by decide, rfl, uX7, Or.inl (zmem 527 (by decide +kernel) rfl)⟩
theorem fkX7_58 : Cond.fieldLink RX7 58 RX7 "undoable" "LShakenParcels$Scenes;" ∈ zTbl := zmem 527 (by decide +kernel) rfl
theorem flX7_62 : zFld RX7 62 7 9 := ⟨(RX7, TX7, 13), rfl, by decide, rfl, uX7, Or.inl (zmem 528 (by decide +kernel) rfl)⟩
theorem fkX7_62 : Cond.fieldLink RX7 62 RX7 "kept" "LShakenParcels$Scenes;" ∈ zTbl := zmem 528 (by decide +kernel) rfl
theorem flX7_65 : zFld RX7 65 7 10 := ⟨(RX7, TX7, 13), rfl, by decide, rfl, uX7, Or.inl (zmem 529 (by decide +kernel) rfl)⟩
theorem fkX7_65 : Cond.fieldLink RX7 65 RX7 "chanceBySet" "[J" ∈ zTbl := zmem 529 (by decide +kernel) rfl
theorem flX7_69 : zFld RX7 69 7 11 := ⟨(RX7, TX7, 13), rfl, by decide, rfl, uX7, Or.inl (zmem 530 (by decide +kernel) rfl)⟩
theorem flX7_73 : zFld RX7 73 7 12 := ⟨(RX7, TX7, 13), rfl, by decide, rfl, uX7, Or.inl (zmem 531 (by decide +kernel) rfl)⟩
theorem flX8_113 : zFld RX8 113 8 0 := ⟨(RX8, TX8, 33), rfl, by decide, rfl, uX8, Or.inl (zmem 943 (by decide +kernel) rfl)⟩
theorem flX8_7 : zFld RX8 7 8 1 := ⟨(RX8, TX8, 33), rfl, by decide, rfl, uX8, Or.inl (zmem 944 (by decide +kernel) rfl)⟩
theorem fkX8_7 : Cond.fieldLink RX8 7 RX8 "text" "[I" ∈ zTbl := zmem 944 (by decide +kernel) rfl
theorem flX8_13 : zFld RX8 13 8 2 := ⟨(RX8, TX8, 33), rfl, by decide, rfl, uX8, Or.inl (zmem 945 (by decide +kernel) rfl)⟩
theorem fkX8_13 : Cond.fieldLink RX8 13 RX8 "things" "[I" ∈ zTbl := zmem 945 (by decide +kernel) rfl
theorem flX8_16 : zFld RX8 16 8 3 := ⟨(RX8, TX8, 33), rfl, by decide, rfl, uX8, Or.inl (zmem 946 (by decide +kernel) rfl)⟩
theorem fkX8_16 : Cond.fieldLink RX8 16 RX8 "weights" "[I" ∈ zTbl := zmem 946 (by decide +kernel) rfl
theorem flX8_19 : zFld RX8 19 8 4 := ⟨(RX8, TX8, 33), rfl, by decide, rfl, uX8, Or.inl (zmem 947 (by decide +kernel) rfl)⟩
theorem fkX8_19 : Cond.fieldLink RX8 19 RX8 "kinds" "[I" ∈ zTbl := zmem 947 (by decide +kernel) rfl
theorem flX8_22 : zFld RX8 22 8 5 := ⟨(RX8, TX8, 33), rfl, by decide, rfl, uX8, Or.inl (zmem 948 (by decide +kernel) rfl)⟩
theorem fkX8_22 : Cond.fieldLink RX8 22 RX8 "values" "[I" ∈ zTbl := zmem 948 (by decide +kernel) rfl
theorem flX8_25 : zFld RX8 25 8 6 := ⟨(RX8, TX8, 33), rfl, by decide, rfl, uX8, Or.inl (zmem 949 (by decide +kernel) rfl)⟩
theorem fkX8_25 : Cond.fieldLink RX8 25 RX8 "chances" "[I" ∈ zTbl := zmem 949 (by decide +kernel) rfl
theorem flX8_28 : zFld RX8 28 8 7 := ⟨(RX8, TX8, 33), rfl, by decide, rfl, uX8, Or.inl (zmem 950 (by decide +kernel) rfl)⟩
theorem fkX8_28 : Cond.fieldLink RX8 28 RX8 "parcels" "[I" ∈ zTbl := zmem 950 (by decide +kernel) rfl
theorem flX8_31 : zFld RX8 31 8 8 := ⟨(RX8, TX8, 33), rfl, by decide, rfl, uX8, Or.inl (zmem 951 (by decide +kernel) rfl)⟩
theorem fkX8_31 : Cond.fieldLink RX8 31 RX8 "boxes" "[I" ∈ zTbl := zmem 951 (by decide +kernel) rfl
theorem flX8_34 : zFld RX8 34 8 9 := ⟨(RX8, TX8, 33), rfl, by decide, rfl, uX8, Or.inl (zmem 952 (by decide +kernel) rfl)⟩
theorem fkX8_34 : Cond.fieldLink RX8 34 RX8 "childOf" "[I" ∈ zTbl := zmem 952 (by decide +kernel) rfl
theorem flX8_37 : zFld RX8 37 8 10 := ⟨(RX8, TX8, 33), rfl, by decide, rfl, uX8, Or.inl (zmem 953 (by decide +kernel) rfl)⟩
theorem fkX8_37 : Cond.fieldLink RX8 37 RX8 "sizes" "[I" ∈ zTbl := zmem 953 (by decide +kernel) rfl
theorem flX8_40 : zFld RX8 40 8 11 := ⟨(RX8, TX8, 33), rfl, by decide, rfl, uX8, Or.inl (zmem 954 (by decide +kernel) rfl)⟩
theorem fkX8_40 : Cond.fieldLink RX8 40 RX8 "scale" "[I" ∈ zTbl := zmem 954 (by decide +kernel) rfl
theorem flX8_43 : zFld RX8 43 8 12 := ⟨(RX8, TX8, 33), rfl, by decide, rfl, uX8, Or.inl (zmem 955 (by decide +kernel) rfl)⟩
theorem fkX8_43 : Cond.fieldLink RX8 43 RX8 "apart" "[I" ∈ zTbl := zmem 955 (by decide +kernel) rfl
theorem flX8_46 : zFld RX8 46 8 13 := ⟨(RX8, TX8, 33), rfl, by decide, rfl, uX8, Or.inl (zmem 956 (by decide +kernel) rfl)⟩
theorem fkX8_46 : Cond.fieldLink RX8 46 RX8 "noticed" "[I" ∈ zTbl := zmem 956 (by decide +kernel) rfl
theorem flX8_49 : zFld RX8 49 8 14 := ⟨(RX8, TX8, 33), rfl, by decide, rfl, uX8, Or.inl (zmem 957 (by decide +kernel) rfl)⟩
theorem fkX8_49 : Cond.fieldLink RX8 49 RX8 "takes" "[I" ∈ zTbl := zmem 957 (by decide +kernel) rfl
theorem flX8_52 : zFld RX8 52 8 15 := ⟨(RX8, TX8, 33), rfl, by decide, rfl, uX8, Or.inl (zmem 958 (by decide +kernel) rfl)⟩
theorem fkX8_52 : Cond.fieldLink RX8 52 RX8 "toldIn" "[I" ∈ zTbl := zmem 958 (by decide +kernel) rfl
theorem flX8_55 : zFld RX8 55 8 16 := ⟨(RX8, TX8, 33), rfl, by decide, rfl, uX8, Or.inl (zmem 959 (by decide +kernel) rfl)⟩
theorem fkX8_55 : Cond.fieldLink RX8 55 RX8 "worlds" "[I" ∈ zTbl := zmem 959 (by decide +kernel) rfl
theorem flX8_172 : zFld RX8 172 8 17 := ⟨(RX8, TX8, 33), rfl, by decide, rfl, uX8, Or.inl (zmem 960 (by decide +kernel) rfl)⟩
theorem flX8_58 : zFld RX8 58 8 18 := ⟨(RX8, TX8, 33), rfl, by decide, rfl, uX8, Or.inl (zmem 961 (by decide +kernel) rfl)⟩
theorem fkX8_58 : Cond.fieldLink RX8 58 RX8 "now" "[I" ∈ zTbl := zmem 961 (by decide +kernel) rfl
theorem flX8_61 : zFld RX8 61 8 19 := ⟨(RX8, TX8, 33), rfl, by decide, rfl, uX8, Or.inl (zmem 962 (by decide +kernel) rfl)⟩
theorem fkX8_61 : Cond.fieldLink RX8 61 RX8 "before" "[I" ∈ zTbl := zmem 962 (by decide +kernel) rfl
theorem flX8_175 : zFld RX8 175 8 20 := ⟨(RX8, TX8, 33), rfl, by decide, rfl, uX8, Or.inl (zmem 963 (by decide +kernel) rfl)⟩
theorem flX8_64 : zFld RX8 64 8 21 := ⟨(RX8, TX8, 33), rfl, by decide, rfl, uX8, Or.inl (zmem 964 (by decide +kernel) rfl)⟩
theorem fkX8_64 : Cond.fieldLink RX8 64 RX8 "kept" "[I" ∈ zTbl := zmem 964 (by decide +kernel) rfl
theorem flX8_178 : zFld RX8 178 8 22 := ⟨(RX8, TX8, 33), rfl, by decide, rfl, uX8, Or.inl (zmem 965 (by decide +kernel) rfl)⟩
theorem flX8_117 : zFld RX8 117 8 23 := ⟨(RX8, TX8, 33), rfl, by decide, rfl, uX8, Or.inl (zmem 966 (by decide +kernel) rfl)⟩
theorem flX8_67 : zFld RX8 67 8 24 := ⟨(RX8, TX8, 33), rfl, by decide, rfl, uX8, Or.inl (zmem 967 (by decide +kernel) rfl)⟩
theorem fkX8_67 : Cond.fieldLink RX8 67 RX8 "told" "[I" ∈ zTbl := zmem 967 (by decide +kernel) rfl
theorem flX8_70 : zFld RX8 70 8 25 := ⟨(RX8, TX8, 33), rfl, by decide, rfl, uX8, Or.inl (zmem 968 (by decide +kernel) rfl)⟩
theorem fkX8_70 : Cond.fieldLink RX8 70 RX8 "partly" "[I" ∈ zTbl := zmem 968 (by decide +kernel) rfl
theorem flX8_73 : zFld RX8 73 8 26 := ⟨(RX8, TX8, 33), rfl, by decide, rfl, uX8, Or.inl (zmem 969 (by decide +kernel) rfl)⟩
theorem fkX8_73 : Cond.fieldLink RX8 73 RX8 "may" "[Z" ∈ zTbl := zmem 969 (by decide +kernel) rfl
theorem flX8_77 : zFld RX8 77 8 27 := ⟨(RX8, TX8, 33), rfl, by decide, rfl, uX8, Or.inl (zmem 970 (by decide +kernel) rfl)⟩
theorem fkX8_77 : Cond.fieldLink RX8 77 RX8 "bySet" "[J" ∈ zTbl := zmem 970 (by decide +kernel) rfl
theorem flX8_81 : zFld RX8 81 8 28 := ⟨(RX8, TX8, 33), rfl, by decide, rfl, uX8, Or.inl (zmem 971 (by decide +kernel) rfl)⟩
theorem fkX8_81 : Cond.fieldLink RX8 81 RX8 "byAnswer" "[I" ∈ zTbl := zmem 971 (by decide +kernel) rfl
theorem flX8_239 : zFld RX8 239 8 29 := ⟨(RX8, TX8, 33), rfl, by decide, rfl, uX8, Or.inl (zmem 972 (by decide +kernel) rfl)⟩
theorem flX8_84 : zFld RX8 84 8 30 := ⟨(RX8, TX8, 33), rfl, by decide, rfl, uX8, Or.inl (zmem 973 (by decide +kernel) rfl)⟩
theorem fkX8_84 : Cond.fieldLink RX8 84 RX8 "twoIn" "[I" ∈ zTbl := zmem 973 (by decide +kernel) rfl
theorem flX8_87 : zFld RX8 87 8 31 := ⟨(RX8, TX8, 33), rfl, by decide, rfl, uX8, Or.inl (zmem 974 (by decide +kernel) rfl)⟩
theorem fkX8_87 : Cond.fieldLink RX8 87 RX8 "known" "[Z" ∈ zTbl := zmem 974 (by decide +kernel) rfl
theorem flX8_258 : zFld RX8 258 8 32 := ⟨(RX8, TX8, 33), rfl, by decide, rfl, uX8, Or.inl (zmem 975 (by decide +kernel) rfl)⟩
theorem flX7_100 : zFld RX7 100 3 1 := ⟨(RX3, TX3, 4), rfl, by decide, rfl, uX3, Or.inr ⟨_, zmemN (w := Cond.fieldLinkNest RX7 100 RX3 "length" "I" "ShakenParcels") 95 (by decide +kernel) rfl⟩⟩
theorem flX7_116 : zFld RX7 116 4 0 := ⟨(RX4, TX4, 11), rfl, by decide, rfl, uX4, Or.inr ⟨_, zmemN (w := Cond.fieldLinkNest RX7 116 RX4 "weight" "[I" "ShakenParcels") 122 (by decide +kernel) rfl⟩⟩
theorem flX7_126 : zFld RX7 126 4 1 := ⟨(RX4, TX4, 11), rfl, by decide, rfl, uX4, Or.inr ⟨_, zmemN (w := Cond.fieldLinkNest RX7 126 RX4 "kind" "[I" "ShakenParcels") 124 (by decide +kernel) rfl⟩⟩
theorem flX7_129 : zFld RX7 129 4 2 := ⟨(RX4, TX4, 11), rfl, by decide, rfl, uX4, Or.inr ⟨_, zmemN (w := Cond.fieldLinkNest RX7 129 RX4 "worth" "[I" "ShakenParcels") 126 (by decide +kernel) rfl⟩⟩
theorem flX7_132 : zFld RX7 132 4 3 := ⟨(RX4, TX4, 11), rfl, by decide, rfl, uX4, Or.inr ⟨_, zmemN (w := Cond.fieldLinkNest RX7 132 RX4 "chance" "[I" "ShakenParcels") 128 (by decide +kernel) rfl⟩⟩
theorem flX5_82 : zFld RX5 82 4 4 := ⟨(RX4, TX4, 11), rfl, by decide, rfl, uX4, Or.inr ⟨_, zmemN (w := Cond.fieldLinkNest RX5 82 RX4 "amount" "I" "ShakenParcels") 130 (by decide +kernel) rfl⟩⟩
theorem flX7_167 : zFld RX7 167 4 4 := ⟨(RX4, TX4, 11), rfl, by decide, rfl, uX4, Or.inr ⟨_, zmemN (w := Cond.fieldLinkNest RX7 167 RX4 "amount" "I" "ShakenParcels") 131 (by decide +kernel) rfl⟩⟩
theorem flX0_155 : zFld RX0 155 4 4 := ⟨(RX4, TX4, 11), rfl, by decide, rfl, uX4, Or.inr ⟨_, zmemN (w := Cond.fieldLinkNest RX0 155 RX4 "amount" "I" "ShakenParcels") 132 (by decide +kernel) rfl⟩⟩
theorem flX5_132 : zFld RX5 132 4 5 := ⟨(RX4, TX4, 11), rfl, by decide, rfl, uX4, Or.inr ⟨_, zmemN (w := Cond.fieldLinkNest RX5 132 RX4 "weightOfSet" "[I" "ShakenParcels") 134 (by decide +kernel) rfl⟩⟩
theorem flX5_126 : zFld RX5 126 4 6 := ⟨(RX4, TX4, 11), rfl, by decide, rfl, uX4, Or.inr ⟨_, zmemN (w := Cond.fieldLinkNest RX5 126 RX4 "worthOfSet" "[I" "ShakenParcels") 136 (by decide +kernel) rfl⟩⟩
theorem flX5_129 : zFld RX5 129 4 7 := ⟨(RX4, TX4, 11), rfl, by decide, rfl, uX4, Or.inr ⟨_, zmemN (w := Cond.fieldLinkNest RX5 129 RX4 "chanceOfSet" "[I" "ShakenParcels") 138 (by decide +kernel) rfl⟩⟩
theorem flX7_112 : zFld RX7 112 5 0 := ⟨(RX5, TX5, 10), rfl, by decide, rfl, uX5, Or.inr ⟨_, zmemN (w := Cond.fieldLinkNest RX7 112 RX5 "things" "LShakenParcels$Things;" "ShakenParcels") 166 (by decide +kernel) rfl⟩⟩
theorem flX0_151 : zFld RX0 151 5 0 := ⟨(RX5, TX5, 10), rfl, by decide, rfl, uX5, Or.inr ⟨_, zmemN (w := Cond.fieldLinkNest RX0 151 RX5 "things" "LShakenParcels$Things;" "ShakenParcels") 167 (by decide +kernel) rfl⟩⟩
theorem flX7_142 : zFld RX7 142 5 1 := ⟨(RX5, TX5, 10), rfl, by decide, rfl, uX5, Or.inr ⟨_, zmemN (w := Cond.fieldLinkNest RX7 142 RX5 "box" "[I" "ShakenParcels") 169 (by decide +kernel) rfl⟩⟩
theorem flX7_145 : zFld RX7 145 5 2 := ⟨(RX5, TX5, 10), rfl, by decide, rfl, uX5, Or.inr ⟨_, zmemN (w := Cond.fieldLinkNest RX7 145 RX5 "child" "[I" "ShakenParcels") 171 (by decide +kernel) rfl⟩⟩
theorem flX7_148 : zFld RX7 148 5 3 := ⟨(RX5, TX5, 10), rfl, by decide, rfl, uX5, Or.inr ⟨_, zmemN (w := Cond.fieldLinkNest RX7 148 RX5 "room" "[I" "ShakenParcels") 173 (by decide +kernel) rfl⟩⟩
theorem flX0_39 : zFld RX0 39 5 4 := ⟨(RX5, TX5, 10), rfl, by decide, rfl, uX5, Or.inr ⟨_, zmemN (w := Cond.fieldLinkNest RX0 39 RX5 "parcels" "I" "ShakenParcels") 175 (by decide +kernel) rfl⟩⟩
theorem flX7_287 : zFld RX7 287 5 4 := ⟨(RX5, TX5, 10), rfl, by decide, rfl, uX5, Or.inr ⟨_, zmemN (w := Cond.fieldLinkNest RX7 287 RX5 "parcels" "I" "ShakenParcels") 176 (by decide +kernel) rfl⟩⟩
theorem flX7_290 : zFld RX7 290 5 5 := ⟨(RX5, TX5, 10), rfl, by decide, rfl, uX5, Or.inr ⟨_, zmemN (w := Cond.fieldLinkNest RX7 290 RX5 "told" "I" "ShakenParcels") 178 (by decide +kernel) rfl⟩⟩
theorem flX7_245 : zFld RX7 245 5 8 := ⟨(RX5, TX5, 10), rfl, by decide, rfl, uX5, Or.inr ⟨_, zmemN (w := Cond.fieldLinkNest RX7 245 RX5 "noticed" "[I" "ShakenParcels") 182 (by decide +kernel) rfl⟩⟩
theorem flX0_110 : zFld RX0 110 5 9 := ⟨(RX5, TX5, 10), rfl, by decide, rfl, uX5, Or.inr ⟨_, zmemN (w := Cond.fieldLinkNest RX0 110 RX5 "lasting" "[I" "ShakenParcels") 184 (by decide +kernel) rfl⟩⟩
theorem flX7_256 : zFld RX7 256 5 9 := ⟨(RX5, TX5, 10), rfl, by decide, rfl, uX5, Or.inr ⟨_, zmemN (w := Cond.fieldLinkNest RX7 256 RX5 "lasting" "[I" "ShakenParcels") 185 (by decide +kernel) rfl⟩⟩
theorem flX0_31 : zFld RX0 31 6 1 := ⟨(RX6, TX6, 2), rfl, by decide, rfl, uX6, Or.inr ⟨_, zmemN (w := Cond.fieldLinkNest RX0 31 RX6 "size" "I" "ShakenParcels") 214 (by decide +kernel) rfl⟩⟩
theorem flX7_106 : zFld RX7 106 6 1 := ⟨(RX6, TX6, 2), rfl, by decide, rfl, uX6, Or.inr ⟨_, zmemN (w := Cond.fieldLinkNest RX7 106 RX6 "size" "I" "ShakenParcels") 216 (by decide +kernel) rfl⟩⟩
theorem flX7_231 : zFld RX7 231 0 0 := ⟨(RX0, TX0, 9), rfl, by decide, rfl, uX0, Or.inr ⟨_, zmemN (w := Cond.fieldLinkNest RX7 231 RX0 "trial" "I" "ShakenParcels") 229 (by decide +kernel) rfl⟩⟩
theorem flX7_234 : zFld RX7 234 0 1 := ⟨(RX0, TX0, 9), rfl, by decide, rfl, uX0, Or.inr ⟨_, zmemN (w := Cond.fieldLinkNest RX7 234 RX0 "worst" "I" "ShakenParcels") 231 (by decide +kernel) rfl⟩⟩
theorem flX7_335 : zFld RX7 335 0 2 := ⟨(RX0, TX0, 9), rfl, by decide, rfl, uX0, Or.inr ⟨_, zmemN (w := Cond.fieldLinkNest RX7 335 RX0 "trials" "I" "ShakenParcels") 233 (by decide +kernel) rfl⟩⟩
theorem flX7_337 : zFld RX7 337 0 3 := ⟨(RX0, TX0, 9), rfl, by decide, rfl, uX0, Or.inr ⟨_, zmemN (w := Cond.fieldLinkNest RX7 337 RX0 "spent" "I" "ShakenParcels") 235 (by decide +kernel) rfl⟩⟩
theorem flX7_267 : zFld RX7 267 0 5 := ⟨(RX0, TX0, 9), rfl, by decide, rfl, uX0, Or.inr ⟨_, zmemN (w := Cond.fieldLinkNest RX7 267 RX0 "byReply" "[I" "ShakenParcels") 238 (by decide +kernel) rfl⟩⟩
theorem flX7_151 : zFld RX7 151 1 0 := ⟨(RX1, TX1, 5), rfl, by decide, rfl, uX1, Or.inr ⟨_, zmemN (w := Cond.fieldLinkNest RX7 151 RX1 "truth" "I" "ShakenParcels") 268 (by decide +kernel) rfl⟩⟩
theorem flX7_158 : zFld RX7 158 1 1 := ⟨(RX1, TX1, 5), rfl, by decide, rfl, uX1, Or.inr ⟨_, zmemN (w := Cond.fieldLinkNest RX7 158 RX1 "hidden" "[I" "ShakenParcels") 270 (by decide +kernel) rfl⟩⟩
theorem flX7_248 : zFld RX7 248 1 2 := ⟨(RX1, TX1, 5), rfl, by decide, rfl, uX1, Or.inr ⟨_, zmemN (w := Cond.fieldLinkNest RX7 248 RX1 "trials" "[I" "ShakenParcels") 272 (by decide +kernel) rfl⟩⟩
theorem flX7_318 : zFld RX7 318 1 3 := ⟨(RX1, TX1, 5), rfl, by decide, rfl, uX1, Or.inr ⟨_, zmemN (w := Cond.fieldLinkNest RX7 318 RX1 "replies" "[I" "ShakenParcels") 274 (by decide +kernel) rfl⟩⟩
theorem flX7_185 : zFld RX7 185 1 4 := ⟨(RX1, TX1, 5), rfl, by decide, rfl, uX1, Or.inr ⟨_, zmemN (w := Cond.fieldLinkNest RX7 185 RX1 "answers" "I" "ShakenParcels") 276 (by decide +kernel) rfl⟩⟩
theorem flX7_207 : zFld RX7 207 2 1 := ⟨(RX2, TX2, 2), rfl, by decide, rfl, uX2, Or.inr ⟨_, zmemN (w := Cond.fieldLinkNest RX7 207 RX2 "size" "I" "ShakenParcels") 302 (by decide +kernel) rfl⟩⟩
def MX7_init : zM := (yX7_init, cX7_init, 2, none)
def MX3_init : zM := (yX3_init, cX3_init, 1, none)
def MX5_init : zM := (yX5_init, cX5_init, 1, none)
def MX4_init : zM := (yX4_init, cX4_init, 1, none)
def MX6_init : zM := (yX6_init, cX6_init, 1, none)
def MX0_init : zM := (yX0_init, cX0_init, 1, none)
def MX1_init : zM := (yX1_init, cX1_init, 1, none)
def MX2_init : zM := (yX2_init, cX2_init, 3, none)
def MJ9_max_7cf53 : zM := (yJ9_max_7cf53, cJ9_max_7cf53, 2, some .int)
def MJ0_length_8abf5 : zM := (yJ0_length_8abf5, cJ0_length_8abf5, 1, some .int)
def MJ0_coder_7d493 : zM := (yJ0_coder_7d493, cJ0_coder_7d493, 1, some .byte)
def MJ0_charAt_5068e : zM := (yJ0_charAt_5068e, cJ0_charAt_5068e, 2, some .char)
def MJ0_isLatin1_aae02 : zM := (yJ0_isLatin1_aae02, cJ0_isLatin1_aae02, 1, some .boolean)
def MJ1_charAt_3b067 : zM := (yJ1_charAt_3b067, cJ1_charAt_3b067, 2, some .char)
def MJ0_checkIndex_df160 : zM := (yJ0_checkIndex_df160, cJ0_checkIndex_df160, 2, none)
def MJ3_checkIndex_8e157 : zM := (yJ3_checkIndex_8e157, cJ3_checkIndex_8e157, 3, some .int)
def MJ2_charAt_3b067 : zM := (yJ2_charAt_3b067, cJ2_charAt_3b067, 2, some .char)
def MJ2_checkIndex_2214a : zM := (yJ2_checkIndex_2214a, cJ2_checkIndex_2214a, 2, none)
def MJ2_length_9d52b : zM := (yJ2_length_9d52b, cJ2_length_9d52b, 1, some .int)
def MJ2_getChar_3b067 : zM := (yJ2_getChar_3b067, cJ2_getChar_3b067, 2, some .char)
def MX3_add : zM := (yX3_add, cX3_add, 2, some .boolean)
def MX7_layText : zM := (yX7_layText, cX7_layText, 3, some .boolean)
def MX3_readInto : zM := (yX3_readInto, cX3_readInto, 5, some .int)
def MX5_clear : zM := (yX5_clear, cX5_clear, 1, none)
def MX4_clear : zM := (yX4_clear, cX4_clear, 1, none)
def MX7_put : zM := (yX7_put, cX7_put, 3, none)
def MJ7_fill_53178 : zM := (yJ7_fill_53178, cJ7_fill_53178, 4, none)
def MX3_readNumbers : zM := (yX3_readNumbers, cX3_readNumbers, 6, some .int)
def MX3_figuresAt : zM := (yX3_figuresAt, cX3_figuresAt, 2, some .int)
def MX3_letterAt : zM := (yX3_letterAt, cX3_letterAt, 2, some .int)
def MX3_isFigure : zM := (yX3_isFigure, cX3_isFigure, 1, some .boolean)
def MX7_isWithin : zM := (yX7_isWithin, cX7_isWithin, 3, some .boolean)
def MX3_numberAt : zM := (yX3_numberAt, cX3_numberAt, 4, some .int)
def MX5_takes : zM := (yX5_takes, cX5_takes, 4, some .boolean)
def MX5_takesThing : zM := (yX5_takesThing, cX5_takesThing, 2, some .boolean)
def MX7_at : zM := (yX7_at, cX7_at, 2, some .int)
def MX4_add : zM := (yX4_add, cX4_add, 4, none)
def MX4_sortByKind : zM := (yX4_sortByKind, cX4_sortByKind, 3, none)
def MX5_takesParcel : zM := (yX5_takesParcel, cX5_takesParcel, 2, some .boolean)
def MX5_takesTruth : zM := (yX5_takesTruth, cX5_takesTruth, 3, some .boolean)
def MX7_isBelow : zM := (yX7_isBelow, cX7_isBelow, 2, some .boolean)
def MX5_takesScale : zM := (yX5_takesScale, cX5_takesScale, 2, some .boolean)
def MX5_takesApart : zM := (yX5_takesApart, cX5_takesApart, 2, some .boolean)
def MX5_takesSort : zM := (yX5_takesSort, cX5_takesSort, 4, some .boolean)
def MX7_isSort : zM := (yX7_isSort, cX7_isSort, 1, some .boolean)
def MX5_isWorld : zM := (yX5_isWorld, cX5_isWorld, 5, some .boolean)
def MX7_inside : zM := (yX7_inside, cX7_inside, 2, some .int)
def MJ6_bitCount_0f7a4 : zM := (yJ6_bitCount_0f7a4, cJ6_bitCount_0f7a4, 1, some .int)
def MX5_isFair : zM := (yX5_isFair, cX5_isFair, 2, some .boolean)
def MX5_hasParcels : zM := (yX5_hasParcels, cX5_hasParcels, 3, some .boolean)
def MX5_worthFor : zM := (yX5_worthFor, cX5_worthFor, 5, some .int)
def MJ9_abs_0f7a4 : zM := (yJ9_abs_0f7a4, cJ9_abs_0f7a4, 1, some .int)
def MX5_mostWorlds : zM := (yX5_mostWorlds, cX5_mostWorlds, 4, some .int)
def MX6_makeRoom : zM := (yX6_makeRoom, cX6_makeRoom, 2, none)
def MX5_listWorlds : zM := (yX5_listWorlds, cX5_listWorlds, 2, none)
def MX6_clear : zM := (yX6_clear, cX6_clear, 1, none)
def MX5_addWorlds : zM := (yX5_addWorlds, cX5_addWorlds, 8, none)
def MX6_add : zM := (yX6_add, cX6_add, 2, none)
def MX1_begin : zM := (yX1_begin, cX1_begin, 2, none)
def MX2_clear : zM := (yX2_clear, cX2_clear, 1, none)
def MX3_clear : zM := (yX3_clear, cX3_clear, 1, none)
def MX7_write : zM := (yX7_write, cX7_write, 2, some .int)
def MX7_wipe : zM := (yX7_wipe, cX7_wipe, 2, some .int)
def MX7_fault : zM := (yX7_fault, cX7_fault, 1, some .int)
def MX7_lay : zM := (yX7_lay, cX7_lay, 1, some .int)
def MX7_thing : zM := (yX7_thing, cX7_thing, 3, some .int)
def MX7_isThing : zM := (yX7_isThing, cX7_isThing, 2, some .boolean)
def MX7_parcelWith : zM := (yX7_parcelWith, cX7_parcelWith, 3, some .int)
def MX7_parcel : zM := (yX7_parcel, cX7_parcel, 3, some .int)
def MX7_isParcel : zM := (yX7_isParcel, cX7_isParcel, 2, some .boolean)
def MX7_world : zM := (yX7_world, cX7_world, 3, some .int)
def MX6_take : zM := (yX6_take, cX6_take, 2, some .int)
def MX7_answer : zM := (yX7_answer, cX7_answer, 4, some .int)
def MX5_reply : zM := (yX5_reply, cX5_reply, 5, some .int)
def MX5_inSteps : zM := (yX5_inSteps, cX5_inSteps, 2, some .int)
def MX4_tipped : zM := (yX4_tipped, cX4_tipped, 2, some .int)
def MX4_shaken : zM := (yX4_shaken, cX4_shaken, 2, some .int)
def MX4_pressed : zM := (yX4_pressed, cX4_pressed, 2, some .int)
def MX7_attempt : zM := (yX7_attempt, cX7_attempt, 4, some .int)
def MX1_isFull : zM := (yX1_isFull, cX1_isFull, 1, some .boolean)
def MX7_note : zM := (yX7_note, cX7_note, 4, none)
def MX2_push : zM := (yX2_push, cX2_push, 2, none)
def MX2_isFull : zM := (yX2_isFull, cX2_isFull, 1, some .boolean)
def MX2_dropLowest : zM := (yX2_dropLowest, cX2_dropLowest, 3, none)
def MX1_copy : zM := (yX1_copy, cX1_copy, 3, none)
def MX7_trialOf : zM := (yX7_trialOf, cX7_trialOf, 2, some .int)
def MX1_add : zM := (yX1_add, cX1_add, 3, none)
def MX7_hear : zM := (yX7_hear, cX7_hear, 4, some .int)
def MX7_change : zM := (yX7_change, cX7_change, 4, some .int)
def MX7_swapped : zM := (yX7_swapped, cX7_swapped, 4, some .int)
def MX7_hide : zM := (yX7_hide, cX7_hide, 4, some .int)
def MX7_undo : zM := (yX7_undo, cX7_undo, 1, some .int)
def MX2_popInto : zM := (yX2_popInto, cX2_popInto, 2, some .boolean)
def MX7_left : zM := (yX7_left, cX7_left, 1, some .int)
def MX7_findRemaining : zM := (yX7_findRemaining, cX7_findRemaining, 3, some (.object "ShakenParcels$Worlds"))
def MX6_copy : zM := (yX6_copy, cX6_copy, 2, none)
def MJ9_min_7cf53 : zM := (yJ9_min_7cf53, cJ9_min_7cf53, 2, some .int)
def MX7_parcelOf : zM := (yX7_parcelOf, cX7_parcelOf, 1, some .int)
def MX7_sortOf : zM := (yX7_sortOf, cX7_sortOf, 1, some .int)
def MX6_narrow : zM := (yX6_narrow, cX6_narrow, 8, none)
def MX7_likely : zM := (yX7_likely, cX7_likely, 13, some .long)
def MX5_chanceOf : zM := (yX5_chanceOf, cX5_chanceOf, 4, some .int)
def MX7_inLowestTerms : zM := (yX7_inLowestTerms, cX7_inLowestTerms, 12, some .long)
def MX7_sure : zM := (yX7_sure, cX7_sure, 7, some .int)
def MX7_judge : zM := (yX7_judge, cX7_judge, 1, some .int)
def MX7_guess : zM := (yX7_guess, cX7_guess, 8, some .long)
def MX7_sumChances : zM := (yX7_sumChances, cX7_sumChances, 10, some .long)
def MJ7_fill_d0a16 : zM := (yJ7_fill_d0a16, cJ7_fill_d0a16, 5, none)
def MX7_next : zM := (yX7_next, cX7_next, 3, some .int)
def MX0_choose : zM := (yX0_choose, cX0_choose, 6, none)
def MX0_countSets : zM := (yX0_countSets, cX0_countSets, 4, none)
def MX7_raise : zM := (yX7_raise, cX7_raise, 3, none)
def MX0_countReplies : zM := (yX0_countReplies, cX0_countReplies, 7, some .int)
def MX7_few : zM := (yX7_few, cX7_few, 2, some .int)
def MX0_fewest : zM := (yX0_fewest, cX0_fewest, 6, some .int)
def MX0_isKnown : zM := (yX0_isKnown, cX0_isKnown, 4, some .boolean)
def MX0_someTrialTells : zM := (yX0_someTrialTells, cX0_someTrialTells, 7, some .boolean)
def MX5_trials : zM := (yX5_trials, cX5_trials, 1, some .int)
def MX0_tells : zM := (yX0_tells, cX0_tells, 14, some .boolean)
def MX0_group : zM := (yX0_group, cX0_group, 9, none)
def MX0_listReplies : zM := (yX0_listReplies, cX0_listReplies, 5, none)
def MX6_set : zM := (yX6_set, cX6_set, 3, none)
def MX0_eachGroupIsTold : zM := (yX0_eachGroupIsTold, cX0_eachGroupIsTold, 7, some .boolean)
def MX7_solved : zM := (yX7_solved, cX7_solved, 2, some .int)
def MX7_solve : zM := (yX7_solve, cX7_solve, 4, some .int)
def MX0_solves : zM := (yX0_solves, cX0_solves, 7, some .boolean)
def MX6_holds : zM := (yX6_holds, cX6_holds, 3, some .boolean)
def MX7_risk : zM := (yX7_risk, cX7_risk, 7, some .long)
def MX7_seconds : zM := (yX7_seconds, cX7_seconds, 3, some .int)
def MX7_misled : zM := (yX7_misled, cX7_misled, 7, some .int)
def MX7_more : zM := (yX7_more, cX7_more, 7, some .int)
def MJ6_compare_7cf53 : zM := (yJ6_compare_7cf53, cJ6_compare_7cf53, 2, some .int)
def MX7_heavier : zM := (yX7_heavier, cX7_heavier, 7, some .int)
def MX5_weightWithBox : zM := (yX5_weightWithBox, cX5_weightWithBox, 3, some .int)
def MX7_morning : zM := (yX7_morning, cX7_morning, 6, some .int)
def MX7_keep : zM := (yX7_keep, cX7_keep, 1, some .int)
def MX7_back : zM := (yX7_back, cX7_back, 1, some .int)
def MX7_count : zM := (yX7_count, cX7_count, 2, some .int)
def MX8_init : zM := (yX8_init, cX8_init, 1, none)
def MX8_noTree : zM := (yX8_noTree, cX8_noTree, 3, none)
def MX8_addThing : zM := (yX8_addThing, cX8_addThing, 7, none)
def MX8_addParcel : zM := (yX8_addParcel, cX8_addParcel, 6, none)
def MX8_begin : zM := (yX8_begin, cX8_begin, 2, none)
def MX8_layWorlds : zM := (yX8_layWorlds, cX8_layWorlds, 6, none)
def MX8_bits : zM := (yX8_bits, cX8_bits, 3, some .int)
def MX8_isFair : zM := (yX8_isFair, cX8_isFair, 5, some .boolean)
def MX8_gap : zM := (yX8_gap, cX8_gap, 7, some .int)
def MX8_has : zM := (yX8_has, cX8_has, 2, some .boolean)
def MX8_in : zM := (yX8_in, cX8_in, 6, some .boolean)
def MX8_write : zM := (yX8_write, cX8_write, 2, some .int)
def MX8_wipe : zM := (yX8_wipe, cX8_wipe, 2, some .int)
def MX8_fault : zM := (yX8_fault, cX8_fault, 1, some .int)
def MX8_readAll : zM := (yX8_readAll, cX8_readAll, 2, some .int)
def MX8_item : zM := (yX8_item, cX8_item, 2, some .boolean)
def MX8_letterAt : zM := (yX8_letterAt, cX8_letterAt, 2, some .int)
def MX8_figures : zM := (yX8_figures, cX8_figures, 5, some .boolean)
def MX8_isThingTold : zM := (yX8_isThingTold, cX8_isThingTold, 1, some .boolean)
def MX8_lay : zM := (yX8_lay, cX8_lay, 2, some .int)
def MX8_isTruth : zM := (yX8_isTruth, cX8_isTruth, 4, some .boolean)
def MX8_codeOf : zM := (yX8_codeOf, cX8_codeOf, 5, some .int)
def MX8_thing : zM := (yX8_thing, cX8_thing, 5, some .int)
def MX8_isThing : zM := (yX8_isThing, cX8_isThing, 2, some .boolean)
def MX8_parcel : zM := (yX8_parcel, cX8_parcel, 3, some .int)
def MX8_isParcel : zM := (yX8_isParcel, cX8_isParcel, 2, some .boolean)
def MX8_world : zM := (yX8_world, cX8_world, 3, some .int)
def MX8_setIn : zM := (yX8_setIn, cX8_setIn, 2, some .int)
def MX8_answer : zM := (yX8_answer, cX8_answer, 4, some .int)
def MX8_answerOf : zM := (yX8_answerOf, cX8_answerOf, 5, some .int)
def MX8_weightOf : zM := (yX8_weightOf, cX8_weightOf, 5, some .int)
def MX8_manyOf : zM := (yX8_manyOf, cX8_manyOf, 5, some .int)
def MX8_attempt : zM := (yX8_attempt, cX8_attempt, 4, some .int)
def MX8_addAnswer : zM := (yX8_addAnswer, cX8_addAnswer, 4, none)
def MX8_note : zM := (yX8_note, cX8_note, 2, none)
def MX8_hear : zM := (yX8_hear, cX8_hear, 4, some .int)
def MX8_change : zM := (yX8_change, cX8_change, 5, some .int)
def MX8_truth : zM := (yX8_truth, cX8_truth, 1, some .int)
def MX8_hide : zM := (yX8_hide, cX8_hide, 4, some .int)
def MX8_undo : zM := (yX8_undo, cX8_undo, 2, some .int)
def MX8_left : zM := (yX8_left, cX8_left, 1, some .int)
def MX8_layLeft : zM := (yX8_layLeft, cX8_layLeft, 4, some .int)
def MX8_fits : zM := (yX8_fits, cX8_fits, 6, some .boolean)
def MX8_likely : zM := (yX8_likely, cX8_likely, 11, some .long)
def MX8_weighs : zM := (yX8_weighs, cX8_weighs, 7, some .long)
def MX8_common : zM := (yX8_common, cX8_common, 10, some .long)
def MX8_sure : zM := (yX8_sure, cX8_sure, 6, some .int)
def MX8_judge : zM := (yX8_judge, cX8_judge, 2, some .int)
def MX8_guess : zM := (yX8_guess, cX8_guess, 8, some .long)
def MX8_next : zM := (yX8_next, cX8_next, 3, some .int)
def MX8_bestTrial : zM := (yX8_bestTrial, cX8_bestTrial, 4, some .int)
def MX8_worstOf : zM := (yX8_worstOf, cX8_worstOf, 6, some .int)
def MX8_few : zM := (yX8_few, cX8_few, 3, some .int)
def MX8_layTwo : zM := (yX8_layTwo, cX8_layTwo, 7, none)
def MX8_meet : zM := (yX8_meet, cX8_meet, 3, none)
def MX8_isKnown : zM := (yX8_isKnown, cX8_isKnown, 4, some .boolean)
def MX8_isEnough : zM := (yX8_isEnough, cX8_isEnough, 5, some .boolean)
def MX8_solved : zM := (yX8_solved, cX8_solved, 3, some .int)
def MX8_solve : zM := (yX8_solve, cX8_solve, 8, some .int)
def MX8_risk : zM := (yX8_risk, cX8_risk, 8, some .long)
def MX8_seconds : zM := (yX8_seconds, cX8_seconds, 3, some .int)
def MX8_misled : zM := (yX8_misled, cX8_misled, 9, some .int)
def MX8_more : zM := (yX8_more, cX8_more, 5, some .int)
def MX8_heavier : zM := (yX8_heavier, cX8_heavier, 5, some .int)
def MX8_morning : zM := (yX8_morning, cX8_morning, 6, some .int)
def MX8_keep : zM := (yX8_keep, cX8_keep, 2, some .int)
def MX8_back : zM := (yX8_back, cX8_back, 2, some .int)
def MX8_count : zM := (yX8_count, cX8_count, 2, some .int)
theorem mdX7_init : zMd MX7_init 0 := ⟨zmem 83 (by decide +kernel) rfl, zmem 62 (by decide +kernel) rfl, by decide +kernel, by decide⟩
theorem isX7_init : Cond.instanceMethod MX7_init.1 ∈ zTbl := zmem 82 (by decide +kernel) rfl
theorem mdX3_init : zMd MX3_init 0 := ⟨zmem 91 (by decide +kernel) rfl, zmem 63 (by decide +kernel) rfl, by decide +kernel, by decide⟩
theorem isX3_init : Cond.instanceMethod MX3_init.1 ∈ zTbl := zmem 90 (by decide +kernel) rfl
theorem mdX5_init : zMd MX5_init 0 := ⟨zmem 113 (by decide +kernel) rfl, zmem 64 (by decide +kernel) rfl, by decide +kernel, by decide⟩
theorem isX5_init : Cond.instanceMethod MX5_init.1 ∈ zTbl := zmem 112 (by decide +kernel) rfl
theorem mdX4_init : zMd MX4_init 0 := ⟨zmem 119 (by decide +kernel) rfl, zmem 65 (by decide +kernel) rfl, by decide +kernel, by decide⟩
theorem isX4_init : Cond.instanceMethod MX4_init.1 ∈ zTbl := zmem 118 (by decide +kernel) rfl
theorem mdX6_init : zMd MX6_init 0 := ⟨zmem 211 (by decide +kernel) rfl, zmem 66 (by decide +kernel) rfl, by decide +kernel, by decide⟩
theorem isX6_init : Cond.instanceMethod MX6_init.1 ∈ zTbl := zmem 210 (by decide +kernel) rfl
theorem mdX0_init : zMd MX0_init 0 := ⟨zmem 226 (by decide +kernel) rfl, zmem 67 (by decide +kernel) rfl, by decide +kernel, by decide⟩
theorem isX0_init : Cond.instanceMethod MX0_init.1 ∈ zTbl := zmem 225 (by decide +kernel) rfl
theorem mdX1_init : zMd MX1_init 0 := ⟨zmem 265 (by decide +kernel) rfl, zmem 68 (by decide +kernel) rfl, by decide +kernel, by decide⟩
theorem isX1_init : Cond.instanceMethod MX1_init.1 ∈ zTbl := zmem 264 (by decide +kernel) rfl
theorem mdX2_init : zMd MX2_init 1 := ⟨zmem 292 (by decide +kernel) rfl, zmem 69 (by decide +kernel) rfl, by decide +kernel, by decide⟩
theorem isX2_init : Cond.instanceMethod MX2_init.1 ∈ zTbl := zmem 291 (by decide +kernel) rfl
theorem mdJ9_max_7cf53 : zMd MJ9_max_7cf53 2 := ⟨zmem 296 (by decide +kernel) rfl, zmem 70 (by decide +kernel) rfl, by decide +kernel, by decide⟩
theorem stJ9_max_7cf53 : Cond.static MJ9_max_7cf53.1 ∈ zTbl := zmem 295 (by decide +kernel) rfl
theorem mdJ0_length_8abf5 : zMd MJ0_length_8abf5 0 := ⟨zmem 312 (by decide +kernel) rfl, zmem 71 (by decide +kernel) rfl, by decide +kernel, by decide⟩
theorem isJ0_length_8abf5 : Cond.instanceMethod MJ0_length_8abf5.1 ∈ zTbl ∧ Cond.selects MJ0_length_8abf5.1.cls MJ0_length_8abf5.1 MJ0_length_8abf5.1 ∈ zTbl := ⟨zmem 310 (by decide +kernel) rfl, zmem 311 (by decide +kernel) rfl⟩
theorem mdJ0_coder_7d493 : zMd MJ0_coder_7d493 0 := ⟨zmem 316 (by decide +kernel) rfl, zmem 71 (by decide +kernel) rfl, by decide +kernel, by decide⟩
theorem isJ0_coder_7d493 : Cond.instanceMethod MJ0_coder_7d493.1 ∈ zTbl ∧ Cond.selects MJ0_coder_7d493.1.cls MJ0_coder_7d493.1 MJ0_coder_7d493.1 ∈ zTbl := ⟨zmem 314 (by decide +kernel) rfl, zmem 315 (by decide +kernel) rfl⟩
theorem mdJ0_charAt_5068e : zMd MJ0_charAt_5068e 1 := ⟨zmem 322 (by decide +kernel) rfl, zmem 71 (by decide +kernel) rfl, by decide +kernel, by decide⟩
theorem isJ0_charAt_5068e : Cond.instanceMethod MJ0_charAt_5068e.1 ∈ zTbl ∧ Cond.selects MJ0_charAt_5068e.1.cls MJ0_charAt_5068e.1 MJ0_charAt_5068e.1 ∈ zTbl := ⟨zmem 320 (by decide +kernel) rfl, zmem 321 (by decide +kernel) rfl⟩
theorem mdJ0_isLatin1_aae02 : zMd MJ0_isLatin1_aae02 0 := ⟨zmem 326 (by decide +kernel) rfl, zmem 71 (by decide +kernel) rfl, by decide +kernel, by decide⟩
theorem isJ0_isLatin1_aae02 : Cond.instanceMethod MJ0_isLatin1_aae02.1 ∈ zTbl ∧ Cond.selects MJ0_isLatin1_aae02.1.cls MJ0_isLatin1_aae02.1 MJ0_isLatin1_aae02.1 ∈ zTbl := ⟨zmem 324 (by decide +kernel) rfl, zmem 325 (by decide +kernel) rfl⟩
theorem mdJ1_charAt_3b067 : zMd MJ1_charAt_3b067 2 := ⟨zmem 329 (by decide +kernel) rfl, zmem 72 (by decide +kernel) rfl, by decide +kernel, by decide⟩
theorem stJ1_charAt_3b067 : Cond.static MJ1_charAt_3b067.1 ∈ zTbl := zmem 328 (by decide +kernel) rfl
theorem mdJ0_checkIndex_df160 : zMd MJ0_checkIndex_df160 2 := ⟨zmem 332 (by decide +kernel) rfl, zmem 71 (by decide +kernel) rfl, by decide +kernel, by decide⟩
theorem stJ0_checkIndex_df160 : Cond.static MJ0_checkIndex_df160.1 ∈ zTbl := zmem 331 (by decide +kernel) rfl
theorem mdJ3_checkIndex_8e157 : zMd MJ3_checkIndex_8e157 3 := ⟨zmem 337 (by decide +kernel) rfl, zmem 73 (by decide +kernel) rfl, by decide +kernel, by decide⟩
theorem stJ3_checkIndex_8e157 : Cond.static MJ3_checkIndex_8e157.1 ∈ zTbl := zmem 336 (by decide +kernel) rfl
theorem mdJ2_charAt_3b067 : zMd MJ2_charAt_3b067 2 := ⟨zmem 340 (by decide +kernel) rfl, zmem 74 (by decide +kernel) rfl, by decide +kernel, by decide⟩
theorem stJ2_charAt_3b067 : Cond.static MJ2_charAt_3b067.1 ∈ zTbl := zmem 339 (by decide +kernel) rfl
theorem mdJ2_checkIndex_2214a : zMd MJ2_checkIndex_2214a 2 := ⟨zmem 343 (by decide +kernel) rfl, zmem 74 (by decide +kernel) rfl, by decide +kernel, by decide⟩
theorem stJ2_checkIndex_2214a : Cond.static MJ2_checkIndex_2214a.1 ∈ zTbl := zmem 342 (by decide +kernel) rfl
theorem mdJ2_length_9d52b : zMd MJ2_length_9d52b 1 := ⟨zmem 346 (by decide +kernel) rfl, zmem 74 (by decide +kernel) rfl, by decide +kernel, by decide⟩
theorem stJ2_length_9d52b : Cond.static MJ2_length_9d52b.1 ∈ zTbl := zmem 345 (by decide +kernel) rfl
theorem mdJ2_getChar_3b067 : zMd MJ2_getChar_3b067 2 := ⟨zmem 350 (by decide +kernel) rfl, zmem 74 (by decide +kernel) rfl, by decide +kernel, by decide⟩
theorem stJ2_getChar_3b067 : Cond.static MJ2_getChar_3b067.1 ∈ zTbl := zmem 349 (by decide +kernel) rfl
theorem mdX3_add : zMd MX3_add 1 := ⟨zmem 360 (by decide +kernel) rfl, zmem 63 (by decide +kernel) rfl, by decide +kernel, by decide⟩
theorem isX3_add : Cond.instanceMethod MX3_add.1 ∈ zTbl ∧ Cond.selects MX3_add.1.cls MX3_add.1 MX3_add.1 ∈ zTbl := ⟨zmem 358 (by decide +kernel) rfl, zmem 359 (by decide +kernel) rfl⟩
theorem mdX7_layText : zMd MX7_layText 0 := ⟨zmem 364 (by decide +kernel) rfl, zmem 62 (by decide +kernel) rfl, by decide +kernel, by decide⟩
theorem isX7_layText : Cond.instanceMethod MX7_layText.1 ∈ zTbl ∧ Cond.selects MX7_layText.1.cls MX7_layText.1 MX7_layText.1 ∈ zTbl := ⟨zmem 363 (by decide +kernel) rfl, zmem 0 (by decide +kernel) rfl⟩
theorem mdX3_readInto : zMd MX3_readInto 1 := ⟨zmem 368 (by decide +kernel) rfl, zmem 63 (by decide +kernel) rfl, by decide +kernel, by decide⟩
theorem isX3_readInto : Cond.instanceMethod MX3_readInto.1 ∈ zTbl ∧ Cond.selects MX3_readInto.1.cls MX3_readInto.1 MX3_readInto.1 ∈ zTbl := ⟨zmem 366 (by decide +kernel) rfl, zmem 367 (by decide +kernel) rfl⟩
theorem mdX5_clear : zMd MX5_clear 0 := ⟨zmem 372 (by decide +kernel) rfl, zmem 64 (by decide +kernel) rfl, by decide +kernel, by decide⟩
theorem isX5_clear : Cond.instanceMethod MX5_clear.1 ∈ zTbl ∧ Cond.selects MX5_clear.1.cls MX5_clear.1 MX5_clear.1 ∈ zTbl := ⟨zmem 370 (by decide +kernel) rfl, zmem 371 (by decide +kernel) rfl⟩
theorem mdX4_clear : zMd MX4_clear 0 := ⟨zmem 376 (by decide +kernel) rfl, zmem 65 (by decide +kernel) rfl, by decide +kernel, by decide⟩
theorem isX4_clear : Cond.instanceMethod MX4_clear.1 ∈ zTbl ∧ Cond.selects MX4_clear.1.cls MX4_clear.1 MX4_clear.1 ∈ zTbl := ⟨zmem 374 (by decide +kernel) rfl, zmem 375 (by decide +kernel) rfl⟩
theorem mdX7_put : zMd MX7_put 3 := ⟨zmem 379 (by decide +kernel) rfl, zmem 62 (by decide +kernel) rfl, by decide +kernel, by decide⟩
theorem stX7_put : Cond.static MX7_put.1 ∈ zTbl := zmem 378 (by decide +kernel) rfl
theorem mdJ7_fill_53178 : zMd MJ7_fill_53178 2 := ⟨zmem 382 (by decide +kernel) rfl, zmem 75 (by decide +kernel) rfl, by decide +kernel, by decide⟩
theorem stJ7_fill_53178 : Cond.static MJ7_fill_53178.1 ∈ zTbl := zmem 381 (by decide +kernel) rfl
theorem mdX3_readNumbers : zMd MX3_readNumbers 1 := ⟨zmem 386 (by decide +kernel) rfl, zmem 63 (by decide +kernel) rfl, by decide +kernel, by decide⟩
theorem isX3_readNumbers : Cond.instanceMethod MX3_readNumbers.1 ∈ zTbl ∧ Cond.selects MX3_readNumbers.1.cls MX3_readNumbers.1 MX3_readNumbers.1 ∈ zTbl := ⟨zmem 385 (by decide +kernel) rfl, zmem 1 (by decide +kernel) rfl⟩
theorem mdX3_figuresAt : zMd MX3_figuresAt 1 := ⟨zmem 390 (by decide +kernel) rfl, zmem 63 (by decide +kernel) rfl, by decide +kernel, by decide⟩
theorem isX3_figuresAt : Cond.instanceMethod MX3_figuresAt.1 ∈ zTbl ∧ Cond.selects MX3_figuresAt.1.cls MX3_figuresAt.1 MX3_figuresAt.1 ∈ zTbl := ⟨zmem 389 (by decide +kernel) rfl, zmem 2 (by decide +kernel) rfl⟩
theorem mdX3_letterAt : zMd MX3_letterAt 1 := ⟨zmem 394 (by decide +kernel) rfl, zmem 63 (by decide +kernel) rfl, by decide +kernel, by decide⟩
theorem isX3_letterAt : Cond.instanceMethod MX3_letterAt.1 ∈ zTbl ∧ Cond.selects MX3_letterAt.1.cls MX3_letterAt.1 MX3_letterAt.1 ∈ zTbl := ⟨zmem 393 (by decide +kernel) rfl, zmem 3 (by decide +kernel) rfl⟩
theorem mdX3_isFigure : zMd MX3_isFigure 1 := ⟨zmem 397 (by decide +kernel) rfl, zmem 63 (by decide +kernel) rfl, by decide +kernel, by decide⟩
theorem stX3_isFigure : Cond.static MX3_isFigure.1 ∈ zTbl := zmem 396 (by decide +kernel) rfl
theorem mdX7_isWithin : zMd MX7_isWithin 3 := ⟨zmem 400 (by decide +kernel) rfl, zmem 62 (by decide +kernel) rfl, by decide +kernel, by decide⟩
theorem stX7_isWithin : Cond.static MX7_isWithin.1 ∈ zTbl := zmem 399 (by decide +kernel) rfl
theorem mdX3_numberAt : zMd MX3_numberAt 2 := ⟨zmem 404 (by decide +kernel) rfl, zmem 63 (by decide +kernel) rfl, by decide +kernel, by decide⟩
theorem isX3_numberAt : Cond.instanceMethod MX3_numberAt.1 ∈ zTbl ∧ Cond.selects MX3_numberAt.1.cls MX3_numberAt.1 MX3_numberAt.1 ∈ zTbl := ⟨zmem 403 (by decide +kernel) rfl, zmem 4 (by decide +kernel) rfl⟩
theorem mdX5_takes : zMd MX5_takes 3 := ⟨zmem 409 (by decide +kernel) rfl, zmem 64 (by decide +kernel) rfl, by decide +kernel, by decide⟩
theorem isX5_takes : Cond.instanceMethod MX5_takes.1 ∈ zTbl ∧ Cond.selects MX5_takes.1.cls MX5_takes.1 MX5_takes.1 ∈ zTbl := ⟨zmem 407 (by decide +kernel) rfl, zmem 408 (by decide +kernel) rfl⟩
theorem mdX5_takesThing : zMd MX5_takesThing 1 := ⟨zmem 413 (by decide +kernel) rfl, zmem 64 (by decide +kernel) rfl, by decide +kernel, by decide⟩
theorem isX5_takesThing : Cond.instanceMethod MX5_takesThing.1 ∈ zTbl ∧ Cond.selects MX5_takesThing.1.cls MX5_takesThing.1 MX5_takesThing.1 ∈ zTbl := ⟨zmem 412 (by decide +kernel) rfl, zmem 5 (by decide +kernel) rfl⟩
theorem mdX7_at : zMd MX7_at 2 := ⟨zmem 416 (by decide +kernel) rfl, zmem 62 (by decide +kernel) rfl, by decide +kernel, by decide⟩
theorem stX7_at : Cond.static MX7_at.1 ∈ zTbl := zmem 415 (by decide +kernel) rfl
theorem mdX4_add : zMd MX4_add 1 := ⟨zmem 421 (by decide +kernel) rfl, zmem 65 (by decide +kernel) rfl, by decide +kernel, by decide⟩
theorem isX4_add : Cond.instanceMethod MX4_add.1 ∈ zTbl ∧ Cond.selects MX4_add.1.cls MX4_add.1 MX4_add.1 ∈ zTbl := ⟨zmem 419 (by decide +kernel) rfl, zmem 420 (by decide +kernel) rfl⟩
theorem mdX4_sortByKind : zMd MX4_sortByKind 2 := ⟨zmem 426 (by decide +kernel) rfl, zmem 65 (by decide +kernel) rfl, by decide +kernel, by decide⟩
theorem isX4_sortByKind : Cond.instanceMethod MX4_sortByKind.1 ∈ zTbl ∧ Cond.selects MX4_sortByKind.1.cls MX4_sortByKind.1 MX4_sortByKind.1 ∈ zTbl := ⟨zmem 425 (by decide +kernel) rfl, zmem 6 (by decide +kernel) rfl⟩
theorem mdX5_takesParcel : zMd MX5_takesParcel 1 := ⟨zmem 430 (by decide +kernel) rfl, zmem 64 (by decide +kernel) rfl, by decide +kernel, by decide⟩
theorem isX5_takesParcel : Cond.instanceMethod MX5_takesParcel.1 ∈ zTbl ∧ Cond.selects MX5_takesParcel.1.cls MX5_takesParcel.1 MX5_takesParcel.1 ∈ zTbl := ⟨zmem 429 (by decide +kernel) rfl, zmem 7 (by decide +kernel) rfl⟩
theorem mdX5_takesTruth : zMd MX5_takesTruth 2 := ⟨zmem 435 (by decide +kernel) rfl, zmem 64 (by decide +kernel) rfl, by decide +kernel, by decide⟩
theorem isX5_takesTruth : Cond.instanceMethod MX5_takesTruth.1 ∈ zTbl ∧ Cond.selects MX5_takesTruth.1.cls MX5_takesTruth.1 MX5_takesTruth.1 ∈ zTbl := ⟨zmem 434 (by decide +kernel) rfl, zmem 8 (by decide +kernel) rfl⟩
theorem mdX7_isBelow : zMd MX7_isBelow 2 := ⟨zmem 438 (by decide +kernel) rfl, zmem 62 (by decide +kernel) rfl, by decide +kernel, by decide⟩
theorem stX7_isBelow : Cond.static MX7_isBelow.1 ∈ zTbl := zmem 437 (by decide +kernel) rfl
theorem mdX5_takesScale : zMd MX5_takesScale 1 := ⟨zmem 442 (by decide +kernel) rfl, zmem 64 (by decide +kernel) rfl, by decide +kernel, by decide⟩
theorem isX5_takesScale : Cond.instanceMethod MX5_takesScale.1 ∈ zTbl ∧ Cond.selects MX5_takesScale.1.cls MX5_takesScale.1 MX5_takesScale.1 ∈ zTbl := ⟨zmem 441 (by decide +kernel) rfl, zmem 9 (by decide +kernel) rfl⟩
theorem mdX5_takesApart : zMd MX5_takesApart 1 := ⟨zmem 446 (by decide +kernel) rfl, zmem 64 (by decide +kernel) rfl, by decide +kernel, by decide⟩
theorem isX5_takesApart : Cond.instanceMethod MX5_takesApart.1 ∈ zTbl ∧ Cond.selects MX5_takesApart.1.cls MX5_takesApart.1 MX5_takesApart.1 ∈ zTbl := ⟨zmem 445 (by decide +kernel) rfl, zmem 10 (by decide +kernel) rfl⟩
theorem mdX5_takesSort : zMd MX5_takesSort 3 := ⟨zmem 450 (by decide +kernel) rfl, zmem 64 (by decide +kernel) rfl, by decide +kernel, by decide⟩
theorem isX5_takesSort : Cond.instanceMethod MX5_takesSort.1 ∈ zTbl ∧ Cond.selects MX5_takesSort.1.cls MX5_takesSort.1 MX5_takesSort.1 ∈ zTbl := ⟨zmem 449 (by decide +kernel) rfl, zmem 11 (by decide +kernel) rfl⟩
theorem mdX7_isSort : zMd MX7_isSort 1 := ⟨zmem 453 (by decide +kernel) rfl, zmem 62 (by decide +kernel) rfl, by decide +kernel, by decide⟩
theorem stX7_isSort : Cond.static MX7_isSort.1 ∈ zTbl := zmem 452 (by decide +kernel) rfl
theorem mdX5_isWorld : zMd MX5_isWorld 1 := ⟨zmem 458 (by decide +kernel) rfl, zmem 64 (by decide +kernel) rfl, by decide +kernel, by decide⟩
theorem isX5_isWorld : Cond.instanceMethod MX5_isWorld.1 ∈ zTbl ∧ Cond.selects MX5_isWorld.1.cls MX5_isWorld.1 MX5_isWorld.1 ∈ zTbl := ⟨zmem 456 (by decide +kernel) rfl, zmem 457 (by decide +kernel) rfl⟩
theorem mdX7_inside : zMd MX7_inside 2 := ⟨zmem 461 (by decide +kernel) rfl, zmem 62 (by decide +kernel) rfl, by decide +kernel, by decide⟩
theorem stX7_inside : Cond.static MX7_inside.1 ∈ zTbl := zmem 460 (by decide +kernel) rfl
theorem mdJ6_bitCount_0f7a4 : zMd MJ6_bitCount_0f7a4 1 := ⟨zmem 464 (by decide +kernel) rfl, zmem 76 (by decide +kernel) rfl, by decide +kernel, by decide⟩
theorem stJ6_bitCount_0f7a4 : Cond.static MJ6_bitCount_0f7a4.1 ∈ zTbl := zmem 463 (by decide +kernel) rfl
theorem mdX5_isFair : zMd MX5_isFair 1 := ⟨zmem 471 (by decide +kernel) rfl, zmem 64 (by decide +kernel) rfl, by decide +kernel, by decide⟩
theorem isX5_isFair : Cond.instanceMethod MX5_isFair.1 ∈ zTbl ∧ Cond.selects MX5_isFair.1.cls MX5_isFair.1 MX5_isFair.1 ∈ zTbl := ⟨zmem 470 (by decide +kernel) rfl, zmem 12 (by decide +kernel) rfl⟩
theorem mdX5_hasParcels : zMd MX5_hasParcels 1 := ⟨zmem 475 (by decide +kernel) rfl, zmem 64 (by decide +kernel) rfl, by decide +kernel, by decide⟩
theorem isX5_hasParcels : Cond.instanceMethod MX5_hasParcels.1 ∈ zTbl ∧ Cond.selects MX5_hasParcels.1.cls MX5_hasParcels.1 MX5_hasParcels.1 ∈ zTbl := ⟨zmem 474 (by decide +kernel) rfl, zmem 13 (by decide +kernel) rfl⟩
theorem mdX5_worthFor : zMd MX5_worthFor 2 := ⟨zmem 479 (by decide +kernel) rfl, zmem 64 (by decide +kernel) rfl, by decide +kernel, by decide⟩
theorem isX5_worthFor : Cond.instanceMethod MX5_worthFor.1 ∈ zTbl ∧ Cond.selects MX5_worthFor.1.cls MX5_worthFor.1 MX5_worthFor.1 ∈ zTbl := ⟨zmem 477 (by decide +kernel) rfl, zmem 478 (by decide +kernel) rfl⟩
theorem mdJ9_abs_0f7a4 : zMd MJ9_abs_0f7a4 1 := ⟨zmem 482 (by decide +kernel) rfl, zmem 70 (by decide +kernel) rfl, by decide +kernel, by decide⟩
theorem stJ9_abs_0f7a4 : Cond.static MJ9_abs_0f7a4.1 ∈ zTbl := zmem 481 (by decide +kernel) rfl
theorem mdX5_mostWorlds : zMd MX5_mostWorlds 0 := ⟨zmem 486 (by decide +kernel) rfl, zmem 64 (by decide +kernel) rfl, by decide +kernel, by decide⟩
theorem isX5_mostWorlds : Cond.instanceMethod MX5_mostWorlds.1 ∈ zTbl ∧ Cond.selects MX5_mostWorlds.1.cls MX5_mostWorlds.1 MX5_mostWorlds.1 ∈ zTbl := ⟨zmem 484 (by decide +kernel) rfl, zmem 485 (by decide +kernel) rfl⟩
theorem mdX6_makeRoom : zMd MX6_makeRoom 1 := ⟨zmem 490 (by decide +kernel) rfl, zmem 66 (by decide +kernel) rfl, by decide +kernel, by decide⟩
theorem isX6_makeRoom : Cond.instanceMethod MX6_makeRoom.1 ∈ zTbl ∧ Cond.selects MX6_makeRoom.1.cls MX6_makeRoom.1 MX6_makeRoom.1 ∈ zTbl := ⟨zmem 488 (by decide +kernel) rfl, zmem 489 (by decide +kernel) rfl⟩
theorem mdX5_listWorlds : zMd MX5_listWorlds 1 := ⟨zmem 494 (by decide +kernel) rfl, zmem 64 (by decide +kernel) rfl, by decide +kernel, by decide⟩
theorem isX5_listWorlds : Cond.instanceMethod MX5_listWorlds.1 ∈ zTbl ∧ Cond.selects MX5_listWorlds.1.cls MX5_listWorlds.1 MX5_listWorlds.1 ∈ zTbl := ⟨zmem 492 (by decide +kernel) rfl, zmem 493 (by decide +kernel) rfl⟩
theorem mdX6_clear : zMd MX6_clear 0 := ⟨zmem 498 (by decide +kernel) rfl, zmem 66 (by decide +kernel) rfl, by decide +kernel, by decide⟩
theorem isX6_clear : Cond.instanceMethod MX6_clear.1 ∈ zTbl ∧ Cond.selects MX6_clear.1.cls MX6_clear.1 MX6_clear.1 ∈ zTbl := ⟨zmem 496 (by decide +kernel) rfl, zmem 497 (by decide +kernel) rfl⟩
theorem mdX5_addWorlds : zMd MX5_addWorlds 5 := ⟨zmem 501 (by decide +kernel) rfl, zmem 64 (by decide +kernel) rfl, by decide +kernel, by decide⟩
theorem stX5_addWorlds : Cond.static MX5_addWorlds.1 ∈ zTbl := zmem 500 (by decide +kernel) rfl
theorem mdX6_add : zMd MX6_add 1 := ⟨zmem 505 (by decide +kernel) rfl, zmem 66 (by decide +kernel) rfl, by decide +kernel, by decide⟩
theorem isX6_add : Cond.instanceMethod MX6_add.1 ∈ zTbl ∧ Cond.selects MX6_add.1.cls MX6_add.1 MX6_add.1 ∈ zTbl := ⟨zmem 503 (by decide +kernel) rfl, zmem 504 (by decide +kernel) rfl⟩
theorem mdX1_begin : zMd MX1_begin 1 := ⟨zmem 509 (by decide +kernel) rfl, zmem 68 (by decide +kernel) rfl, by decide +kernel, by decide⟩
theorem isX1_begin : Cond.instanceMethod MX1_begin.1 ∈ zTbl ∧ Cond.selects MX1_begin.1.cls MX1_begin.1 MX1_begin.1 ∈ zTbl := ⟨zmem 507 (by decide +kernel) rfl, zmem 508 (by decide +kernel) rfl⟩
theorem mdX2_clear : zMd MX2_clear 0 := ⟨zmem 514 (by decide +kernel) rfl, zmem 69 (by decide +kernel) rfl, by decide +kernel, by decide⟩
theorem isX2_clear : Cond.instanceMethod MX2_clear.1 ∈ zTbl ∧ Cond.selects MX2_clear.1.cls MX2_clear.1 MX2_clear.1 ∈ zTbl := ⟨zmem 512 (by decide +kernel) rfl, zmem 513 (by decide +kernel) rfl⟩
theorem mdX3_clear : zMd MX3_clear 0 := ⟨zmem 518 (by decide +kernel) rfl, zmem 63 (by decide +kernel) rfl, by decide +kernel, by decide⟩
theorem isX3_clear : Cond.instanceMethod MX3_clear.1 ∈ zTbl ∧ Cond.selects MX3_clear.1.cls MX3_clear.1 MX3_clear.1 ∈ zTbl := ⟨zmem 516 (by decide +kernel) rfl, zmem 517 (by decide +kernel) rfl⟩
theorem mdX7_write : zMd MX7_write 1 := ⟨zmem 564 (by decide +kernel) rfl, zmem 62 (by decide +kernel) rfl, by decide +kernel, by decide⟩
theorem isX7_write : Cond.instanceMethod MX7_write.1 ∈ zTbl ∧ Cond.selects MX7_write.1.cls MX7_write.1 MX7_write.1 ∈ zTbl := ⟨zmem 562 (by decide +kernel) rfl, zmem 563 (by decide +kernel) rfl⟩
theorem mdX7_wipe : zMd MX7_wipe 0 := ⟨zmem 568 (by decide +kernel) rfl, zmem 62 (by decide +kernel) rfl, by decide +kernel, by decide⟩
theorem isX7_wipe : Cond.instanceMethod MX7_wipe.1 ∈ zTbl ∧ Cond.selects MX7_wipe.1.cls MX7_wipe.1 MX7_wipe.1 ∈ zTbl := ⟨zmem 566 (by decide +kernel) rfl, zmem 567 (by decide +kernel) rfl⟩
theorem mdX7_fault : zMd MX7_fault 0 := ⟨zmem 572 (by decide +kernel) rfl, zmem 62 (by decide +kernel) rfl, by decide +kernel, by decide⟩
theorem isX7_fault : Cond.instanceMethod MX7_fault.1 ∈ zTbl ∧ Cond.selects MX7_fault.1.cls MX7_fault.1 MX7_fault.1 ∈ zTbl := ⟨zmem 570 (by decide +kernel) rfl, zmem 571 (by decide +kernel) rfl⟩
theorem mdX7_lay : zMd MX7_lay 0 := ⟨zmem 576 (by decide +kernel) rfl, zmem 62 (by decide +kernel) rfl, by decide +kernel, by decide⟩
theorem isX7_lay : Cond.instanceMethod MX7_lay.1 ∈ zTbl ∧ Cond.selects MX7_lay.1.cls MX7_lay.1 MX7_lay.1 ∈ zTbl := ⟨zmem 574 (by decide +kernel) rfl, zmem 575 (by decide +kernel) rfl⟩
theorem mdX7_thing : zMd MX7_thing 2 := ⟨zmem 580 (by decide +kernel) rfl, zmem 62 (by decide +kernel) rfl, by decide +kernel, by decide⟩
theorem isX7_thing : Cond.instanceMethod MX7_thing.1 ∈ zTbl ∧ Cond.selects MX7_thing.1.cls MX7_thing.1 MX7_thing.1 ∈ zTbl := ⟨zmem 578 (by decide +kernel) rfl, zmem 579 (by decide +kernel) rfl⟩
theorem mdX7_isThing : zMd MX7_isThing 1 := ⟨zmem 584 (by decide +kernel) rfl, zmem 62 (by decide +kernel) rfl, by decide +kernel, by decide⟩
theorem isX7_isThing : Cond.instanceMethod MX7_isThing.1 ∈ zTbl ∧ Cond.selects MX7_isThing.1.cls MX7_isThing.1 MX7_isThing.1 ∈ zTbl := ⟨zmem 583 (by decide +kernel) rfl, zmem 14 (by decide +kernel) rfl⟩
theorem mdX7_parcelWith : zMd MX7_parcelWith 1 := ⟨zmem 589 (by decide +kernel) rfl, zmem 62 (by decide +kernel) rfl, by decide +kernel, by decide⟩
theorem isX7_parcelWith : Cond.instanceMethod MX7_parcelWith.1 ∈ zTbl ∧ Cond.selects MX7_parcelWith.1.cls MX7_parcelWith.1 MX7_parcelWith.1 ∈ zTbl := ⟨zmem 588 (by decide +kernel) rfl, zmem 15 (by decide +kernel) rfl⟩
theorem mdX7_parcel : zMd MX7_parcel 2 := ⟨zmem 594 (by decide +kernel) rfl, zmem 62 (by decide +kernel) rfl, by decide +kernel, by decide⟩
theorem isX7_parcel : Cond.instanceMethod MX7_parcel.1 ∈ zTbl ∧ Cond.selects MX7_parcel.1.cls MX7_parcel.1 MX7_parcel.1 ∈ zTbl := ⟨zmem 592 (by decide +kernel) rfl, zmem 593 (by decide +kernel) rfl⟩
theorem mdX7_isParcel : zMd MX7_isParcel 1 := ⟨zmem 598 (by decide +kernel) rfl, zmem 62 (by decide +kernel) rfl, by decide +kernel, by decide⟩
theorem isX7_isParcel : Cond.instanceMethod MX7_isParcel.1 ∈ zTbl ∧ Cond.selects MX7_isParcel.1.cls MX7_isParcel.1 MX7_isParcel.1 ∈ zTbl := ⟨zmem 597 (by decide +kernel) rfl, zmem 16 (by decide +kernel) rfl⟩
theorem mdX7_world : zMd MX7_world 2 := ⟨zmem 602 (by decide +kernel) rfl, zmem 62 (by decide +kernel) rfl, by decide +kernel, by decide⟩
theorem isX7_world : Cond.instanceMethod MX7_world.1 ∈ zTbl ∧ Cond.selects MX7_world.1.cls MX7_world.1 MX7_world.1 ∈ zTbl := ⟨zmem 600 (by decide +kernel) rfl, zmem 601 (by decide +kernel) rfl⟩
theorem mdX6_take : zMd MX6_take 1 := ⟨zmem 606 (by decide +kernel) rfl, zmem 66 (by decide +kernel) rfl, by decide +kernel, by decide⟩
theorem isX6_take : Cond.instanceMethod MX6_take.1 ∈ zTbl ∧ Cond.selects MX6_take.1.cls MX6_take.1 MX6_take.1 ∈ zTbl := ⟨zmem 604 (by decide +kernel) rfl, zmem 605 (by decide +kernel) rfl⟩
theorem mdX7_answer : zMd MX7_answer 3 := ⟨zmem 611 (by decide +kernel) rfl, zmem 62 (by decide +kernel) rfl, by decide +kernel, by decide⟩
theorem isX7_answer : Cond.instanceMethod MX7_answer.1 ∈ zTbl ∧ Cond.selects MX7_answer.1.cls MX7_answer.1 MX7_answer.1 ∈ zTbl := ⟨zmem 609 (by decide +kernel) rfl, zmem 610 (by decide +kernel) rfl⟩
theorem mdX5_reply : zMd MX5_reply 4 := ⟨zmem 616 (by decide +kernel) rfl, zmem 64 (by decide +kernel) rfl, by decide +kernel, by decide⟩
theorem isX5_reply : Cond.instanceMethod MX5_reply.1 ∈ zTbl ∧ Cond.selects MX5_reply.1.cls MX5_reply.1 MX5_reply.1 ∈ zTbl := ⟨zmem 614 (by decide +kernel) rfl, zmem 615 (by decide +kernel) rfl⟩
theorem mdX5_inSteps : zMd MX5_inSteps 1 := ⟨zmem 620 (by decide +kernel) rfl, zmem 64 (by decide +kernel) rfl, by decide +kernel, by decide⟩
theorem isX5_inSteps : Cond.instanceMethod MX5_inSteps.1 ∈ zTbl ∧ Cond.selects MX5_inSteps.1.cls MX5_inSteps.1 MX5_inSteps.1 ∈ zTbl := ⟨zmem 619 (by decide +kernel) rfl, zmem 17 (by decide +kernel) rfl⟩
theorem mdX4_tipped : zMd MX4_tipped 1 := ⟨zmem 624 (by decide +kernel) rfl, zmem 65 (by decide +kernel) rfl, by decide +kernel, by decide⟩
theorem isX4_tipped : Cond.instanceMethod MX4_tipped.1 ∈ zTbl ∧ Cond.selects MX4_tipped.1.cls MX4_tipped.1 MX4_tipped.1 ∈ zTbl := ⟨zmem 622 (by decide +kernel) rfl, zmem 623 (by decide +kernel) rfl⟩
theorem mdX4_shaken : zMd MX4_shaken 1 := ⟨zmem 628 (by decide +kernel) rfl, zmem 65 (by decide +kernel) rfl, by decide +kernel, by decide⟩
theorem isX4_shaken : Cond.instanceMethod MX4_shaken.1 ∈ zTbl ∧ Cond.selects MX4_shaken.1.cls MX4_shaken.1 MX4_shaken.1 ∈ zTbl := ⟨zmem 626 (by decide +kernel) rfl, zmem 627 (by decide +kernel) rfl⟩
theorem mdX4_pressed : zMd MX4_pressed 1 := ⟨zmem 633 (by decide +kernel) rfl, zmem 65 (by decide +kernel) rfl, by decide +kernel, by decide⟩
theorem isX4_pressed : Cond.instanceMethod MX4_pressed.1 ∈ zTbl ∧ Cond.selects MX4_pressed.1.cls MX4_pressed.1 MX4_pressed.1 ∈ zTbl := ⟨zmem 631 (by decide +kernel) rfl, zmem 632 (by decide +kernel) rfl⟩
theorem mdX7_attempt : zMd MX7_attempt 2 := ⟨zmem 637 (by decide +kernel) rfl, zmem 62 (by decide +kernel) rfl, by decide +kernel, by decide⟩
theorem isX7_attempt : Cond.instanceMethod MX7_attempt.1 ∈ zTbl ∧ Cond.selects MX7_attempt.1.cls MX7_attempt.1 MX7_attempt.1 ∈ zTbl := ⟨zmem 635 (by decide +kernel) rfl, zmem 636 (by decide +kernel) rfl⟩
theorem mdX1_isFull : zMd MX1_isFull 0 := ⟨zmem 641 (by decide +kernel) rfl, zmem 68 (by decide +kernel) rfl, by decide +kernel, by decide⟩
theorem isX1_isFull : Cond.instanceMethod MX1_isFull.1 ∈ zTbl ∧ Cond.selects MX1_isFull.1.cls MX1_isFull.1 MX1_isFull.1 ∈ zTbl := ⟨zmem 639 (by decide +kernel) rfl, zmem 640 (by decide +kernel) rfl⟩
theorem mdX7_note : zMd MX7_note 3 := ⟨zmem 645 (by decide +kernel) rfl, zmem 62 (by decide +kernel) rfl, by decide +kernel, by decide⟩
theorem isX7_note : Cond.instanceMethod MX7_note.1 ∈ zTbl ∧ Cond.selects MX7_note.1.cls MX7_note.1 MX7_note.1 ∈ zTbl := ⟨zmem 644 (by decide +kernel) rfl, zmem 18 (by decide +kernel) rfl⟩
theorem mdX2_push : zMd MX2_push 1 := ⟨zmem 649 (by decide +kernel) rfl, zmem 69 (by decide +kernel) rfl, by decide +kernel, by decide⟩
theorem isX2_push : Cond.instanceMethod MX2_push.1 ∈ zTbl ∧ Cond.selects MX2_push.1.cls MX2_push.1 MX2_push.1 ∈ zTbl := ⟨zmem 647 (by decide +kernel) rfl, zmem 648 (by decide +kernel) rfl⟩
theorem mdX2_isFull : zMd MX2_isFull 0 := ⟨zmem 653 (by decide +kernel) rfl, zmem 69 (by decide +kernel) rfl, by decide +kernel, by decide⟩
theorem isX2_isFull : Cond.instanceMethod MX2_isFull.1 ∈ zTbl ∧ Cond.selects MX2_isFull.1.cls MX2_isFull.1 MX2_isFull.1 ∈ zTbl := ⟨zmem 651 (by decide +kernel) rfl, zmem 652 (by decide +kernel) rfl⟩
theorem mdX2_dropLowest : zMd MX2_dropLowest 0 := ⟨zmem 657 (by decide +kernel) rfl, zmem 69 (by decide +kernel) rfl, by decide +kernel, by decide⟩
theorem isX2_dropLowest : Cond.instanceMethod MX2_dropLowest.1 ∈ zTbl ∧ Cond.selects MX2_dropLowest.1.cls MX2_dropLowest.1 MX2_dropLowest.1 ∈ zTbl := ⟨zmem 656 (by decide +kernel) rfl, zmem 19 (by decide +kernel) rfl⟩
theorem mdX1_copy : zMd MX1_copy 1 := ⟨zmem 661 (by decide +kernel) rfl, zmem 68 (by decide +kernel) rfl, by decide +kernel, by decide⟩
theorem isX1_copy : Cond.instanceMethod MX1_copy.1 ∈ zTbl ∧ Cond.selects MX1_copy.1.cls MX1_copy.1 MX1_copy.1 ∈ zTbl := ⟨zmem 659 (by decide +kernel) rfl, zmem 660 (by decide +kernel) rfl⟩
theorem mdX7_trialOf : zMd MX7_trialOf 2 := ⟨zmem 666 (by decide +kernel) rfl, zmem 62 (by decide +kernel) rfl, by decide +kernel, by decide⟩
theorem stX7_trialOf : Cond.static MX7_trialOf.1 ∈ zTbl := zmem 665 (by decide +kernel) rfl
theorem mdX1_add : zMd MX1_add 2 := ⟨zmem 670 (by decide +kernel) rfl, zmem 68 (by decide +kernel) rfl, by decide +kernel, by decide⟩
theorem isX1_add : Cond.instanceMethod MX1_add.1 ∈ zTbl ∧ Cond.selects MX1_add.1.cls MX1_add.1 MX1_add.1 ∈ zTbl := ⟨zmem 668 (by decide +kernel) rfl, zmem 669 (by decide +kernel) rfl⟩
theorem mdX7_hear : zMd MX7_hear 3 := ⟨zmem 675 (by decide +kernel) rfl, zmem 62 (by decide +kernel) rfl, by decide +kernel, by decide⟩
theorem isX7_hear : Cond.instanceMethod MX7_hear.1 ∈ zTbl ∧ Cond.selects MX7_hear.1.cls MX7_hear.1 MX7_hear.1 ∈ zTbl := ⟨zmem 673 (by decide +kernel) rfl, zmem 674 (by decide +kernel) rfl⟩
theorem mdX7_change : zMd MX7_change 2 := ⟨zmem 679 (by decide +kernel) rfl, zmem 62 (by decide +kernel) rfl, by decide +kernel, by decide⟩
theorem isX7_change : Cond.instanceMethod MX7_change.1 ∈ zTbl ∧ Cond.selects MX7_change.1.cls MX7_change.1 MX7_change.1 ∈ zTbl := ⟨zmem 677 (by decide +kernel) rfl, zmem 678 (by decide +kernel) rfl⟩
theorem mdX7_swapped : zMd MX7_swapped 3 := ⟨zmem 682 (by decide +kernel) rfl, zmem 62 (by decide +kernel) rfl, by decide +kernel, by decide⟩
theorem stX7_swapped : Cond.static MX7_swapped.1 ∈ zTbl := zmem 681 (by decide +kernel) rfl
theorem mdX7_hide : zMd MX7_hide 2 := ⟨zmem 686 (by decide +kernel) rfl, zmem 62 (by decide +kernel) rfl, by decide +kernel, by decide⟩
theorem isX7_hide : Cond.instanceMethod MX7_hide.1 ∈ zTbl ∧ Cond.selects MX7_hide.1.cls MX7_hide.1 MX7_hide.1 ∈ zTbl := ⟨zmem 684 (by decide +kernel) rfl, zmem 685 (by decide +kernel) rfl⟩
theorem mdX7_undo : zMd MX7_undo 0 := ⟨zmem 691 (by decide +kernel) rfl, zmem 62 (by decide +kernel) rfl, by decide +kernel, by decide⟩
theorem isX7_undo : Cond.instanceMethod MX7_undo.1 ∈ zTbl ∧ Cond.selects MX7_undo.1.cls MX7_undo.1 MX7_undo.1 ∈ zTbl := ⟨zmem 689 (by decide +kernel) rfl, zmem 690 (by decide +kernel) rfl⟩
theorem mdX2_popInto : zMd MX2_popInto 1 := ⟨zmem 695 (by decide +kernel) rfl, zmem 69 (by decide +kernel) rfl, by decide +kernel, by decide⟩
theorem isX2_popInto : Cond.instanceMethod MX2_popInto.1 ∈ zTbl ∧ Cond.selects MX2_popInto.1.cls MX2_popInto.1 MX2_popInto.1 ∈ zTbl := ⟨zmem 693 (by decide +kernel) rfl, zmem 694 (by decide +kernel) rfl⟩
theorem mdX7_left : zMd MX7_left 0 := ⟨zmem 699 (by decide +kernel) rfl, zmem 62 (by decide +kernel) rfl, by decide +kernel, by decide⟩
theorem isX7_left : Cond.instanceMethod MX7_left.1 ∈ zTbl ∧ Cond.selects MX7_left.1.cls MX7_left.1 MX7_left.1 ∈ zTbl := ⟨zmem 697 (by decide +kernel) rfl, zmem 698 (by decide +kernel) rfl⟩
theorem mdX7_findRemaining : zMd MX7_findRemaining 0 := ⟨zmem 703 (by decide +kernel) rfl, zmem 62 (by decide +kernel) rfl, by decide +kernel, by decide⟩
theorem isX7_findRemaining : Cond.instanceMethod MX7_findRemaining.1 ∈ zTbl ∧ Cond.selects MX7_findRemaining.1.cls MX7_findRemaining.1 MX7_findRemaining.1 ∈ zTbl := ⟨zmem 702 (by decide +kernel) rfl, zmem 20 (by decide +kernel) rfl⟩
theorem mdX6_copy : zMd MX6_copy 1 := ⟨zmem 707 (by decide +kernel) rfl, zmem 66 (by decide +kernel) rfl, by decide +kernel, by decide⟩
theorem isX6_copy : Cond.instanceMethod MX6_copy.1 ∈ zTbl ∧ Cond.selects MX6_copy.1.cls MX6_copy.1 MX6_copy.1 ∈ zTbl := ⟨zmem 705 (by decide +kernel) rfl, zmem 706 (by decide +kernel) rfl⟩
theorem mdJ9_min_7cf53 : zMd MJ9_min_7cf53 2 := ⟨zmem 710 (by decide +kernel) rfl, zmem 70 (by decide +kernel) rfl, by decide +kernel, by decide⟩
theorem stJ9_min_7cf53 : Cond.static MJ9_min_7cf53.1 ∈ zTbl := zmem 709 (by decide +kernel) rfl
theorem mdX7_parcelOf : zMd MX7_parcelOf 1 := ⟨zmem 716 (by decide +kernel) rfl, zmem 62 (by decide +kernel) rfl, by decide +kernel, by decide⟩
theorem stX7_parcelOf : Cond.static MX7_parcelOf.1 ∈ zTbl := zmem 715 (by decide +kernel) rfl
theorem mdX7_sortOf : zMd MX7_sortOf 1 := ⟨zmem 719 (by decide +kernel) rfl, zmem 62 (by decide +kernel) rfl, by decide +kernel, by decide⟩
theorem stX7_sortOf : Cond.static MX7_sortOf.1 ∈ zTbl := zmem 718 (by decide +kernel) rfl
theorem mdX6_narrow : zMd MX6_narrow 4 := ⟨zmem 723 (by decide +kernel) rfl, zmem 66 (by decide +kernel) rfl, by decide +kernel, by decide⟩
theorem isX6_narrow : Cond.instanceMethod MX6_narrow.1 ∈ zTbl ∧ Cond.selects MX6_narrow.1.cls MX6_narrow.1 MX6_narrow.1 ∈ zTbl := ⟨zmem 721 (by decide +kernel) rfl, zmem 722 (by decide +kernel) rfl⟩
theorem mdX7_likely : zMd MX7_likely 3 := ⟨zmem 732 (by decide +kernel) rfl, zmem 62 (by decide +kernel) rfl, by decide +kernel, by decide⟩
theorem isX7_likely : Cond.instanceMethod MX7_likely.1 ∈ zTbl ∧ Cond.selects MX7_likely.1.cls MX7_likely.1 MX7_likely.1 ∈ zTbl := ⟨zmem 730 (by decide +kernel) rfl, zmem 731 (by decide +kernel) rfl⟩
theorem mdX5_chanceOf : zMd MX5_chanceOf 1 := ⟨zmem 738 (by decide +kernel) rfl, zmem 64 (by decide +kernel) rfl, by decide +kernel, by decide⟩
theorem isX5_chanceOf : Cond.instanceMethod MX5_chanceOf.1 ∈ zTbl ∧ Cond.selects MX5_chanceOf.1.cls MX5_chanceOf.1 MX5_chanceOf.1 ∈ zTbl := ⟨zmem 736 (by decide +kernel) rfl, zmem 737 (by decide +kernel) rfl⟩
theorem mdX7_inLowestTerms : zMd MX7_inLowestTerms 3 := ⟨zmem 741 (by decide +kernel) rfl, zmem 62 (by decide +kernel) rfl, by decide +kernel, by decide⟩
theorem stX7_inLowestTerms : Cond.static MX7_inLowestTerms.1 ∈ zTbl := zmem 740 (by decide +kernel) rfl
theorem mdX7_sure : zMd MX7_sure 2 := ⟨zmem 745 (by decide +kernel) rfl, zmem 62 (by decide +kernel) rfl, by decide +kernel, by decide⟩
theorem isX7_sure : Cond.instanceMethod MX7_sure.1 ∈ zTbl ∧ Cond.selects MX7_sure.1.cls MX7_sure.1 MX7_sure.1 ∈ zTbl := ⟨zmem 743 (by decide +kernel) rfl, zmem 744 (by decide +kernel) rfl⟩
theorem mdX7_judge : zMd MX7_judge 0 := ⟨zmem 749 (by decide +kernel) rfl, zmem 62 (by decide +kernel) rfl, by decide +kernel, by decide⟩
theorem isX7_judge : Cond.instanceMethod MX7_judge.1 ∈ zTbl ∧ Cond.selects MX7_judge.1.cls MX7_judge.1 MX7_judge.1 ∈ zTbl := ⟨zmem 747 (by decide +kernel) rfl, zmem 748 (by decide +kernel) rfl⟩
theorem mdX7_guess : zMd MX7_guess 2 := ⟨zmem 753 (by decide +kernel) rfl, zmem 62 (by decide +kernel) rfl, by decide +kernel, by decide⟩
theorem isX7_guess : Cond.instanceMethod MX7_guess.1 ∈ zTbl ∧ Cond.selects MX7_guess.1.cls MX7_guess.1 MX7_guess.1 ∈ zTbl := ⟨zmem 751 (by decide +kernel) rfl, zmem 752 (by decide +kernel) rfl⟩
theorem mdX7_sumChances : zMd MX7_sumChances 2 := ⟨zmem 757 (by decide +kernel) rfl, zmem 62 (by decide +kernel) rfl, by decide +kernel, by decide⟩
theorem isX7_sumChances : Cond.instanceMethod MX7_sumChances.1 ∈ zTbl ∧ Cond.selects MX7_sumChances.1.cls MX7_sumChances.1 MX7_sumChances.1 ∈ zTbl := ⟨zmem 756 (by decide +kernel) rfl, zmem 21 (by decide +kernel) rfl⟩
theorem mdJ7_fill_d0a16 : zMd MJ7_fill_d0a16 2 := ⟨zmem 760 (by decide +kernel) rfl, zmem 75 (by decide +kernel) rfl, by decide +kernel, by decide⟩
theorem stJ7_fill_d0a16 : Cond.static MJ7_fill_d0a16.1 ∈ zTbl := zmem 759 (by decide +kernel) rfl
theorem mdX7_next : zMd MX7_next 1 := ⟨zmem 764 (by decide +kernel) rfl, zmem 62 (by decide +kernel) rfl, by decide +kernel, by decide⟩
theorem isX7_next : Cond.instanceMethod MX7_next.1 ∈ zTbl ∧ Cond.selects MX7_next.1.cls MX7_next.1 MX7_next.1 ∈ zTbl := ⟨zmem 762 (by decide +kernel) rfl, zmem 763 (by decide +kernel) rfl⟩
theorem mdX0_choose : zMd MX0_choose 2 := ⟨zmem 768 (by decide +kernel) rfl, zmem 67 (by decide +kernel) rfl, by decide +kernel, by decide⟩
theorem isX0_choose : Cond.instanceMethod MX0_choose.1 ∈ zTbl ∧ Cond.selects MX0_choose.1.cls MX0_choose.1 MX0_choose.1 ∈ zTbl := ⟨zmem 766 (by decide +kernel) rfl, zmem 767 (by decide +kernel) rfl⟩
theorem mdX0_countSets : zMd MX0_countSets 2 := ⟨zmem 772 (by decide +kernel) rfl, zmem 67 (by decide +kernel) rfl, by decide +kernel, by decide⟩
theorem isX0_countSets : Cond.instanceMethod MX0_countSets.1 ∈ zTbl ∧ Cond.selects MX0_countSets.1.cls MX0_countSets.1 MX0_countSets.1 ∈ zTbl := ⟨zmem 770 (by decide +kernel) rfl, zmem 771 (by decide +kernel) rfl⟩
theorem mdX7_raise : zMd MX7_raise 3 := ⟨zmem 778 (by decide +kernel) rfl, zmem 62 (by decide +kernel) rfl, by decide +kernel, by decide⟩
theorem stX7_raise : Cond.static MX7_raise.1 ∈ zTbl := zmem 777 (by decide +kernel) rfl
theorem mdX0_countReplies : zMd MX0_countReplies 3 := ⟨zmem 782 (by decide +kernel) rfl, zmem 67 (by decide +kernel) rfl, by decide +kernel, by decide⟩
theorem isX0_countReplies : Cond.instanceMethod MX0_countReplies.1 ∈ zTbl ∧ Cond.selects MX0_countReplies.1.cls MX0_countReplies.1 MX0_countReplies.1 ∈ zTbl := ⟨zmem 780 (by decide +kernel) rfl, zmem 781 (by decide +kernel) rfl⟩
theorem mdX7_few : zMd MX7_few 1 := ⟨zmem 790 (by decide +kernel) rfl, zmem 62 (by decide +kernel) rfl, by decide +kernel, by decide⟩
theorem isX7_few : Cond.instanceMethod MX7_few.1 ∈ zTbl ∧ Cond.selects MX7_few.1.cls MX7_few.1 MX7_few.1 ∈ zTbl := ⟨zmem 788 (by decide +kernel) rfl, zmem 789 (by decide +kernel) rfl⟩
theorem mdX0_fewest : zMd MX0_fewest 4 := ⟨zmem 794 (by decide +kernel) rfl, zmem 67 (by decide +kernel) rfl, by decide +kernel, by decide⟩
theorem isX0_fewest : Cond.instanceMethod MX0_fewest.1 ∈ zTbl ∧ Cond.selects MX0_fewest.1.cls MX0_fewest.1 MX0_fewest.1 ∈ zTbl := ⟨zmem 792 (by decide +kernel) rfl, zmem 793 (by decide +kernel) rfl⟩
theorem mdX0_isKnown : zMd MX0_isKnown 2 := ⟨zmem 798 (by decide +kernel) rfl, zmem 67 (by decide +kernel) rfl, by decide +kernel, by decide⟩
theorem isX0_isKnown : Cond.instanceMethod MX0_isKnown.1 ∈ zTbl ∧ Cond.selects MX0_isKnown.1.cls MX0_isKnown.1 MX0_isKnown.1 ∈ zTbl := ⟨zmem 797 (by decide +kernel) rfl, zmem 22 (by decide +kernel) rfl⟩
theorem mdX0_someTrialTells : zMd MX0_someTrialTells 5 := ⟨zmem 802 (by decide +kernel) rfl, zmem 67 (by decide +kernel) rfl, by decide +kernel, by decide⟩
theorem isX0_someTrialTells : Cond.instanceMethod MX0_someTrialTells.1 ∈ zTbl ∧ Cond.selects MX0_someTrialTells.1.cls MX0_someTrialTells.1 MX0_someTrialTells.1 ∈ zTbl := ⟨zmem 801 (by decide +kernel) rfl, zmem 23 (by decide +kernel) rfl⟩
theorem mdX5_trials : zMd MX5_trials 0 := ⟨zmem 806 (by decide +kernel) rfl, zmem 64 (by decide +kernel) rfl, by decide +kernel, by decide⟩
theorem isX5_trials : Cond.instanceMethod MX5_trials.1 ∈ zTbl ∧ Cond.selects MX5_trials.1.cls MX5_trials.1 MX5_trials.1 ∈ zTbl := ⟨zmem 804 (by decide +kernel) rfl, zmem 805 (by decide +kernel) rfl⟩
theorem mdX0_tells : zMd MX0_tells 6 := ⟨zmem 810 (by decide +kernel) rfl, zmem 67 (by decide +kernel) rfl, by decide +kernel, by decide⟩
theorem isX0_tells : Cond.instanceMethod MX0_tells.1 ∈ zTbl ∧ Cond.selects MX0_tells.1.cls MX0_tells.1 MX0_tells.1 ∈ zTbl := ⟨zmem 809 (by decide +kernel) rfl, zmem 24 (by decide +kernel) rfl⟩
theorem mdX0_group : zMd MX0_group 4 := ⟨zmem 817 (by decide +kernel) rfl, zmem 67 (by decide +kernel) rfl, by decide +kernel, by decide⟩
theorem isX0_group : Cond.instanceMethod MX0_group.1 ∈ zTbl ∧ Cond.selects MX0_group.1.cls MX0_group.1 MX0_group.1 ∈ zTbl := ⟨zmem 816 (by decide +kernel) rfl, zmem 25 (by decide +kernel) rfl⟩
theorem mdX0_listReplies : zMd MX0_listReplies 3 := ⟨zmem 821 (by decide +kernel) rfl, zmem 67 (by decide +kernel) rfl, by decide +kernel, by decide⟩
theorem isX0_listReplies : Cond.instanceMethod MX0_listReplies.1 ∈ zTbl ∧ Cond.selects MX0_listReplies.1.cls MX0_listReplies.1 MX0_listReplies.1 ∈ zTbl := ⟨zmem 820 (by decide +kernel) rfl, zmem 26 (by decide +kernel) rfl⟩
theorem mdX6_set : zMd MX6_set 2 := ⟨zmem 826 (by decide +kernel) rfl, zmem 66 (by decide +kernel) rfl, by decide +kernel, by decide⟩
theorem isX6_set : Cond.instanceMethod MX6_set.1 ∈ zTbl ∧ Cond.selects MX6_set.1.cls MX6_set.1 MX6_set.1 ∈ zTbl := ⟨zmem 824 (by decide +kernel) rfl, zmem 825 (by decide +kernel) rfl⟩
theorem mdX0_eachGroupIsTold : zMd MX0_eachGroupIsTold 3 := ⟨zmem 831 (by decide +kernel) rfl, zmem 67 (by decide +kernel) rfl, by decide +kernel, by decide⟩
theorem isX0_eachGroupIsTold : Cond.instanceMethod MX0_eachGroupIsTold.1 ∈ zTbl ∧ Cond.selects MX0_eachGroupIsTold.1.cls MX0_eachGroupIsTold.1 MX0_eachGroupIsTold.1 ∈ zTbl := ⟨zmem 830 (by decide +kernel) rfl, zmem 27 (by decide +kernel) rfl⟩
theorem mdX7_solved : zMd MX7_solved 1 := ⟨zmem 835 (by decide +kernel) rfl, zmem 62 (by decide +kernel) rfl, by decide +kernel, by decide⟩
theorem isX7_solved : Cond.instanceMethod MX7_solved.1 ∈ zTbl ∧ Cond.selects MX7_solved.1.cls MX7_solved.1 MX7_solved.1 ∈ zTbl := ⟨zmem 833 (by decide +kernel) rfl, zmem 834 (by decide +kernel) rfl⟩
theorem mdX7_solve : zMd MX7_solve 3 := ⟨zmem 839 (by decide +kernel) rfl, zmem 62 (by decide +kernel) rfl, by decide +kernel, by decide⟩
theorem isX7_solve : Cond.instanceMethod MX7_solve.1 ∈ zTbl ∧ Cond.selects MX7_solve.1.cls MX7_solve.1 MX7_solve.1 ∈ zTbl := ⟨zmem 838 (by decide +kernel) rfl, zmem 28 (by decide +kernel) rfl⟩
theorem mdX0_solves : zMd MX0_solves 3 := ⟨zmem 843 (by decide +kernel) rfl, zmem 67 (by decide +kernel) rfl, by decide +kernel, by decide⟩
theorem isX0_solves : Cond.instanceMethod MX0_solves.1 ∈ zTbl ∧ Cond.selects MX0_solves.1.cls MX0_solves.1 MX0_solves.1 ∈ zTbl := ⟨zmem 841 (by decide +kernel) rfl, zmem 842 (by decide +kernel) rfl⟩
theorem mdX6_holds : zMd MX6_holds 1 := ⟨zmem 847 (by decide +kernel) rfl, zmem 66 (by decide +kernel) rfl, by decide +kernel, by decide⟩
theorem isX6_holds : Cond.instanceMethod MX6_holds.1 ∈ zTbl ∧ Cond.selects MX6_holds.1.cls MX6_holds.1 MX6_holds.1 ∈ zTbl := ⟨zmem 845 (by decide +kernel) rfl, zmem 846 (by decide +kernel) rfl⟩
theorem mdX7_risk : zMd MX7_risk 1 := ⟨zmem 853 (by decide +kernel) rfl, zmem 62 (by decide +kernel) rfl, by decide +kernel, by decide⟩
theorem isX7_risk : Cond.instanceMethod MX7_risk.1 ∈ zTbl ∧ Cond.selects MX7_risk.1.cls MX7_risk.1 MX7_risk.1 ∈ zTbl := ⟨zmem 851 (by decide +kernel) rfl, zmem 852 (by decide +kernel) rfl⟩
theorem mdX7_seconds : zMd MX7_seconds 0 := ⟨zmem 858 (by decide +kernel) rfl, zmem 62 (by decide +kernel) rfl, by decide +kernel, by decide⟩
theorem isX7_seconds : Cond.instanceMethod MX7_seconds.1 ∈ zTbl ∧ Cond.selects MX7_seconds.1.cls MX7_seconds.1 MX7_seconds.1 ∈ zTbl := ⟨zmem 856 (by decide +kernel) rfl, zmem 857 (by decide +kernel) rfl⟩
theorem mdX7_misled : zMd MX7_misled 2 := ⟨zmem 862 (by decide +kernel) rfl, zmem 62 (by decide +kernel) rfl, by decide +kernel, by decide⟩
theorem isX7_misled : Cond.instanceMethod MX7_misled.1 ∈ zTbl ∧ Cond.selects MX7_misled.1.cls MX7_misled.1 MX7_misled.1 ∈ zTbl := ⟨zmem 860 (by decide +kernel) rfl, zmem 861 (by decide +kernel) rfl⟩
theorem mdX7_more : zMd MX7_more 1 := ⟨zmem 868 (by decide +kernel) rfl, zmem 62 (by decide +kernel) rfl, by decide +kernel, by decide⟩
theorem isX7_more : Cond.instanceMethod MX7_more.1 ∈ zTbl ∧ Cond.selects MX7_more.1.cls MX7_more.1 MX7_more.1 ∈ zTbl := ⟨zmem 866 (by decide +kernel) rfl, zmem 867 (by decide +kernel) rfl⟩
theorem mdJ6_compare_7cf53 : zMd MJ6_compare_7cf53 2 := ⟨zmem 872 (by decide +kernel) rfl, zmem 76 (by decide +kernel) rfl, by decide +kernel, by decide⟩
theorem stJ6_compare_7cf53 : Cond.static MJ6_compare_7cf53.1 ∈ zTbl := zmem 871 (by decide +kernel) rfl
theorem mdX7_heavier : zMd MX7_heavier 2 := ⟨zmem 876 (by decide +kernel) rfl, zmem 62 (by decide +kernel) rfl, by decide +kernel, by decide⟩
theorem isX7_heavier : Cond.instanceMethod MX7_heavier.1 ∈ zTbl ∧ Cond.selects MX7_heavier.1.cls MX7_heavier.1 MX7_heavier.1 ∈ zTbl := ⟨zmem 874 (by decide +kernel) rfl, zmem 875 (by decide +kernel) rfl⟩
theorem mdX5_weightWithBox : zMd MX5_weightWithBox 2 := ⟨zmem 880 (by decide +kernel) rfl, zmem 64 (by decide +kernel) rfl, by decide +kernel, by decide⟩
theorem isX5_weightWithBox : Cond.instanceMethod MX5_weightWithBox.1 ∈ zTbl ∧ Cond.selects MX5_weightWithBox.1.cls MX5_weightWithBox.1 MX5_weightWithBox.1 ∈ zTbl := ⟨zmem 878 (by decide +kernel) rfl, zmem 879 (by decide +kernel) rfl⟩
theorem mdX7_morning : zMd MX7_morning 2 := ⟨zmem 884 (by decide +kernel) rfl, zmem 62 (by decide +kernel) rfl, by decide +kernel, by decide⟩
theorem isX7_morning : Cond.instanceMethod MX7_morning.1 ∈ zTbl ∧ Cond.selects MX7_morning.1.cls MX7_morning.1 MX7_morning.1 ∈ zTbl := ⟨zmem 882 (by decide +kernel) rfl, zmem 883 (by decide +kernel) rfl⟩
theorem mdX7_keep : zMd MX7_keep 0 := ⟨zmem 890 (by decide +kernel) rfl, zmem 62 (by decide +kernel) rfl, by decide +kernel, by decide⟩
theorem isX7_keep : Cond.instanceMethod MX7_keep.1 ∈ zTbl ∧ Cond.selects MX7_keep.1.cls MX7_keep.1 MX7_keep.1 ∈ zTbl := ⟨zmem 888 (by decide +kernel) rfl, zmem 889 (by decide +kernel) rfl⟩
theorem mdX7_back : zMd MX7_back 0 := ⟨zmem 895 (by decide +kernel) rfl, zmem 62 (by decide +kernel) rfl, by decide +kernel, by decide⟩
theorem isX7_back : Cond.instanceMethod MX7_back.1 ∈ zTbl ∧ Cond.selects MX7_back.1.cls MX7_back.1 MX7_back.1 ∈ zTbl := ⟨zmem 893 (by decide +kernel) rfl, zmem 894 (by decide +kernel) rfl⟩
theorem mdX7_count : zMd MX7_count 1 := ⟨zmem 899 (by decide +kernel) rfl, zmem 62 (by decide +kernel) rfl, by decide +kernel, by decide⟩
theorem isX7_count : Cond.instanceMethod MX7_count.1 ∈ zTbl ∧ Cond.selects MX7_count.1.cls MX7_count.1 MX7_count.1 ∈ zTbl := ⟨zmem 897 (by decide +kernel) rfl, zmem 898 (by decide +kernel) rfl⟩
theorem mdX8_init : zMd MX8_init 0 := ⟨zmem 904 (by decide +kernel) rfl, zmem 77 (by decide +kernel) rfl, by decide +kernel, by decide⟩
theorem isX8_init : Cond.instanceMethod MX8_init.1 ∈ zTbl := zmem 903 (by decide +kernel) rfl
theorem mdX8_noTree : zMd MX8_noTree 1 := ⟨zmem 909 (by decide +kernel) rfl, zmem 77 (by decide +kernel) rfl, by decide +kernel, by decide⟩
theorem isX8_noTree : Cond.instanceMethod MX8_noTree.1 ∈ zTbl ∧ Cond.selects MX8_noTree.1.cls MX8_noTree.1 MX8_noTree.1 ∈ zTbl := ⟨zmem 908 (by decide +kernel) rfl, zmem 29 (by decide +kernel) rfl⟩
theorem mdX8_addThing : zMd MX8_addThing 5 := ⟨zmem 913 (by decide +kernel) rfl, zmem 77 (by decide +kernel) rfl, by decide +kernel, by decide⟩
theorem isX8_addThing : Cond.instanceMethod MX8_addThing.1 ∈ zTbl ∧ Cond.selects MX8_addThing.1.cls MX8_addThing.1 MX8_addThing.1 ∈ zTbl := ⟨zmem 912 (by decide +kernel) rfl, zmem 30 (by decide +kernel) rfl⟩
theorem mdX8_addParcel : zMd MX8_addParcel 4 := ⟨zmem 917 (by decide +kernel) rfl, zmem 77 (by decide +kernel) rfl, by decide +kernel, by decide⟩
theorem isX8_addParcel : Cond.instanceMethod MX8_addParcel.1 ∈ zTbl ∧ Cond.selects MX8_addParcel.1.cls MX8_addParcel.1 MX8_addParcel.1 ∈ zTbl := ⟨zmem 916 (by decide +kernel) rfl, zmem 31 (by decide +kernel) rfl⟩
theorem mdX8_begin : zMd MX8_begin 0 := ⟨zmem 921 (by decide +kernel) rfl, zmem 77 (by decide +kernel) rfl, by decide +kernel, by decide⟩
theorem isX8_begin : Cond.instanceMethod MX8_begin.1 ∈ zTbl ∧ Cond.selects MX8_begin.1.cls MX8_begin.1 MX8_begin.1 ∈ zTbl := ⟨zmem 920 (by decide +kernel) rfl, zmem 32 (by decide +kernel) rfl⟩
theorem mdX8_layWorlds : zMd MX8_layWorlds 0 := ⟨zmem 925 (by decide +kernel) rfl, zmem 77 (by decide +kernel) rfl, by decide +kernel, by decide⟩
theorem isX8_layWorlds : Cond.instanceMethod MX8_layWorlds.1 ∈ zTbl ∧ Cond.selects MX8_layWorlds.1.cls MX8_layWorlds.1 MX8_layWorlds.1 ∈ zTbl := ⟨zmem 924 (by decide +kernel) rfl, zmem 33 (by decide +kernel) rfl⟩
theorem mdX8_bits : zMd MX8_bits 1 := ⟨zmem 928 (by decide +kernel) rfl, zmem 77 (by decide +kernel) rfl, by decide +kernel, by decide⟩
theorem stX8_bits : Cond.static MX8_bits.1 ∈ zTbl := zmem 927 (by decide +kernel) rfl
theorem mdX8_isFair : zMd MX8_isFair 2 := ⟨zmem 932 (by decide +kernel) rfl, zmem 77 (by decide +kernel) rfl, by decide +kernel, by decide⟩
theorem isX8_isFair : Cond.instanceMethod MX8_isFair.1 ∈ zTbl ∧ Cond.selects MX8_isFair.1.cls MX8_isFair.1 MX8_isFair.1 ∈ zTbl := ⟨zmem 931 (by decide +kernel) rfl, zmem 34 (by decide +kernel) rfl⟩
theorem mdX8_gap : zMd MX8_gap 2 := ⟨zmem 936 (by decide +kernel) rfl, zmem 77 (by decide +kernel) rfl, by decide +kernel, by decide⟩
theorem isX8_gap : Cond.instanceMethod MX8_gap.1 ∈ zTbl ∧ Cond.selects MX8_gap.1.cls MX8_gap.1 MX8_gap.1 ∈ zTbl := ⟨zmem 935 (by decide +kernel) rfl, zmem 35 (by decide +kernel) rfl⟩
theorem mdX8_has : zMd MX8_has 2 := ⟨zmem 939 (by decide +kernel) rfl, zmem 77 (by decide +kernel) rfl, by decide +kernel, by decide⟩
theorem stX8_has : Cond.static MX8_has.1 ∈ zTbl := zmem 938 (by decide +kernel) rfl
theorem mdX8_in : zMd MX8_in 3 := ⟨zmem 942 (by decide +kernel) rfl, zmem 77 (by decide +kernel) rfl, by decide +kernel, by decide⟩
theorem stX8_in : Cond.static MX8_in.1 ∈ zTbl := zmem 941 (by decide +kernel) rfl
theorem mdX8_write : zMd MX8_write 1 := ⟨zmem 1047 (by decide +kernel) rfl, zmem 77 (by decide +kernel) rfl, by decide +kernel, by decide⟩
theorem isX8_write : Cond.instanceMethod MX8_write.1 ∈ zTbl ∧ Cond.selects MX8_write.1.cls MX8_write.1 MX8_write.1 ∈ zTbl := ⟨zmem 1045 (by decide +kernel) rfl, zmem 1046 (by decide +kernel) rfl⟩
theorem mdX8_wipe : zMd MX8_wipe 0 := ⟨zmem 1053 (by decide +kernel) rfl, zmem 77 (by decide +kernel) rfl, by decide +kernel, by decide⟩
theorem isX8_wipe : Cond.instanceMethod MX8_wipe.1 ∈ zTbl ∧ Cond.selects MX8_wipe.1.cls MX8_wipe.1 MX8_wipe.1 ∈ zTbl := ⟨zmem 1051 (by decide +kernel) rfl, zmem 1052 (by decide +kernel) rfl⟩
theorem mdX8_fault : zMd MX8_fault 0 := ⟨zmem 1057 (by decide +kernel) rfl, zmem 77 (by decide +kernel) rfl, by decide +kernel, by decide⟩
theorem isX8_fault : Cond.instanceMethod MX8_fault.1 ∈ zTbl ∧ Cond.selects MX8_fault.1.cls MX8_fault.1 MX8_fault.1 ∈ zTbl := ⟨zmem 1055 (by decide +kernel) rfl, zmem 1056 (by decide +kernel) rfl⟩
theorem mdX8_readAll : zMd MX8_readAll 0 := ⟨zmem 1061 (by decide +kernel) rfl, zmem 77 (by decide +kernel) rfl, by decide +kernel, by decide⟩
theorem isX8_readAll : Cond.instanceMethod MX8_readAll.1 ∈ zTbl ∧ Cond.selects MX8_readAll.1.cls MX8_readAll.1 MX8_readAll.1 ∈ zTbl := ⟨zmem 1060 (by decide +kernel) rfl, zmem 36 (by decide +kernel) rfl⟩
theorem mdX8_item : zMd MX8_item 0 := ⟨zmem 1065 (by decide +kernel) rfl, zmem 77 (by decide +kernel) rfl, by decide +kernel, by decide⟩
theorem isX8_item : Cond.instanceMethod MX8_item.1 ∈ zTbl ∧ Cond.selects MX8_item.1.cls MX8_item.1 MX8_item.1 ∈ zTbl := ⟨zmem 1064 (by decide +kernel) rfl, zmem 37 (by decide +kernel) rfl⟩
theorem mdX8_letterAt : zMd MX8_letterAt 1 := ⟨zmem 1069 (by decide +kernel) rfl, zmem 77 (by decide +kernel) rfl, by decide +kernel, by decide⟩
theorem isX8_letterAt : Cond.instanceMethod MX8_letterAt.1 ∈ zTbl ∧ Cond.selects MX8_letterAt.1.cls MX8_letterAt.1 MX8_letterAt.1 ∈ zTbl := ⟨zmem 1068 (by decide +kernel) rfl, zmem 38 (by decide +kernel) rfl⟩
theorem mdX8_figures : zMd MX8_figures 1 := ⟨zmem 1073 (by decide +kernel) rfl, zmem 77 (by decide +kernel) rfl, by decide +kernel, by decide⟩
theorem isX8_figures : Cond.instanceMethod MX8_figures.1 ∈ zTbl ∧ Cond.selects MX8_figures.1.cls MX8_figures.1 MX8_figures.1 ∈ zTbl := ⟨zmem 1072 (by decide +kernel) rfl, zmem 39 (by decide +kernel) rfl⟩
theorem mdX8_isThingTold : zMd MX8_isThingTold 0 := ⟨zmem 1080 (by decide +kernel) rfl, zmem 77 (by decide +kernel) rfl, by decide +kernel, by decide⟩
theorem isX8_isThingTold : Cond.instanceMethod MX8_isThingTold.1 ∈ zTbl ∧ Cond.selects MX8_isThingTold.1.cls MX8_isThingTold.1 MX8_isThingTold.1 ∈ zTbl := ⟨zmem 1079 (by decide +kernel) rfl, zmem 40 (by decide +kernel) rfl⟩
theorem mdX8_lay : zMd MX8_lay 0 := ⟨zmem 1087 (by decide +kernel) rfl, zmem 77 (by decide +kernel) rfl, by decide +kernel, by decide⟩
theorem isX8_lay : Cond.instanceMethod MX8_lay.1 ∈ zTbl ∧ Cond.selects MX8_lay.1.cls MX8_lay.1 MX8_lay.1 ∈ zTbl := ⟨zmem 1085 (by decide +kernel) rfl, zmem 1086 (by decide +kernel) rfl⟩
theorem mdX8_isTruth : zMd MX8_isTruth 0 := ⟨zmem 1091 (by decide +kernel) rfl, zmem 77 (by decide +kernel) rfl, by decide +kernel, by decide⟩
theorem isX8_isTruth : Cond.instanceMethod MX8_isTruth.1 ∈ zTbl ∧ Cond.selects MX8_isTruth.1.cls MX8_isTruth.1 MX8_isTruth.1 ∈ zTbl := ⟨zmem 1090 (by decide +kernel) rfl, zmem 41 (by decide +kernel) rfl⟩
theorem mdX8_codeOf : zMd MX8_codeOf 4 := ⟨zmem 1095 (by decide +kernel) rfl, zmem 77 (by decide +kernel) rfl, by decide +kernel, by decide⟩
theorem isX8_codeOf : Cond.instanceMethod MX8_codeOf.1 ∈ zTbl ∧ Cond.selects MX8_codeOf.1.cls MX8_codeOf.1 MX8_codeOf.1 ∈ zTbl := ⟨zmem 1094 (by decide +kernel) rfl, zmem 42 (by decide +kernel) rfl⟩
theorem mdX8_thing : zMd MX8_thing 2 := ⟨zmem 1099 (by decide +kernel) rfl, zmem 77 (by decide +kernel) rfl, by decide +kernel, by decide⟩
theorem isX8_thing : Cond.instanceMethod MX8_thing.1 ∈ zTbl ∧ Cond.selects MX8_thing.1.cls MX8_thing.1 MX8_thing.1 ∈ zTbl := ⟨zmem 1097 (by decide +kernel) rfl, zmem 1098 (by decide +kernel) rfl⟩
theorem mdX8_isThing : zMd MX8_isThing 1 := ⟨zmem 1103 (by decide +kernel) rfl, zmem 77 (by decide +kernel) rfl, by decide +kernel, by decide⟩
theorem isX8_isThing : Cond.instanceMethod MX8_isThing.1 ∈ zTbl ∧ Cond.selects MX8_isThing.1.cls MX8_isThing.1 MX8_isThing.1 ∈ zTbl := ⟨zmem 1102 (by decide +kernel) rfl, zmem 43 (by decide +kernel) rfl⟩
theorem mdX8_parcel : zMd MX8_parcel 2 := ⟨zmem 1108 (by decide +kernel) rfl, zmem 77 (by decide +kernel) rfl, by decide +kernel, by decide⟩
theorem isX8_parcel : Cond.instanceMethod MX8_parcel.1 ∈ zTbl ∧ Cond.selects MX8_parcel.1.cls MX8_parcel.1 MX8_parcel.1 ∈ zTbl := ⟨zmem 1106 (by decide +kernel) rfl, zmem 1107 (by decide +kernel) rfl⟩
theorem mdX8_isParcel : zMd MX8_isParcel 1 := ⟨zmem 1112 (by decide +kernel) rfl, zmem 77 (by decide +kernel) rfl, by decide +kernel, by decide⟩
theorem isX8_isParcel : Cond.instanceMethod MX8_isParcel.1 ∈ zTbl ∧ Cond.selects MX8_isParcel.1.cls MX8_isParcel.1 MX8_isParcel.1 ∈ zTbl := ⟨zmem 1111 (by decide +kernel) rfl, zmem 44 (by decide +kernel) rfl⟩
theorem mdX8_world : zMd MX8_world 2 := ⟨zmem 1116 (by decide +kernel) rfl, zmem 77 (by decide +kernel) rfl, by decide +kernel, by decide⟩
theorem isX8_world : Cond.instanceMethod MX8_world.1 ∈ zTbl ∧ Cond.selects MX8_world.1.cls MX8_world.1 MX8_world.1 ∈ zTbl := ⟨zmem 1114 (by decide +kernel) rfl, zmem 1115 (by decide +kernel) rfl⟩
theorem mdX8_setIn : zMd MX8_setIn 2 := ⟨zmem 1119 (by decide +kernel) rfl, zmem 77 (by decide +kernel) rfl, by decide +kernel, by decide⟩
theorem stX8_setIn : Cond.static MX8_setIn.1 ∈ zTbl := zmem 1118 (by decide +kernel) rfl
theorem mdX8_answer : zMd MX8_answer 3 := ⟨zmem 1123 (by decide +kernel) rfl, zmem 77 (by decide +kernel) rfl, by decide +kernel, by decide⟩
theorem isX8_answer : Cond.instanceMethod MX8_answer.1 ∈ zTbl ∧ Cond.selects MX8_answer.1.cls MX8_answer.1 MX8_answer.1 ∈ zTbl := ⟨zmem 1121 (by decide +kernel) rfl, zmem 1122 (by decide +kernel) rfl⟩
theorem mdX8_answerOf : zMd MX8_answerOf 4 := ⟨zmem 1128 (by decide +kernel) rfl, zmem 77 (by decide +kernel) rfl, by decide +kernel, by decide⟩
theorem isX8_answerOf : Cond.instanceMethod MX8_answerOf.1 ∈ zTbl ∧ Cond.selects MX8_answerOf.1.cls MX8_answerOf.1 MX8_answerOf.1 ∈ zTbl := ⟨zmem 1127 (by decide +kernel) rfl, zmem 45 (by decide +kernel) rfl⟩
theorem mdX8_weightOf : zMd MX8_weightOf 2 := ⟨zmem 1132 (by decide +kernel) rfl, zmem 77 (by decide +kernel) rfl, by decide +kernel, by decide⟩
theorem isX8_weightOf : Cond.instanceMethod MX8_weightOf.1 ∈ zTbl ∧ Cond.selects MX8_weightOf.1.cls MX8_weightOf.1 MX8_weightOf.1 ∈ zTbl := ⟨zmem 1131 (by decide +kernel) rfl, zmem 46 (by decide +kernel) rfl⟩
theorem mdX8_manyOf : zMd MX8_manyOf 2 := ⟨zmem 1136 (by decide +kernel) rfl, zmem 77 (by decide +kernel) rfl, by decide +kernel, by decide⟩
theorem isX8_manyOf : Cond.instanceMethod MX8_manyOf.1 ∈ zTbl ∧ Cond.selects MX8_manyOf.1.cls MX8_manyOf.1 MX8_manyOf.1 ∈ zTbl := ⟨zmem 1135 (by decide +kernel) rfl, zmem 47 (by decide +kernel) rfl⟩
theorem mdX8_attempt : zMd MX8_attempt 2 := ⟨zmem 1140 (by decide +kernel) rfl, zmem 77 (by decide +kernel) rfl, by decide +kernel, by decide⟩
theorem isX8_attempt : Cond.instanceMethod MX8_attempt.1 ∈ zTbl ∧ Cond.selects MX8_attempt.1.cls MX8_attempt.1 MX8_attempt.1 ∈ zTbl := ⟨zmem 1138 (by decide +kernel) rfl, zmem 1139 (by decide +kernel) rfl⟩
theorem mdX8_addAnswer : zMd MX8_addAnswer 3 := ⟨zmem 1144 (by decide +kernel) rfl, zmem 77 (by decide +kernel) rfl, by decide +kernel, by decide⟩
theorem isX8_addAnswer : Cond.instanceMethod MX8_addAnswer.1 ∈ zTbl ∧ Cond.selects MX8_addAnswer.1.cls MX8_addAnswer.1 MX8_addAnswer.1 ∈ zTbl := ⟨zmem 1143 (by decide +kernel) rfl, zmem 48 (by decide +kernel) rfl⟩
theorem mdX8_note : zMd MX8_note 0 := ⟨zmem 1148 (by decide +kernel) rfl, zmem 77 (by decide +kernel) rfl, by decide +kernel, by decide⟩
theorem isX8_note : Cond.instanceMethod MX8_note.1 ∈ zTbl ∧ Cond.selects MX8_note.1.cls MX8_note.1 MX8_note.1 ∈ zTbl := ⟨zmem 1147 (by decide +kernel) rfl, zmem 49 (by decide +kernel) rfl⟩
theorem mdX8_hear : zMd MX8_hear 3 := ⟨zmem 1152 (by decide +kernel) rfl, zmem 77 (by decide +kernel) rfl, by decide +kernel, by decide⟩
theorem isX8_hear : Cond.instanceMethod MX8_hear.1 ∈ zTbl ∧ Cond.selects MX8_hear.1.cls MX8_hear.1 MX8_hear.1 ∈ zTbl := ⟨zmem 1150 (by decide +kernel) rfl, zmem 1151 (by decide +kernel) rfl⟩
theorem mdX8_change : zMd MX8_change 2 := ⟨zmem 1157 (by decide +kernel) rfl, zmem 77 (by decide +kernel) rfl, by decide +kernel, by decide⟩
theorem isX8_change : Cond.instanceMethod MX8_change.1 ∈ zTbl ∧ Cond.selects MX8_change.1.cls MX8_change.1 MX8_change.1 ∈ zTbl := ⟨zmem 1155 (by decide +kernel) rfl, zmem 1156 (by decide +kernel) rfl⟩
theorem mdX8_truth : zMd MX8_truth 0 := ⟨zmem 1161 (by decide +kernel) rfl, zmem 77 (by decide +kernel) rfl, by decide +kernel, by decide⟩
theorem isX8_truth : Cond.instanceMethod MX8_truth.1 ∈ zTbl ∧ Cond.selects MX8_truth.1.cls MX8_truth.1 MX8_truth.1 ∈ zTbl := ⟨zmem 1160 (by decide +kernel) rfl, zmem 50 (by decide +kernel) rfl⟩
theorem mdX8_hide : zMd MX8_hide 2 := ⟨zmem 1165 (by decide +kernel) rfl, zmem 77 (by decide +kernel) rfl, by decide +kernel, by decide⟩
theorem isX8_hide : Cond.instanceMethod MX8_hide.1 ∈ zTbl ∧ Cond.selects MX8_hide.1.cls MX8_hide.1 MX8_hide.1 ∈ zTbl := ⟨zmem 1163 (by decide +kernel) rfl, zmem 1164 (by decide +kernel) rfl⟩
theorem mdX8_undo : zMd MX8_undo 0 := ⟨zmem 1169 (by decide +kernel) rfl, zmem 77 (by decide +kernel) rfl, by decide +kernel, by decide⟩
theorem isX8_undo : Cond.instanceMethod MX8_undo.1 ∈ zTbl ∧ Cond.selects MX8_undo.1.cls MX8_undo.1 MX8_undo.1 ∈ zTbl := ⟨zmem 1167 (by decide +kernel) rfl, zmem 1168 (by decide +kernel) rfl⟩
theorem mdX8_left : zMd MX8_left 0 := ⟨zmem 1173 (by decide +kernel) rfl, zmem 77 (by decide +kernel) rfl, by decide +kernel, by decide⟩
theorem isX8_left : Cond.instanceMethod MX8_left.1 ∈ zTbl ∧ Cond.selects MX8_left.1.cls MX8_left.1 MX8_left.1 ∈ zTbl := ⟨zmem 1171 (by decide +kernel) rfl, zmem 1172 (by decide +kernel) rfl⟩
theorem mdX8_layLeft : zMd MX8_layLeft 1 := ⟨zmem 1177 (by decide +kernel) rfl, zmem 77 (by decide +kernel) rfl, by decide +kernel, by decide⟩
theorem isX8_layLeft : Cond.instanceMethod MX8_layLeft.1 ∈ zTbl ∧ Cond.selects MX8_layLeft.1.cls MX8_layLeft.1 MX8_layLeft.1 ∈ zTbl := ⟨zmem 1176 (by decide +kernel) rfl, zmem 51 (by decide +kernel) rfl⟩
theorem mdX8_fits : zMd MX8_fits 2 := ⟨zmem 1181 (by decide +kernel) rfl, zmem 77 (by decide +kernel) rfl, by decide +kernel, by decide⟩
theorem isX8_fits : Cond.instanceMethod MX8_fits.1 ∈ zTbl ∧ Cond.selects MX8_fits.1.cls MX8_fits.1 MX8_fits.1 ∈ zTbl := ⟨zmem 1180 (by decide +kernel) rfl, zmem 52 (by decide +kernel) rfl⟩
theorem mdX8_likely : zMd MX8_likely 3 := ⟨zmem 1185 (by decide +kernel) rfl, zmem 77 (by decide +kernel) rfl, by decide +kernel, by decide⟩
theorem isX8_likely : Cond.instanceMethod MX8_likely.1 ∈ zTbl ∧ Cond.selects MX8_likely.1.cls MX8_likely.1 MX8_likely.1 ∈ zTbl := ⟨zmem 1183 (by decide +kernel) rfl, zmem 1184 (by decide +kernel) rfl⟩
theorem mdX8_weighs : zMd MX8_weighs 1 := ⟨zmem 1191 (by decide +kernel) rfl, zmem 77 (by decide +kernel) rfl, by decide +kernel, by decide⟩
theorem isX8_weighs : Cond.instanceMethod MX8_weighs.1 ∈ zTbl ∧ Cond.selects MX8_weighs.1.cls MX8_weighs.1 MX8_weighs.1 ∈ zTbl := ⟨zmem 1190 (by decide +kernel) rfl, zmem 53 (by decide +kernel) rfl⟩
theorem mdX8_common : zMd MX8_common 2 := ⟨zmem 1194 (by decide +kernel) rfl, zmem 77 (by decide +kernel) rfl, by decide +kernel, by decide⟩
theorem stX8_common : Cond.static MX8_common.1 ∈ zTbl := zmem 1193 (by decide +kernel) rfl
theorem mdX8_sure : zMd MX8_sure 2 := ⟨zmem 1198 (by decide +kernel) rfl, zmem 77 (by decide +kernel) rfl, by decide +kernel, by decide⟩
theorem isX8_sure : Cond.instanceMethod MX8_sure.1 ∈ zTbl ∧ Cond.selects MX8_sure.1.cls MX8_sure.1 MX8_sure.1 ∈ zTbl := ⟨zmem 1196 (by decide +kernel) rfl, zmem 1197 (by decide +kernel) rfl⟩
theorem mdX8_judge : zMd MX8_judge 0 := ⟨zmem 1202 (by decide +kernel) rfl, zmem 77 (by decide +kernel) rfl, by decide +kernel, by decide⟩
theorem isX8_judge : Cond.instanceMethod MX8_judge.1 ∈ zTbl ∧ Cond.selects MX8_judge.1.cls MX8_judge.1 MX8_judge.1 ∈ zTbl := ⟨zmem 1200 (by decide +kernel) rfl, zmem 1201 (by decide +kernel) rfl⟩
theorem mdX8_guess : zMd MX8_guess 2 := ⟨zmem 1206 (by decide +kernel) rfl, zmem 77 (by decide +kernel) rfl, by decide +kernel, by decide⟩
theorem isX8_guess : Cond.instanceMethod MX8_guess.1 ∈ zTbl ∧ Cond.selects MX8_guess.1.cls MX8_guess.1 MX8_guess.1 ∈ zTbl := ⟨zmem 1204 (by decide +kernel) rfl, zmem 1205 (by decide +kernel) rfl⟩
theorem mdX8_next : zMd MX8_next 1 := ⟨zmem 1210 (by decide +kernel) rfl, zmem 77 (by decide +kernel) rfl, by decide +kernel, by decide⟩
theorem isX8_next : Cond.instanceMethod MX8_next.1 ∈ zTbl ∧ Cond.selects MX8_next.1.cls MX8_next.1 MX8_next.1 ∈ zTbl := ⟨zmem 1208 (by decide +kernel) rfl, zmem 1209 (by decide +kernel) rfl⟩
theorem mdX8_bestTrial : zMd MX8_bestTrial 0 := ⟨zmem 1214 (by decide +kernel) rfl, zmem 77 (by decide +kernel) rfl, by decide +kernel, by decide⟩
theorem isX8_bestTrial : Cond.instanceMethod MX8_bestTrial.1 ∈ zTbl ∧ Cond.selects MX8_bestTrial.1.cls MX8_bestTrial.1 MX8_bestTrial.1 ∈ zTbl := ⟨zmem 1213 (by decide +kernel) rfl, zmem 54 (by decide +kernel) rfl⟩
theorem mdX8_worstOf : zMd MX8_worstOf 2 := ⟨zmem 1218 (by decide +kernel) rfl, zmem 77 (by decide +kernel) rfl, by decide +kernel, by decide⟩
theorem isX8_worstOf : Cond.instanceMethod MX8_worstOf.1 ∈ zTbl ∧ Cond.selects MX8_worstOf.1.cls MX8_worstOf.1 MX8_worstOf.1 ∈ zTbl := ⟨zmem 1217 (by decide +kernel) rfl, zmem 55 (by decide +kernel) rfl⟩
theorem mdX8_few : zMd MX8_few 1 := ⟨zmem 1222 (by decide +kernel) rfl, zmem 77 (by decide +kernel) rfl, by decide +kernel, by decide⟩
theorem isX8_few : Cond.instanceMethod MX8_few.1 ∈ zTbl ∧ Cond.selects MX8_few.1.cls MX8_few.1 MX8_few.1 ∈ zTbl := ⟨zmem 1220 (by decide +kernel) rfl, zmem 1221 (by decide +kernel) rfl⟩
theorem mdX8_layTwo : zMd MX8_layTwo 3 := ⟨zmem 1226 (by decide +kernel) rfl, zmem 77 (by decide +kernel) rfl, by decide +kernel, by decide⟩
theorem isX8_layTwo : Cond.instanceMethod MX8_layTwo.1 ∈ zTbl ∧ Cond.selects MX8_layTwo.1.cls MX8_layTwo.1 MX8_layTwo.1 ∈ zTbl := ⟨zmem 1225 (by decide +kernel) rfl, zmem 56 (by decide +kernel) rfl⟩
theorem mdX8_meet : zMd MX8_meet 2 := ⟨zmem 1230 (by decide +kernel) rfl, zmem 77 (by decide +kernel) rfl, by decide +kernel, by decide⟩
theorem isX8_meet : Cond.instanceMethod MX8_meet.1 ∈ zTbl ∧ Cond.selects MX8_meet.1.cls MX8_meet.1 MX8_meet.1 ∈ zTbl := ⟨zmem 1229 (by decide +kernel) rfl, zmem 57 (by decide +kernel) rfl⟩
theorem mdX8_isKnown : zMd MX8_isKnown 1 := ⟨zmem 1234 (by decide +kernel) rfl, zmem 77 (by decide +kernel) rfl, by decide +kernel, by decide⟩
theorem isX8_isKnown : Cond.instanceMethod MX8_isKnown.1 ∈ zTbl ∧ Cond.selects MX8_isKnown.1.cls MX8_isKnown.1 MX8_isKnown.1 ∈ zTbl := ⟨zmem 1233 (by decide +kernel) rfl, zmem 58 (by decide +kernel) rfl⟩
theorem mdX8_isEnough : zMd MX8_isEnough 2 := ⟨zmem 1238 (by decide +kernel) rfl, zmem 77 (by decide +kernel) rfl, by decide +kernel, by decide⟩
theorem isX8_isEnough : Cond.instanceMethod MX8_isEnough.1 ∈ zTbl ∧ Cond.selects MX8_isEnough.1.cls MX8_isEnough.1 MX8_isEnough.1 ∈ zTbl := ⟨zmem 1237 (by decide +kernel) rfl, zmem 59 (by decide +kernel) rfl⟩
theorem mdX8_solved : zMd MX8_solved 1 := ⟨zmem 1242 (by decide +kernel) rfl, zmem 77 (by decide +kernel) rfl, by decide +kernel, by decide⟩
theorem isX8_solved : Cond.instanceMethod MX8_solved.1 ∈ zTbl ∧ Cond.selects MX8_solved.1.cls MX8_solved.1 MX8_solved.1 ∈ zTbl := ⟨zmem 1240 (by decide +kernel) rfl, zmem 1241 (by decide +kernel) rfl⟩
theorem mdX8_solve : zMd MX8_solve 1 := ⟨zmem 1246 (by decide +kernel) rfl, zmem 77 (by decide +kernel) rfl, by decide +kernel, by decide⟩
theorem isX8_solve : Cond.instanceMethod MX8_solve.1 ∈ zTbl ∧ Cond.selects MX8_solve.1.cls MX8_solve.1 MX8_solve.1 ∈ zTbl := ⟨zmem 1245 (by decide +kernel) rfl, zmem 60 (by decide +kernel) rfl⟩
theorem mdX8_risk : zMd MX8_risk 1 := ⟨zmem 1250 (by decide +kernel) rfl, zmem 77 (by decide +kernel) rfl, by decide +kernel, by decide⟩
theorem isX8_risk : Cond.instanceMethod MX8_risk.1 ∈ zTbl ∧ Cond.selects MX8_risk.1.cls MX8_risk.1 MX8_risk.1 ∈ zTbl := ⟨zmem 1248 (by decide +kernel) rfl, zmem 1249 (by decide +kernel) rfl⟩
theorem mdX8_seconds : zMd MX8_seconds 0 := ⟨zmem 1255 (by decide +kernel) rfl, zmem 77 (by decide +kernel) rfl, by decide +kernel, by decide⟩
theorem isX8_seconds : Cond.instanceMethod MX8_seconds.1 ∈ zTbl ∧ Cond.selects MX8_seconds.1.cls MX8_seconds.1 MX8_seconds.1 ∈ zTbl := ⟨zmem 1253 (by decide +kernel) rfl, zmem 1254 (by decide +kernel) rfl⟩
theorem mdX8_misled : zMd MX8_misled 2 := ⟨zmem 1259 (by decide +kernel) rfl, zmem 77 (by decide +kernel) rfl, by decide +kernel, by decide⟩
theorem isX8_misled : Cond.instanceMethod MX8_misled.1 ∈ zTbl ∧ Cond.selects MX8_misled.1.cls MX8_misled.1 MX8_misled.1 ∈ zTbl := ⟨zmem 1257 (by decide +kernel) rfl, zmem 1258 (by decide +kernel) rfl⟩
theorem mdX8_more : zMd MX8_more 1 := ⟨zmem 1263 (by decide +kernel) rfl, zmem 77 (by decide +kernel) rfl, by decide +kernel, by decide⟩
theorem isX8_more : Cond.instanceMethod MX8_more.1 ∈ zTbl ∧ Cond.selects MX8_more.1.cls MX8_more.1 MX8_more.1 ∈ zTbl := ⟨zmem 1261 (by decide +kernel) rfl, zmem 1262 (by decide +kernel) rfl⟩
theorem mdX8_heavier : zMd MX8_heavier 2 := ⟨zmem 1267 (by decide +kernel) rfl, zmem 77 (by decide +kernel) rfl, by decide +kernel, by decide⟩
theorem isX8_heavier : Cond.instanceMethod MX8_heavier.1 ∈ zTbl ∧ Cond.selects MX8_heavier.1.cls MX8_heavier.1 MX8_heavier.1 ∈ zTbl := ⟨zmem 1265 (by decide +kernel) rfl, zmem 1266 (by decide +kernel) rfl⟩
theorem mdX8_morning : zMd MX8_morning 2 := ⟨zmem 1271 (by decide +kernel) rfl, zmem 77 (by decide +kernel) rfl, by decide +kernel, by decide⟩
theorem isX8_morning : Cond.instanceMethod MX8_morning.1 ∈ zTbl ∧ Cond.selects MX8_morning.1.cls MX8_morning.1 MX8_morning.1 ∈ zTbl := ⟨zmem 1269 (by decide +kernel) rfl, zmem 1270 (by decide +kernel) rfl⟩
theorem mdX8_keep : zMd MX8_keep 0 := ⟨zmem 1278 (by decide +kernel) rfl, zmem 77 (by decide +kernel) rfl, by decide +kernel, by decide⟩
theorem isX8_keep : Cond.instanceMethod MX8_keep.1 ∈ zTbl ∧ Cond.selects MX8_keep.1.cls MX8_keep.1 MX8_keep.1 ∈ zTbl := ⟨zmem 1276 (by decide +kernel) rfl, zmem 1277 (by decide +kernel) rfl⟩
theorem mdX8_back : zMd MX8_back 0 := ⟨zmem 1282 (by decide +kernel) rfl, zmem 77 (by decide +kernel) rfl, by decide +kernel, by decide⟩
theorem isX8_back : Cond.instanceMethod MX8_back.1 ∈ zTbl ∧ Cond.selects MX8_back.1.cls MX8_back.1 MX8_back.1 ∈ zTbl := ⟨zmem 1280 (by decide +kernel) rfl, zmem 1281 (by decide +kernel) rfl⟩
theorem mdX8_count : zMd MX8_count 1 := ⟨zmem 1286 (by decide +kernel) rfl, zmem 77 (by decide +kernel) rfl, by decide +kernel, by decide⟩
theorem isX8_count : Cond.instanceMethod MX8_count.1 ∈ zTbl ∧ Cond.selects MX8_count.1.cls MX8_count.1 MX8_count.1 ∈ zTbl := ⟨zmem 1284 (by decide +kernel) rfl, zmem 1285 (by decide +kernel) rfl⟩
theorem lkL_9 : zLk RL 9 MX7_init := Or.inl (zmem 81 (by decide +kernel) rfl)
theorem obX7_3 : Cond.methodLink RX7 3 Lib.objectInit ∈ zTbl := zmem 84 (by decide +kernel) rfl
theorem obX3_3 : Cond.methodLink RX3 3 Lib.objectInit ∈ zTbl := zmem 92 (by decide +kernel) rfl
theorem obX5_3 : Cond.methodLink RX5 3 Lib.objectInit ∈ zTbl := zmem 114 (by decide +kernel) rfl
theorem obX4_3 : Cond.methodLink RX4 3 Lib.objectInit ∈ zTbl := zmem 120 (by decide +kernel) rfl
theorem obX6_1 : Cond.methodLink RX6 1 Lib.objectInit ∈ zTbl := zmem 212 (by decide +kernel) rfl
theorem obX0_3 : Cond.methodLink RX0 3 Lib.objectInit ∈ zTbl := zmem 227 (by decide +kernel) rfl
theorem obX1_3 : Cond.methodLink RX1 3 Lib.objectInit ∈ zTbl := zmem 266 (by decide +kernel) rfl
theorem lkX7_55 : zLk RX7 55 MX2_init := Or.inl (zmem 290 (by decide +kernel) rfl)
theorem obX2_1 : Cond.methodLink RX2 1 Lib.objectInit ∈ zTbl := zmem 293 (by decide +kernel) rfl
theorem lkX2_7 : zLk RX2 7 MJ9_max_7cf53 := Or.inl (zmem 294 (by decide +kernel) rfl)
theorem lkX7_79 : zLk RX7 79 MJ0_length_8abf5 := Or.inl (zmem 309 (by decide +kernel) rfl)
theorem lkJ0_335 : zLk RJ0 335 MJ0_coder_7d493 := Or.inl (zmem 313 (by decide +kernel) rfl)
theorem lkX7_85 : zLk RX7 85 MJ0_charAt_5068e := Or.inl (zmem 319 (by decide +kernel) rfl)
theorem lkJ0_492 : zLk RJ0 492 MJ0_isLatin1_aae02 := Or.inl (zmem 323 (by decide +kernel) rfl)
theorem lkJ0_495 : zLk RJ0 495 MJ1_charAt_3b067 := Or.inl (zmem 327 (by decide +kernel) rfl)
theorem lkJ1_9 : zLk RJ1 9 MJ0_checkIndex_df160 := Or.inl (zmem 330 (by decide +kernel) rfl)
theorem lkJ0_1059 : zLk RJ0 1059 MJ3_checkIndex_8e157 := Or.inl (zmem 335 (by decide +kernel) rfl)
theorem lkJ0_498 : zLk RJ0 498 MJ2_charAt_3b067 := Or.inl (zmem 338 (by decide +kernel) rfl)
theorem lkJ2_67 : zLk RJ2 67 MJ2_checkIndex_2214a := Or.inl (zmem 341 (by decide +kernel) rfl)
theorem lkJ2_48 : zLk RJ2 48 MJ2_length_9d52b := Or.inl (zmem 344 (by decide +kernel) rfl)
theorem lkJ2_414 : zLk RJ2 414 MJ0_checkIndex_df160 := Or.inl (zmem 347 (by decide +kernel) rfl)
theorem lkJ2_71 : zLk RJ2 71 MJ2_getChar_3b067 := Or.inl (zmem 348 (by decide +kernel) rfl)
theorem lkX7_89 : zLk RX7 89 MX3_add := Or.inl (zmem 357 (by decide +kernel) rfl)
theorem lkX7_93 : zLk RX7 93 MX7_layText := Or.inl (zmem 361 (by decide +kernel) rfl)
theorem lkX7_102 : zLk RX7 102 MX3_readInto := Or.inl (zmem 365 (by decide +kernel) rfl)
theorem lkX3_23 : zLk RX3 23 MX5_clear := Or.inl (zmem 369 (by decide +kernel) rfl)
theorem lkX5_38 : zLk RX5 38 MX4_clear := Or.inl (zmem 373 (by decide +kernel) rfl)
theorem lkX5_50 : zLk RX5 50 MJ7_fill_53178 := Or.inl (zmem 380 (by decide +kernel) rfl)
theorem lkX3_28 : zLk RX3 28 MX3_readNumbers := Or.inl (zmem 383 (by decide +kernel) rfl)
theorem lkX3_42 : zLk RX3 42 MX3_figuresAt := Or.inl (zmem 387 (by decide +kernel) rfl)
theorem lkX3_32 : zLk RX3 32 MX3_letterAt := Or.inl (zmem 391 (by decide +kernel) rfl)
theorem lkX3_53 : zLk RX3 53 MX3_isFigure := Or.inl (zmem 395 (by decide +kernel) rfl)
theorem lkX3_45 : zLk RX3 45 MX3_numberAt := Or.inl (zmem 401 (by decide +kernel) rfl)
theorem lkX3_38 : zLk RX3 38 MX5_takes := Or.inl (zmem 406 (by decide +kernel) rfl)
theorem lkX5_56 : zLk RX5 56 MX5_takesThing := Or.inl (zmem 410 (by decide +kernel) rfl)
theorem lkX5_88 : zLk RX5 88 MX4_add := Or.inl (zmem 418 (by decide +kernel) rfl)
theorem lkX4_54 : zLk RX4 54 MX4_sortByKind := Or.inl (zmem 423 (by decide +kernel) rfl)
theorem lkX5_60 : zLk RX5 60 MX5_takesParcel := Or.inl (zmem 427 (by decide +kernel) rfl)
theorem lkX5_67 : zLk RX5 67 MX5_takesTruth := Or.inl (zmem 432 (by decide +kernel) rfl)
theorem lkX5_71 : zLk RX5 71 MX5_takesScale := Or.inl (zmem 439 (by decide +kernel) rfl)
theorem lkX5_75 : zLk RX5 75 MX5_takesApart := Or.inl (zmem 443 (by decide +kernel) rfl)
theorem lkX5_78 : zLk RX5 78 MX5_takesSort := Or.inl (zmem 447 (by decide +kernel) rfl)
theorem lkX7_170 : zLk RX7 170 MX7_isBelow := Or.inl (zmem 454 (by decide +kernel) rfl)
theorem lkX7_192 : zLk RX7 192 MX5_isWorld := Or.inl (zmem 455 (by decide +kernel) rfl)
theorem lkX5_106 : zLk RX5 106 MJ6_bitCount_0f7a4 := Or.inl (zmem 462 (by decide +kernel) rfl)
theorem lkX5_112 : zLk RX5 112 MX5_isFair := Or.inl (zmem 468 (by decide +kernel) rfl)
theorem lkX5_115 : zLk RX5 115 MX5_hasParcels := Or.inl (zmem 472 (by decide +kernel) rfl)
theorem lkX5_118 : zLk RX5 118 MX5_worthFor := Or.inl (zmem 476 (by decide +kernel) rfl)
theorem lkX5_121 : zLk RX5 121 MJ9_abs_0f7a4 := Or.inl (zmem 480 (by decide +kernel) rfl)
theorem lkX7_293 : zLk RX7 293 MX5_mostWorlds := Or.inl (zmem 483 (by decide +kernel) rfl)
theorem lkX7_296 : zLk RX7 296 MX6_makeRoom := Or.inl (zmem 487 (by decide +kernel) rfl)
theorem lkX7_299 : zLk RX7 299 MX5_listWorlds := Or.inl (zmem 491 (by decide +kernel) rfl)
theorem lkX5_147 : zLk RX5 147 MX6_clear := Or.inl (zmem 495 (by decide +kernel) rfl)
theorem lkX5_150 : zLk RX5 150 MX5_addWorlds := Or.inl (zmem 499 (by decide +kernel) rfl)
theorem lkX5_154 : zLk RX5 154 MX6_add := Or.inl (zmem 502 (by decide +kernel) rfl)
theorem lkX7_303 : zLk RX7 303 MX1_begin := Or.inl (zmem 506 (by decide +kernel) rfl)
theorem lkX1_25 : zLk RX1 25 MJ7_fill_53178 := Or.inl (zmem 510 (by decide +kernel) rfl)
theorem lkX7_286 : zLk RX7 286 MX2_clear := Or.inl (zmem 511 (by decide +kernel) rfl)
theorem lkX7_97 : zLk RX7 97 MX3_clear := Or.inl (zmem 515 (by decide +kernel) rfl)
theorem lkL_13 : zLk RL 13 MX7_write := Or.inl (zmem 561 (by decide +kernel) rfl)
theorem lkL_18 : zLk RL 18 MX7_wipe := Or.inl (zmem 565 (by decide +kernel) rfl)
theorem lkL_23 : zLk RL 23 MX7_fault := Or.inl (zmem 569 (by decide +kernel) rfl)
theorem lkL_27 : zLk RL 27 MX7_lay := Or.inl (zmem 573 (by decide +kernel) rfl)
theorem lkL_31 : zLk RL 31 MX7_thing := Or.inl (zmem 577 (by decide +kernel) rfl)
theorem lkX7_109 : zLk RX7 109 MX7_isThing := Or.inl (zmem 581 (by decide +kernel) rfl)
theorem lkX7_122 : zLk RX7 122 MX7_at := Or.inl (zmem 585 (by decide +kernel) rfl)
theorem lkX7_135 : zLk RX7 135 MX7_parcelWith := Or.inl (zmem 586 (by decide +kernel) rfl)
theorem lkX7_154 : zLk RX7 154 MX7_inside := Or.inl (zmem 590 (by decide +kernel) rfl)
theorem lkL_36 : zLk RL 36 MX7_parcel := Or.inl (zmem 591 (by decide +kernel) rfl)
theorem lkX7_139 : zLk RX7 139 MX7_isParcel := Or.inl (zmem 595 (by decide +kernel) rfl)
theorem lkL_40 : zLk RL 40 MX7_world := Or.inl (zmem 599 (by decide +kernel) rfl)
theorem lkX7_161 : zLk RX7 161 MX6_take := Or.inl (zmem 603 (by decide +kernel) rfl)
theorem lkL_44 : zLk RL 44 MX7_answer := Or.inl (zmem 608 (by decide +kernel) rfl)
theorem lkX7_164 : zLk RX7 164 MX7_isSort := Or.inl (zmem 612 (by decide +kernel) rfl)
theorem lkX7_174 : zLk RX7 174 MX5_reply := Or.inl (zmem 613 (by decide +kernel) rfl)
theorem lkX5_135 : zLk RX5 135 MX5_inSteps := Or.inl (zmem 617 (by decide +kernel) rfl)
theorem lkX5_138 : zLk RX5 138 MX4_tipped := Or.inl (zmem 621 (by decide +kernel) rfl)
theorem lkX5_141 : zLk RX5 141 MX4_shaken := Or.inl (zmem 625 (by decide +kernel) rfl)
theorem lkX4_58 : zLk RX4 58 MJ6_bitCount_0f7a4 := Or.inl (zmem 629 (by decide +kernel) rfl)
theorem lkX5_144 : zLk RX5 144 MX4_pressed := Or.inl (zmem 630 (by decide +kernel) rfl)
theorem lkL_49 : zLk RL 49 MX7_attempt := Or.inl (zmem 634 (by decide +kernel) rfl)
theorem lkX7_178 : zLk RX7 178 MX1_isFull := Or.inl (zmem 638 (by decide +kernel) rfl)
theorem lkX7_181 : zLk RX7 181 MX7_note := Or.inl (zmem 642 (by decide +kernel) rfl)
theorem lkX7_195 : zLk RX7 195 MX2_push := Or.inl (zmem 646 (by decide +kernel) rfl)
theorem lkX2_26 : zLk RX2 26 MX2_isFull := Or.inl (zmem 650 (by decide +kernel) rfl)
theorem lkX2_30 : zLk RX2 30 MX2_dropLowest := Or.inl (zmem 654 (by decide +kernel) rfl)
theorem lkX2_33 : zLk RX2 33 MX1_copy := Or.inl (zmem 658 (by decide +kernel) rfl)
theorem lkX7_306 : zLk RX7 306 MX7_trialOf := Or.inl (zmem 664 (by decide +kernel) rfl)
theorem lkX7_309 : zLk RX7 309 MX1_add := Or.inl (zmem 667 (by decide +kernel) rfl)
theorem lkX1_42 : zLk RX1 42 MX1_isFull := Or.inl (zmem 671 (by decide +kernel) rfl)
theorem lkL_53 : zLk RL 53 MX7_hear := Or.inl (zmem 672 (by decide +kernel) rfl)
theorem lkL_57 : zLk RL 57 MX7_change := Or.inl (zmem 676 (by decide +kernel) rfl)
theorem lkX7_188 : zLk RX7 188 MX7_swapped := Or.inl (zmem 680 (by decide +kernel) rfl)
theorem lkL_61 : zLk RL 61 MX7_hide := Or.inl (zmem 683 (by decide +kernel) rfl)
theorem lkX7_199 : zLk RX7 199 MX7_put := Or.inl (zmem 687 (by decide +kernel) rfl)
theorem lkL_65 : zLk RL 65 MX7_undo := Or.inl (zmem 688 (by decide +kernel) rfl)
theorem lkX7_203 : zLk RX7 203 MX2_popInto := Or.inl (zmem 692 (by decide +kernel) rfl)
theorem lkL_69 : zLk RL 69 MX7_left := Or.inl (zmem 696 (by decide +kernel) rfl)
theorem lkX7_208 : zLk RX7 208 MX7_findRemaining := Or.inl (zmem 700 (by decide +kernel) rfl)
theorem lkX7_312 : zLk RX7 312 MX6_copy := Or.inl (zmem 704 (by decide +kernel) rfl)
theorem lkX6_27 : zLk RX6 27 MJ9_min_7cf53 := Or.inl (zmem 708 (by decide +kernel) rfl)
theorem lkX7_315 : zLk RX7 315 MX7_parcelOf := Or.inl (zmem 714 (by decide +kernel) rfl)
theorem lkX7_251 : zLk RX7 251 MX7_sortOf := Or.inl (zmem 717 (by decide +kernel) rfl)
theorem lkX7_321 : zLk RX7 321 MX6_narrow := Or.inl (zmem 720 (by decide +kernel) rfl)
theorem lkX6_43 : zLk RX6 43 MX6_clear := Or.inl (zmem 724 (by decide +kernel) rfl)
theorem lkX6_39 : zLk RX6 39 MX6_take := Or.inl (zmem 725 (by decide +kernel) rfl)
theorem lkX6_49 : zLk RX6 49 MX5_reply := Or.inl (zmem 727 (by decide +kernel) rfl)
theorem lkX6_55 : zLk RX6 55 MX6_add := Or.inl (zmem 728 (by decide +kernel) rfl)
theorem lkL_73 : zLk RL 73 MX7_likely := Or.inl (zmem 729 (by decide +kernel) rfl)
theorem lkX7_216 : zLk RX7 216 MX5_chanceOf := Or.inl (zmem 735 (by decide +kernel) rfl)
theorem lkX7_219 : zLk RX7 219 MX7_inLowestTerms := Or.inl (zmem 739 (by decide +kernel) rfl)
theorem lkL_78 : zLk RL 78 MX7_sure := Or.inl (zmem 742 (by decide +kernel) rfl)
theorem lkL_83 : zLk RL 83 MX7_judge := Or.inl (zmem 746 (by decide +kernel) rfl)
theorem lkL_87 : zLk RL 87 MX7_guess := Or.inl (zmem 750 (by decide +kernel) rfl)
theorem lkX7_223 : zLk RX7 223 MX7_sumChances := Or.inl (zmem 754 (by decide +kernel) rfl)
theorem lkX7_325 : zLk RX7 325 MJ7_fill_d0a16 := Or.inl (zmem 758 (by decide +kernel) rfl)
theorem lkL_92 : zLk RL 92 MX7_next := Or.inl (zmem 761 (by decide +kernel) rfl)
theorem lkX7_227 : zLk RX7 227 MX0_choose := Or.inl (zmem 765 (by decide +kernel) rfl)
theorem lkX0_44 : zLk RX0 44 MX0_countSets := Or.inl (zmem 769 (by decide +kernel) rfl)
theorem lkX0_56 : zLk RX0 56 MJ7_fill_53178 := Or.inl (zmem 773 (by decide +kernel) rfl)
theorem lkX0_62 : zLk RX0 62 MX6_take := Or.inl (zmem 774 (by decide +kernel) rfl)
theorem lkX0_48 : zLk RX0 48 MX0_countReplies := Or.inl (zmem 779 (by decide +kernel) rfl)
theorem lkX0_73 : zLk RX0 73 MX5_reply := Or.inl (zmem 783 (by decide +kernel) rfl)
theorem lkX0_81 : zLk RX0 81 MJ9_max_7cf53 := Or.inl (zmem 785 (by decide +kernel) rfl)
theorem lkL_96 : zLk RL 96 MX7_few := Or.inl (zmem 787 (by decide +kernel) rfl)
theorem lkX7_237 : zLk RX7 237 MX0_fewest := Or.inl (zmem 791 (by decide +kernel) rfl)
theorem lkX0_113 : zLk RX0 113 MX0_isKnown := Or.inl (zmem 795 (by decide +kernel) rfl)
theorem lkX0_117 : zLk RX0 117 MX0_someTrialTells := Or.inl (zmem 799 (by decide +kernel) rfl)
theorem lkX0_121 : zLk RX0 121 MX5_trials := Or.inl (zmem 803 (by decide +kernel) rfl)
theorem lkX0_132 : zLk RX0 132 MX0_tells := Or.inl (zmem 807 (by decide +kernel) rfl)
theorem lkX0_124 : zLk RX0 124 MX0_group := Or.inl (zmem 814 (by decide +kernel) rfl)
theorem lkX0_139 : zLk RX0 139 MX0_listReplies := Or.inl (zmem 818 (by decide +kernel) rfl)
theorem lkX0_143 : zLk RX0 143 MX6_copy := Or.inl (zmem 822 (by decide +kernel) rfl)
theorem lkX0_147 : zLk RX0 147 MX6_set := Or.inl (zmem 823 (by decide +kernel) rfl)
theorem lkX0_128 : zLk RX0 128 MX0_eachGroupIsTold := Or.inl (zmem 828 (by decide +kernel) rfl)
theorem lkL_100 : zLk RL 100 MX7_solved := Or.inl (zmem 832 (by decide +kernel) rfl)
theorem lkX7_241 : zLk RX7 241 MX7_solve := Or.inl (zmem 836 (by decide +kernel) rfl)
theorem lkX7_331 : zLk RX7 331 MX0_solves := Or.inl (zmem 840 (by decide +kernel) rfl)
theorem lkX0_92 : zLk RX0 92 MX6_holds := Or.inl (zmem 844 (by decide +kernel) rfl)
theorem lkX0_96 : zLk RX0 96 MX0_choose := Or.inl (zmem 848 (by decide +kernel) rfl)
theorem lkX0_106 : zLk RX0 106 MX6_narrow := Or.inl (zmem 849 (by decide +kernel) rfl)
theorem lkL_104 : zLk RL 104 MX7_risk := Or.inl (zmem 850 (by decide +kernel) rfl)
theorem lkL_109 : zLk RL 109 MX7_seconds := Or.inl (zmem 855 (by decide +kernel) rfl)
theorem lkL_113 : zLk RL 113 MX7_misled := Or.inl (zmem 859 (by decide +kernel) rfl)
theorem lkX7_259 : zLk RX7 259 MX0_countSets := Or.inl (zmem 863 (by decide +kernel) rfl)
theorem lkX7_263 : zLk RX7 263 MX0_countReplies := Or.inl (zmem 864 (by decide +kernel) rfl)
theorem lkL_117 : zLk RL 117 MX7_more := Or.inl (zmem 865 (by decide +kernel) rfl)
theorem lkX7_270 : zLk RX7 270 MX5_worthFor := Or.inl (zmem 869 (by decide +kernel) rfl)
theorem lkX7_273 : zLk RX7 273 MJ6_compare_7cf53 := Or.inl (zmem 870 (by decide +kernel) rfl)
theorem lkL_121 : zLk RL 121 MX7_heavier := Or.inl (zmem 873 (by decide +kernel) rfl)
theorem lkX7_278 : zLk RX7 278 MX5_weightWithBox := Or.inl (zmem 877 (by decide +kernel) rfl)
theorem lkL_125 : zLk RL 125 MX7_morning := Or.inl (zmem 881 (by decide +kernel) rfl)
theorem lkL_129 : zLk RL 129 MX7_keep := Or.inl (zmem 887 (by decide +kernel) rfl)
theorem lkX7_285 : zLk RX7 285 MX2_isFull := Or.inl (zmem 891 (by decide +kernel) rfl)
theorem lkL_133 : zLk RL 133 MX7_back := Or.inl (zmem 892 (by decide +kernel) rfl)
theorem lkL_137 : zLk RL 137 MX7_count := Or.inl (zmem 896 (by decide +kernel) rfl)
theorem lkL_12 : zLk RL 12 MX8_init := Or.inl (zmem 902 (by decide +kernel) rfl)
theorem obX8_1 : Cond.methodLink RX8 1 Lib.objectInit ∈ zTbl := zmem 905 (by decide +kernel) rfl
theorem lkX8_90 : zLk RX8 90 MX8_noTree := Or.inl (zmem 906 (by decide +kernel) rfl)
theorem lkX8_94 : zLk RX8 94 MX8_addThing := Or.inl (zmem 910 (by decide +kernel) rfl)
theorem lkX8_98 : zLk RX8 98 MX8_addParcel := Or.inl (zmem 914 (by decide +kernel) rfl)
theorem lkX8_102 : zLk RX8 102 MX8_begin := Or.inl (zmem 918 (by decide +kernel) rfl)
theorem lkX8_181 : zLk RX8 181 MX8_layWorlds := Or.inl (zmem 922 (by decide +kernel) rfl)
theorem lkX8_159 : zLk RX8 159 MX8_bits := Or.inl (zmem 926 (by decide +kernel) rfl)
theorem lkX8_166 : zLk RX8 166 MX8_isFair := Or.inl (zmem 929 (by decide +kernel) rfl)
theorem lkX8_155 : zLk RX8 155 MX8_gap := Or.inl (zmem 933 (by decide +kernel) rfl)
theorem lkX8_151 : zLk RX8 151 MX8_has := Or.inl (zmem 937 (by decide +kernel) rfl)
theorem lkX8_109 : zLk RX8 109 MX8_in := Or.inl (zmem 940 (by decide +kernel) rfl)
theorem lkL_17 : zLk RL 17 MX8_write := Or.inl (zmem 1044 (by decide +kernel) rfl)
theorem lkL_22 : zLk RL 22 MX8_wipe := Or.inl (zmem 1050 (by decide +kernel) rfl)
theorem lkL_26 : zLk RL 26 MX8_fault := Or.inl (zmem 1054 (by decide +kernel) rfl)
theorem lkX8_147 : zLk RX8 147 MX8_readAll := Or.inl (zmem 1058 (by decide +kernel) rfl)
theorem lkX8_144 : zLk RX8 144 MX8_item := Or.inl (zmem 1062 (by decide +kernel) rfl)
theorem lkX8_120 : zLk RX8 120 MX8_letterAt := Or.inl (zmem 1066 (by decide +kernel) rfl)
theorem lkX8_134 : zLk RX8 134 MX8_figures := Or.inl (zmem 1070 (by decide +kernel) rfl)
theorem lkX8_138 : zLk RX8 138 MX8_isThingTold := Or.inl (zmem 1077 (by decide +kernel) rfl)
theorem lkL_30 : zLk RL 30 MX8_lay := Or.inl (zmem 1084 (by decide +kernel) rfl)
theorem lkX8_169 : zLk RX8 169 MX8_isTruth := Or.inl (zmem 1088 (by decide +kernel) rfl)
theorem lkX8_162 : zLk RX8 162 MX8_codeOf := Or.inl (zmem 1092 (by decide +kernel) rfl)
theorem lkL_35 : zLk RL 35 MX8_thing := Or.inl (zmem 1096 (by decide +kernel) rfl)
theorem lkX8_184 : zLk RX8 184 MX8_isThing := Or.inl (zmem 1100 (by decide +kernel) rfl)
theorem lkL_39 : zLk RL 39 MX8_parcel := Or.inl (zmem 1105 (by decide +kernel) rfl)
theorem lkX8_189 : zLk RX8 189 MX8_isParcel := Or.inl (zmem 1109 (by decide +kernel) rfl)
theorem lkL_43 : zLk RL 43 MX8_world := Or.inl (zmem 1113 (by decide +kernel) rfl)
theorem lkX8_192 : zLk RX8 192 MX8_setIn := Or.inl (zmem 1117 (by decide +kernel) rfl)
theorem lkL_48 : zLk RL 48 MX8_answer := Or.inl (zmem 1120 (by decide +kernel) rfl)
theorem lkX8_203 : zLk RX8 203 MX8_answerOf := Or.inl (zmem 1125 (by decide +kernel) rfl)
theorem lkX8_195 : zLk RX8 195 MX8_weightOf := Or.inl (zmem 1129 (by decide +kernel) rfl)
theorem lkX8_198 : zLk RX8 198 MX8_manyOf := Or.inl (zmem 1133 (by decide +kernel) rfl)
theorem lkL_52 : zLk RL 52 MX8_attempt := Or.inl (zmem 1137 (by decide +kernel) rfl)
theorem lkX8_209 : zLk RX8 209 MX8_addAnswer := Or.inl (zmem 1141 (by decide +kernel) rfl)
theorem lkX8_206 : zLk RX8 206 MX8_note := Or.inl (zmem 1145 (by decide +kernel) rfl)
theorem lkL_56 : zLk RL 56 MX8_hear := Or.inl (zmem 1149 (by decide +kernel) rfl)
theorem lkL_60 : zLk RL 60 MX8_change := Or.inl (zmem 1154 (by decide +kernel) rfl)
theorem lkX8_215 : zLk RX8 215 MX8_truth := Or.inl (zmem 1158 (by decide +kernel) rfl)
theorem lkL_64 : zLk RL 64 MX8_hide := Or.inl (zmem 1162 (by decide +kernel) rfl)
theorem lkL_68 : zLk RL 68 MX8_undo := Or.inl (zmem 1166 (by decide +kernel) rfl)
theorem lkL_72 : zLk RL 72 MX8_left := Or.inl (zmem 1170 (by decide +kernel) rfl)
theorem lkX8_221 : zLk RX8 221 MX8_layLeft := Or.inl (zmem 1174 (by decide +kernel) rfl)
theorem lkX8_218 : zLk RX8 218 MX8_fits := Or.inl (zmem 1178 (by decide +kernel) rfl)
theorem lkL_77 : zLk RL 77 MX8_likely := Or.inl (zmem 1182 (by decide +kernel) rfl)
theorem lkX8_228 : zLk RX8 228 MX8_weighs := Or.inl (zmem 1188 (by decide +kernel) rfl)
theorem lkX8_232 : zLk RX8 232 MX8_common := Or.inl (zmem 1192 (by decide +kernel) rfl)
theorem lkL_82 : zLk RL 82 MX8_sure := Or.inl (zmem 1195 (by decide +kernel) rfl)
theorem lkL_86 : zLk RL 86 MX8_judge := Or.inl (zmem 1199 (by decide +kernel) rfl)
theorem lkL_91 : zLk RL 91 MX8_guess := Or.inl (zmem 1203 (by decide +kernel) rfl)
theorem lkL_95 : zLk RL 95 MX8_next := Or.inl (zmem 1207 (by decide +kernel) rfl)
theorem lkX8_242 : zLk RX8 242 MX8_bestTrial := Or.inl (zmem 1211 (by decide +kernel) rfl)
theorem lkX8_236 : zLk RX8 236 MX8_worstOf := Or.inl (zmem 1215 (by decide +kernel) rfl)
theorem lkL_99 : zLk RL 99 MX8_few := Or.inl (zmem 1219 (by decide +kernel) rfl)
theorem lkX8_249 : zLk RX8 249 MX8_layTwo := Or.inl (zmem 1223 (by decide +kernel) rfl)
theorem lkX8_245 : zLk RX8 245 MX8_meet := Or.inl (zmem 1227 (by decide +kernel) rfl)
theorem lkX8_252 : zLk RX8 252 MX8_isKnown := Or.inl (zmem 1231 (by decide +kernel) rfl)
theorem lkX8_255 : zLk RX8 255 MX8_isEnough := Or.inl (zmem 1235 (by decide +kernel) rfl)
theorem lkL_103 : zLk RL 103 MX8_solved := Or.inl (zmem 1239 (by decide +kernel) rfl)
theorem lkX8_261 : zLk RX8 261 MX8_solve := Or.inl (zmem 1243 (by decide +kernel) rfl)
theorem lkL_108 : zLk RL 108 MX8_risk := Or.inl (zmem 1247 (by decide +kernel) rfl)
theorem lkL_112 : zLk RL 112 MX8_seconds := Or.inl (zmem 1252 (by decide +kernel) rfl)
theorem lkL_116 : zLk RL 116 MX8_misled := Or.inl (zmem 1256 (by decide +kernel) rfl)
theorem lkL_120 : zLk RL 120 MX8_more := Or.inl (zmem 1260 (by decide +kernel) rfl)
theorem lkL_124 : zLk RL 124 MX8_heavier := Or.inl (zmem 1264 (by decide +kernel) rfl)
theorem lkL_128 : zLk RL 128 MX8_morning := Or.inl (zmem 1268 (by decide +kernel) rfl)
theorem lkL_132 : zLk RL 132 MX8_keep := Or.inl (zmem 1275 (by decide +kernel) rfl)
theorem lkL_136 : zLk RL 136 MX8_back := Or.inl (zmem 1279 (by decide +kernel) rfl)
theorem lkL_140 : zLk RL 140 MX8_count := Or.inl (zmem 1283 (by decide +kernel) rfl)
theorem lkX7_11 : zLk RX7 11 MX3_init := Or.inr ⟨_, zmemN (w := Cond.methodLinkNest RX7 11 yX3_init "ShakenParcels") 89 (by decide +kernel) rfl⟩
theorem lkX7_18 : zLk RX7 18 MX5_init := Or.inr ⟨_, zmemN (w := Cond.methodLinkNest RX7 18 yX5_init "ShakenParcels") 111 (by decide +kernel) rfl⟩
theorem lkX5_11 : zLk RX5 11 MX4_init := Or.inr ⟨_, zmemN (w := Cond.methodLinkNest RX5 11 yX4_init "ShakenParcels") 117 (by decide +kernel) rfl⟩
theorem lkX7_28 : zLk RX7 28 MX6_init := Or.inr ⟨_, zmemN (w := Cond.methodLinkNest RX7 28 yX6_init "ShakenParcels") 209 (by decide +kernel) rfl⟩
theorem lkX7_41 : zLk RX7 41 MX0_init := Or.inr ⟨_, zmemN (w := Cond.methodLinkNest RX7 41 yX0_init "ShakenParcels") 224 (by decide +kernel) rfl⟩
theorem lkX7_48 : zLk RX7 48 MX1_init := Or.inr ⟨_, zmemN (w := Cond.methodLinkNest RX7 48 yX1_init "ShakenParcels") 263 (by decide +kernel) rfl⟩
theorem lkX2_21 : zLk RX2 21 MX1_init := Or.inr ⟨_, zmemN (w := Cond.methodLinkNest RX2 21 yX1_init "ShakenParcels") 299 (by decide +kernel) rfl⟩
theorem lkX4_46 : zLk RX4 46 MX7_put := Or.inr ⟨_, zmemN (w := Cond.methodLinkNest RX4 46 yX7_put "ShakenParcels") 377 (by decide +kernel) rfl⟩
theorem lkX3_57 : zLk RX3 57 MX7_isWithin := Or.inr ⟨_, zmemN (w := Cond.methodLinkNest RX3 57 yX7_isWithin "ShakenParcels") 398 (by decide +kernel) rfl⟩
theorem lkX3_49 : zLk RX3 49 MX7_put := Or.inr ⟨_, zmemN (w := Cond.methodLinkNest RX3 49 yX7_put "ShakenParcels") 405 (by decide +kernel) rfl⟩
theorem lkX5_63 : zLk RX5 63 MX7_at := Or.inr ⟨_, zmemN (w := Cond.methodLinkNest RX5 63 yX7_at "ShakenParcels") 414 (by decide +kernel) rfl⟩
theorem lkX5_85 : zLk RX5 85 MX7_isWithin := Or.inr ⟨_, zmemN (w := Cond.methodLinkNest RX5 85 yX7_isWithin "ShakenParcels") 417 (by decide +kernel) rfl⟩
theorem lkX4_50 : zLk RX4 50 MX7_at := Or.inr ⟨_, zmemN (w := Cond.methodLinkNest RX4 50 yX7_at "ShakenParcels") 422 (by decide +kernel) rfl⟩
theorem lkX5_92 : zLk RX5 92 MX7_put := Or.inr ⟨_, zmemN (w := Cond.methodLinkNest RX5 92 yX7_put "ShakenParcels") 431 (by decide +kernel) rfl⟩
theorem lkX5_96 : zLk RX5 96 MX7_isBelow := Or.inr ⟨_, zmemN (w := Cond.methodLinkNest RX5 96 yX7_isBelow "ShakenParcels") 436 (by decide +kernel) rfl⟩
theorem lkX5_99 : zLk RX5 99 MX7_isSort := Or.inr ⟨_, zmemN (w := Cond.methodLinkNest RX5 99 yX7_isSort "ShakenParcels") 451 (by decide +kernel) rfl⟩
theorem lkX5_102 : zLk RX5 102 MX7_inside := Or.inr ⟨_, zmemN (w := Cond.methodLinkNest RX5 102 yX7_inside "ShakenParcels") 459 (by decide +kernel) rfl⟩
theorem lkX6_17 : zLk RX6 17 MX7_at := Or.inr ⟨_, zmemN (w := Cond.methodLinkNest RX6 17 yX7_at "ShakenParcels") 607 (by decide +kernel) rfl⟩
theorem lkX1_34 : zLk RX1 34 MX7_at := Or.inr ⟨_, zmemN (w := Cond.methodLinkNest RX1 34 yX7_at "ShakenParcels") 662 (by decide +kernel) rfl⟩
theorem lkX1_38 : zLk RX1 38 MX7_put := Or.inr ⟨_, zmemN (w := Cond.methodLinkNest RX1 38 yX7_put "ShakenParcels") 663 (by decide +kernel) rfl⟩
theorem lkX6_46 : zLk RX6 46 MX7_inside := Or.inr ⟨_, zmemN (w := Cond.methodLinkNest RX6 46 yX7_inside "ShakenParcels") 726 (by decide +kernel) rfl⟩
theorem lkX0_66 : zLk RX0 66 MX7_inside := Or.inr ⟨_, zmemN (w := Cond.methodLinkNest RX0 66 yX7_inside "ShakenParcels") 775 (by decide +kernel) rfl⟩
theorem lkX0_69 : zLk RX0 69 MX7_raise := Or.inr ⟨_, zmemN (w := Cond.methodLinkNest RX0 69 yX7_raise "ShakenParcels") 776 (by decide +kernel) rfl⟩
theorem lkX0_77 : zLk RX0 77 MX7_at := Or.inr ⟨_, zmemN (w := Cond.methodLinkNest RX0 77 yX7_at "ShakenParcels") 784 (by decide +kernel) rfl⟩
theorem lkX0_52 : zLk RX0 52 MX7_trialOf := Or.inr ⟨_, zmemN (w := Cond.methodLinkNest RX0 52 yX7_trialOf "ShakenParcels") 786 (by decide +kernel) rfl⟩
theorem lkX0_100 : zLk RX0 100 MX7_parcelOf := Or.inr ⟨_, zmemN (w := Cond.methodLinkNest RX0 100 yX7_parcelOf "ShakenParcels") 811 (by decide +kernel) rfl⟩
theorem lkX0_103 : zLk RX0 103 MX7_sortOf := Or.inr ⟨_, zmemN (w := Cond.methodLinkNest RX0 103 yX7_sortOf "ShakenParcels") 812 (by decide +kernel) rfl⟩
theorem lkX0_136 : zLk RX0 136 MX7_put := Or.inr ⟨_, zmemN (w := Cond.methodLinkNest RX0 136 yX7_put "ShakenParcels") 813 (by decide +kernel) rfl⟩
theorem lkX6_23 : zLk RX6 23 MX7_put := Or.inr ⟨_, zmemN (w := Cond.methodLinkNest RX6 23 yX7_put "ShakenParcels") 827 (by decide +kernel) rfl⟩
theorem obj_i : Cond.instanceMethod Lib.objectInit ∈ zTbl := zmem 85 (by decide +kernel) rfl
theorem obj_c : Cond.code Lib.objectInit ⟨#[0xb1]⟩ 1 none ∈ zTbl := zmem 86 (by decide +kernel) rfl
theorem coX7_212 : Cond.constantLong RX7 212 (-1) ∈ zTbl := zmem 733 (by decide +kernel) rfl
theorem coX7_214 : Cond.constantLong RX7 214 (-4) ∈ zTbl := zmem 734 (by decide +kernel) rfl
theorem coX7_254 : Cond.constantLong RX7 254 (10) ∈ zTbl := zmem 854 (by decide +kernel) rfl
theorem coX7_281 : Cond.constantLong RX7 281 (7919) ∈ zTbl := zmem 885 (by decide +kernel) rfl
theorem coX7_283 : Cond.constantLong RX7 283 (65521) ∈ zTbl := zmem 886 (by decide +kernel) rfl
theorem coX8_105 : Cond.constantLong RX8 105 (32) ∈ zTbl := zmem 1048 (by decide +kernel) rfl
theorem coX8_107 : Cond.constantLong RX8 107 (126) ∈ zTbl := zmem 1049 (by decide +kernel) rfl
theorem coX8_124 : Cond.constantLong RX8 124 (48) ∈ zTbl := zmem 1074 (by decide +kernel) rfl
theorem coX8_126 : Cond.constantLong RX8 126 (57) ∈ zTbl := zmem 1075 (by decide +kernel) rfl
theorem coX8_128 : Cond.constantLong RX8 128 (2) ∈ zTbl := zmem 1076 (by decide +kernel) rfl
theorem coX8_130 : Cond.constantLong RX8 130 (20) ∈ zTbl := zmem 1081 (by decide +kernel) rfl
theorem coX8_132 : Cond.constantLong RX8 132 (9) ∈ zTbl := zmem 1082 (by decide +kernel) rfl
theorem coX8_142 : Cond.constantLong RX8 142 (60) ∈ zTbl := zmem 1083 (by decide +kernel) rfl
theorem coX8_187 : Cond.constantLong RX8 187 (4) ∈ zTbl := zmem 1104 (by decide +kernel) rfl
theorem coX8_201 : Cond.constantLong RX8 201 (3) ∈ zTbl := zmem 1124 (by decide +kernel) rfl
theorem coX8_213 : Cond.constantLong RX8 213 (99) ∈ zTbl := zmem 1153 (by decide +kernel) rfl
theorem coX8_224 : Cond.constantLong RX8 224 (-1) ∈ zTbl := zmem 1186 (by decide +kernel) rfl
theorem coX8_226 : Cond.constantLong RX8 226 (-4) ∈ zTbl := zmem 1187 (by decide +kernel) rfl
theorem coX8_264 : Cond.constantLong RX8 264 (10) ∈ zTbl := zmem 1251 (by decide +kernel) rfl
theorem coX8_266 : Cond.constantLong RX8 266 (9999) ∈ zTbl := zmem 1272 (by decide +kernel) rfl
theorem coX8_268 : Cond.constantLong RX8 268 (7919) ∈ zTbl := zmem 1273 (by decide +kernel) rfl
theorem coX8_270 : Cond.constantLong RX8 270 (65521) ∈ zTbl := zmem 1274 (by decide +kernel) rfl
theorem coJ6_265 : Cond.constant RJ6 265 (1431655765) ∈ zTbl := zmem 465 (by decide +kernel) rfl
theorem coJ6_266 : Cond.constant RJ6 266 (858993459) ∈ zTbl := zmem 466 (by decide +kernel) rfl
theorem coJ6_267 : Cond.constant RJ6 267 (252645135) ∈ zTbl := zmem 467 (by decide +kernel) rfl
theorem clL_7 : Cond.classLink RL 7 RX7 ∈ zTbl := zmem 79 (by decide +kernel) rfl
theorem clX7_9 : Cond.classLink RX7 9 RX3 ∈ zTbl := zmem 87 (by decide +kernel) rfl
theorem clX7_16 : Cond.classLink RX7 16 RX5 ∈ zTbl := zmem 109 (by decide +kernel) rfl
theorem clX5_9 : Cond.classLink RX5 9 RX4 ∈ zTbl := zmem 115 (by decide +kernel) rfl
theorem clX7_26 : Cond.classLink RX7 26 RX6 ∈ zTbl := zmem 207 (by decide +kernel) rfl
theorem clX7_39 : Cond.classLink RX7 39 RX0 ∈ zTbl := zmem 222 (by decide +kernel) rfl
theorem clX7_46 : Cond.classLink RX7 46 RX1 ∈ zTbl := zmem 261 (by decide +kernel) rfl
theorem clX7_53 : Cond.classLink RX7 53 RX2 ∈ zTbl := zmem 288 (by decide +kernel) rfl
theorem clX2_13 : Cond.classLink RX2 13 RX1 ∈ zTbl := zmem 297 (by decide +kernel) rfl
theorem clL_10 : Cond.classLink RL 10 RX8 ∈ zTbl := zmem 900 (by decide +kernel) rfl
theorem itX7 : Cond.instantiable RX7 13 ∈ zTbl := zmem 80 (by decide +kernel) rfl
theorem itX3 : Cond.instantiable RX3 4 ∈ zTbl := zmem 88 (by decide +kernel) rfl
theorem itX5 : Cond.instantiable RX5 10 ∈ zTbl := zmem 110 (by decide +kernel) rfl
theorem itX4 : Cond.instantiable RX4 11 ∈ zTbl := zmem 116 (by decide +kernel) rfl
theorem itX6 : Cond.instantiable RX6 2 ∈ zTbl := zmem 208 (by decide +kernel) rfl
theorem itX0 : Cond.instantiable RX0 9 ∈ zTbl := zmem 223 (by decide +kernel) rfl
theorem itX1 : Cond.instantiable RX1 5 ∈ zTbl := zmem 262 (by decide +kernel) rfl
theorem itX2 : Cond.instantiable RX2 2 ∈ zTbl := zmem 289 (by decide +kernel) rfl
theorem itX8 : Cond.instantiable RX8 33 ∈ zTbl := zmem 901 (by decide +kernel) rfl
theorem izL : Cond.initialized RL ∈ zTbl := zmem 61 (by decide +kernel) rfl
theorem izX7 : Cond.initialized RX7 ∈ zTbl := zmem 62 (by decide +kernel) rfl
theorem izX3 : Cond.initialized RX3 ∈ zTbl := zmem 63 (by decide +kernel) rfl
theorem izX5 : Cond.initialized RX5 ∈ zTbl := zmem 64 (by decide +kernel) rfl
theorem izX4 : Cond.initialized RX4 ∈ zTbl := zmem 65 (by decide +kernel) rfl
theorem izX6 : Cond.initialized RX6 ∈ zTbl := zmem 66 (by decide +kernel) rfl
theorem izX0 : Cond.initialized RX0 ∈ zTbl := zmem 67 (by decide +kernel) rfl
theorem izX1 : Cond.initialized RX1 ∈ zTbl := zmem 68 (by decide +kernel) rfl
theorem izX2 : Cond.initialized RX2 ∈ zTbl := zmem 69 (by decide +kernel) rfl
theorem izJ9 : Cond.initialized RJ9 ∈ zTbl := zmem 70 (by decide +kernel) rfl
theorem izJ0 : Cond.initialized RJ0 ∈ zTbl := zmem 71 (by decide +kernel) rfl
theorem izJ1 : Cond.initialized RJ1 ∈ zTbl := zmem 72 (by decide +kernel) rfl
theorem izJ3 : Cond.initialized RJ3 ∈ zTbl := zmem 73 (by decide +kernel) rfl
theorem izJ2 : Cond.initialized RJ2 ∈ zTbl := zmem 74 (by decide +kernel) rfl
theorem izJ7 : Cond.initialized RJ7 ∈ zTbl := zmem 75 (by decide +kernel) rfl
theorem izJ6 : Cond.initialized RJ6 ∈ zTbl := zmem 76 (by decide +kernel) rfl
theorem izX8 : Cond.initialized RX8 ∈ zTbl := zmem 77 (by decide +kernel) rfl
theorem izJ10 : Cond.initialized RJ10 ∈ zTbl := zmem 78 (by decide +kernel) rfl
theorem ac_char : Cond.arrayClass .char ∈ zTbl := zmem 107 (by decide +kernel) rfl
theorem ac_int : Cond.arrayClass .int ∈ zTbl := zmem 108 (by decide +kernel) rfl
theorem ac_long : Cond.arrayClass .long ∈ zTbl := zmem 559 (by decide +kernel) rfl
theorem ac_byte : Cond.arrayClass .byte ∈ zTbl := zmem 560 (by decide +kernel) rfl
theorem ac_boolean : Cond.arrayClass .boolean ∈ zTbl := zmem 1043 (by decide +kernel) rfl
end
