-- ===== PART A: goes FIRST, ahead of the names: the tables' words, and 'selects' of the private methods out of them =====
/-- a private method of a class that the tables say can be made, by its rows of tables_1 -/
def lw_okq (q : MethodName × Nat) : Prop := (q.1.cls ≠ "java/lang/invoke/MethodHandle" ∧ q.1.cls ≠ "java/lang/invoke/VarHandle") ∧ Cond.instantiable q.1.cls q.2 ∈ tables_1 ∧ Cond.privateMethod q.1 ∈ tables_1 ∧ Cond.instanceMethod q.1 ∈ tables_1
theorem lw_p0 : lw_okq (⟨"DyeTank", "isPlaceOfDye", "(IIII)Z"⟩, 5) := ⟨⟨by decide +kernel, by decide +kernel⟩, List.mem_of_getElem? (i := 10) (by decide +kernel), List.mem_of_getElem? (i := 242) (by decide +kernel), List.mem_of_getElem? (i := 243) (by decide +kernel)⟩
theorem lw_p1 : lw_okq (⟨"DyeTank$Tank", "changeMomenta", "()V"⟩, 12) := ⟨⟨by decide +kernel, by decide +kernel⟩, List.mem_of_getElem? (i := 18) (by decide +kernel), List.mem_of_getElem? (i := 274) (by decide +kernel), List.mem_of_getElem? (i := 275) (by decide +kernel)⟩
theorem lw_p2 : lw_okq (⟨"DyeTank$Tank", "moveRow", "([IIIII)V"⟩, 12) := ⟨⟨by decide +kernel, by decide +kernel⟩, List.mem_of_getElem? (i := 18) (by decide +kernel), List.mem_of_getElem? (i := 293) (by decide +kernel), List.mem_of_getElem? (i := 294) (by decide +kernel)⟩
theorem lw_p3 : lw_okq (⟨"DyeTank$Tank", "mixLayers", "([I)V"⟩, 12) := ⟨⟨by decide +kernel, by decide +kernel⟩, List.mem_of_getElem? (i := 18) (by decide +kernel), List.mem_of_getElem? (i := 299) (by decide +kernel), List.mem_of_getElem? (i := 300) (by decide +kernel)⟩
theorem lw_p4 : lw_okq (⟨"DyeTank$Marker", "keepPosition", "()V"⟩, 7) := ⟨⟨by decide +kernel, by decide +kernel⟩, List.mem_of_getElem? (i := 27) (by decide +kernel), List.mem_of_getElem? (i := 324) (by decide +kernel), List.mem_of_getElem? (i := 325) (by decide +kernel)⟩
theorem lw_p5 : lw_okq (⟨"DyeTank$Tank", "amountInRow", "(III)I"⟩, 12) := ⟨⟨by decide +kernel, by decide +kernel⟩, List.mem_of_getElem? (i := 18) (by decide +kernel), List.mem_of_getElem? (i := 337) (by decide +kernel), List.mem_of_getElem? (i := 338) (by decide +kernel)⟩
theorem lw_p6 : lw_okq (⟨"DyeTank", "placeWith", "(III)J"⟩, 5) := ⟨⟨by decide +kernel, by decide +kernel⟩, List.mem_of_getElem? (i := 10) (by decide +kernel), List.mem_of_getElem? (i := 452) (by decide +kernel), List.mem_of_getElem? (i := 453) (by decide +kernel)⟩
theorem lw_p7 : lw_okq (⟨"DyeTank$Pad", "character", "()C"⟩, 9) := ⟨⟨by decide +kernel, by decide +kernel⟩, List.mem_of_getElem? (i := 119) (by decide +kernel), List.mem_of_getElem? (i := 480) (by decide +kernel), List.mem_of_getElem? (i := 481) (by decide +kernel)⟩
theorem lw_p8 : lw_okq (⟨"DyeTank$Pad", "readNumber", "(II)I"⟩, 9) := ⟨⟨by decide +kernel, by decide +kernel⟩, List.mem_of_getElem? (i := 119) (by decide +kernel), List.mem_of_getElem? (i := 488) (by decide +kernel), List.mem_of_getElem? (i := 489) (by decide +kernel)⟩
theorem lw_p9 : lw_okq (⟨"DyeTank$Pad", "digit", "()I"⟩, 9) := ⟨⟨by decide +kernel, by decide +kernel⟩, List.mem_of_getElem? (i := 119) (by decide +kernel), List.mem_of_getElem? (i := 492) (by decide +kernel), List.mem_of_getElem? (i := 493) (by decide +kernel)⟩
theorem lw_p10 : lw_okq (⟨"DyeTank$Pad", "readRing", "()Z"⟩, 9) := ⟨⟨by decide +kernel, by decide +kernel⟩, List.mem_of_getElem? (i := 119) (by decide +kernel), List.mem_of_getElem? (i := 496) (by decide +kernel), List.mem_of_getElem? (i := 497) (by decide +kernel)⟩
theorem lw_p11 : lw_okq (⟨"DyeTank$Pad", "readVelocity", "()Z"⟩, 9) := ⟨⟨by decide +kernel, by decide +kernel⟩, List.mem_of_getElem? (i := 119) (by decide +kernel), List.mem_of_getElem? (i := 500) (by decide +kernel), List.mem_of_getElem? (i := 501) (by decide +kernel)⟩
theorem lw_p12 : lw_okq (⟨"DyeTank$Pad", "readColour", "()Z"⟩, 9) := ⟨⟨by decide +kernel, by decide +kernel⟩, List.mem_of_getElem? (i := 119) (by decide +kernel), List.mem_of_getElem? (i := 504) (by decide +kernel), List.mem_of_getElem? (i := 505) (by decide +kernel)⟩
theorem lw_p13 : lw_okq (⟨"DyeTank$Pad", "readLayer", "()Z"⟩, 9) := ⟨⟨by decide +kernel, by decide +kernel⟩, List.mem_of_getElem? (i := 119) (by decide +kernel), List.mem_of_getElem? (i := 508) (by decide +kernel), List.mem_of_getElem? (i := 509) (by decide +kernel)⟩
theorem lw_p14 : lw_okq (⟨"DyeTank$Pad", "readSector", "()Z"⟩, 9) := ⟨⟨by decide +kernel, by decide +kernel⟩, List.mem_of_getElem? (i := 119) (by decide +kernel), List.mem_of_getElem? (i := 512) (by decide +kernel), List.mem_of_getElem? (i := 513) (by decide +kernel)⟩
theorem lw_p15 : lw_okq (⟨"DyeTank$Pad", "readAmount", "()Z"⟩, 9) := ⟨⟨by decide +kernel, by decide +kernel⟩, List.mem_of_getElem? (i := 119) (by decide +kernel), List.mem_of_getElem? (i := 516) (by decide +kernel), List.mem_of_getElem? (i := 517) (by decide +kernel)⟩
def lw_privs_1 : List (MethodName × Nat) := [(⟨"DyeTank", "isPlaceOfDye", "(IIII)Z"⟩, 5), (⟨"DyeTank$Tank", "changeMomenta", "()V"⟩, 12), (⟨"DyeTank$Tank", "moveRow", "([IIIII)V"⟩, 12), (⟨"DyeTank$Tank", "mixLayers", "([I)V"⟩, 12), (⟨"DyeTank$Marker", "keepPosition", "()V"⟩, 7), (⟨"DyeTank$Tank", "amountInRow", "(III)I"⟩, 12), (⟨"DyeTank", "placeWith", "(III)J"⟩, 5), (⟨"DyeTank$Pad", "character", "()C"⟩, 9), (⟨"DyeTank$Pad", "readNumber", "(II)I"⟩, 9), (⟨"DyeTank$Pad", "digit", "()I"⟩, 9), (⟨"DyeTank$Pad", "readRing", "()Z"⟩, 9), (⟨"DyeTank$Pad", "readVelocity", "()Z"⟩, 9), (⟨"DyeTank$Pad", "readColour", "()Z"⟩, 9), (⟨"DyeTank$Pad", "readLayer", "()Z"⟩, 9), (⟨"DyeTank$Pad", "readSector", "()Z"⟩, 9), (⟨"DyeTank$Pad", "readAmount", "()Z"⟩, 9)]
theorem lw_r1 : ∀ q ∈ lw_privs_1, lw_okq q := List.forall_mem_cons.mpr ⟨lw_p0, List.forall_mem_cons.mpr ⟨lw_p1, List.forall_mem_cons.mpr ⟨lw_p2, List.forall_mem_cons.mpr ⟨lw_p3, List.forall_mem_cons.mpr ⟨lw_p4, List.forall_mem_cons.mpr ⟨lw_p5, List.forall_mem_cons.mpr ⟨lw_p6, List.forall_mem_cons.mpr ⟨lw_p7, List.forall_mem_cons.mpr ⟨lw_p8, List.forall_mem_cons.mpr ⟨lw_p9, List.forall_mem_cons.mpr ⟨lw_p10, List.forall_mem_cons.mpr ⟨lw_p11, List.forall_mem_cons.mpr ⟨lw_p12, List.forall_mem_cons.mpr ⟨lw_p13, List.forall_mem_cons.mpr ⟨lw_p14, List.forall_mem_cons.mpr ⟨lw_p15, fun _ h => absurd h List.not_mem_nil⟩⟩⟩⟩⟩⟩⟩⟩⟩⟩⟩⟩⟩⟩⟩⟩
theorem lw_p16 : lw_okq (⟨"DyeTank", "carriedOut", "()Z"⟩, 5) := ⟨⟨by decide +kernel, by decide +kernel⟩, List.mem_of_getElem? (i := 10) (by decide +kernel), List.mem_of_getElem? (i := 526) (by decide +kernel), List.mem_of_getElem? (i := 527) (by decide +kernel)⟩
theorem lw_p17 : lw_okq (⟨"DyeTankModel", "begin", "(I)V"⟩, 12) := ⟨⟨by decide +kernel, by decide +kernel⟩, List.mem_of_getElem? (i := 543) (by decide +kernel), List.mem_of_getElem? (i := 549) (by decide +kernel), List.mem_of_getElem? (i := 550) (by decide +kernel)⟩
theorem lw_p18 : lw_okq (⟨"DyeTankModel", "isRing", "(I)Z"⟩, 12) := ⟨⟨by decide +kernel, by decide +kernel⟩, List.mem_of_getElem? (i := 543) (by decide +kernel), List.mem_of_getElem? (i := 609) (by decide +kernel), List.mem_of_getElem? (i := 610) (by decide +kernel)⟩
theorem lw_p19 : lw_okq (⟨"DyeTankModel", "velocity", "(I)I"⟩, 12) := ⟨⟨by decide +kernel, by decide +kernel⟩, List.mem_of_getElem? (i := 543) (by decide +kernel), List.mem_of_getElem? (i := 617) (by decide +kernel), List.mem_of_getElem? (i := 618) (by decide +kernel)⟩
theorem lw_p20 : lw_okq (⟨"DyeTankModel", "momenta", "()I"⟩, 12) := ⟨⟨by decide +kernel, by decide +kernel⟩, List.mem_of_getElem? (i := 543) (by decide +kernel), List.mem_of_getElem? (i := 628) (by decide +kernel), List.mem_of_getElem? (i := 629) (by decide +kernel)⟩
theorem lw_p21 : lw_okq (⟨"DyeTankModel", "isPlace", "(IIII)Z"⟩, 12) := ⟨⟨by decide +kernel, by decide +kernel⟩, List.mem_of_getElem? (i := 543) (by decide +kernel), List.mem_of_getElem? (i := 636) (by decide +kernel), List.mem_of_getElem? (i := 637) (by decide +kernel)⟩
theorem lw_p22 : lw_okq (⟨"DyeTankModel", "allOf", "(I)I"⟩, 12) := ⟨⟨by decide +kernel, by decide +kernel⟩, List.mem_of_getElem? (i := 543) (by decide +kernel), List.mem_of_getElem? (i := 641) (by decide +kernel), List.mem_of_getElem? (i := 642) (by decide +kernel)⟩
theorem lw_p23 : lw_okq (⟨"DyeTankModel", "amountOf", "(IIII)I"⟩, 12) := ⟨⟨by decide +kernel, by decide +kernel⟩, List.mem_of_getElem? (i := 543) (by decide +kernel), List.mem_of_getElem? (i := 645) (by decide +kernel), List.mem_of_getElem? (i := 646) (by decide +kernel)⟩
theorem lw_p24 : lw_okq (⟨"DyeTankModel", "cellIn", "(II)I"⟩, 12) := ⟨⟨by decide +kernel, by decide +kernel⟩, List.mem_of_getElem? (i := 543) (by decide +kernel), List.mem_of_getElem? (i := 653) (by decide +kernel), List.mem_of_getElem? (i := 654) (by decide +kernel)⟩
theorem lw_p25 : lw_okq (⟨"DyeTankModel", "makeTick", "()V"⟩, 12) := ⟨⟨by decide +kernel, by decide +kernel⟩, List.mem_of_getElem? (i := 543) (by decide +kernel), List.mem_of_getElem? (i := 665) (by decide +kernel), List.mem_of_getElem? (i := 666) (by decide +kernel)⟩
theorem lw_p26 : lw_okq (⟨"DyeTankModel", "stepMomenta", "()V"⟩, 12) := ⟨⟨by decide +kernel, by decide +kernel⟩, List.mem_of_getElem? (i := 543) (by decide +kernel), List.mem_of_getElem? (i := 669) (by decide +kernel), List.mem_of_getElem? (i := 670) (by decide +kernel)⟩
theorem lw_p27 : lw_okq (⟨"DyeTankModel", "stepDyes", "()V"⟩, 12) := ⟨⟨by decide +kernel, by decide +kernel⟩, List.mem_of_getElem? (i := 543) (by decide +kernel), List.mem_of_getElem? (i := 673) (by decide +kernel), List.mem_of_getElem? (i := 674) (by decide +kernel)⟩
theorem lw_p28 : lw_okq (⟨"DyeTankModel", "push", "(I)I"⟩, 12) := ⟨⟨by decide +kernel, by decide +kernel⟩, List.mem_of_getElem? (i := 543) (by decide +kernel), List.mem_of_getElem? (i := 677) (by decide +kernel), List.mem_of_getElem? (i := 678) (by decide +kernel)⟩
theorem lw_p29 : lw_okq (⟨"DyeTankModel", "stepRing", "(III)V"⟩, 12) := ⟨⟨by decide +kernel, by decide +kernel⟩, List.mem_of_getElem? (i := 543) (by decide +kernel), List.mem_of_getElem? (i := 681) (by decide +kernel), List.mem_of_getElem? (i := 682) (by decide +kernel)⟩
theorem lw_p30 : lw_okq (⟨"DyeTankModel", "mix", "()V"⟩, 12) := ⟨⟨by decide +kernel, by decide +kernel⟩, List.mem_of_getElem? (i := 543) (by decide +kernel), List.mem_of_getElem? (i := 686) (by decide +kernel), List.mem_of_getElem? (i := 687) (by decide +kernel)⟩
theorem lw_p31 : lw_okq (⟨"DyeTankModel", "stepMarker", "(I)V"⟩, 12) := ⟨⟨by decide +kernel, by decide +kernel⟩, List.mem_of_getElem? (i := 543) (by decide +kernel), List.mem_of_getElem? (i := 691) (by decide +kernel), List.mem_of_getElem? (i := 692) (by decide +kernel)⟩
def lw_privs_2 : List (MethodName × Nat) := [(⟨"DyeTank", "carriedOut", "()Z"⟩, 5), (⟨"DyeTankModel", "begin", "(I)V"⟩, 12), (⟨"DyeTankModel", "isRing", "(I)Z"⟩, 12), (⟨"DyeTankModel", "velocity", "(I)I"⟩, 12), (⟨"DyeTankModel", "momenta", "()I"⟩, 12), (⟨"DyeTankModel", "isPlace", "(IIII)Z"⟩, 12), (⟨"DyeTankModel", "allOf", "(I)I"⟩, 12), (⟨"DyeTankModel", "amountOf", "(IIII)I"⟩, 12), (⟨"DyeTankModel", "cellIn", "(II)I"⟩, 12), (⟨"DyeTankModel", "makeTick", "()V"⟩, 12), (⟨"DyeTankModel", "stepMomenta", "()V"⟩, 12), (⟨"DyeTankModel", "stepDyes", "()V"⟩, 12), (⟨"DyeTankModel", "push", "(I)I"⟩, 12), (⟨"DyeTankModel", "stepRing", "(III)V"⟩, 12), (⟨"DyeTankModel", "mix", "()V"⟩, 12), (⟨"DyeTankModel", "stepMarker", "(I)V"⟩, 12)]
theorem lw_r2 : ∀ q ∈ lw_privs_2, lw_okq q := List.forall_mem_cons.mpr ⟨lw_p16, List.forall_mem_cons.mpr ⟨lw_p17, List.forall_mem_cons.mpr ⟨lw_p18, List.forall_mem_cons.mpr ⟨lw_p19, List.forall_mem_cons.mpr ⟨lw_p20, List.forall_mem_cons.mpr ⟨lw_p21, List.forall_mem_cons.mpr ⟨lw_p22, List.forall_mem_cons.mpr ⟨lw_p23, List.forall_mem_cons.mpr ⟨lw_p24, List.forall_mem_cons.mpr ⟨lw_p25, List.forall_mem_cons.mpr ⟨lw_p26, List.forall_mem_cons.mpr ⟨lw_p27, List.forall_mem_cons.mpr ⟨lw_p28, List.forall_mem_cons.mpr ⟨lw_p29, List.forall_mem_cons.mpr ⟨lw_p30, List.forall_mem_cons.mpr ⟨lw_p31, fun _ h => absurd h List.not_mem_nil⟩⟩⟩⟩⟩⟩⟩⟩⟩⟩⟩⟩⟩⟩⟩⟩
theorem lw_p32 : lw_okq (⟨"DyeTankModel", "cellsWith", "(I)I"⟩, 12) := ⟨⟨by decide +kernel, by decide +kernel⟩, List.mem_of_getElem? (i := 543) (by decide +kernel), List.mem_of_getElem? (i := 711) (by decide +kernel), List.mem_of_getElem? (i := 712) (by decide +kernel)⟩
theorem lw_p33 : lw_okq (⟨"DyeTankModel", "greatest", "(I)I"⟩, 12) := ⟨⟨by decide +kernel, by decide +kernel⟩, List.mem_of_getElem? (i := 543) (by decide +kernel), List.mem_of_getElem? (i := 715) (by decide +kernel), List.mem_of_getElem? (i := 716) (by decide +kernel)⟩
theorem lw_p34 : lw_okq (⟨"DyeTankModel", "meanPlace", "(I)J"⟩, 12) := ⟨⟨by decide +kernel, by decide +kernel⟩, List.mem_of_getElem? (i := 543) (by decide +kernel), List.mem_of_getElem? (i := 719) (by decide +kernel), List.mem_of_getElem? (i := 720) (by decide +kernel)⟩
theorem lw_p35 : lw_okq (⟨"DyeTankModel", "unevenness", "(I)J"⟩, 12) := ⟨⟨by decide +kernel, by decide +kernel⟩, List.mem_of_getElem? (i := 543) (by decide +kernel), List.mem_of_getElem? (i := 724) (by decide +kernel), List.mem_of_getElem? (i := 725) (by decide +kernel)⟩
theorem lw_p36 : lw_okq (⟨"DyeTankModel", "greatestShear", "()I"⟩, 12) := ⟨⟨by decide +kernel, by decide +kernel⟩, List.mem_of_getElem? (i := 543) (by decide +kernel), List.mem_of_getElem? (i := 734) (by decide +kernel), List.mem_of_getElem? (i := 735) (by decide +kernel)⟩
theorem lw_p37 : lw_okq (⟨"DyeTankModel", "isMarker", "(I)Z"⟩, 12) := ⟨⟨by decide +kernel, by decide +kernel⟩, List.mem_of_getElem? (i := 543) (by decide +kernel), List.mem_of_getElem? (i := 746) (by decide +kernel), List.mem_of_getElem? (i := 747) (by decide +kernel)⟩
theorem lw_p38 : lw_okq (⟨"DyeTankModel", "keptOf", "(I)I"⟩, 12) := ⟨⟨by decide +kernel, by decide +kernel⟩, List.mem_of_getElem? (i := 543) (by decide +kernel), List.mem_of_getElem? (i := 750) (by decide +kernel), List.mem_of_getElem? (i := 751) (by decide +kernel)⟩
theorem lw_p39 : lw_okq (⟨"DyeTankModel", "whenHolds", "(IIIII)I"⟩, 12) := ⟨⟨by decide +kernel, by decide +kernel⟩, List.mem_of_getElem? (i := 543) (by decide +kernel), List.mem_of_getElem? (i := 762) (by decide +kernel), List.mem_of_getElem? (i := 763) (by decide +kernel)⟩
theorem lw_p40 : lw_okq (⟨"DyeTankModel", "putAside", "()V"⟩, 12) := ⟨⟨by decide +kernel, by decide +kernel⟩, List.mem_of_getElem? (i := 543) (by decide +kernel), List.mem_of_getElem? (i := 766) (by decide +kernel), List.mem_of_getElem? (i := 767) (by decide +kernel)⟩
theorem lw_p41 : lw_okq (⟨"DyeTankModel", "holds", "(IIII)Z"⟩, 12) := ⟨⟨by decide +kernel, by decide +kernel⟩, List.mem_of_getElem? (i := 543) (by decide +kernel), List.mem_of_getElem? (i := 770) (by decide +kernel), List.mem_of_getElem? (i := 771) (by decide +kernel)⟩
theorem lw_p42 : lw_okq (⟨"DyeTankModel", "isSettled", "(I)Z"⟩, 12) := ⟨⟨by decide +kernel, by decide +kernel⟩, List.mem_of_getElem? (i := 543) (by decide +kernel), List.mem_of_getElem? (i := 774) (by decide +kernel), List.mem_of_getElem? (i := 775) (by decide +kernel)⟩
theorem lw_p43 : lw_okq (⟨"DyeTankModel", "hasPart", "(III)Z"⟩, 12) := ⟨⟨by decide +kernel, by decide +kernel⟩, List.mem_of_getElem? (i := 543) (by decide +kernel), List.mem_of_getElem? (i := 778) (by decide +kernel), List.mem_of_getElem? (i := 779) (by decide +kernel)⟩
theorem lw_p44 : lw_okq (⟨"DyeTankModel", "areNear", "(III)Z"⟩, 12) := ⟨⟨by decide +kernel, by decide +kernel⟩, List.mem_of_getElem? (i := 543) (by decide +kernel), List.mem_of_getElem? (i := 782) (by decide +kernel), List.mem_of_getElem? (i := 783) (by decide +kernel)⟩
theorem lw_p45 : lw_okq (⟨"DyeTankModel", "putBack", "()V"⟩, 12) := ⟨⟨by decide +kernel, by decide +kernel⟩, List.mem_of_getElem? (i := 543) (by decide +kernel), List.mem_of_getElem? (i := 786) (by decide +kernel), List.mem_of_getElem? (i := 787) (by decide +kernel)⟩
theorem lw_p46 : lw_okq (⟨"DyeTankModel", "takeStep", "()V"⟩, 12) := ⟨⟨by decide +kernel, by decide +kernel⟩, List.mem_of_getElem? (i := 543) (by decide +kernel), List.mem_of_getElem? (i := 814) (by decide +kernel), List.mem_of_getElem? (i := 815) (by decide +kernel)⟩
theorem lw_p47 : lw_okq (⟨"DyeTankModel", "next", "()I"⟩, 12) := ⟨⟨by decide +kernel, by decide +kernel⟩, List.mem_of_getElem? (i := 543) (by decide +kernel), List.mem_of_getElem? (i := 818) (by decide +kernel), List.mem_of_getElem? (i := 819) (by decide +kernel)⟩
def lw_privs_3 : List (MethodName × Nat) := [(⟨"DyeTankModel", "cellsWith", "(I)I"⟩, 12), (⟨"DyeTankModel", "greatest", "(I)I"⟩, 12), (⟨"DyeTankModel", "meanPlace", "(I)J"⟩, 12), (⟨"DyeTankModel", "unevenness", "(I)J"⟩, 12), (⟨"DyeTankModel", "greatestShear", "()I"⟩, 12), (⟨"DyeTankModel", "isMarker", "(I)Z"⟩, 12), (⟨"DyeTankModel", "keptOf", "(I)I"⟩, 12), (⟨"DyeTankModel", "whenHolds", "(IIIII)I"⟩, 12), (⟨"DyeTankModel", "putAside", "()V"⟩, 12), (⟨"DyeTankModel", "holds", "(IIII)Z"⟩, 12), (⟨"DyeTankModel", "isSettled", "(I)Z"⟩, 12), (⟨"DyeTankModel", "hasPart", "(III)Z"⟩, 12), (⟨"DyeTankModel", "areNear", "(III)Z"⟩, 12), (⟨"DyeTankModel", "putBack", "()V"⟩, 12), (⟨"DyeTankModel", "takeStep", "()V"⟩, 12), (⟨"DyeTankModel", "next", "()I"⟩, 12)]
theorem lw_r3 : ∀ q ∈ lw_privs_3, lw_okq q := List.forall_mem_cons.mpr ⟨lw_p32, List.forall_mem_cons.mpr ⟨lw_p33, List.forall_mem_cons.mpr ⟨lw_p34, List.forall_mem_cons.mpr ⟨lw_p35, List.forall_mem_cons.mpr ⟨lw_p36, List.forall_mem_cons.mpr ⟨lw_p37, List.forall_mem_cons.mpr ⟨lw_p38, List.forall_mem_cons.mpr ⟨lw_p39, List.forall_mem_cons.mpr ⟨lw_p40, List.forall_mem_cons.mpr ⟨lw_p41, List.forall_mem_cons.mpr ⟨lw_p42, List.forall_mem_cons.mpr ⟨lw_p43, List.forall_mem_cons.mpr ⟨lw_p44, List.forall_mem_cons.mpr ⟨lw_p45, List.forall_mem_cons.mpr ⟨lw_p46, List.forall_mem_cons.mpr ⟨lw_p47, fun _ h => absurd h List.not_mem_nil⟩⟩⟩⟩⟩⟩⟩⟩⟩⟩⟩⟩⟩⟩⟩⟩
theorem lw_p48 : lw_okq (⟨"DyeTankModel", "takeNumber", "(II)I"⟩, 12) := ⟨⟨by decide +kernel, by decide +kernel⟩, List.mem_of_getElem? (i := 543) (by decide +kernel), List.mem_of_getElem? (i := 822) (by decide +kernel), List.mem_of_getElem? (i := 823) (by decide +kernel)⟩
theorem lw_p49 : lw_okq (⟨"DyeTankModel", "takeVelocity", "(I)V"⟩, 12) := ⟨⟨by decide +kernel, by decide +kernel⟩, List.mem_of_getElem? (i := 543) (by decide +kernel), List.mem_of_getElem? (i := 826) (by decide +kernel), List.mem_of_getElem? (i := 827) (by decide +kernel)⟩
theorem lw_p50 : lw_okq (⟨"DyeTankModel", "need", "(I)V"⟩, 12) := ⟨⟨by decide +kernel, by decide +kernel⟩, List.mem_of_getElem? (i := 543) (by decide +kernel), List.mem_of_getElem? (i := 830) (by decide +kernel), List.mem_of_getElem? (i := 831) (by decide +kernel)⟩
theorem lw_p51 : lw_okq (⟨"DyeTankModel", "takeDye", "(I)V"⟩, 12) := ⟨⟨by decide +kernel, by decide +kernel⟩, List.mem_of_getElem? (i := 543) (by decide +kernel), List.mem_of_getElem? (i := 834) (by decide +kernel), List.mem_of_getElem? (i := 835) (by decide +kernel)⟩
theorem lw_p52 : lw_okq (⟨"DyeTankModel", "takeOne", "(II)I"⟩, 12) := ⟨⟨by decide +kernel, by decide +kernel⟩, List.mem_of_getElem? (i := 543) (by decide +kernel), List.mem_of_getElem? (i := 838) (by decide +kernel), List.mem_of_getElem? (i := 839) (by decide +kernel)⟩
theorem lw_p53 : lw_okq (⟨"DyeTankModel", "carries", "(I)Z"⟩, 12) := ⟨⟨by decide +kernel, by decide +kernel⟩, List.mem_of_getElem? (i := 543) (by decide +kernel), List.mem_of_getElem? (i := 848) (by decide +kernel), List.mem_of_getElem? (i := 849) (by decide +kernel)⟩
def lw_privs_4 : List (MethodName × Nat) := [(⟨"DyeTankModel", "takeNumber", "(II)I"⟩, 12), (⟨"DyeTankModel", "takeVelocity", "(I)V"⟩, 12), (⟨"DyeTankModel", "need", "(I)V"⟩, 12), (⟨"DyeTankModel", "takeDye", "(I)V"⟩, 12), (⟨"DyeTankModel", "takeOne", "(II)I"⟩, 12), (⟨"DyeTankModel", "carries", "(I)Z"⟩, 12)]
theorem lw_r4 : ∀ q ∈ lw_privs_4, lw_okq q := List.forall_mem_cons.mpr ⟨lw_p48, List.forall_mem_cons.mpr ⟨lw_p49, List.forall_mem_cons.mpr ⟨lw_p50, List.forall_mem_cons.mpr ⟨lw_p51, List.forall_mem_cons.mpr ⟨lw_p52, List.forall_mem_cons.mpr ⟨lw_p53, fun _ h => absurd h List.not_mem_nil⟩⟩⟩⟩⟩⟩
def lw_privs : List (MethodName × Nat) := lw_privs_1 ++ (lw_privs_2 ++ (lw_privs_3 ++ (lw_privs_4)))
def lw_tbl : List Cond := k2_sels lw_privs ++ tables_1
theorem lw_privs_ok : ∀ q ∈ lw_privs, lw_okq q := by
  show ∀ q ∈ lw_privs_1 ++ (lw_privs_2 ++ (lw_privs_3 ++ (lw_privs_4))), lw_okq q
  exact List.forall_mem_append.mpr ⟨lw_r1, List.forall_mem_append.mpr ⟨lw_r2, List.forall_mem_append.mpr ⟨lw_r3, lw_r4⟩⟩⟩
def RX0 : String := "DyeTank$Marker"
def TX0 : u_T := fun k => match k with
  | 0 => ("DyeTank$Marker", "place", "I", false)
  | 1 => ("DyeTank$Marker", "angle", "I", false)
  | 2 => ("DyeTank$Marker", "kept", "I", false)
  | 3 => ("DyeTank$Marker", "crossings", "I", false)
  | 4 => ("DyeTank$Marker", "next", "I", false)
  | 5 => ("DyeTank$Marker", "places", "[I", true)
  | _ => ("DyeTank$Marker", "angles", "[I", true)
def tyX0 : Nat → FieldType := fun k => match k with
  | 0 => .int
  | 1 => .int
  | 2 => .int
  | 3 => .int
  | 4 => .int
  | 5 => .array .int
  | _ => .array .int
abbrev wsX00 : List Cond := u_ws RX0 TX0 7
theorem nmX0 : ∀ a, a < 7 → ∀ b, b < 7 → a ≠ b → (TX0 a).2.1 ≠ (TX0 b).2.1 := by decide +kernel
theorem tyX0_ok : ∀ k, k < 7 → parseFieldDescriptor (TX0 k).2.2.1 = some (tyX0 k) := by decide +kernel
abbrev cX0_init : ByteArray := prog_2_method_1_code
def yX0_init : MethodName := ⟨RX0, "<init>", "()V"⟩
abbrev cX0_putIn : ByteArray := prog_2_method_2_code
def yX0_putIn : MethodName := ⟨RX0, "putIn", "(II)V"⟩
abbrev cX0_becomeLike : ByteArray := prog_2_method_3_code
def yX0_becomeLike : MethodName := ⟨RX0, "becomeLike", "(LDyeTank$Marker;)V"⟩
abbrev cX0_ringNow : ByteArray := prog_2_method_4_code
def yX0_ringNow : MethodName := ⟨RX0, "ringNow", "()I"⟩
abbrev cX0_move : ByteArray := prog_2_method_5_code
def yX0_move : MethodName := ⟨RX0, "move", "(III)V"⟩
abbrev cX0_keepPosition : ByteArray := prog_2_method_6_code
def yX0_keepPosition : MethodName := ⟨RX0, "keepPosition", "()V"⟩
abbrev cX0_placeBack : ByteArray := prog_2_method_7_code
def yX0_placeBack : MethodName := ⟨RX0, "placeBack", "(I)I"⟩
abbrev cX0_angleBack : ByteArray := prog_2_method_8_code
def yX0_angleBack : MethodName := ⟨RX0, "angleBack", "(I)I"⟩
abbrev cX0_isNear : ByteArray := prog_2_method_9_code
def yX0_isNear : MethodName := ⟨RX0, "isNear", "(LDyeTank$Marker;I)Z"⟩
def RX1 : String := "DyeTank$Pad"
def TX1 : u_T := fun k => match k with
  | 0 => ("DyeTank$Pad", "length", "I", false)
  | 1 => ("DyeTank$Pad", "at", "I", false)
  | 2 => ("DyeTank$Pad", "kind", "C", false)
  | 3 => ("DyeTank$Pad", "colour", "I", false)
  | 4 => ("DyeTank$Pad", "layer", "I", false)
  | 5 => ("DyeTank$Pad", "ring", "I", false)
  | 6 => ("DyeTank$Pad", "sector", "I", false)
  | 7 => ("DyeTank$Pad", "number", "I", false)
  | _ => ("DyeTank$Pad", "text", "[C", true)
def tyX1 : Nat → FieldType := fun k => match k with
  | 0 => .int
  | 1 => .int
  | 2 => .char
  | 3 => .int
  | 4 => .int
  | 5 => .int
  | 6 => .int
  | 7 => .int
  | _ => .array .char
abbrev wsX10 : List Cond := u_ws RX1 TX1 9
theorem nmX1 : ∀ a, a < 9 → ∀ b, b < 9 → a ≠ b → (TX1 a).2.1 ≠ (TX1 b).2.1 := by decide +kernel
theorem tyX1_ok : ∀ k, k < 9 → parseFieldDescriptor (TX1 k).2.2.1 = some (tyX1 k) := by decide +kernel
abbrev cX1_init : ByteArray := prog_3_method_1_code
def yX1_init : MethodName := ⟨RX1, "<init>", "()V"⟩
abbrev cX1_append : ByteArray := prog_3_method_2_code
def yX1_append : MethodName := ⟨RX1, "append", "(C)V"⟩
abbrev cX1_firstFault : ByteArray := prog_3_method_3_code
def yX1_firstFault : MethodName := ⟨RX1, "firstFault", "()I"⟩
abbrev cX1_readStep : ByteArray := prog_3_method_4_code
def yX1_readStep : MethodName := ⟨RX1, "readStep", "()Z"⟩
abbrev cX1_readRing : ByteArray := prog_3_method_5_code
def yX1_readRing : MethodName := ⟨RX1, "readRing", "()Z"⟩
abbrev cX1_readVelocity : ByteArray := prog_3_method_6_code
def yX1_readVelocity : MethodName := ⟨RX1, "readVelocity", "()Z"⟩
abbrev cX1_readColour : ByteArray := prog_3_method_7_code
def yX1_readColour : MethodName := ⟨RX1, "readColour", "()Z"⟩
abbrev cX1_readLayer : ByteArray := prog_3_method_8_code
def yX1_readLayer : MethodName := ⟨RX1, "readLayer", "()Z"⟩
abbrev cX1_readSector : ByteArray := prog_3_method_9_code
def yX1_readSector : MethodName := ⟨RX1, "readSector", "()Z"⟩
abbrev cX1_readAmount : ByteArray := prog_3_method_10_code
def yX1_readAmount : MethodName := ⟨RX1, "readAmount", "()Z"⟩
abbrev cX1_readNumber : ByteArray := prog_3_method_11_code
def yX1_readNumber : MethodName := ⟨RX1, "readNumber", "(II)I"⟩
abbrev cX1_digit : ByteArray := prog_3_method_12_code
def yX1_digit : MethodName := ⟨RX1, "digit", "()I"⟩
abbrev cX1_take : ByteArray := prog_3_method_13_code
def yX1_take : MethodName := ⟨RX1, "take", "(C)Z"⟩
abbrev cX1_character : ByteArray := prog_3_method_14_code
def yX1_character : MethodName := ⟨RX1, "character", "()C"⟩
def RX2 : String := "DyeTank$Tank"
def TX2 : u_T := fun k => match k with
  | 0 => ("DyeTank$Tank", "rings", "I", false)
  | 1 => ("DyeTank$Tank", "time", "I", false)
  | 2 => ("DyeTank$Tank", "markerCount", "I", false)
  | 3 => ("DyeTank$Tank", "settings", "[I", true)
  | 4 => ("DyeTank$Tank", "momenta", "[I", true)
  | 5 => ("DyeTank$Tank", "angles", "[I", true)
  | 6 => ("DyeTank$Tank", "totals", "[I", true)
  | 7 => ("DyeTank$Tank", "dyes", "[[I", true)
  | 8 => ("DyeTank$Tank", "markers", "[LDyeTank$Marker;", true)
  | 9 => ("DyeTank$Tank", "speeds", "[I", true)
  | 10 => ("DyeTank$Tank", "pushes", "[I", true)
  | _ => ("DyeTank$Tank", "old", "[I", true)
def tyX2 : Nat → FieldType := fun k => match k with
  | 0 => .int
  | 1 => .int
  | 2 => .int
  | 3 => .array .int
  | 4 => .array .int
  | 5 => .array .int
  | 6 => .array .int
  | 7 => .array (.array .int)
  | 8 => .array (.object "DyeTank$Marker")
  | 9 => .array .int
  | 10 => .array .int
  | _ => .array .int
abbrev wsX20 : List Cond := u_ws RX2 TX2 12
theorem nmX2 : ∀ a, a < 12 → ∀ b, b < 12 → a ≠ b → (TX2 a).2.1 ≠ (TX2 b).2.1 := by decide +kernel
theorem tyX2_ok : ∀ k, k < 12 → parseFieldDescriptor (TX2 k).2.2.1 = some (tyX2 k) := by decide +kernel
abbrev cX2_init : ByteArray := prog_4_method_1_code
def yX2_init : MethodName := ⟨RX2, "<init>", "()V"⟩
abbrev cX2_startAgain : ByteArray := prog_4_method_2_code
def yX2_startAgain : MethodName := ⟨RX2, "startAgain", "(I)V"⟩
abbrev cX2_becomeLike : ByteArray := prog_4_method_3_code
def yX2_becomeLike : MethodName := ⟨RX2, "becomeLike", "(LDyeTank$Tank;)V"⟩
abbrev cX2_hasRing : ByteArray := prog_4_method_4_code
def yX2_hasRing : MethodName := ⟨RX2, "hasRing", "(I)Z"⟩
abbrev cX2_hasMarker : ByteArray := prog_4_method_5_code
def yX2_hasMarker : MethodName := ⟨RX2, "hasMarker", "(I)Z"⟩
abbrev cX2_lastPlace : ByteArray := prog_4_method_6_code
def yX2_lastPlace : MethodName := ⟨RX2, "lastPlace", "()I"⟩
abbrev cX2_weightOf : ByteArray := prog_4_method_7_code
def yX2_weightOf : MethodName := ⟨RX2, "weightOf", "(I)I"⟩
abbrev cX2_velocityOf : ByteArray := prog_4_method_8_code
def yX2_velocityOf : MethodName := ⟨RX2, "velocityOf", "(I)I"⟩
abbrev cX2_giveVelocity : ByteArray := prog_4_method_9_code
def yX2_giveVelocity : MethodName := ⟨RX2, "giveVelocity", "(II)V"⟩
abbrev cX2_giveVelocities : ByteArray := prog_4_method_10_code
def yX2_giveVelocities : MethodName := ⟨RX2, "giveVelocities", "(II)V"⟩
abbrev cX2_pushOf : ByteArray := prog_4_method_11_code
def yX2_pushOf : MethodName := ⟨RX2, "pushOf", "(I)I"⟩
abbrev cX2_allMomenta : ByteArray := prog_4_method_12_code
def yX2_allMomenta : MethodName := ⟨RX2, "allMomenta", "()I"⟩
abbrev cX2_greatestShear : ByteArray := prog_4_method_13_code
def yX2_greatestShear : MethodName := ⟨RX2, "greatestShear", "()I"⟩
abbrev cX2_turnsWithFloor : ByteArray := prog_4_method_14_code
def yX2_turnsWithFloor : MethodName := ⟨RX2, "turnsWithFloor", "(I)Z"⟩
abbrev cX2_rowOf : ByteArray := prog_4_method_15_code
def yX2_rowOf : MethodName := ⟨RX2, "rowOf", "(II)I"⟩
abbrev cX2_cellIn : ByteArray := prog_4_method_16_code
def yX2_cellIn : MethodName := ⟨RX2, "cellIn", "(III)I"⟩
abbrev cX2_amountInRing : ByteArray := prog_4_method_17_code
def yX2_amountInRing : MethodName := ⟨RX2, "amountInRing", "(II)I"⟩
abbrev cX2_amountInTop : ByteArray := prog_4_method_18_code
def yX2_amountInTop : MethodName := ⟨RX2, "amountInTop", "(I)I"⟩
abbrev cX2_amountInRow : ByteArray := prog_4_method_19_code
def yX2_amountInRow : MethodName := ⟨RX2, "amountInRow", "(III)I"⟩
abbrev cX2_cellsWith : ByteArray := prog_4_method_20_code
def yX2_cellsWith : MethodName := ⟨RX2, "cellsWith", "(I)I"⟩
abbrev cX2_greatestAmount : ByteArray := prog_4_method_21_code
def yX2_greatestAmount : MethodName := ⟨RX2, "greatestAmount", "(I)I"⟩
abbrev cX2_meanPlace : ByteArray := prog_4_method_22_code
def yX2_meanPlace : MethodName := ⟨RX2, "meanPlace", "(I)J"⟩
abbrev cX2_unevenness : ByteArray := prog_4_method_23_code
def yX2_unevenness : MethodName := ⟨RX2, "unevenness", "(I)J"⟩
abbrev cX2_makeTick : ByteArray := prog_4_method_24_code
def yX2_makeTick : MethodName := ⟨RX2, "makeTick", "()V"⟩
abbrev cX2_turn : ByteArray := prog_4_method_25_code
def yX2_turn : MethodName := ⟨RX2, "turn", "()V"⟩
abbrev cX2_changeMomenta : ByteArray := prog_4_method_26_code
def yX2_changeMomenta : MethodName := ⟨RX2, "changeMomenta", "()V"⟩
abbrev cX2_carry : ByteArray := prog_4_method_27_code
def yX2_carry : MethodName := ⟨RX2, "carry", "(I)V"⟩
abbrev cX2_moveRow : ByteArray := prog_4_method_28_code
def yX2_moveRow : MethodName := ⟨RX2, "moveRow", "([IIIII)V"⟩
abbrev cX2_mixLayers : ByteArray := prog_4_method_29_code
def yX2_mixLayers : MethodName := ⟨RX2, "mixLayers", "([I)V"⟩
abbrev cX2_moveMarkers : ByteArray := prog_4_method_30_code
def yX2_moveMarkers : MethodName := ⟨RX2, "moveMarkers", "()V"⟩
def RX3 : String := "DyeTank"
def TX3 : u_T := fun k => match k with
  | 0 => ("DyeTank", "tank", "LDyeTank$Tank;", true)
  | 1 => ("DyeTank", "copy", "LDyeTank$Tank;", true)
  | 2 => ("DyeTank", "slots", "[LDyeTank$Tank;", true)
  | 3 => ("DyeTank", "saved", "[Z", true)
  | _ => ("DyeTank", "pad", "LDyeTank$Pad;", true)
def tyX3 : Nat → FieldType := fun k => match k with
  | 0 => .object "DyeTank$Tank"
  | 1 => .object "DyeTank$Tank"
  | 2 => .array (.object "DyeTank$Tank")
  | 3 => .array .boolean
  | _ => .object "DyeTank$Pad"
abbrev wsX30 : List Cond := u_ws RX3 TX3 5
theorem nmX3 : ∀ a, a < 5 → ∀ b, b < 5 → a ≠ b → (TX3 a).2.1 ≠ (TX3 b).2.1 := by decide +kernel
theorem tyX3_ok : ∀ k, k < 5 → parseFieldDescriptor (TX3 k).2.2.1 = some (tyX3 k) := by decide +kernel
abbrev cX3_init : ByteArray := prog_1_method_1_code
def yX3_init : MethodName := ⟨RX3, "<init>", "()V"⟩
abbrev cX3_setUp : ByteArray := prog_1_method_2_code
def yX3_setUp : MethodName := ⟨RX3, "setUp", "(I)I"⟩
abbrev cX3_set : ByteArray := prog_1_method_3_code
def yX3_set : MethodName := ⟨RX3, "set", "(II)I"⟩
abbrev cX3_spin : ByteArray := prog_1_method_4_code
def yX3_spin : MethodName := ⟨RX3, "spin", "(II)I"⟩
abbrev cX3_spinAll : ByteArray := prog_1_method_5_code
def yX3_spinAll : MethodName := ⟨RX3, "spinAll", "(II)I"⟩
abbrev cX3_pour : ByteArray := prog_1_method_6_code
def yX3_pour : MethodName := ⟨RX3, "pour", "(IIIII)I"⟩
abbrev cX3_tick : ByteArray := prog_1_method_7_code
def yX3_tick : MethodName := ⟨RX3, "tick", "(I)I"⟩
abbrev cX3_ring : ByteArray := prog_1_method_8_code
def yX3_ring : MethodName := ⟨RX3, "ring", "(II)I"⟩
abbrev cX3_dye : ByteArray := prog_1_method_9_code
def yX3_dye : MethodName := ⟨RX3, "dye", "(IIII)I"⟩
abbrev cX3_colour : ByteArray := prog_1_method_10_code
def yX3_colour : MethodName := ⟨RX3, "colour", "(II)J"⟩
abbrev cX3_state : ByteArray := prog_1_method_11_code
def yX3_state : MethodName := ⟨RX3, "state", "(I)I"⟩
abbrev cX3_marker : ByteArray := prog_1_method_12_code
def yX3_marker : MethodName := ⟨RX3, "marker", "(II)I"⟩
abbrev cX3_where : ByteArray := prog_1_method_13_code
def yX3_where : MethodName := ⟨RX3, "where", "(II)I"⟩
abbrev cX3_path : ByteArray := prog_1_method_14_code
def yX3_path : MethodName := ⟨RX3, "path", "(III)I"⟩
abbrev cX3_settles : ByteArray := prog_1_method_15_code
def yX3_settles : MethodName := ⟨RX3, "settles", "(II)I"⟩
abbrev cX3_arrives : ByteArray := prog_1_method_16_code
def yX3_arrives : MethodName := ⟨RX3, "arrives", "(IIII)I"⟩
abbrev cX3_meet : ByteArray := prog_1_method_17_code
def yX3_meet : MethodName := ⟨RX3, "meet", "(IIII)I"⟩
abbrev cX3_leastEkman : ByteArray := prog_1_method_18_code
def yX3_leastEkman : MethodName := ⟨RX3, "leastEkman", "(III)I"⟩
abbrev cX3_placeWith : ByteArray := prog_1_method_19_code
def yX3_placeWith : MethodName := ⟨RX3, "placeWith", "(III)J"⟩
abbrev cX3_say : ByteArray := prog_1_method_20_code
def yX3_say : MethodName := ⟨RX3, "say", "(I)I"⟩
abbrev cX3_wipe : ByteArray := prog_1_method_21_code
def yX3_wipe : MethodName := ⟨RX3, "wipe", "()I"⟩
abbrev cX3_fault : ByteArray := prog_1_method_22_code
def yX3_fault : MethodName := ⟨RX3, "fault", "()I"⟩
abbrev cX3_carryOut : ByteArray := prog_1_method_23_code
def yX3_carryOut : MethodName := ⟨RX3, "carryOut", "()I"⟩
abbrev cX3_carriedOut : ByteArray := prog_1_method_24_code
def yX3_carriedOut : MethodName := ⟨RX3, "carriedOut", "()Z"⟩
abbrev cX3_save : ByteArray := prog_1_method_25_code
def yX3_save : MethodName := ⟨RX3, "save", "(I)I"⟩
abbrev cX3_restore : ByteArray := prog_1_method_26_code
def yX3_restore : MethodName := ⟨RX3, "restore", "(I)I"⟩
abbrev cX3_isPlaceOfDye : ByteArray := prog_1_method_27_code
def yX3_isPlaceOfDye : MethodName := ⟨RX3, "isPlaceOfDye", "(IIII)Z"⟩
abbrev cX3_isColour : ByteArray := prog_1_method_28_code
def yX3_isColour : MethodName := ⟨RX3, "isColour", "(I)Z"⟩
abbrev cX3_isSpeed : ByteArray := prog_1_method_29_code
def yX3_isSpeed : MethodName := ⟨RX3, "isSpeed", "(I)Z"⟩
abbrev cX3_within : ByteArray := prog_1_method_30_code
def yX3_within : MethodName := ⟨RX3, "within", "(III)Z"⟩
def RX4 : String := "DyeTankModel"
def TX4 : u_T := fun k => match k with
  | 0 => ("DyeTankModel", "at", "[I", true)
  | 1 => ("DyeTankModel", "aside", "[I", true)
  | 2 => ("DyeTankModel", "slots", "[I", true)
  | 3 => ("DyeTankModel", "isSaved", "[Z", true)
  | 4 => ("DyeTankModel", "before", "[I", true)
  | 5 => ("DyeTankModel", "speed", "[I", true)
  | 6 => ("DyeTankModel", "pad", "[I", true)
  | 7 => ("DyeTankModel", "padMany", "I", false)
  | 8 => ("DyeTankModel", "spot", "I", false)
  | 9 => ("DyeTankModel", "isWrong", "Z", false)
  | 10 => ("DyeTankModel", "steps", "[I", true)
  | _ => ("DyeTankModel", "stepMany", "I", false)
def tyX4 : Nat → FieldType := fun k => match k with
  | 0 => .array .int
  | 1 => .array .int
  | 2 => .array .int
  | 3 => .array .boolean
  | 4 => .array .int
  | 5 => .array .int
  | 6 => .array .int
  | 7 => .int
  | 8 => .int
  | 9 => .boolean
  | 10 => .array .int
  | _ => .int
abbrev wsX40 : List Cond := u_ws RX4 TX4 12
theorem nmX4 : ∀ a, a < 12 → ∀ b, b < 12 → a ≠ b → (TX4 a).2.1 ≠ (TX4 b).2.1 := by decide +kernel
theorem tyX4_ok : ∀ k, k < 12 → parseFieldDescriptor (TX4 k).2.2.1 = some (tyX4 k) := by decide +kernel
abbrev cX4_init : ByteArray := prog_6_method_1_code
def yX4_init : MethodName := ⟨RX4, "<init>", "()V"⟩
abbrev cX4_in : ByteArray := prog_6_method_2_code
def yX4_in : MethodName := ⟨RX4, "in", "(III)Z"⟩
abbrev cX4_down : ByteArray := prog_6_method_3_code
def yX4_down : MethodName := ⟨RX4, "down", "(II)I"⟩
abbrev cX4_mod : ByteArray := prog_6_method_4_code
def yX4_mod : MethodName := ⟨RX4, "mod", "(II)I"⟩
abbrev cX4_begin : ByteArray := prog_6_method_5_code
def yX4_begin : MethodName := ⟨RX4, "begin", "(I)V"⟩
abbrev cX4_putAside : ByteArray := prog_6_method_6_code
def yX4_putAside : MethodName := ⟨RX4, "putAside", "()V"⟩
abbrev cX4_putBack : ByteArray := prog_6_method_7_code
def yX4_putBack : MethodName := ⟨RX4, "putBack", "()V"⟩
abbrev cX4_isRing : ByteArray := prog_6_method_8_code
def yX4_isRing : MethodName := ⟨RX4, "isRing", "(I)Z"⟩
abbrev cX4_velocity : ByteArray := prog_6_method_9_code
def yX4_velocity : MethodName := ⟨RX4, "velocity", "(I)I"⟩
abbrev cX4_setUp : ByteArray := prog_6_method_10_code
def yX4_setUp : MethodName := ⟨RX4, "setUp", "(I)I"⟩
abbrev cX4_takes : ByteArray := prog_6_method_11_code
def yX4_takes : MethodName := ⟨RX4, "takes", "(II)Z"⟩
abbrev cX4_set : ByteArray := prog_6_method_12_code
def yX4_set : MethodName := ⟨RX4, "set", "(II)I"⟩
abbrev cX4_isVelocity : ByteArray := prog_6_method_13_code
def yX4_isVelocity : MethodName := ⟨RX4, "isVelocity", "(I)Z"⟩
abbrev cX4_spin : ByteArray := prog_6_method_14_code
def yX4_spin : MethodName := ⟨RX4, "spin", "(II)I"⟩
abbrev cX4_momenta : ByteArray := prog_6_method_15_code
def yX4_momenta : MethodName := ⟨RX4, "momenta", "()I"⟩
abbrev cX4_spinAll : ByteArray := prog_6_method_16_code
def yX4_spinAll : MethodName := ⟨RX4, "spinAll", "(II)I"⟩
abbrev cX4_dyeAt : ByteArray := prog_6_method_17_code
def yX4_dyeAt : MethodName := ⟨RX4, "dyeAt", "(IIII)I"⟩
abbrev cX4_cellIn : ByteArray := prog_6_method_18_code
def yX4_cellIn : MethodName := ⟨RX4, "cellIn", "(II)I"⟩
abbrev cX4_isPlace : ByteArray := prog_6_method_19_code
def yX4_isPlace : MethodName := ⟨RX4, "isPlace", "(IIII)Z"⟩
abbrev cX4_amountOf : ByteArray := prog_6_method_20_code
def yX4_amountOf : MethodName := ⟨RX4, "amountOf", "(IIII)I"⟩
abbrev cX4_allOf : ByteArray := prog_6_method_21_code
def yX4_allOf : MethodName := ⟨RX4, "allOf", "(I)I"⟩
abbrev cX4_pour : ByteArray := prog_6_method_22_code
def yX4_pour : MethodName := ⟨RX4, "pour", "(IIIII)I"⟩
abbrev cX4_stepMomenta : ByteArray := prog_6_method_23_code
def yX4_stepMomenta : MethodName := ⟨RX4, "stepMomenta", "()V"⟩
abbrev cX4_push : ByteArray := prog_6_method_24_code
def yX4_push : MethodName := ⟨RX4, "push", "(I)I"⟩
abbrev cX4_stepRing : ByteArray := prog_6_method_25_code
def yX4_stepRing : MethodName := ⟨RX4, "stepRing", "(III)V"⟩
abbrev cX4_stepDyes : ByteArray := prog_6_method_26_code
def yX4_stepDyes : MethodName := ⟨RX4, "stepDyes", "()V"⟩
abbrev cX4_mix : ByteArray := prog_6_method_27_code
def yX4_mix : MethodName := ⟨RX4, "mix", "()V"⟩
abbrev cX4_stepMarker : ByteArray := prog_6_method_28_code
def yX4_stepMarker : MethodName := ⟨RX4, "stepMarker", "(I)V"⟩
abbrev cX4_makeTick : ByteArray := prog_6_method_29_code
def yX4_makeTick : MethodName := ⟨RX4, "makeTick", "()V"⟩
abbrev cX4_tick : ByteArray := prog_6_method_30_code
def yX4_tick : MethodName := ⟨RX4, "tick", "(I)I"⟩
abbrev cX4_ring : ByteArray := prog_6_method_31_code
def yX4_ring : MethodName := ⟨RX4, "ring", "(II)I"⟩
abbrev cX4_dye : ByteArray := prog_6_method_32_code
def yX4_dye : MethodName := ⟨RX4, "dye", "(IIII)I"⟩
abbrev cX4_cellsWith : ByteArray := prog_6_method_33_code
def yX4_cellsWith : MethodName := ⟨RX4, "cellsWith", "(I)I"⟩
abbrev cX4_greatest : ByteArray := prog_6_method_34_code
def yX4_greatest : MethodName := ⟨RX4, "greatest", "(I)I"⟩
abbrev cX4_meanPlace : ByteArray := prog_6_method_35_code
def yX4_meanPlace : MethodName := ⟨RX4, "meanPlace", "(I)J"⟩
abbrev cX4_unevenness : ByteArray := prog_6_method_36_code
def yX4_unevenness : MethodName := ⟨RX4, "unevenness", "(I)J"⟩
abbrev cX4_isColour : ByteArray := prog_6_method_37_code
def yX4_isColour : MethodName := ⟨RX4, "isColour", "(I)Z"⟩
abbrev cX4_colour : ByteArray := prog_6_method_38_code
def yX4_colour : MethodName := ⟨RX4, "colour", "(II)J"⟩
abbrev cX4_greatestShear : ByteArray := prog_6_method_39_code
def yX4_greatestShear : MethodName := ⟨RX4, "greatestShear", "()I"⟩
abbrev cX4_state : ByteArray := prog_6_method_40_code
def yX4_state : MethodName := ⟨RX4, "state", "(I)I"⟩
abbrev cX4_marker : ByteArray := prog_6_method_41_code
def yX4_marker : MethodName := ⟨RX4, "marker", "(II)I"⟩
abbrev cX4_isMarker : ByteArray := prog_6_method_42_code
def yX4_isMarker : MethodName := ⟨RX4, "isMarker", "(I)Z"⟩
abbrev cX4_keptOf : ByteArray := prog_6_method_43_code
def yX4_keptOf : MethodName := ⟨RX4, "keptOf", "(I)I"⟩
abbrev cX4_where : ByteArray := prog_6_method_44_code
def yX4_where : MethodName := ⟨RX4, "where", "(II)I"⟩
abbrev cX4_path : ByteArray := prog_6_method_45_code
def yX4_path : MethodName := ⟨RX4, "path", "(III)I"⟩
abbrev cX4_isSettled : ByteArray := prog_6_method_46_code
def yX4_isSettled : MethodName := ⟨RX4, "isSettled", "(I)Z"⟩
abbrev cX4_hasPart : ByteArray := prog_6_method_47_code
def yX4_hasPart : MethodName := ⟨RX4, "hasPart", "(III)Z"⟩
abbrev cX4_areNear : ByteArray := prog_6_method_48_code
def yX4_areNear : MethodName := ⟨RX4, "areNear", "(III)Z"⟩
abbrev cX4_holds : ByteArray := prog_6_method_49_code
def yX4_holds : MethodName := ⟨RX4, "holds", "(IIII)Z"⟩
abbrev cX4_whenHolds : ByteArray := prog_6_method_50_code
def yX4_whenHolds : MethodName := ⟨RX4, "whenHolds", "(IIIII)I"⟩
abbrev cX4_settles : ByteArray := prog_6_method_51_code
def yX4_settles : MethodName := ⟨RX4, "settles", "(II)I"⟩
abbrev cX4_arrives : ByteArray := prog_6_method_52_code
def yX4_arrives : MethodName := ⟨RX4, "arrives", "(IIII)I"⟩
abbrev cX4_meet : ByteArray := prog_6_method_53_code
def yX4_meet : MethodName := ⟨RX4, "meet", "(IIII)I"⟩
abbrev cX4_leastEkman : ByteArray := prog_6_method_54_code
def yX4_leastEkman : MethodName := ⟨RX4, "leastEkman", "(III)I"⟩
abbrev cX4_say : ByteArray := prog_6_method_55_code
def yX4_say : MethodName := ⟨RX4, "say", "(I)I"⟩
abbrev cX4_wipe : ByteArray := prog_6_method_56_code
def yX4_wipe : MethodName := ⟨RX4, "wipe", "()I"⟩
abbrev cX4_next : ByteArray := prog_6_method_57_code
def yX4_next : MethodName := ⟨RX4, "next", "()I"⟩
abbrev cX4_takeNumber : ByteArray := prog_6_method_58_code
def yX4_takeNumber : MethodName := ⟨RX4, "takeNumber", "(II)I"⟩
abbrev cX4_need : ByteArray := prog_6_method_59_code
def yX4_need : MethodName := ⟨RX4, "need", "(I)V"⟩
abbrev cX4_takeOne : ByteArray := prog_6_method_60_code
def yX4_takeOne : MethodName := ⟨RX4, "takeOne", "(II)I"⟩
abbrev cX4_takeVelocity : ByteArray := prog_6_method_61_code
def yX4_takeVelocity : MethodName := ⟨RX4, "takeVelocity", "(I)V"⟩
abbrev cX4_takeDye : ByteArray := prog_6_method_62_code
def yX4_takeDye : MethodName := ⟨RX4, "takeDye", "(I)V"⟩
abbrev cX4_takeStep : ByteArray := prog_6_method_63_code
def yX4_takeStep : MethodName := ⟨RX4, "takeStep", "()V"⟩
abbrev cX4_fault : ByteArray := prog_6_method_64_code
def yX4_fault : MethodName := ⟨RX4, "fault", "()I"⟩
abbrev cX4_carries : ByteArray := prog_6_method_65_code
def yX4_carries : MethodName := ⟨RX4, "carries", "(I)Z"⟩
abbrev cX4_carryOut : ByteArray := prog_6_method_66_code
def yX4_carryOut : MethodName := ⟨RX4, "carryOut", "()I"⟩
abbrev cX4_save : ByteArray := prog_6_method_67_code
def yX4_save : MethodName := ⟨RX4, "save", "(I)I"⟩
abbrev cX4_restore : ByteArray := prog_6_method_68_code
def yX4_restore : MethodName := ⟨RX4, "restore", "(I)I"⟩
def RJ9 : String := "java/lang/Math"
def TJ9 : u_T := fun k => match k with
  | _ => ("", "", "", false)
def tyJ9 : Nat → FieldType := fun k => match k with
  | _ => .int
abbrev wsJ90 : List Cond := u_ws RJ9 TJ9 0
theorem nmJ9 : ∀ a, a < 0 → ∀ b, b < 0 → a ≠ b → (TJ9 a).2.1 ≠ (TJ9 b).2.1 := by decide +kernel
theorem tyJ9_ok : ∀ k, k < 0 → parseFieldDescriptor (TJ9 k).2.2.1 = some (tyJ9 k) := by decide +kernel
abbrev cJ9_floorDiv_7cf53 : ByteArray := prog_7_method_47_code
def yJ9_floorDiv_7cf53 : MethodName := ⟨RJ9, "floorDiv", "(II)I"⟩
abbrev cJ9_floorMod_7cf53 : ByteArray := prog_7_method_50_code
def yJ9_floorMod_7cf53 : MethodName := ⟨RJ9, "floorMod", "(II)I"⟩
abbrev cJ9_abs_0f7a4 : ByteArray := prog_7_method_59_code
def yJ9_abs_0f7a4 : MethodName := ⟨RJ9, "abs", "(I)I"⟩
abbrev cJ9_abs_067f4 : ByteArray := prog_7_method_61_code
def yJ9_abs_067f4 : MethodName := ⟨RJ9, "abs", "(J)J"⟩
abbrev cJ9_max_7cf53 : ByteArray := prog_7_method_65_code
def yJ9_max_7cf53 : MethodName := ⟨RJ9, "max", "(II)I"⟩
abbrev cJ9_min_7cf53 : ByteArray := prog_7_method_69_code
def yJ9_min_7cf53 : MethodName := ⟨RJ9, "min", "(II)I"⟩
def RJ10 : String := "java/lang/System"
def TJ10 : u_T := fun k => match k with
  | _ => ("", "", "", false)
def tyJ10 : Nat → FieldType := fun k => match k with
  | _ => .int
abbrev wsJ100 : List Cond := u_ws RJ10 TJ10 0
theorem nmJ10 : ∀ a, a < 0 → ∀ b, b < 0 → a ≠ b → (TJ10 a).2.1 ≠ (TJ10 b).2.1 := by decide +kernel
theorem tyJ10_ok : ∀ k, k < 0 → parseFieldDescriptor (TJ10 k).2.2.1 = some (tyJ10 k) := by decide +kernel
def RJ7 : String := "java/util/Arrays"
def TJ7 : u_T := fun k => match k with
  | _ => ("", "", "", false)
def tyJ7 : Nat → FieldType := fun k => match k with
  | _ => .int
abbrev wsJ70 : List Cond := u_ws RJ7 TJ7 0
theorem nmJ7 : ∀ a, a < 0 → ∀ b, b < 0 → a ≠ b → (TJ7 a).2.1 ≠ (TJ7 b).2.1 := by decide +kernel
theorem tyJ7_ok : ∀ k, k < 0 → parseFieldDescriptor (TJ7 k).2.2.1 = some (tyJ7 k) := by decide +kernel
abbrev cJ7_fill_53178 : ByteArray := prog_9_method_103_code
def yJ7_fill_53178 : MethodName := ⟨RJ7, "fill", "([II)V"⟩
def RL : String := "DyeTankLaw"
abbrev cL_law : ByteArray := code
def yL_law : MethodName := ⟨RL, "law", "([I)Z"⟩
abbrev vwCl : List vw_C := [(RX0, TX0, 7), (RX1, TX1, 9), (RX2, TX2, 12), (RX3, TX3, 5), (RX4, TX4, 12)]
