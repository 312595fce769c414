section
-- ===== PART A: goes FIRST, ahead of the names: the tables' words, and 'selects' of the private methods out of them =====
/-- a private method of a class that the tables say can be made, by its rows of tables_1 -/
def lw_okq (q : MethodName × Nat) : Prop := (q.1.cls ≠ "java/lang/invoke/MethodHandle" ∧ q.1.cls ≠ "java/lang/invoke/VarHandle") ∧ Cond.instantiable q.1.cls q.2 ∈ tables_1 ∧ Cond.privateMethod q.1 ∈ tables_1 ∧ Cond.instanceMethod q.1 ∈ tables_1
theorem lw_p0 : lw_okq (⟨"DyeTank", "isPlaceOfDye", "(IIII)Z"⟩, 5) := ⟨⟨by decide +kernel, by decide +kernel⟩, List.mem_of_getElem? (i := 10) (by decide +kernel), List.mem_of_getElem? (i := 242) (by decide +kernel), List.mem_of_getElem? (i := 243) (by decide +kernel)⟩
theorem lw_p1 : lw_okq (⟨"DyeTank$Tank", "changeMomenta", "()V"⟩, 12) := ⟨⟨by decide +kernel, by decide +kernel⟩, List.mem_of_getElem? (i := 18) (by decide +kernel), List.mem_of_getElem? (i := 274) (by decide +kernel), List.mem_of_getElem? (i := 275) (by decide +kernel)⟩
theorem lw_p2 : lw_okq (⟨"DyeTank$Tank", "moveRow", "([IIIII)V"⟩, 12) := ⟨⟨by decide +kernel, by decide +kernel⟩, List.mem_of_getElem? (i := 18) (by decide +kernel), List.mem_of_getElem? (i := 293) (by decide +kernel), List.mem_of_getElem? (i := 294) (by decide +kernel)⟩
theorem lw_p3 : lw_okq (⟨"DyeTank$Tank", "mixLayers", "([I)V"⟩, 12) := ⟨⟨by decide +kernel, by decide +kernel⟩, List.mem_of_getElem? (i := 18) (by decide +kernel), List.mem_of_getElem? (i := 299) (by decide +kernel), List.mem_of_getElem? (i := 300) (by decide +kernel)⟩
theorem lw_p4 : lw_okq (⟨"DyeTank$Marker", "keepPosition", "()V"⟩, 7) := ⟨⟨by decide +kernel, by decide +kernel⟩, List.mem_of_getElem? (i := 27) (by decide +kernel), List.mem_of_getElem? (i := 324) (by decide +kernel), List.mem_of_getElem? (i := 325) (by decide +kernel)⟩
theorem lw_p5 : lw_okq (⟨"DyeTank$Tank", "amountInRow", "(III)I"⟩, 12) := ⟨⟨by decide +kernel, by decide +kernel⟩, List.mem_of_getElem? (i := 18) (by decide +kernel), List.mem_of_getElem? (i := 337) (by decide +kernel), List.mem_of_getElem? (i := 338) (by decide +kernel)⟩
theorem lw_p6 : lw_okq (⟨"DyeTank", "placeWith", "(III)J"⟩, 5) := ⟨⟨by decide +kernel, by decide +kernel⟩, List.mem_of_getElem? (i := 10) (by decide +kernel), List.mem_of_getElem? (i := 454) (by decide +kernel), List.mem_of_getElem? (i := 455) (by decide +kernel)⟩
theorem lw_p7 : lw_okq (⟨"DyeTank$Pad", "character", "()C"⟩, 9) := ⟨⟨by decide +kernel, by decide +kernel⟩, List.mem_of_getElem? (i := 119) (by decide +kernel), List.mem_of_getElem? (i := 482) (by decide +kernel), List.mem_of_getElem? (i := 483) (by decide +kernel)⟩
theorem lw_p8 : lw_okq (⟨"DyeTank$Pad", "readNumber", "(II)I"⟩, 9) := ⟨⟨by decide +kernel, by decide +kernel⟩, List.mem_of_getElem? (i := 119) (by decide +kernel), List.mem_of_getElem? (i := 490) (by decide +kernel), List.mem_of_getElem? (i := 491) (by decide +kernel)⟩
theorem lw_p9 : lw_okq (⟨"DyeTank$Pad", "digit", "()I"⟩, 9) := ⟨⟨by decide +kernel, by decide +kernel⟩, List.mem_of_getElem? (i := 119) (by decide +kernel), List.mem_of_getElem? (i := 494) (by decide +kernel), List.mem_of_getElem? (i := 495) (by decide +kernel)⟩
theorem lw_p10 : lw_okq (⟨"DyeTank$Pad", "readRing", "()Z"⟩, 9) := ⟨⟨by decide +kernel, by decide +kernel⟩, List.mem_of_getElem? (i := 119) (by decide +kernel), List.mem_of_getElem? (i := 498) (by decide +kernel), List.mem_of_getElem? (i := 499) (by decide +kernel)⟩
theorem lw_p11 : lw_okq (⟨"DyeTank$Pad", "readVelocity", "()Z"⟩, 9) := ⟨⟨by decide +kernel, by decide +kernel⟩, List.mem_of_getElem? (i := 119) (by decide +kernel), List.mem_of_getElem? (i := 502) (by decide +kernel), List.mem_of_getElem? (i := 503) (by decide +kernel)⟩
theorem lw_p12 : lw_okq (⟨"DyeTank$Pad", "readColour", "()Z"⟩, 9) := ⟨⟨by decide +kernel, by decide +kernel⟩, List.mem_of_getElem? (i := 119) (by decide +kernel), List.mem_of_getElem? (i := 506) (by decide +kernel), List.mem_of_getElem? (i := 507) (by decide +kernel)⟩
theorem lw_p13 : lw_okq (⟨"DyeTank$Pad", "readLayer", "()Z"⟩, 9) := ⟨⟨by decide +kernel, by decide +kernel⟩, List.mem_of_getElem? (i := 119) (by decide +kernel), List.mem_of_getElem? (i := 510) (by decide +kernel), List.mem_of_getElem? (i := 511) (by decide +kernel)⟩
theorem lw_p14 : lw_okq (⟨"DyeTank$Pad", "readSector", "()Z"⟩, 9) := ⟨⟨by decide +kernel, by decide +kernel⟩, List.mem_of_getElem? (i := 119) (by decide +kernel), List.mem_of_getElem? (i := 514) (by decide +kernel), List.mem_of_getElem? (i := 515) (by decide +kernel)⟩
theorem lw_p15 : lw_okq (⟨"DyeTank$Pad", "readAmount", "()Z"⟩, 9) := ⟨⟨by decide +kernel, by decide +kernel⟩, List.mem_of_getElem? (i := 119) (by decide +kernel), List.mem_of_getElem? (i := 518) (by decide +kernel), List.mem_of_getElem? (i := 519) (by decide +kernel)⟩
def lw_privs_1 : List (MethodName × Nat) := [(⟨"DyeTank", "isPlaceOfDye", "(IIII)Z"⟩, 5), (⟨"DyeTank$Tank", "changeMomenta", "()V"⟩, 12), (⟨"DyeTank$Tank", "moveRow", "([IIIII)V"⟩, 12), (⟨"DyeTank$Tank", "mixLayers", "([I)V"⟩, 12), (⟨"DyeTank$Marker", "keepPosition", "()V"⟩, 7), (⟨"DyeTank$Tank", "amountInRow", "(III)I"⟩, 12), (⟨"DyeTank", "placeWith", "(III)J"⟩, 5), (⟨"DyeTank$Pad", "character", "()C"⟩, 9), (⟨"DyeTank$Pad", "readNumber", "(II)I"⟩, 9), (⟨"DyeTank$Pad", "digit", "()I"⟩, 9), (⟨"DyeTank$Pad", "readRing", "()Z"⟩, 9), (⟨"DyeTank$Pad", "readVelocity", "()Z"⟩, 9), (⟨"DyeTank$Pad", "readColour", "()Z"⟩, 9), (⟨"DyeTank$Pad", "readLayer", "()Z"⟩, 9), (⟨"DyeTank$Pad", "readSector", "()Z"⟩, 9), (⟨"DyeTank$Pad", "readAmount", "()Z"⟩, 9)]
theorem lw_r1 : ∀ q ∈ lw_privs_1, lw_okq q := List.forall_mem_cons.mpr ⟨lw_p0, List.forall_mem_cons.mpr ⟨lw_p1, List.forall_mem_cons.mpr ⟨lw_p2, List.forall_mem_cons.mpr ⟨lw_p3, List.forall_mem_cons.mpr ⟨lw_p4, List.forall_mem_cons.mpr ⟨lw_p5, List.forall_mem_cons.mpr ⟨lw_p6, List.forall_mem_cons.mpr ⟨lw_p7, List.forall_mem_cons.mpr ⟨lw_p8, List.forall_mem_cons.mpr ⟨lw_p9, List.forall_mem_cons.mpr ⟨lw_p10, List.forall_mem_cons.mpr ⟨lw_p11, List.forall_mem_cons.mpr ⟨lw_p12, List.forall_mem_cons.mpr ⟨lw_p13, List.forall_mem_cons.mpr ⟨lw_p14, List.forall_mem_cons.mpr ⟨lw_p15, fun _ h => absurd h List.not_mem_nil⟩⟩⟩⟩⟩⟩⟩⟩⟩⟩⟩⟩⟩⟩⟩⟩
theorem lw_p16 : lw_okq (⟨"DyeTank", "carriedOut", "()Z"⟩, 5) := ⟨⟨by decide +kernel, by decide +kernel⟩, List.mem_of_getElem? (i := 10) (by decide +kernel), List.mem_of_getElem? (i := 528) (by decide +kernel), List.mem_of_getElem? (i := 529) (by decide +kernel)⟩
theorem lw_p17 : lw_okq (⟨"DyeTankModel", "begin", "(I)V"⟩, 12) := ⟨⟨by decide +kernel, by decide +kernel⟩, List.mem_of_getElem? (i := 545) (by decide +kernel), List.mem_of_getElem? (i := 551) (by decide +kernel), List.mem_of_getElem? (i := 552) (by decide +kernel)⟩
theorem lw_p18 : lw_okq (⟨"DyeTankModel", "isRing", "(I)Z"⟩, 12) := ⟨⟨by decide +kernel, by decide +kernel⟩, List.mem_of_getElem? (i := 545) (by decide +kernel), List.mem_of_getElem? (i := 611) (by decide +kernel), List.mem_of_getElem? (i := 612) (by decide +kernel)⟩
theorem lw_p19 : lw_okq (⟨"DyeTankModel", "velocity", "(I)I"⟩, 12) := ⟨⟨by decide +kernel, by decide +kernel⟩, List.mem_of_getElem? (i := 545) (by decide +kernel), List.mem_of_getElem? (i := 619) (by decide +kernel), List.mem_of_getElem? (i := 620) (by decide +kernel)⟩
theorem lw_p20 : lw_okq (⟨"DyeTankModel", "momenta", "()I"⟩, 12) := ⟨⟨by decide +kernel, by decide +kernel⟩, List.mem_of_getElem? (i := 545) (by decide +kernel), List.mem_of_getElem? (i := 630) (by decide +kernel), List.mem_of_getElem? (i := 631) (by decide +kernel)⟩
theorem lw_p21 : lw_okq (⟨"DyeTankModel", "isPlace", "(IIII)Z"⟩, 12) := ⟨⟨by decide +kernel, by decide +kernel⟩, List.mem_of_getElem? (i := 545) (by decide +kernel), List.mem_of_getElem? (i := 638) (by decide +kernel), List.mem_of_getElem? (i := 639) (by decide +kernel)⟩
theorem lw_p22 : lw_okq (⟨"DyeTankModel", "allOf", "(I)I"⟩, 12) := ⟨⟨by decide +kernel, by decide +kernel⟩, List.mem_of_getElem? (i := 545) (by decide +kernel), List.mem_of_getElem? (i := 643) (by decide +kernel), List.mem_of_getElem? (i := 644) (by decide +kernel)⟩
theorem lw_p23 : lw_okq (⟨"DyeTankModel", "amountOf", "(IIII)I"⟩, 12) := ⟨⟨by decide +kernel, by decide +kernel⟩, List.mem_of_getElem? (i := 545) (by decide +kernel), List.mem_of_getElem? (i := 647) (by decide +kernel), List.mem_of_getElem? (i := 648) (by decide +kernel)⟩
theorem lw_p24 : lw_okq (⟨"DyeTankModel", "cellIn", "(II)I"⟩, 12) := ⟨⟨by decide +kernel, by decide +kernel⟩, List.mem_of_getElem? (i := 545) (by decide +kernel), List.mem_of_getElem? (i := 655) (by decide +kernel), List.mem_of_getElem? (i := 656) (by decide +kernel)⟩
theorem lw_p25 : lw_okq (⟨"DyeTankModel", "makeTick", "()V"⟩, 12) := ⟨⟨by decide +kernel, by decide +kernel⟩, List.mem_of_getElem? (i := 545) (by decide +kernel), List.mem_of_getElem? (i := 667) (by decide +kernel), List.mem_of_getElem? (i := 668) (by decide +kernel)⟩
theorem lw_p26 : lw_okq (⟨"DyeTankModel", "stepMomenta", "()V"⟩, 12) := ⟨⟨by decide +kernel, by decide +kernel⟩, List.mem_of_getElem? (i := 545) (by decide +kernel), List.mem_of_getElem? (i := 671) (by decide +kernel), List.mem_of_getElem? (i := 672) (by decide +kernel)⟩
theorem lw_p27 : lw_okq (⟨"DyeTankModel", "stepDyes", "()V"⟩, 12) := ⟨⟨by decide +kernel, by decide +kernel⟩, List.mem_of_getElem? (i := 545) (by decide +kernel), List.mem_of_getElem? (i := 675) (by decide +kernel), List.mem_of_getElem? (i := 676) (by decide +kernel)⟩
theorem lw_p28 : lw_okq (⟨"DyeTankModel", "push", "(I)I"⟩, 12) := ⟨⟨by decide +kernel, by decide +kernel⟩, List.mem_of_getElem? (i := 545) (by decide +kernel), List.mem_of_getElem? (i := 679) (by decide +kernel), List.mem_of_getElem? (i := 680) (by decide +kernel)⟩
theorem lw_p29 : lw_okq (⟨"DyeTankModel", "stepRing", "(III)V"⟩, 12) := ⟨⟨by decide +kernel, by decide +kernel⟩, List.mem_of_getElem? (i := 545) (by decide +kernel), List.mem_of_getElem? (i := 683) (by decide +kernel), List.mem_of_getElem? (i := 684) (by decide +kernel)⟩
theorem lw_p30 : lw_okq (⟨"DyeTankModel", "mix", "()V"⟩, 12) := ⟨⟨by decide +kernel, by decide +kernel⟩, List.mem_of_getElem? (i := 545) (by decide +kernel), List.mem_of_getElem? (i := 688) (by decide +kernel), List.mem_of_getElem? (i := 689) (by decide +kernel)⟩
theorem lw_p31 : lw_okq (⟨"DyeTankModel", "stepMarker", "(I)V"⟩, 12) := ⟨⟨by decide +kernel, by decide +kernel⟩, List.mem_of_getElem? (i := 545) (by decide +kernel), List.mem_of_getElem? (i := 693) (by decide +kernel), List.mem_of_getElem? (i := 694) (by decide +kernel)⟩
def lw_privs_2 : List (MethodName × Nat) := [(⟨"DyeTank", "carriedOut", "()Z"⟩, 5), (⟨"DyeTankModel", "begin", "(I)V"⟩, 12), (⟨"DyeTankModel", "isRing", "(I)Z"⟩, 12), (⟨"DyeTankModel", "velocity", "(I)I"⟩, 12), (⟨"DyeTankModel", "momenta", "()I"⟩, 12), (⟨"DyeTankModel", "isPlace", "(IIII)Z"⟩, 12), (⟨"DyeTankModel", "allOf", "(I)I"⟩, 12), (⟨"DyeTankModel", "amountOf", "(IIII)I"⟩, 12), (⟨"DyeTankModel", "cellIn", "(II)I"⟩, 12), (⟨"DyeTankModel", "makeTick", "()V"⟩, 12), (⟨"DyeTankModel", "stepMomenta", "()V"⟩, 12), (⟨"DyeTankModel", "stepDyes", "()V"⟩, 12), (⟨"DyeTankModel", "push", "(I)I"⟩, 12), (⟨"DyeTankModel", "stepRing", "(III)V"⟩, 12), (⟨"DyeTankModel", "mix", "()V"⟩, 12), (⟨"DyeTankModel", "stepMarker", "(I)V"⟩, 12)]
theorem lw_r2 : ∀ q ∈ lw_privs_2, lw_okq q := List.forall_mem_cons.mpr ⟨lw_p16, List.forall_mem_cons.mpr ⟨lw_p17, List.forall_mem_cons.mpr ⟨lw_p18, List.forall_mem_cons.mpr ⟨lw_p19, List.forall_mem_cons.mpr ⟨lw_p20, List.forall_mem_cons.mpr ⟨lw_p21, List.forall_mem_cons.mpr ⟨lw_p22, List.forall_mem_cons.mpr ⟨lw_p23, List.forall_mem_cons.mpr ⟨lw_p24, List.forall_mem_cons.mpr ⟨lw_p25, List.forall_mem_cons.mpr ⟨lw_p26, List.forall_mem_cons.mpr ⟨lw_p27, List.forall_mem_cons.mpr ⟨lw_p28, List.forall_mem_cons.mpr ⟨lw_p29, List.forall_mem_cons.mpr ⟨lw_p30, List.forall_mem_cons.mpr ⟨lw_p31, fun _ h => absurd h List.not_mem_nil⟩⟩⟩⟩⟩⟩⟩⟩⟩⟩⟩⟩⟩⟩⟩⟩
theorem lw_p32 : lw_okq (⟨"DyeTankModel", "cellsWith", "(I)I"⟩, 12) := ⟨⟨by decide +kernel, by decide +kernel⟩, List.mem_of_getElem? (i := 545) (by decide +kernel), List.mem_of_getElem? (i := 713) (by decide +kernel), List.mem_of_getElem? (i := 714) (by decide +kernel)⟩
theorem lw_p33 : lw_okq (⟨"DyeTankModel", "greatest", "(I)I"⟩, 12) := ⟨⟨by decide +kernel, by decide +kernel⟩, List.mem_of_getElem? (i := 545) (by decide +kernel), List.mem_of_getElem? (i := 717) (by decide +kernel), List.mem_of_getElem? (i := 718) (by decide +kernel)⟩
theorem lw_p34 : lw_okq (⟨"DyeTankModel", "meanPlace", "(I)J"⟩, 12) := ⟨⟨by decide +kernel, by decide +kernel⟩, List.mem_of_getElem? (i := 545) (by decide +kernel), List.mem_of_getElem? (i := 721) (by decide +kernel), List.mem_of_getElem? (i := 722) (by decide +kernel)⟩
theorem lw_p35 : lw_okq (⟨"DyeTankModel", "unevenness", "(I)J"⟩, 12) := ⟨⟨by decide +kernel, by decide +kernel⟩, List.mem_of_getElem? (i := 545) (by decide +kernel), List.mem_of_getElem? (i := 726) (by decide +kernel), List.mem_of_getElem? (i := 727) (by decide +kernel)⟩
theorem lw_p36 : lw_okq (⟨"DyeTankModel", "greatestShear", "()I"⟩, 12) := ⟨⟨by decide +kernel, by decide +kernel⟩, List.mem_of_getElem? (i := 545) (by decide +kernel), List.mem_of_getElem? (i := 736) (by decide +kernel), List.mem_of_getElem? (i := 737) (by decide +kernel)⟩
theorem lw_p37 : lw_okq (⟨"DyeTankModel", "isMarker", "(I)Z"⟩, 12) := ⟨⟨by decide +kernel, by decide +kernel⟩, List.mem_of_getElem? (i := 545) (by decide +kernel), List.mem_of_getElem? (i := 748) (by decide +kernel), List.mem_of_getElem? (i := 749) (by decide +kernel)⟩
theorem lw_p38 : lw_okq (⟨"DyeTankModel", "keptOf", "(I)I"⟩, 12) := ⟨⟨by decide +kernel, by decide +kernel⟩, List.mem_of_getElem? (i := 545) (by decide +kernel), List.mem_of_getElem? (i := 752) (by decide +kernel), List.mem_of_getElem? (i := 753) (by decide +kernel)⟩
theorem lw_p39 : lw_okq (⟨"DyeTankModel", "whenHolds", "(IIIII)I"⟩, 12) := ⟨⟨by decide +kernel, by decide +kernel⟩, List.mem_of_getElem? (i := 545) (by decide +kernel), List.mem_of_getElem? (i := 764) (by decide +kernel), List.mem_of_getElem? (i := 765) (by decide +kernel)⟩
theorem lw_p40 : lw_okq (⟨"DyeTankModel", "putAside", "()V"⟩, 12) := ⟨⟨by decide +kernel, by decide +kernel⟩, List.mem_of_getElem? (i := 545) (by decide +kernel), List.mem_of_getElem? (i := 768) (by decide +kernel), List.mem_of_getElem? (i := 769) (by decide +kernel)⟩
theorem lw_p41 : lw_okq (⟨"DyeTankModel", "holds", "(IIII)Z"⟩, 12) := ⟨⟨by decide +kernel, by decide +kernel⟩, List.mem_of_getElem? (i := 545) (by decide +kernel), List.mem_of_getElem? (i := 772) (by decide +kernel), List.mem_of_getElem? (i := 773) (by decide +kernel)⟩
theorem lw_p42 : lw_okq (⟨"DyeTankModel", "isSettled", "(I)Z"⟩, 12) := ⟨⟨by decide +kernel, by decide +kernel⟩, List.mem_of_getElem? (i := 545) (by decide +kernel), List.mem_of_getElem? (i := 776) (by decide +kernel), List.mem_of_getElem? (i := 777) (by decide +kernel)⟩
theorem lw_p43 : lw_okq (⟨"DyeTankModel", "hasPart", "(III)Z"⟩, 12) := ⟨⟨by decide +kernel, by decide +kernel⟩, List.mem_of_getElem? (i := 545) (by decide +kernel), List.mem_of_getElem? (i := 780) (by decide +kernel), List.mem_of_getElem? (i := 781) (by decide +kernel)⟩
theorem lw_p44 : lw_okq (⟨"DyeTankModel", "areNear", "(III)Z"⟩, 12) := ⟨⟨by decide +kernel, by decide +kernel⟩, List.mem_of_getElem? (i := 545) (by decide +kernel), List.mem_of_getElem? (i := 784) (by decide +kernel), List.mem_of_getElem? (i := 785) (by decide +kernel)⟩
theorem lw_p45 : lw_okq (⟨"DyeTankModel", "putBack", "()V"⟩, 12) := ⟨⟨by decide +kernel, by decide +kernel⟩, List.mem_of_getElem? (i := 545) (by decide +kernel), List.mem_of_getElem? (i := 788) (by decide +kernel), List.mem_of_getElem? (i := 789) (by decide +kernel)⟩
theorem lw_p46 : lw_okq (⟨"DyeTankModel", "takeStep", "()V"⟩, 12) := ⟨⟨by decide +kernel, by decide +kernel⟩, List.mem_of_getElem? (i := 545) (by decide +kernel), List.mem_of_getElem? (i := 816) (by decide +kernel), List.mem_of_getElem? (i := 817) (by decide +kernel)⟩
theorem lw_p47 : lw_okq (⟨"DyeTankModel", "next", "()I"⟩, 12) := ⟨⟨by decide +kernel, by decide +kernel⟩, List.mem_of_getElem? (i := 545) (by decide +kernel), List.mem_of_getElem? (i := 820) (by decide +kernel), List.mem_of_getElem? (i := 821) (by decide +kernel)⟩
def lw_privs_3 : List (MethodName × Nat) := [(⟨"DyeTankModel", "cellsWith", "(I)I"⟩, 12), (⟨"DyeTankModel", "greatest", "(I)I"⟩, 12), (⟨"DyeTankModel", "meanPlace", "(I)J"⟩, 12), (⟨"DyeTankModel", "unevenness", "(I)J"⟩, 12), (⟨"DyeTankModel", "greatestShear", "()I"⟩, 12), (⟨"DyeTankModel", "isMarker", "(I)Z"⟩, 12), (⟨"DyeTankModel", "keptOf", "(I)I"⟩, 12), (⟨"DyeTankModel", "whenHolds", "(IIIII)I"⟩, 12), (⟨"DyeTankModel", "putAside", "()V"⟩, 12), (⟨"DyeTankModel", "holds", "(IIII)Z"⟩, 12), (⟨"DyeTankModel", "isSettled", "(I)Z"⟩, 12), (⟨"DyeTankModel", "hasPart", "(III)Z"⟩, 12), (⟨"DyeTankModel", "areNear", "(III)Z"⟩, 12), (⟨"DyeTankModel", "putBack", "()V"⟩, 12), (⟨"DyeTankModel", "takeStep", "()V"⟩, 12), (⟨"DyeTankModel", "next", "()I"⟩, 12)]
theorem lw_r3 : ∀ q ∈ lw_privs_3, lw_okq q := List.forall_mem_cons.mpr ⟨lw_p32, List.forall_mem_cons.mpr ⟨lw_p33, List.forall_mem_cons.mpr ⟨lw_p34, List.forall_mem_cons.mpr ⟨lw_p35, List.forall_mem_cons.mpr ⟨lw_p36, List.forall_mem_cons.mpr ⟨lw_p37, List.forall_mem_cons.mpr ⟨lw_p38, List.forall_mem_cons.mpr ⟨lw_p39, List.forall_mem_cons.mpr ⟨lw_p40, List.forall_mem_cons.mpr ⟨lw_p41, List.forall_mem_cons.mpr ⟨lw_p42, List.forall_mem_cons.mpr ⟨lw_p43, List.forall_mem_cons.mpr ⟨lw_p44, List.forall_mem_cons.mpr ⟨lw_p45, List.forall_mem_cons.mpr ⟨lw_p46, List.forall_mem_cons.mpr ⟨lw_p47, fun _ h => absurd h List.not_mem_nil⟩⟩⟩⟩⟩⟩⟩⟩⟩⟩⟩⟩⟩⟩⟩⟩
theorem lw_p48 : lw_okq (⟨"DyeTankModel", "takeNumber", "(II)I"⟩, 12) := ⟨⟨by decide +kernel, by decide +kernel⟩, List.mem_of_getElem? (i := 545) (by decide +kernel), List.mem_of_getElem? (i := 824) (by decide +kernel), List.mem_of_getElem? (i := 825) (by decide +kernel)⟩
theorem lw_p49 : lw_okq (⟨"DyeTankModel", "takeVelocity", "(I)V"⟩, 12) := ⟨⟨by decide +kernel, by decide +kernel⟩, List.mem_of_getElem? (i := 545) (by decide +kernel), List.mem_of_getElem? (i := 828) (by decide +kernel), List.mem_of_getElem? (i := 829) (by decide +kernel)⟩
theorem lw_p50 : lw_okq (⟨"DyeTankModel", "need", "(I)V"⟩, 12) := ⟨⟨by decide +kernel, by decide +kernel⟩, List.mem_of_getElem? (i := 545) (by decide +kernel), List.mem_of_getElem? (i := 832) (by decide +kernel), List.mem_of_getElem? (i := 833) (by decide +kernel)⟩
theorem lw_p51 : lw_okq (⟨"DyeTankModel", "takeDye", "(I)V"⟩, 12) := ⟨⟨by decide +kernel, by decide +kernel⟩, List.mem_of_getElem? (i := 545) (by decide +kernel), List.mem_of_getElem? (i := 836) (by decide +kernel), List.mem_of_getElem? (i := 837) (by decide +kernel)⟩
theorem lw_p52 : lw_okq (⟨"DyeTankModel", "takeOne", "(II)I"⟩, 12) := ⟨⟨by decide +kernel, by decide +kernel⟩, List.mem_of_getElem? (i := 545) (by decide +kernel), List.mem_of_getElem? (i := 840) (by decide +kernel), List.mem_of_getElem? (i := 841) (by decide +kernel)⟩
theorem lw_p53 : lw_okq (⟨"DyeTankModel", "carries", "(I)Z"⟩, 12) := ⟨⟨by decide +kernel, by decide +kernel⟩, List.mem_of_getElem? (i := 545) (by decide +kernel), List.mem_of_getElem? (i := 850) (by decide +kernel), List.mem_of_getElem? (i := 851) (by decide +kernel)⟩
def lw_privs_4 : List (MethodName × Nat) := [(⟨"DyeTankModel", "takeNumber", "(II)I"⟩, 12), (⟨"DyeTankModel", "takeVelocity", "(I)V"⟩, 12), (⟨"DyeTankModel", "need", "(I)V"⟩, 12), (⟨"DyeTankModel", "takeDye", "(I)V"⟩, 12), (⟨"DyeTankModel", "takeOne", "(II)I"⟩, 12), (⟨"DyeTankModel", "carries", "(I)Z"⟩, 12)]
theorem lw_r4 : ∀ q ∈ lw_privs_4, lw_okq q := List.forall_mem_cons.mpr ⟨lw_p48, List.forall_mem_cons.mpr ⟨lw_p49, List.forall_mem_cons.mpr ⟨lw_p50, List.forall_mem_cons.mpr ⟨lw_p51, List.forall_mem_cons.mpr ⟨lw_p52, List.forall_mem_cons.mpr ⟨lw_p53, fun _ h => absurd h List.not_mem_nil⟩⟩⟩⟩⟩⟩
def lw_privs : List (MethodName × Nat) := lw_privs_1 ++ (lw_privs_2 ++ (lw_privs_3 ++ (lw_privs_4)))
def lw_tbl : List Cond := k2_sels lw_privs ++ tables_1
theorem lw_privs_ok : ∀ q ∈ lw_privs, lw_okq q := by
  show ∀ q ∈ lw_privs_1 ++ (lw_privs_2 ++ (lw_privs_3 ++ (lw_privs_4))), lw_okq q
  exact List.forall_mem_append.mpr ⟨lw_r1, List.forall_mem_append.mpr ⟨lw_r2, List.forall_mem_append.mpr ⟨lw_r3, lw_r4⟩⟩⟩
def RX0 : String := "DyeTank$Marker"
def TX0 : u_T := fun k => match k with
  | 0 => ("DyeTank$Marker", "place", "I", false)
  | 1 => ("DyeTank$Marker", "angle", "I", false)
  | 2 => ("DyeTank$Marker", "kept", "I", false)
  | 3 => ("DyeTank$Marker", "crossings", "I", false)
  | 4 => ("DyeTank$Marker", "next", "I", false)
  | 5 => ("DyeTank$Marker", "places", "[I", true)
  | _ => ("DyeTank$Marker", "angles", "[I", true)
def tyX0 : Nat → FieldType := fun k => match k with
  | 0 => .int
  | 1 => .int
  | 2 => .int
  | 3 => .int
  | 4 => .int
  | 5 => .array .int
  | _ => .array .int
abbrev wsX00 : List Cond := u_ws RX0 TX0 7
theorem nmX0 : ∀ a, a < 7 → ∀ b, b < 7 → a ≠ b → (TX0 a).2.1 ≠ (TX0 b).2.1 := by decide +kernel
theorem tyX0_ok : ∀ k, k < 7 → parseFieldDescriptor (TX0 k).2.2.1 = some (tyX0 k) := by decide +kernel
abbrev cX0_init : ByteArray := prog_2_method_1_code
def yX0_init : MethodName := ⟨RX0, "<init>", "()V"⟩
abbrev cX0_putIn : ByteArray := prog_2_method_2_code
def yX0_putIn : MethodName := ⟨RX0, "putIn", "(II)V"⟩
abbrev cX0_becomeLike : ByteArray := prog_2_method_3_code
def yX0_becomeLike : MethodName := ⟨RX0, "becomeLike", "(LDyeTank$Marker;)V"⟩
abbrev cX0_ringNow : ByteArray := prog_2_method_4_code
def yX0_ringNow : MethodName := ⟨RX0, "ringNow", "()I"⟩
abbrev cX0_move : ByteArray := prog_2_method_5_code
def yX0_move : MethodName := ⟨RX0, "move", "(III)V"⟩
abbrev cX0_keepPosition : ByteArray := prog_2_method_6_code
def yX0_keepPosition : MethodName := ⟨RX0, "keepPosition", "()V"⟩
abbrev cX0_placeBack : ByteArray := prog_2_method_7_code
def yX0_placeBack : MethodName := ⟨RX0, "placeBack", "(I)I"⟩
abbrev cX0_angleBack : ByteArray := prog_2_method_8_code
def yX0_angleBack : MethodName := ⟨RX0, "angleBack", "(I)I"⟩
abbrev cX0_isNear : ByteArray := prog_2_method_9_code
def yX0_isNear : MethodName := ⟨RX0, "isNear", "(LDyeTank$Marker;I)Z"⟩
def RX1 : String := "DyeTank$Pad"
def TX1 : u_T := fun k => match k with
  | 0 => ("DyeTank$Pad", "length", "I", false)
  | 1 => ("DyeTank$Pad", "at", "I", false)
  | 2 => ("DyeTank$Pad", "kind", "C", false)
  | 3 => ("DyeTank$Pad", "colour", "I", false)
  | 4 => ("DyeTank$Pad", "layer", "I", false)
  | 5 => ("DyeTank$Pad", "ring", "I", false)
  | 6 => ("DyeTank$Pad", "sector", "I", false)
  | 7 => ("DyeTank$Pad", "number", "I", false)
  | _ => ("DyeTank$Pad", "text", "[C", true)
def tyX1 : Nat → FieldType := fun k => match k with
  | 0 => .int
  | 1 => .int
  | 2 => .char
  | 3 => .int
  | 4 => .int
  | 5 => .int
  | 6 => .int
  | 7 => .int
  | _ => .array .char
abbrev wsX10 : List Cond := u_ws RX1 TX1 9
theorem nmX1 : ∀ a, a < 9 → ∀ b, b < 9 → a ≠ b → (TX1 a).2.1 ≠ (TX1 b).2.1 := by decide +kernel
theorem tyX1_ok : ∀ k, k < 9 → parseFieldDescriptor (TX1 k).2.2.1 = some (tyX1 k) := by decide +kernel
abbrev cX1_init : ByteArray := prog_3_method_1_code
def yX1_init : MethodName := ⟨RX1, "<init>", "()V"⟩
abbrev cX1_append : ByteArray := prog_3_method_2_code
def yX1_append : MethodName := ⟨RX1, "append", "(C)V"⟩
abbrev cX1_firstFault : ByteArray := prog_3_method_3_code
def yX1_firstFault : MethodName := ⟨RX1, "firstFault", "()I"⟩
abbrev cX1_readStep : ByteArray := prog_3_method_4_code
def yX1_readStep : MethodName := ⟨RX1, "readStep", "()Z"⟩
abbrev cX1_readRing : ByteArray := prog_3_method_5_code
def yX1_readRing : MethodName := ⟨RX1, "readRing", "()Z"⟩
abbrev cX1_readVelocity : ByteArray := prog_3_method_6_code
def yX1_readVelocity : MethodName := ⟨RX1, "readVelocity", "()Z"⟩
abbrev cX1_readColour : ByteArray := prog_3_method_7_code
def yX1_readColour : MethodName := ⟨RX1, "readColour", "()Z"⟩
abbrev cX1_readLayer : ByteArray := prog_3_method_8_code
def yX1_readLayer : MethodName := ⟨RX1, "readLayer", "()Z"⟩
abbrev cX1_readSector : ByteArray := prog_3_method_9_code
def yX1_readSector : MethodName := ⟨RX1, "readSector", "()Z"⟩
abbrev cX1_readAmount : ByteArray := prog_3_method_10_code
def yX1_readAmount : MethodName := ⟨RX1, "readAmount", "()Z"⟩
abbrev cX1_readNumber : ByteArray := prog_3_method_11_code
def yX1_readNumber : MethodName := ⟨RX1, "readNumber", "(II)I"⟩
abbrev cX1_digit : ByteArray := prog_3_method_12_code
def yX1_digit : MethodName := ⟨RX1, "digit", "()I"⟩
abbrev cX1_take : ByteArray := prog_3_method_13_code
def yX1_take : MethodName := ⟨RX1, "take", "(C)Z"⟩
abbrev cX1_character : ByteArray := prog_3_method_14_code
def yX1_character : MethodName := ⟨RX1, "character", "()C"⟩
def RX2 : String := "DyeTank$Tank"
def TX2 : u_T := fun k => match k with
  | 0 => ("DyeTank$Tank", "rings", "I", false)
  | 1 => ("DyeTank$Tank", "time", "I", false)
  | 2 => ("DyeTank$Tank", "markerCount", "I", false)
  | 3 => ("DyeTank$Tank", "settings", "[I", true)
  | 4 => ("DyeTank$Tank", "momenta", "[I", true)
  | 5 => ("DyeTank$Tank", "angles", "[I", true)
  | 6 => ("DyeTank$Tank", "totals", "[I", true)
  | 7 => ("DyeTank$Tank", "dyes", "[[I", true)
  | 8 => ("DyeTank$Tank", "markers", "[LDyeTank$Marker;", true)
  | 9 => ("DyeTank$Tank", "speeds", "[I", true)
  | 10 => ("DyeTank$Tank", "pushes", "[I", true)
  | _ => ("DyeTank$Tank", "old", "[I", true)
def tyX2 : Nat → FieldType := fun k => match k with
  | 0 => .int
  | 1 => .int
  | 2 => .int
  | 3 => .array .int
  | 4 => .array .int
  | 5 => .array .int
  | 6 => .array .int
  | 7 => .array (.array .int)
  | 8 => .array (.object "DyeTank$Marker")
  | 9 => .array .int
  | 10 => .array .int
  | _ => .array .int
abbrev wsX20 : List Cond := u_ws RX2 TX2 12
theorem nmX2 : ∀ a, a < 12 → ∀ b, b < 12 → a ≠ b → (TX2 a).2.1 ≠ (TX2 b).2.1 := by decide +kernel
theorem tyX2_ok : ∀ k, k < 12 → parseFieldDescriptor (TX2 k).2.2.1 = some (tyX2 k) := by decide +kernel
abbrev cX2_init : ByteArray := prog_4_method_1_code
def yX2_init : MethodName := ⟨RX2, "<init>", "()V"⟩
abbrev cX2_startAgain : ByteArray := prog_4_method_2_code
def yX2_startAgain : MethodName := ⟨RX2, "startAgain", "(I)V"⟩
abbrev cX2_becomeLike : ByteArray := prog_4_method_3_code
def yX2_becomeLike : MethodName := ⟨RX2, "becomeLike", "(LDyeTank$Tank;)V"⟩
abbrev cX2_hasRing : ByteArray := prog_4_method_4_code
def yX2_hasRing : MethodName := ⟨RX2, "hasRing", "(I)Z"⟩
abbrev cX2_hasMarker : ByteArray := prog_4_method_5_code
def yX2_hasMarker : MethodName := ⟨RX2, "hasMarker", "(I)Z"⟩
abbrev cX2_lastPlace : ByteArray := prog_4_method_6_code
def yX2_lastPlace : MethodName := ⟨RX2, "lastPlace", "()I"⟩
abbrev cX2_weightOf : ByteArray := prog_4_method_7_code
def yX2_weightOf : MethodName := ⟨RX2, "weightOf", "(I)I"⟩
abbrev cX2_velocityOf : ByteArray := prog_4_method_8_code
def yX2_velocityOf : MethodName := ⟨RX2, "velocityOf", "(I)I"⟩
abbrev cX2_giveVelocity : ByteArray := prog_4_method_9_code
def yX2_giveVelocity : MethodName := ⟨RX2, "giveVelocity", "(II)V"⟩
abbrev cX2_giveVelocities : ByteArray := prog_4_method_10_code
def yX2_giveVelocities : MethodName := ⟨RX2, "giveVelocities", "(II)V"⟩
abbrev cX2_pushOf : ByteArray := prog_4_method_11_code
def yX2_pushOf : MethodName := ⟨RX2, "pushOf", "(I)I"⟩
abbrev cX2_allMomenta : ByteArray := prog_4_method_12_code
def yX2_allMomenta : MethodName := ⟨RX2, "allMomenta", "()I"⟩
abbrev cX2_greatestShear : ByteArray := prog_4_method_13_code
def yX2_greatestShear : MethodName := ⟨RX2, "greatestShear", "()I"⟩
abbrev cX2_turnsWithFloor : ByteArray := prog_4_method_14_code
def yX2_turnsWithFloor : MethodName := ⟨RX2, "turnsWithFloor", "(I)Z"⟩
abbrev cX2_rowOf : ByteArray := prog_4_method_15_code
def yX2_rowOf : MethodName := ⟨RX2, "rowOf", "(II)I"⟩
abbrev cX2_cellIn : ByteArray := prog_4_method_16_code
def yX2_cellIn : MethodName := ⟨RX2, "cellIn", "(III)I"⟩
abbrev cX2_amountInRing : ByteArray := prog_4_method_17_code
def yX2_amountInRing : MethodName := ⟨RX2, "amountInRing", "(II)I"⟩
abbrev cX2_amountInTop : ByteArray := prog_4_method_18_code
def yX2_amountInTop : MethodName := ⟨RX2, "amountInTop", "(I)I"⟩
abbrev cX2_amountInRow : ByteArray := prog_4_method_19_code
def yX2_amountInRow : MethodName := ⟨RX2, "amountInRow", "(III)I"⟩
abbrev cX2_cellsWith : ByteArray := prog_4_method_20_code
def yX2_cellsWith : MethodName := ⟨RX2, "cellsWith", "(I)I"⟩
abbrev cX2_greatestAmount : ByteArray := prog_4_method_21_code
def yX2_greatestAmount : MethodName := ⟨RX2, "greatestAmount", "(I)I"⟩
abbrev cX2_meanPlace : ByteArray := prog_4_method_22_code
def yX2_meanPlace : MethodName := ⟨RX2, "meanPlace", "(I)J"⟩
abbrev cX2_unevenness : ByteArray := prog_4_method_23_code
def yX2_unevenness : MethodName := ⟨RX2, "unevenness", "(I)J"⟩
abbrev cX2_makeTick : ByteArray := prog_4_method_24_code
def yX2_makeTick : MethodName := ⟨RX2, "makeTick", "()V"⟩
abbrev cX2_turn : ByteArray := prog_4_method_25_code
def yX2_turn : MethodName := ⟨RX2, "turn", "()V"⟩
abbrev cX2_changeMomenta : ByteArray := prog_4_method_26_code
def yX2_changeMomenta : MethodName := ⟨RX2, "changeMomenta", "()V"⟩
abbrev cX2_carry : ByteArray := prog_4_method_27_code
def yX2_carry : MethodName := ⟨RX2, "carry", "(I)V"⟩
abbrev cX2_moveRow : ByteArray := prog_4_method_28_code
def yX2_moveRow : MethodName := ⟨RX2, "moveRow", "([IIIII)V"⟩
abbrev cX2_mixLayers : ByteArray := prog_4_method_29_code
def yX2_mixLayers : MethodName := ⟨RX2, "mixLayers", "([I)V"⟩
abbrev cX2_moveMarkers : ByteArray := prog_4_method_30_code
def yX2_moveMarkers : MethodName := ⟨RX2, "moveMarkers", "()V"⟩
def RX3 : String := "DyeTank"
def TX3 : u_T := fun k => match k with
  | 0 => ("DyeTank", "tank", "LDyeTank$Tank;", true)
  | 1 => ("DyeTank", "copy", "LDyeTank$Tank;", true)
  | 2 => ("DyeTank", "slots", "[LDyeTank$Tank;", true)
  | 3 => ("DyeTank", "saved", "[Z", true)
  | _ => ("DyeTank", "pad", "LDyeTank$Pad;", true)
def tyX3 : Nat → FieldType := fun k => match k with
  | 0 => .object "DyeTank$Tank"
  | 1 => .object "DyeTank$Tank"
  | 2 => .array (.object "DyeTank$Tank")
  | 3 => .array .boolean
  | _ => .object "DyeTank$Pad"
abbrev wsX30 : List Cond := u_ws RX3 TX3 5
theorem nmX3 : ∀ a, a < 5 → ∀ b, b < 5 → a ≠ b → (TX3 a).2.1 ≠ (TX3 b).2.1 := by decide +kernel
theorem tyX3_ok : ∀ k, k < 5 → parseFieldDescriptor (TX3 k).2.2.1 = some (tyX3 k) := by decide +kernel
abbrev cX3_init : ByteArray := prog_1_method_1_code
def yX3_init : MethodName := ⟨RX3, "<init>", "()V"⟩
abbrev cX3_setUp : ByteArray := prog_1_method_2_code
def yX3_setUp : MethodName := ⟨RX3, "setUp", "(I)I"⟩
abbrev cX3_set : ByteArray := prog_1_method_3_code
def yX3_set : MethodName := ⟨RX3, "set", "(II)I"⟩
abbrev cX3_spin : ByteArray := prog_1_method_4_code
def yX3_spin : MethodName := ⟨RX3, "spin", "(II)I"⟩
abbrev cX3_spinAll : ByteArray := prog_1_method_5_code
def yX3_spinAll : MethodName := ⟨RX3, "spinAll", "(II)I"⟩
abbrev cX3_pour : ByteArray := prog_1_method_6_code
def yX3_pour : MethodName := ⟨RX3, "pour", "(IIIII)I"⟩
abbrev cX3_tick : ByteArray := prog_1_method_7_code
def yX3_tick : MethodName := ⟨RX3, "tick", "(I)I"⟩
abbrev cX3_ring : ByteArray := prog_1_method_8_code
def yX3_ring : MethodName := ⟨RX3, "ring", "(II)I"⟩
abbrev cX3_dye : ByteArray := prog_1_method_9_code
def yX3_dye : MethodName := ⟨RX3, "dye", "(IIII)I"⟩
abbrev cX3_colour : ByteArray := prog_1_method_10_code
def yX3_colour : MethodName := ⟨RX3, "colour", "(II)J"⟩
abbrev cX3_state : ByteArray := prog_1_method_11_code
def yX3_state : MethodName := ⟨RX3, "state", "(I)I"⟩
abbrev cX3_marker : ByteArray := prog_1_method_12_code
def yX3_marker : MethodName := ⟨RX3, "marker", "(II)I"⟩
abbrev cX3_where : ByteArray := prog_1_method_13_code
def yX3_where : MethodName := ⟨RX3, "where", "(II)I"⟩
abbrev cX3_path : ByteArray := prog_1_method_14_code
def yX3_path : MethodName := ⟨RX3, "path", "(III)I"⟩
abbrev cX3_settles : ByteArray := prog_1_method_15_code
def yX3_settles : MethodName := ⟨RX3, "settles", "(II)I"⟩
abbrev cX3_arrives : ByteArray := prog_1_method_16_code
def yX3_arrives : MethodName := ⟨RX3, "arrives", "(IIII)I"⟩
abbrev cX3_meet : ByteArray := prog_1_method_17_code
def yX3_meet : MethodName := ⟨RX3, "meet", "(IIII)I"⟩
abbrev cX3_leastEkman : ByteArray := prog_1_method_18_code
def yX3_leastEkman : MethodName := ⟨RX3, "leastEkman", "(III)I"⟩
abbrev cX3_placeWith : ByteArray := prog_1_method_19_code
def yX3_placeWith : MethodName := ⟨RX3, "placeWith", "(III)J"⟩
abbrev cX3_say : ByteArray := prog_1_method_20_code
def yX3_say : MethodName := ⟨RX3, "say", "(I)I"⟩
abbrev cX3_wipe : ByteArray := prog_1_method_21_code
def yX3_wipe : MethodName := ⟨RX3, "wipe", "()I"⟩
abbrev cX3_fault : ByteArray := prog_1_method_22_code
def yX3_fault : MethodName := ⟨RX3, "fault", "()I"⟩
abbrev cX3_carryOut : ByteArray := prog_1_method_23_code
def yX3_carryOut : MethodName := ⟨RX3, "carryOut", "()I"⟩
abbrev cX3_carriedOut : ByteArray := prog_1_method_24_code
def yX3_carriedOut : MethodName := ⟨RX3, "carriedOut", "()Z"⟩
abbrev cX3_save : ByteArray := prog_1_method_25_code
def yX3_save : MethodName := ⟨RX3, "save", "(I)I"⟩
abbrev cX3_restore : ByteArray := prog_1_method_26_code
def yX3_restore : MethodName := ⟨RX3, "restore", "(I)I"⟩
abbrev cX3_isPlaceOfDye : ByteArray := prog_1_method_27_code
def yX3_isPlaceOfDye : MethodName := ⟨RX3, "isPlaceOfDye", "(IIII)Z"⟩
abbrev cX3_isColour : ByteArray := prog_1_method_28_code
def yX3_isColour : MethodName := ⟨RX3, "isColour", "(I)Z"⟩
abbrev cX3_isSpeed : ByteArray := prog_1_method_29_code
def yX3_isSpeed : MethodName := ⟨RX3, "isSpeed", "(I)Z"⟩
abbrev cX3_within : ByteArray := prog_1_method_30_code
def yX3_within : MethodName := ⟨RX3, "within", "(III)Z"⟩
def RX4 : String := "DyeTankModel"
def TX4 : u_T := fun k => match k with
  | 0 => ("DyeTankModel", "at", "[I", true)
  | 1 => ("DyeTankModel", "aside", "[I", true)
  | 2 => ("DyeTankModel", "slots", "[I", true)
  | 3 => ("DyeTankModel", "isSaved", "[Z", true)
  | 4 => ("DyeTankModel", "before", "[I", true)
  | 5 => ("DyeTankModel", "speed", "[I", true)
  | 6 => ("DyeTankModel", "pad", "[I", true)
  | 7 => ("DyeTankModel", "padMany", "I", false)
  | 8 => ("DyeTankModel", "spot", "I", false)
  | 9 => ("DyeTankModel", "isWrong", "Z", false)
  | 10 => ("DyeTankModel", "steps", "[I", true)
  | _ => ("DyeTankModel", "stepMany", "I", false)
def tyX4 : Nat → FieldType := fun k => match k with
  | 0 => .array .int
  | 1 => .array .int
  | 2 => .array .int
  | 3 => .array .boolean
  | 4 => .array .int
  | 5 => .array .int
  | 6 => .array .int
  | 7 => .int
  | 8 => .int
  | 9 => .boolean
  | 10 => .array .int
  | _ => .int
abbrev wsX40 : List Cond := u_ws RX4 TX4 12
theorem nmX4 : ∀ a, a < 12 → ∀ b, b < 12 → a ≠ b → (TX4 a).2.1 ≠ (TX4 b).2.1 := by decide +kernel
theorem tyX4_ok : ∀ k, k < 12 → parseFieldDescriptor (TX4 k).2.2.1 = some (tyX4 k) := by decide +kernel
abbrev cX4_init : ByteArray := prog_6_method_1_code
def yX4_init : MethodName := ⟨RX4, "<init>", "()V"⟩
abbrev cX4_in : ByteArray := prog_6_method_2_code
def yX4_in : MethodName := ⟨RX4, "in", "(III)Z"⟩
abbrev cX4_down : ByteArray := prog_6_method_3_code
def yX4_down : MethodName := ⟨RX4, "down", "(II)I"⟩
abbrev cX4_mod : ByteArray := prog_6_method_4_code
def yX4_mod : MethodName := ⟨RX4, "mod", "(II)I"⟩
abbrev cX4_begin : ByteArray := prog_6_method_5_code
def yX4_begin : MethodName := ⟨RX4, "begin", "(I)V"⟩
abbrev cX4_putAside : ByteArray := prog_6_method_6_code
def yX4_putAside : MethodName := ⟨RX4, "putAside", "()V"⟩
abbrev cX4_putBack : ByteArray := prog_6_method_7_code
def yX4_putBack : MethodName := ⟨RX4, "putBack", "()V"⟩
abbrev cX4_isRing : ByteArray := prog_6_method_8_code
def yX4_isRing : MethodName := ⟨RX4, "isRing", "(I)Z"⟩
abbrev cX4_velocity : ByteArray := prog_6_method_9_code
def yX4_velocity : MethodName := ⟨RX4, "velocity", "(I)I"⟩
abbrev cX4_setUp : ByteArray := prog_6_method_10_code
def yX4_setUp : MethodName := ⟨RX4, "setUp", "(I)I"⟩
abbrev cX4_takes : ByteArray := prog_6_method_11_code
def yX4_takes : MethodName := ⟨RX4, "takes", "(II)Z"⟩
abbrev cX4_set : ByteArray := prog_6_method_12_code
def yX4_set : MethodName := ⟨RX4, "set", "(II)I"⟩
abbrev cX4_isVelocity : ByteArray := prog_6_method_13_code
def yX4_isVelocity : MethodName := ⟨RX4, "isVelocity", "(I)Z"⟩
abbrev cX4_spin : ByteArray := prog_6_method_14_code
def yX4_spin : MethodName := ⟨RX4, "spin", "(II)I"⟩
abbrev cX4_momenta : ByteArray := prog_6_method_15_code
def yX4_momenta : MethodName := ⟨RX4, "momenta", "()I"⟩
abbrev cX4_spinAll : ByteArray := prog_6_method_16_code
def yX4_spinAll : MethodName := ⟨RX4, "spinAll", "(II)I"⟩
abbrev cX4_dyeAt : ByteArray := prog_6_method_17_code
def yX4_dyeAt : MethodName := ⟨RX4, "dyeAt", "(IIII)I"⟩
abbrev cX4_cellIn : ByteArray := prog_6_method_18_code
def yX4_cellIn : MethodName := ⟨RX4, "cellIn", "(II)I"⟩
abbrev cX4_isPlace : ByteArray := prog_6_method_19_code
def yX4_isPlace : MethodName := ⟨RX4, "isPlace", "(IIII)Z"⟩
abbrev cX4_amountOf : ByteArray := prog_6_method_20_code
def yX4_amountOf : MethodName := ⟨RX4, "amountOf", "(IIII)I"⟩
abbrev cX4_allOf : ByteArray := prog_6_method_21_code
def yX4_allOf : MethodName := ⟨RX4, "allOf", "(I)I"⟩
abbrev cX4_pour : ByteArray := prog_6_method_22_code
def yX4_pour : MethodName := ⟨RX4, "pour", "(IIIII)I"⟩
abbrev cX4_stepMomenta : ByteArray := prog_6_method_23_code
def yX4_stepMomenta : MethodName := ⟨RX4, "stepMomenta", "()V"⟩
abbrev cX4_push : ByteArray := prog_6_method_24_code
def yX4_push : MethodName := ⟨RX4, "push", "(I)I"⟩
abbrev cX4_stepRing : ByteArray := prog_6_method_25_code
def yX4_stepRing : MethodName := ⟨RX4, "stepRing", "(III)V"⟩
abbrev cX4_stepDyes : ByteArray := prog_6_method_26_code
def yX4_stepDyes : MethodName := ⟨RX4, "stepDyes", "()V"⟩
abbrev cX4_mix : ByteArray := prog_6_method_27_code
def yX4_mix : MethodName := ⟨RX4, "mix", "()V"⟩
abbrev cX4_stepMarker : ByteArray := prog_6_method_28_code
def yX4_stepMarker : MethodName := ⟨RX4, "stepMarker", "(I)V"⟩
abbrev cX4_makeTick : ByteArray := prog_6_method_29_code
def yX4_makeTick : MethodName := ⟨RX4, "makeTick", "()V"⟩
abbrev cX4_tick : ByteArray := prog_6_method_30_code
def yX4_tick : MethodName := ⟨RX4, "tick", "(I)I"⟩
abbrev cX4_ring : ByteArray := prog_6_method_31_code
def yX4_ring : MethodName := ⟨RX4, "ring", "(II)I"⟩
abbrev cX4_dye : ByteArray := prog_6_method_32_code
def yX4_dye : MethodName := ⟨RX4, "dye", "(IIII)I"⟩
abbrev cX4_cellsWith : ByteArray := prog_6_method_33_code
def yX4_cellsWith : MethodName := ⟨RX4, "cellsWith", "(I)I"⟩
abbrev cX4_greatest : ByteArray := prog_6_method_34_code
def yX4_greatest : MethodName := ⟨RX4, "greatest", "(I)I"⟩
abbrev cX4_meanPlace : ByteArray := prog_6_method_35_code
def yX4_meanPlace : MethodName := ⟨RX4, "meanPlace", "(I)J"⟩
abbrev cX4_unevenness : ByteArray := prog_6_method_36_code
def yX4_unevenness : MethodName := ⟨RX4, "unevenness", "(I)J"⟩
abbrev cX4_isColour : ByteArray := prog_6_method_37_code
def yX4_isColour : MethodName := ⟨RX4, "isColour", "(I)Z"⟩
abbrev cX4_colour : ByteArray := prog_6_method_38_code
def yX4_colour : MethodName := ⟨RX4, "colour", "(II)J"⟩
abbrev cX4_greatestShear : ByteArray := prog_6_method_39_code
def yX4_greatestShear : MethodName := ⟨RX4, "greatestShear", "()I"⟩
abbrev cX4_state : ByteArray := prog_6_method_40_code
def yX4_state : MethodName := ⟨RX4, "state", "(I)I"⟩
abbrev cX4_marker : ByteArray := prog_6_method_41_code
def yX4_marker : MethodName := ⟨RX4, "marker", "(II)I"⟩
abbrev cX4_isMarker : ByteArray := prog_6_method_42_code
def yX4_isMarker : MethodName := ⟨RX4, "isMarker", "(I)Z"⟩
abbrev cX4_keptOf : ByteArray := prog_6_method_43_code
def yX4_keptOf : MethodName := ⟨RX4, "keptOf", "(I)I"⟩
abbrev cX4_where : ByteArray := prog_6_method_44_code
def yX4_where : MethodName := ⟨RX4, "where", "(II)I"⟩
abbrev cX4_path : ByteArray := prog_6_method_45_code
def yX4_path : MethodName := ⟨RX4, "path", "(III)I"⟩
abbrev cX4_isSettled : ByteArray := prog_6_method_46_code
def yX4_isSettled : MethodName := ⟨RX4, "isSettled", "(I)Z"⟩
abbrev cX4_hasPart : ByteArray := prog_6_method_47_code
def yX4_hasPart : MethodName := ⟨RX4, "hasPart", "(III)Z"⟩
abbrev cX4_areNear : ByteArray := prog_6_method_48_code
def yX4_areNear : MethodName := ⟨RX4, "areNear", "(III)Z"⟩
abbrev cX4_holds : ByteArray := prog_6_method_49_code
def yX4_holds : MethodName := ⟨RX4, "holds", "(IIII)Z"⟩
abbrev cX4_whenHolds : ByteArray := prog_6_method_50_code
def yX4_whenHolds : MethodName := ⟨RX4, "whenHolds", "(IIIII)I"⟩
abbrev cX4_settles : ByteArray := prog_6_method_51_code
def yX4_settles : MethodName := ⟨RX4, "settles", "(II)I"⟩
abbrev cX4_arrives : ByteArray := prog_6_method_52_code
def yX4_arrives : MethodName := ⟨RX4, "arrives", "(IIII)I"⟩
abbrev cX4_meet : ByteArray := prog_6_method_53_code
def yX4_meet : MethodName := ⟨RX4, "meet", "(IIII)I"⟩
abbrev cX4_leastEkman : ByteArray := prog_6_method_54_code
def yX4_leastEkman : MethodName := ⟨RX4, "leastEkman", "(III)I"⟩
abbrev cX4_say : ByteArray := prog_6_method_55_code
def yX4_say : MethodName := ⟨RX4, "say", "(I)I"⟩
abbrev cX4_wipe : ByteArray := prog_6_method_56_code
def yX4_wipe : MethodName := ⟨RX4, "wipe", "()I"⟩
abbrev cX4_next : ByteArray := prog_6_method_57_code
def yX4_next : MethodName := ⟨RX4, "next", "()I"⟩
abbrev cX4_takeNumber : ByteArray := prog_6_method_58_code
def yX4_takeNumber : MethodName := ⟨RX4, "takeNumber", "(II)I"⟩
abbrev cX4_need : ByteArray := prog_6_method_59_code
def yX4_need : MethodName := ⟨RX4, "need", "(I)V"⟩
abbrev cX4_takeOne : ByteArray := prog_6_method_60_code
def yX4_takeOne : MethodName := ⟨RX4, "takeOne", "(II)I"⟩
abbrev cX4_takeVelocity : ByteArray := prog_6_method_61_code
def yX4_takeVelocity : MethodName := ⟨RX4, "takeVelocity", "(I)V"⟩
abbrev cX4_takeDye : ByteArray := prog_6_method_62_code
def yX4_takeDye : MethodName := ⟨RX4, "takeDye", "(I)V"⟩
abbrev cX4_takeStep : ByteArray := prog_6_method_63_code
def yX4_takeStep : MethodName := ⟨RX4, "takeStep", "()V"⟩
abbrev cX4_fault : ByteArray := prog_6_method_64_code
def yX4_fault : MethodName := ⟨RX4, "fault", "()I"⟩
abbrev cX4_carries : ByteArray := prog_6_method_65_code
def yX4_carries : MethodName := ⟨RX4, "carries", "(I)Z"⟩
abbrev cX4_carryOut : ByteArray := prog_6_method_66_code
def yX4_carryOut : MethodName := ⟨RX4, "carryOut", "()I"⟩
abbrev cX4_save : ByteArray := prog_6_method_67_code
def yX4_save : MethodName := ⟨RX4, "save", "(I)I"⟩
abbrev cX4_restore : ByteArray := prog_6_method_68_code
def yX4_restore : MethodName := ⟨RX4, "restore", "(I)I"⟩
def RJ9 : String := "java/lang/Math"
def TJ9 : u_T := fun k => match k with
  | _ => ("", "", "", false)
def tyJ9 : Nat → FieldType := fun k => match k with
  | _ => .int
abbrev wsJ90 : List Cond := u_ws RJ9 TJ9 0
theorem nmJ9 : ∀ a, a < 0 → ∀ b, b < 0 → a ≠ b → (TJ9 a).2.1 ≠ (TJ9 b).2.1 := by decide +kernel
theorem tyJ9_ok : ∀ k, k < 0 → parseFieldDescriptor (TJ9 k).2.2.1 = some (tyJ9 k) := by decide +kernel
abbrev cJ9_floorDiv_7cf53 : ByteArray := prog_7_method_47_code
def yJ9_floorDiv_7cf53 : MethodName := ⟨RJ9, "floorDiv", "(II)I"⟩
abbrev cJ9_floorMod_7cf53 : ByteArray := prog_7_method_50_code
def yJ9_floorMod_7cf53 : MethodName := ⟨RJ9, "floorMod", "(II)I"⟩
abbrev cJ9_abs_0f7a4 : ByteArray := prog_7_method_59_code
def yJ9_abs_0f7a4 : MethodName := ⟨RJ9, "abs", "(I)I"⟩
abbrev cJ9_abs_067f4 : ByteArray := prog_7_method_61_code
def yJ9_abs_067f4 : MethodName := ⟨RJ9, "abs", "(J)J"⟩
abbrev cJ9_max_7cf53 : ByteArray := prog_7_method_65_code
def yJ9_max_7cf53 : MethodName := ⟨RJ9, "max", "(II)I"⟩
abbrev cJ9_min_7cf53 : ByteArray := prog_7_method_69_code
def yJ9_min_7cf53 : MethodName := ⟨RJ9, "min", "(II)I"⟩
def RJ10 : String := "java/lang/System"
def TJ10 : u_T := fun k => match k with
  | _ => ("", "", "", false)
def tyJ10 : Nat → FieldType := fun k => match k with
  | _ => .int
abbrev wsJ100 : List Cond := u_ws RJ10 TJ10 0
theorem nmJ10 : ∀ a, a < 0 → ∀ b, b < 0 → a ≠ b → (TJ10 a).2.1 ≠ (TJ10 b).2.1 := by decide +kernel
theorem tyJ10_ok : ∀ k, k < 0 → parseFieldDescriptor (TJ10 k).2.2.1 = some (tyJ10 k) := by decide +kernel
def RJ7 : String := "java/util/Arrays"
def TJ7 : u_T := fun k => match k with
  | _ => ("", "", "", false)
def tyJ7 : Nat → FieldType := fun k => match k with
  | _ => .int
abbrev wsJ70 : List Cond := u_ws RJ7 TJ7 0
theorem nmJ7 : ∀ a, a < 0 → ∀ b, b < 0 → a ≠ b → (TJ7 a).2.1 ≠ (TJ7 b).2.1 := by decide +kernel
theorem tyJ7_ok : ∀ k, k < 0 → parseFieldDescriptor (TJ7 k).2.2.1 = some (tyJ7 k) := by decide +kernel
abbrev cJ7_fill_53178 : ByteArray := prog_9_method_103_code
def yJ7_fill_53178 : MethodName := ⟨RJ7, "fill", "([II)V"⟩
def RL : String := "DyeTankLaw"
abbrev cL_law : ByteArray := code
def yL_law : MethodName := ⟨RL, "law", "([I)Z"⟩
abbrev vwCl : List vw_C := [(RX0, TX0, 7), (RX1, TX1, 9), (RX2, TX2, 12), (RX3, TX3, 5), (RX4, TX4, 12)]
end
section
def zT : List Cond := lw_tbl.filter goodWord
theorem zT_good : GoodIn zT zT := fun w h => ⟨h, good_of_word (List.mem_filter.mp h).2⟩
theorem zT_in {w : Cond} (h : w ∈ lw_tbl) (g : goodWord w = true) : w ∈ zT := List.mem_filter.mpr ⟨h, g⟩
theorem tw_0 : (Cond.initialized "DyeTankLaw") ∈ zT := zT_in (List.mem_append_right _ (List.mem_of_getElem? (i := 0) (by decide +kernel))) (by decide +kernel)
theorem tw_1 : (Cond.initialized "DyeTank") ∈ zT := zT_in (List.mem_append_right _ (List.mem_of_getElem? (i := 1) (by decide +kernel))) (by decide +kernel)
theorem tw_2 : (Cond.initialized "DyeTank$Tank") ∈ zT := zT_in (List.mem_append_right _ (List.mem_of_getElem? (i := 2) (by decide +kernel))) (by decide +kernel)
theorem tw_3 : (Cond.initialized "DyeTank$Marker") ∈ zT := zT_in (List.mem_append_right _ (List.mem_of_getElem? (i := 3) (by decide +kernel))) (by decide +kernel)
theorem tw_4 : (Cond.initialized "java/lang/System") ∈ zT := zT_in (List.mem_append_right _ (List.mem_of_getElem? (i := 4) (by decide +kernel))) (by decide +kernel)
theorem tw_5 : (Cond.initialized "java/util/Arrays") ∈ zT := zT_in (List.mem_append_right _ (List.mem_of_getElem? (i := 5) (by decide +kernel))) (by decide +kernel)
theorem tw_6 : (Cond.initialized "DyeTank$Pad") ∈ zT := zT_in (List.mem_append_right _ (List.mem_of_getElem? (i := 6) (by decide +kernel))) (by decide +kernel)
theorem tw_7 : (Cond.initialized "DyeTankModel") ∈ zT := zT_in (List.mem_append_right _ (List.mem_of_getElem? (i := 7) (by decide +kernel))) (by decide +kernel)
theorem tw_8 : (Cond.initialized "java/lang/Math") ∈ zT := zT_in (List.mem_append_right _ (List.mem_of_getElem? (i := 8) (by decide +kernel))) (by decide +kernel)
theorem tw_9 : (Cond.classLink "DyeTankLaw" 7 "DyeTank") ∈ zT := zT_in (List.mem_append_right _ (List.mem_of_getElem? (i := 9) (by decide +kernel))) (by decide +kernel)
theorem tw_10 : (Cond.instantiable "DyeTank" 5) ∈ zT := zT_in (List.mem_append_right _ (List.mem_of_getElem? (i := 10) (by decide +kernel))) (by decide +kernel)
theorem tw_11 : (Cond.methodLink "DyeTankLaw" 9 yX3_init) ∈ zT := zT_in (List.mem_append_right _ (List.mem_of_getElem? (i := 11) (by decide +kernel))) (by decide +kernel)
theorem tw_12 : (Cond.instanceMethod yX3_init) ∈ zT := zT_in (List.mem_append_right _ (List.mem_of_getElem? (i := 12) (by decide +kernel))) (by decide +kernel)
theorem tw_13 : (Cond.code yX3_init prog_1_method_1_code 2 (none : Option Jvm.ClassFile.FieldType)) ∈ zT := zT_in (List.mem_append_right _ (List.mem_of_getElem? (i := 13) (by decide +kernel))) (by decide +kernel)
theorem tw_14 : (Cond.methodLink "DyeTank" 1 ⟨"java/lang/Object", "<init>", "()V"⟩) ∈ zT := zT_in (List.mem_append_right _ (List.mem_of_getElem? (i := 14) (by decide +kernel))) (by decide +kernel)
theorem tw_15 : (Cond.instanceMethod ⟨"java/lang/Object", "<init>", "()V"⟩) ∈ zT := zT_in (List.mem_append_right _ (List.mem_of_getElem? (i := 15) (by decide +kernel))) (by decide +kernel)
theorem tw_16 : (Cond.code ⟨"java/lang/Object", "<init>", "()V"⟩ object_method_1_code 1 (none : Option Jvm.ClassFile.FieldType)) ∈ zT := zT_in (List.mem_append_right _ (List.mem_of_getElem? (i := 16) (by decide +kernel))) (by decide +kernel)
theorem tw_17 : (Cond.classLink "DyeTank" 7 "DyeTank$Tank") ∈ zT := zT_in (List.mem_append_right _ (List.mem_of_getElem? (i := 17) (by decide +kernel))) (by decide +kernel)
theorem tw_18 : (Cond.instantiable "DyeTank$Tank" 12) ∈ zT := zT_in (List.mem_append_right _ (List.mem_of_getElem? (i := 18) (by decide +kernel))) (by decide +kernel)
theorem tw_19 : (Cond.methodLink "DyeTank" 9 yX2_init) ∈ zT := zT_in (List.mem_append_right _ (List.mem_of_getElem? (i := 19) (by decide +kernel))) (by decide +kernel)
theorem tw_20 : (Cond.instanceMethod yX2_init) ∈ zT := zT_in (List.mem_append_right _ (List.mem_of_getElem? (i := 20) (by decide +kernel))) (by decide +kernel)
theorem tw_21 : (Cond.code yX2_init prog_4_method_1_code 2 (none : Option Jvm.ClassFile.FieldType)) ∈ zT := zT_in (List.mem_append_right _ (List.mem_of_getElem? (i := 21) (by decide +kernel))) (by decide +kernel)
theorem tw_22 : (Cond.methodLink "DyeTank$Tank" 3 ⟨"java/lang/Object", "<init>", "()V"⟩) ∈ zT := zT_in (List.mem_append_right _ (List.mem_of_getElem? (i := 22) (by decide +kernel))) (by decide +kernel)
theorem tw_23 : (Cond.classLink "DyeTank$Tank" 24 "[[I") ∈ zT := zT_in (List.mem_append_right _ (List.mem_of_getElem? (i := 23) (by decide +kernel))) (by decide +kernel)
theorem tw_24 : (Cond.arrayOver (.array .int)) ∈ lw_tbl := List.mem_append_right _ (List.mem_of_getElem? (i := 24) (by decide +kernel))
theorem tw_25 : (Cond.classLink "DyeTank$Tank" 29 "DyeTank$Marker") ∈ zT := zT_in (List.mem_append_right _ (List.mem_of_getElem? (i := 25) (by decide +kernel))) (by decide +kernel)
theorem tw_26 : (Cond.arrayOver (.object "DyeTank$Marker")) ∈ lw_tbl := List.mem_append_right _ (List.mem_of_getElem? (i := 26) (by decide +kernel))
theorem tw_27 : (Cond.instantiable "DyeTank$Marker" 7) ∈ zT := zT_in (List.mem_append_right _ (List.mem_of_getElem? (i := 27) (by decide +kernel))) (by decide +kernel)
theorem tw_28 : (Cond.methodLink "DyeTank$Tank" 44 yX0_init) ∈ zT := zT_in (List.mem_append_right _ (List.mem_of_getElem? (i := 28) (by decide +kernel))) (by decide +kernel)
theorem tw_29 : (Cond.instanceMethod yX0_init) ∈ zT := zT_in (List.mem_append_right _ (List.mem_of_getElem? (i := 29) (by decide +kernel))) (by decide +kernel)
theorem tw_30 : (Cond.code yX0_init prog_2_method_1_code 1 (none : Option Jvm.ClassFile.FieldType)) ∈ zT := zT_in (List.mem_append_right _ (List.mem_of_getElem? (i := 30) (by decide +kernel))) (by decide +kernel)
theorem tw_31 : (Cond.methodLink "DyeTank$Marker" 3 ⟨"java/lang/Object", "<init>", "()V"⟩) ∈ zT := zT_in (List.mem_append_right _ (List.mem_of_getElem? (i := 31) (by decide +kernel))) (by decide +kernel)
theorem tw_32 : (Cond.fieldLink "DyeTank$Marker" 18 "DyeTank$Marker" "place" "I") ∈ zT := zT_in (List.mem_append_right _ (List.mem_of_getElem? (i := 32) (by decide +kernel))) (by decide +kernel)
theorem tw_33 : (Cond.fieldLink "DyeTank" 164 "DyeTank$Marker" "place" "I") ∈ zT := zT_in (List.mem_append_right _ (List.mem_of_getElem? (i := 33) (by decide +kernel))) (by decide +kernel)
theorem tw_34 : (Cond.fieldLink "DyeTank$Marker" 22 "DyeTank$Marker" "angle" "I") ∈ zT := zT_in (List.mem_append_right _ (List.mem_of_getElem? (i := 34) (by decide +kernel))) (by decide +kernel)
theorem tw_35 : (Cond.fieldLink "DyeTank" 167 "DyeTank$Marker" "angle" "I") ∈ zT := zT_in (List.mem_append_right _ (List.mem_of_getElem? (i := 35) (by decide +kernel))) (by decide +kernel)
theorem tw_36 : (Cond.fieldLink "DyeTank$Marker" 25 "DyeTank$Marker" "kept" "I") ∈ zT := zT_in (List.mem_append_right _ (List.mem_of_getElem? (i := 36) (by decide +kernel))) (by decide +kernel)
theorem tw_37 : (Cond.fieldLink "DyeTank" 173 "DyeTank$Marker" "kept" "I") ∈ zT := zT_in (List.mem_append_right _ (List.mem_of_getElem? (i := 37) (by decide +kernel))) (by decide +kernel)
theorem tw_38 : (Cond.fieldLink "DyeTank$Marker" 28 "DyeTank$Marker" "crossings" "I") ∈ zT := zT_in (List.mem_append_right _ (List.mem_of_getElem? (i := 38) (by decide +kernel))) (by decide +kernel)
theorem tw_39 : (Cond.fieldLink "DyeTank" 176 "DyeTank$Marker" "crossings" "I") ∈ zT := zT_in (List.mem_append_right _ (List.mem_of_getElem? (i := 39) (by decide +kernel))) (by decide +kernel)
theorem tw_40 : (Cond.fieldLink "DyeTank$Marker" 31 "DyeTank$Marker" "next" "I") ∈ zT := zT_in (List.mem_append_right _ (List.mem_of_getElem? (i := 40) (by decide +kernel))) (by decide +kernel)
theorem tw_41 : (Cond.fieldLink "DyeTank$Marker" 9 "DyeTank$Marker" "places" "[I") ∈ zT := zT_in (List.mem_append_right _ (List.mem_of_getElem? (i := 41) (by decide +kernel))) (by decide +kernel)
theorem tw_42 : (Cond.fieldLink "DyeTank$Marker" 15 "DyeTank$Marker" "angles" "[I") ∈ zT := zT_in (List.mem_append_right _ (List.mem_of_getElem? (i := 42) (by decide +kernel))) (by decide +kernel)
theorem tw_58 : (Cond.arrayClass .int) ∈ zT := zT_in (List.mem_append_right _ (List.mem_of_getElem? (i := 58) (by decide +kernel))) (by decide +kernel)
theorem tw_59 : (Cond.methodLink "DyeTank$Tank" 45 yX2_startAgain) ∈ zT := zT_in (List.mem_append_right _ (List.mem_of_getElem? (i := 59) (by decide +kernel))) (by decide +kernel)
theorem tw_60 : (Cond.instanceMethod yX2_startAgain) ∈ zT := zT_in (List.mem_append_right _ (List.mem_of_getElem? (i := 60) (by decide +kernel))) (by decide +kernel)
theorem tw_61 : (Cond.selects "DyeTank$Tank" yX2_startAgain yX2_startAgain) ∈ zT := zT_in (List.mem_append_right _ (List.mem_of_getElem? (i := 61) (by decide +kernel))) (by decide +kernel)
theorem tw_62 : (Cond.code yX2_startAgain prog_4_method_2_code 3 (none : Option Jvm.ClassFile.FieldType)) ∈ zT := zT_in (List.mem_append_right _ (List.mem_of_getElem? (i := 62) (by decide +kernel))) (by decide +kernel)
theorem tw_63 : (Cond.fieldLinkNest "DyeTank$Tank" 59 "DyeTank" "FIRST_SETTING" "[I" "DyeTank") ∈ lw_tbl := List.mem_append_right _ (List.mem_of_getElem? (i := 63) (by decide +kernel))
theorem tw_64 : (Cond.laysStatic "DyeTank" "FIRST_SETTING" "[I") ∈ lw_tbl := List.mem_append_right _ (List.mem_of_getElem? (i := 64) (by decide +kernel))
theorem tw_65 : (Cond.methodLink "DyeTank$Tank" 62 ⟨"java/lang/System", "arraycopy", "(Ljava/lang/Object;ILjava/lang/Object;II)V"⟩) ∈ zT := zT_in (List.mem_append_right _ (List.mem_of_getElem? (i := 65) (by decide +kernel))) (by decide +kernel)
theorem tw_66 : (Cond.static ⟨"java/lang/System", "arraycopy", "(Ljava/lang/Object;ILjava/lang/Object;II)V"⟩) ∈ zT := zT_in (List.mem_append_right _ (List.mem_of_getElem? (i := 66) (by decide +kernel))) (by decide +kernel)
theorem tw_67 : (Cond.native ⟨"java/lang/System", "arraycopy", "(Ljava/lang/Object;ILjava/lang/Object;II)V"⟩) ∈ zT := zT_in (List.mem_append_right _ (List.mem_of_getElem? (i := 67) (by decide +kernel))) (by decide +kernel)
theorem tw_68 : (Cond.methodLink "DyeTank$Tank" 68 yJ7_fill_53178) ∈ zT := zT_in (List.mem_append_right _ (List.mem_of_getElem? (i := 68) (by decide +kernel))) (by decide +kernel)
theorem tw_69 : (Cond.static yJ7_fill_53178) ∈ zT := zT_in (List.mem_append_right _ (List.mem_of_getElem? (i := 69) (by decide +kernel))) (by decide +kernel)
theorem tw_70 : (Cond.code yJ7_fill_53178 prog_9_method_103_code 4 (none : Option Jvm.ClassFile.FieldType)) ∈ zT := zT_in (List.mem_append_right _ (List.mem_of_getElem? (i := 70) (by decide +kernel))) (by decide +kernel)
theorem tw_71 : (Cond.fieldLink "DyeTank$Tank" 49 "DyeTank$Tank" "rings" "I") ∈ zT := zT_in (List.mem_append_right _ (List.mem_of_getElem? (i := 71) (by decide +kernel))) (by decide +kernel)
theorem tw_72 : (Cond.fieldLink "DyeTank" 38 "DyeTank$Tank" "rings" "I") ∈ zT := zT_in (List.mem_append_right _ (List.mem_of_getElem? (i := 72) (by decide +kernel))) (by decide +kernel)
theorem tw_73 : (Cond.fieldLink "DyeTank$Tank" 53 "DyeTank$Tank" "time" "I") ∈ zT := zT_in (List.mem_append_right _ (List.mem_of_getElem? (i := 73) (by decide +kernel))) (by decide +kernel)
theorem tw_74 : (Cond.fieldLink "DyeTank" 98 "DyeTank$Tank" "time" "I") ∈ zT := zT_in (List.mem_append_right _ (List.mem_of_getElem? (i := 74) (by decide +kernel))) (by decide +kernel)
theorem tw_75 : (Cond.fieldLink "DyeTank$Tank" 56 "DyeTank$Tank" "markerCount" "I") ∈ zT := zT_in (List.mem_append_right _ (List.mem_of_getElem? (i := 75) (by decide +kernel))) (by decide +kernel)
theorem tw_76 : (Cond.fieldLink "DyeTank" 140 "DyeTank$Tank" "markerCount" "I") ∈ zT := zT_in (List.mem_append_right _ (List.mem_of_getElem? (i := 76) (by decide +kernel))) (by decide +kernel)
theorem tw_77 : (Cond.fieldLink "DyeTank$Tank" 9 "DyeTank$Tank" "settings" "[I") ∈ zT := zT_in (List.mem_append_right _ (List.mem_of_getElem? (i := 77) (by decide +kernel))) (by decide +kernel)
theorem tw_78 : (Cond.fieldLink "DyeTank" 54 "DyeTank$Tank" "settings" "[I") ∈ zT := zT_in (List.mem_append_right _ (List.mem_of_getElem? (i := 78) (by decide +kernel))) (by decide +kernel)
theorem tw_79 : (Cond.fieldLink "DyeTank$Tank" 15 "DyeTank$Tank" "momenta" "[I") ∈ zT := zT_in (List.mem_append_right _ (List.mem_of_getElem? (i := 79) (by decide +kernel))) (by decide +kernel)
theorem tw_80 : (Cond.fieldLink "DyeTank" 104 "DyeTank$Tank" "momenta" "[I") ∈ zT := zT_in (List.mem_append_right _ (List.mem_of_getElem? (i := 80) (by decide +kernel))) (by decide +kernel)
theorem tw_81 : (Cond.fieldLink "DyeTank$Tank" 18 "DyeTank$Tank" "angles" "[I") ∈ zT := zT_in (List.mem_append_right _ (List.mem_of_getElem? (i := 81) (by decide +kernel))) (by decide +kernel)
theorem tw_82 : (Cond.fieldLink "DyeTank" 107 "DyeTank$Tank" "angles" "[I") ∈ zT := zT_in (List.mem_append_right _ (List.mem_of_getElem? (i := 82) (by decide +kernel))) (by decide +kernel)
theorem tw_83 : (Cond.fieldLink "DyeTank$Tank" 21 "DyeTank$Tank" "totals" "[I") ∈ zT := zT_in (List.mem_append_right _ (List.mem_of_getElem? (i := 83) (by decide +kernel))) (by decide +kernel)
theorem tw_84 : (Cond.fieldLink "DyeTank" 86 "DyeTank$Tank" "totals" "[I") ∈ zT := zT_in (List.mem_append_right _ (List.mem_of_getElem? (i := 84) (by decide +kernel))) (by decide +kernel)
theorem tw_85 : (Cond.fieldLink "DyeTank$Tank" 26 "DyeTank$Tank" "dyes" "[[I") ∈ zT := zT_in (List.mem_append_right _ (List.mem_of_getElem? (i := 85) (by decide +kernel))) (by decide +kernel)
theorem tw_86 : (Cond.fieldLink "DyeTank" 89 "DyeTank$Tank" "dyes" "[[I") ∈ zT := zT_in (List.mem_append_right _ (List.mem_of_getElem? (i := 86) (by decide +kernel))) (by decide +kernel)
theorem tw_87 : (Cond.fieldLink "DyeTank$Tank" 31 "DyeTank$Tank" "markers" "[LDyeTank$Marker;") ∈ zT := zT_in (List.mem_append_right _ (List.mem_of_getElem? (i := 87) (by decide +kernel))) (by decide +kernel)
theorem tw_88 : (Cond.fieldLink "DyeTank" 152 "DyeTank$Tank" "markers" "[LDyeTank$Marker;") ∈ zT := zT_in (List.mem_append_right _ (List.mem_of_getElem? (i := 88) (by decide +kernel))) (by decide +kernel)
theorem tw_89 : (Cond.fieldLink "DyeTank$Tank" 35 "DyeTank$Tank" "speeds" "[I") ∈ zT := zT_in (List.mem_append_right _ (List.mem_of_getElem? (i := 89) (by decide +kernel))) (by decide +kernel)
theorem tw_90 : (Cond.fieldLink "DyeTank$Tank" 38 "DyeTank$Tank" "pushes" "[I") ∈ zT := zT_in (List.mem_append_right _ (List.mem_of_getElem? (i := 90) (by decide +kernel))) (by decide +kernel)
theorem tw_91 : (Cond.fieldLink "DyeTank$Tank" 41 "DyeTank$Tank" "old" "[I") ∈ zT := zT_in (List.mem_append_right _ (List.mem_of_getElem? (i := 91) (by decide +kernel))) (by decide +kernel)
theorem tw_117 : (Cond.arrayOver (.object "DyeTank$Tank")) ∈ lw_tbl := List.mem_append_right _ (List.mem_of_getElem? (i := 117) (by decide +kernel))
theorem tw_118 : (Cond.classLink "DyeTank" 27 "DyeTank$Pad") ∈ zT := zT_in (List.mem_append_right _ (List.mem_of_getElem? (i := 118) (by decide +kernel))) (by decide +kernel)
theorem tw_119 : (Cond.instantiable "DyeTank$Pad" 9) ∈ zT := zT_in (List.mem_append_right _ (List.mem_of_getElem? (i := 119) (by decide +kernel))) (by decide +kernel)
theorem tw_120 : (Cond.methodLink "DyeTank" 29 yX1_init) ∈ zT := zT_in (List.mem_append_right _ (List.mem_of_getElem? (i := 120) (by decide +kernel))) (by decide +kernel)
theorem tw_121 : (Cond.instanceMethod yX1_init) ∈ zT := zT_in (List.mem_append_right _ (List.mem_of_getElem? (i := 121) (by decide +kernel))) (by decide +kernel)
theorem tw_122 : (Cond.code yX1_init prog_3_method_1_code 1 (none : Option Jvm.ClassFile.FieldType)) ∈ zT := zT_in (List.mem_append_right _ (List.mem_of_getElem? (i := 122) (by decide +kernel))) (by decide +kernel)
theorem tw_123 : (Cond.methodLink "DyeTank$Pad" 3 ⟨"java/lang/Object", "<init>", "()V"⟩) ∈ zT := zT_in (List.mem_append_right _ (List.mem_of_getElem? (i := 123) (by decide +kernel))) (by decide +kernel)
theorem tw_124 : (Cond.fieldLink "DyeTank$Pad" 15 "DyeTank$Pad" "length" "I") ∈ zT := zT_in (List.mem_append_right _ (List.mem_of_getElem? (i := 124) (by decide +kernel))) (by decide +kernel)
theorem tw_125 : (Cond.fieldLink "DyeTank" 146 "DyeTank$Pad" "length" "I") ∈ zT := zT_in (List.mem_append_right _ (List.mem_of_getElem? (i := 125) (by decide +kernel))) (by decide +kernel)
theorem tw_126 : (Cond.fieldLink "DyeTank$Pad" 19 "DyeTank$Pad" "at" "I") ∈ zT := zT_in (List.mem_append_right _ (List.mem_of_getElem? (i := 126) (by decide +kernel))) (by decide +kernel)
theorem tw_127 : (Cond.fieldLink "DyeTank" 218 "DyeTank$Pad" "at" "I") ∈ zT := zT_in (List.mem_append_right _ (List.mem_of_getElem? (i := 127) (by decide +kernel))) (by decide +kernel)
theorem tw_128 : (Cond.fieldLink "DyeTank$Pad" 34 "DyeTank$Pad" "kind" "C") ∈ zT := zT_in (List.mem_append_right _ (List.mem_of_getElem? (i := 128) (by decide +kernel))) (by decide +kernel)
theorem tw_129 : (Cond.fieldLink "DyeTank" 232 "DyeTank$Pad" "kind" "C") ∈ zT := zT_in (List.mem_append_right _ (List.mem_of_getElem? (i := 129) (by decide +kernel))) (by decide +kernel)
theorem tw_130 : (Cond.fieldLink "DyeTank$Pad" 66 "DyeTank$Pad" "colour" "I") ∈ zT := zT_in (List.mem_append_right _ (List.mem_of_getElem? (i := 130) (by decide +kernel))) (by decide +kernel)
theorem tw_131 : (Cond.fieldLink "DyeTank" 249 "DyeTank$Pad" "colour" "I") ∈ zT := zT_in (List.mem_append_right _ (List.mem_of_getElem? (i := 131) (by decide +kernel))) (by decide +kernel)
theorem tw_132 : (Cond.fieldLink "DyeTank$Pad" 69 "DyeTank$Pad" "layer" "I") ∈ zT := zT_in (List.mem_append_right _ (List.mem_of_getElem? (i := 132) (by decide +kernel))) (by decide +kernel)
theorem tw_133 : (Cond.fieldLink "DyeTank" 252 "DyeTank$Pad" "layer" "I") ∈ zT := zT_in (List.mem_append_right _ (List.mem_of_getElem? (i := 133) (by decide +kernel))) (by decide +kernel)
theorem tw_134 : (Cond.fieldLink "DyeTank$Pad" 63 "DyeTank$Pad" "ring" "I") ∈ zT := zT_in (List.mem_append_right _ (List.mem_of_getElem? (i := 134) (by decide +kernel))) (by decide +kernel)
theorem tw_135 : (Cond.fieldLink "DyeTank" 242 "DyeTank$Pad" "ring" "I") ∈ zT := zT_in (List.mem_append_right _ (List.mem_of_getElem? (i := 135) (by decide +kernel))) (by decide +kernel)
theorem tw_136 : (Cond.fieldLink "DyeTank$Pad" 72 "DyeTank$Pad" "sector" "I") ∈ zT := zT_in (List.mem_append_right _ (List.mem_of_getElem? (i := 136) (by decide +kernel))) (by decide +kernel)
theorem tw_137 : (Cond.fieldLink "DyeTank" 255 "DyeTank$Pad" "sector" "I") ∈ zT := zT_in (List.mem_append_right _ (List.mem_of_getElem? (i := 137) (by decide +kernel))) (by decide +kernel)
theorem tw_138 : (Cond.fieldLink "DyeTank$Pad" 42 "DyeTank$Pad" "number" "I") ∈ zT := zT_in (List.mem_append_right _ (List.mem_of_getElem? (i := 138) (by decide +kernel))) (by decide +kernel)
theorem tw_139 : (Cond.fieldLink "DyeTank" 236 "DyeTank$Pad" "number" "I") ∈ zT := zT_in (List.mem_append_right _ (List.mem_of_getElem? (i := 139) (by decide +kernel))) (by decide +kernel)
theorem tw_140 : (Cond.fieldLink "DyeTank$Pad" 9 "DyeTank$Pad" "text" "[C") ∈ zT := zT_in (List.mem_append_right _ (List.mem_of_getElem? (i := 140) (by decide +kernel))) (by decide +kernel)
theorem tw_160 : (Cond.arrayClass .boolean) ∈ zT := zT_in (List.mem_append_right _ (List.mem_of_getElem? (i := 160) (by decide +kernel))) (by decide +kernel)
theorem tw_161 : (Cond.arrayClass .char) ∈ zT := zT_in (List.mem_append_right _ (List.mem_of_getElem? (i := 161) (by decide +kernel))) (by decide +kernel)
theorem tw_162 : (Cond.fieldLink "DyeTank" 10 "DyeTank" "tank" "LDyeTank$Tank;") ∈ zT := zT_in (List.mem_append_right _ (List.mem_of_getElem? (i := 162) (by decide +kernel))) (by decide +kernel)
theorem tw_163 : (Cond.fieldLink "DyeTank" 16 "DyeTank" "copy" "LDyeTank$Tank;") ∈ zT := zT_in (List.mem_append_right _ (List.mem_of_getElem? (i := 163) (by decide +kernel))) (by decide +kernel)
theorem tw_164 : (Cond.fieldLink "DyeTank" 19 "DyeTank" "slots" "[LDyeTank$Tank;") ∈ zT := zT_in (List.mem_append_right _ (List.mem_of_getElem? (i := 164) (by decide +kernel))) (by decide +kernel)
theorem tw_165 : (Cond.fieldLink "DyeTank" 23 "DyeTank" "saved" "[Z") ∈ zT := zT_in (List.mem_append_right _ (List.mem_of_getElem? (i := 165) (by decide +kernel))) (by decide +kernel)
theorem tw_166 : (Cond.fieldLink "DyeTank" 30 "DyeTank" "pad" "LDyeTank$Pad;") ∈ zT := zT_in (List.mem_append_right _ (List.mem_of_getElem? (i := 166) (by decide +kernel))) (by decide +kernel)
theorem tw_178 : (Cond.methodLink "DyeTankLaw" 13 yX3_setUp) ∈ zT := zT_in (List.mem_append_right _ (List.mem_of_getElem? (i := 178) (by decide +kernel))) (by decide +kernel)
theorem tw_179 : (Cond.instanceMethod yX3_setUp) ∈ zT := zT_in (List.mem_append_right _ (List.mem_of_getElem? (i := 179) (by decide +kernel))) (by decide +kernel)
theorem tw_180 : (Cond.selects "DyeTank" yX3_setUp yX3_setUp) ∈ zT := zT_in (List.mem_append_right _ (List.mem_of_getElem? (i := 180) (by decide +kernel))) (by decide +kernel)
theorem tw_181 : (Cond.code yX3_setUp prog_1_method_2_code 3 (some .int)) ∈ zT := zT_in (List.mem_append_right _ (List.mem_of_getElem? (i := 181) (by decide +kernel))) (by decide +kernel)
theorem tw_182 : (Cond.methodLink "DyeTank" 34 yX3_within) ∈ zT := zT_in (List.mem_append_right _ (List.mem_of_getElem? (i := 182) (by decide +kernel))) (by decide +kernel)
theorem tw_183 : (Cond.static yX3_within) ∈ zT := zT_in (List.mem_append_right _ (List.mem_of_getElem? (i := 183) (by decide +kernel))) (by decide +kernel)
theorem tw_184 : (Cond.code yX3_within prog_1_method_30_code 3 (some .boolean)) ∈ zT := zT_in (List.mem_append_right _ (List.mem_of_getElem? (i := 184) (by decide +kernel))) (by decide +kernel)
theorem tw_185 : (Cond.methodLink "DyeTank" 42 yX2_startAgain) ∈ zT := zT_in (List.mem_append_right _ (List.mem_of_getElem? (i := 185) (by decide +kernel))) (by decide +kernel)
theorem tw_186 : (Cond.methodLink "DyeTankLaw" 18 yX3_set) ∈ zT := zT_in (List.mem_append_right _ (List.mem_of_getElem? (i := 186) (by decide +kernel))) (by decide +kernel)
theorem tw_187 : (Cond.instanceMethod yX3_set) ∈ zT := zT_in (List.mem_append_right _ (List.mem_of_getElem? (i := 187) (by decide +kernel))) (by decide +kernel)
theorem tw_188 : (Cond.selects "DyeTank" yX3_set yX3_set) ∈ zT := zT_in (List.mem_append_right _ (List.mem_of_getElem? (i := 188) (by decide +kernel))) (by decide +kernel)
theorem tw_189 : (Cond.code yX3_set prog_1_method_3_code 4 (some .int)) ∈ zT := zT_in (List.mem_append_right _ (List.mem_of_getElem? (i := 189) (by decide +kernel))) (by decide +kernel)
theorem tw_190 : (Cond.fieldLink "DyeTank" 46 "DyeTank" "LEAST_SETTING" "[I") ∈ zT := zT_in (List.mem_append_right _ (List.mem_of_getElem? (i := 190) (by decide +kernel))) (by decide +kernel)
theorem tw_191 : (Cond.laysStatic "DyeTank" "LEAST_SETTING" "[I") ∈ lw_tbl := List.mem_append_right _ (List.mem_of_getElem? (i := 191) (by decide +kernel))
theorem tw_192 : (Cond.fieldLink "DyeTank" 50 "DyeTank" "GREATEST_SETTING" "[I") ∈ zT := zT_in (List.mem_append_right _ (List.mem_of_getElem? (i := 192) (by decide +kernel))) (by decide +kernel)
theorem tw_193 : (Cond.laysStatic "DyeTank" "GREATEST_SETTING" "[I") ∈ lw_tbl := List.mem_append_right _ (List.mem_of_getElem? (i := 193) (by decide +kernel))
theorem tw_194 : (Cond.constant "DyeTank" 53 (-1000000002 : Int32)) ∈ zT := zT_in (List.mem_append_right _ (List.mem_of_getElem? (i := 194) (by decide +kernel))) (by decide +kernel)
theorem tw_195 : (Cond.methodLink "DyeTankLaw" 23 yX3_spin) ∈ zT := zT_in (List.mem_append_right _ (List.mem_of_getElem? (i := 195) (by decide +kernel))) (by decide +kernel)
theorem tw_196 : (Cond.instanceMethod yX3_spin) ∈ zT := zT_in (List.mem_append_right _ (List.mem_of_getElem? (i := 196) (by decide +kernel))) (by decide +kernel)
theorem tw_197 : (Cond.selects "DyeTank" yX3_spin yX3_spin) ∈ zT := zT_in (List.mem_append_right _ (List.mem_of_getElem? (i := 197) (by decide +kernel))) (by decide +kernel)
theorem tw_198 : (Cond.code yX3_spin prog_1_method_4_code 4 (some .int)) ∈ zT := zT_in (List.mem_append_right _ (List.mem_of_getElem? (i := 198) (by decide +kernel))) (by decide +kernel)
theorem tw_199 : (Cond.methodLink "DyeTank" 57 yX2_hasRing) ∈ zT := zT_in (List.mem_append_right _ (List.mem_of_getElem? (i := 199) (by decide +kernel))) (by decide +kernel)
theorem tw_200 : (Cond.instanceMethod yX2_hasRing) ∈ zT := zT_in (List.mem_append_right _ (List.mem_of_getElem? (i := 200) (by decide +kernel))) (by decide +kernel)
theorem tw_201 : (Cond.selects "DyeTank$Tank" yX2_hasRing yX2_hasRing) ∈ zT := zT_in (List.mem_append_right _ (List.mem_of_getElem? (i := 201) (by decide +kernel))) (by decide +kernel)
theorem tw_202 : (Cond.code yX2_hasRing prog_4_method_4_code 2 (some .boolean)) ∈ zT := zT_in (List.mem_append_right _ (List.mem_of_getElem? (i := 202) (by decide +kernel))) (by decide +kernel)
theorem tw_203 : (Cond.constant "DyeTank" 61 (-1000000001 : Int32)) ∈ zT := zT_in (List.mem_append_right _ (List.mem_of_getElem? (i := 203) (by decide +kernel))) (by decide +kernel)
theorem tw_204 : (Cond.methodLink "DyeTank" 62 yX3_isSpeed) ∈ zT := zT_in (List.mem_append_right _ (List.mem_of_getElem? (i := 204) (by decide +kernel))) (by decide +kernel)
theorem tw_205 : (Cond.static yX3_isSpeed) ∈ zT := zT_in (List.mem_append_right _ (List.mem_of_getElem? (i := 205) (by decide +kernel))) (by decide +kernel)
theorem tw_206 : (Cond.code yX3_isSpeed prog_1_method_29_code 1 (some .boolean)) ∈ zT := zT_in (List.mem_append_right _ (List.mem_of_getElem? (i := 206) (by decide +kernel))) (by decide +kernel)
theorem tw_207 : (Cond.methodLink "DyeTank" 65 yX2_velocityOf) ∈ zT := zT_in (List.mem_append_right _ (List.mem_of_getElem? (i := 207) (by decide +kernel))) (by decide +kernel)
theorem tw_208 : (Cond.instanceMethod yX2_velocityOf) ∈ zT := zT_in (List.mem_append_right _ (List.mem_of_getElem? (i := 208) (by decide +kernel))) (by decide +kernel)
theorem tw_209 : (Cond.selects "DyeTank$Tank" yX2_velocityOf yX2_velocityOf) ∈ zT := zT_in (List.mem_append_right _ (List.mem_of_getElem? (i := 209) (by decide +kernel))) (by decide +kernel)
theorem tw_210 : (Cond.code yX2_velocityOf prog_4_method_8_code 2 (some .int)) ∈ zT := zT_in (List.mem_append_right _ (List.mem_of_getElem? (i := 210) (by decide +kernel))) (by decide +kernel)
theorem tw_211 : (Cond.methodLink "DyeTank$Tank" 78 yX2_weightOf) ∈ zT := zT_in (List.mem_append_right _ (List.mem_of_getElem? (i := 211) (by decide +kernel))) (by decide +kernel)
theorem tw_212 : (Cond.static yX2_weightOf) ∈ zT := zT_in (List.mem_append_right _ (List.mem_of_getElem? (i := 212) (by decide +kernel))) (by decide +kernel)
theorem tw_213 : (Cond.code yX2_weightOf prog_4_method_7_code 1 (some .int)) ∈ zT := zT_in (List.mem_append_right _ (List.mem_of_getElem? (i := 213) (by decide +kernel))) (by decide +kernel)
theorem tw_214 : (Cond.methodLink "DyeTank$Tank" 82 yJ9_floorDiv_7cf53) ∈ zT := zT_in (List.mem_append_right _ (List.mem_of_getElem? (i := 214) (by decide +kernel))) (by decide +kernel)
theorem tw_215 : (Cond.static yJ9_floorDiv_7cf53) ∈ zT := zT_in (List.mem_append_right _ (List.mem_of_getElem? (i := 215) (by decide +kernel))) (by decide +kernel)
theorem tw_216 : (Cond.code yJ9_floorDiv_7cf53 prog_7_method_47_code 3 (some .int)) ∈ zT := zT_in (List.mem_append_right _ (List.mem_of_getElem? (i := 216) (by decide +kernel))) (by decide +kernel)
theorem tw_217 : (Cond.methodLink "DyeTank" 69 yX2_giveVelocity) ∈ zT := zT_in (List.mem_append_right _ (List.mem_of_getElem? (i := 217) (by decide +kernel))) (by decide +kernel)
theorem tw_218 : (Cond.instanceMethod yX2_giveVelocity) ∈ zT := zT_in (List.mem_append_right _ (List.mem_of_getElem? (i := 218) (by decide +kernel))) (by decide +kernel)
theorem tw_219 : (Cond.selects "DyeTank$Tank" yX2_giveVelocity yX2_giveVelocity) ∈ zT := zT_in (List.mem_append_right _ (List.mem_of_getElem? (i := 219) (by decide +kernel))) (by decide +kernel)
theorem tw_220 : (Cond.code yX2_giveVelocity prog_4_method_9_code 3 (none : Option Jvm.ClassFile.FieldType)) ∈ zT := zT_in (List.mem_append_right _ (List.mem_of_getElem? (i := 220) (by decide +kernel))) (by decide +kernel)
theorem tw_221 : (Cond.methodLink "DyeTankLaw" 27 yX3_spinAll) ∈ zT := zT_in (List.mem_append_right _ (List.mem_of_getElem? (i := 221) (by decide +kernel))) (by decide +kernel)
theorem tw_222 : (Cond.instanceMethod yX3_spinAll) ∈ zT := zT_in (List.mem_append_right _ (List.mem_of_getElem? (i := 222) (by decide +kernel))) (by decide +kernel)
theorem tw_223 : (Cond.selects "DyeTank" yX3_spinAll yX3_spinAll) ∈ zT := zT_in (List.mem_append_right _ (List.mem_of_getElem? (i := 223) (by decide +kernel))) (by decide +kernel)
theorem tw_224 : (Cond.code yX3_spinAll prog_1_method_5_code 3 (some .int)) ∈ zT := zT_in (List.mem_append_right _ (List.mem_of_getElem? (i := 224) (by decide +kernel))) (by decide +kernel)
theorem tw_225 : (Cond.methodLink "DyeTank" 73 yX2_giveVelocities) ∈ zT := zT_in (List.mem_append_right _ (List.mem_of_getElem? (i := 225) (by decide +kernel))) (by decide +kernel)
theorem tw_226 : (Cond.instanceMethod yX2_giveVelocities) ∈ zT := zT_in (List.mem_append_right _ (List.mem_of_getElem? (i := 226) (by decide +kernel))) (by decide +kernel)
theorem tw_227 : (Cond.selects "DyeTank$Tank" yX2_giveVelocities yX2_giveVelocities) ∈ zT := zT_in (List.mem_append_right _ (List.mem_of_getElem? (i := 227) (by decide +kernel))) (by decide +kernel)
theorem tw_228 : (Cond.code yX2_giveVelocities prog_4_method_10_code 5 (none : Option Jvm.ClassFile.FieldType)) ∈ zT := zT_in (List.mem_append_right _ (List.mem_of_getElem? (i := 228) (by decide +kernel))) (by decide +kernel)
theorem tw_229 : (Cond.methodLink "DyeTank$Tank" 88 yJ9_max_7cf53) ∈ zT := zT_in (List.mem_append_right _ (List.mem_of_getElem? (i := 229) (by decide +kernel))) (by decide +kernel)
theorem tw_230 : (Cond.static yJ9_max_7cf53) ∈ zT := zT_in (List.mem_append_right _ (List.mem_of_getElem? (i := 230) (by decide +kernel))) (by decide +kernel)
theorem tw_231 : (Cond.code yJ9_max_7cf53 prog_7_method_65_code 2 (some .int)) ∈ zT := zT_in (List.mem_append_right _ (List.mem_of_getElem? (i := 231) (by decide +kernel))) (by decide +kernel)
theorem tw_232 : (Cond.methodLink "DyeTank$Tank" 91 yX2_giveVelocity) ∈ zT := zT_in (List.mem_append_right _ (List.mem_of_getElem? (i := 232) (by decide +kernel))) (by decide +kernel)
theorem tw_233 : (Cond.methodLink "DyeTank" 76 yX2_allMomenta) ∈ zT := zT_in (List.mem_append_right _ (List.mem_of_getElem? (i := 233) (by decide +kernel))) (by decide +kernel)
theorem tw_234 : (Cond.instanceMethod yX2_allMomenta) ∈ zT := zT_in (List.mem_append_right _ (List.mem_of_getElem? (i := 234) (by decide +kernel))) (by decide +kernel)
theorem tw_235 : (Cond.selects "DyeTank$Tank" yX2_allMomenta yX2_allMomenta) ∈ zT := zT_in (List.mem_append_right _ (List.mem_of_getElem? (i := 235) (by decide +kernel))) (by decide +kernel)
theorem tw_236 : (Cond.code yX2_allMomenta prog_4_method_12_code 3 (some .int)) ∈ zT := zT_in (List.mem_append_right _ (List.mem_of_getElem? (i := 236) (by decide +kernel))) (by decide +kernel)
theorem tw_237 : (Cond.methodLink "DyeTankLaw" 31 yX3_pour) ∈ zT := zT_in (List.mem_append_right _ (List.mem_of_getElem? (i := 237) (by decide +kernel))) (by decide +kernel)
theorem tw_238 : (Cond.instanceMethod yX3_pour) ∈ zT := zT_in (List.mem_append_right _ (List.mem_of_getElem? (i := 238) (by decide +kernel))) (by decide +kernel)
theorem tw_239 : (Cond.selects "DyeTank" yX3_pour yX3_pour) ∈ zT := zT_in (List.mem_append_right _ (List.mem_of_getElem? (i := 239) (by decide +kernel))) (by decide +kernel)
theorem tw_240 : (Cond.code yX3_pour prog_1_method_6_code 6 (some .int)) ∈ zT := zT_in (List.mem_append_right _ (List.mem_of_getElem? (i := 240) (by decide +kernel))) (by decide +kernel)
theorem tw_241 : (Cond.methodLink "DyeTank" 80 yX3_isPlaceOfDye) ∈ zT := zT_in (List.mem_append_right _ (List.mem_of_getElem? (i := 241) (by decide +kernel))) (by decide +kernel)
theorem tw_243 : (Cond.instanceMethod yX3_isPlaceOfDye) ∈ zT := zT_in (List.mem_append_right _ (List.mem_of_getElem? (i := 243) (by decide +kernel))) (by decide +kernel)
theorem tw_244 : (Cond.code yX3_isPlaceOfDye prog_1_method_27_code 5 (some .boolean)) ∈ zT := zT_in (List.mem_append_right _ (List.mem_of_getElem? (i := 244) (by decide +kernel))) (by decide +kernel)
theorem tw_245 : (Cond.methodLink "DyeTank" 117 yX3_isColour) ∈ zT := zT_in (List.mem_append_right _ (List.mem_of_getElem? (i := 245) (by decide +kernel))) (by decide +kernel)
theorem tw_246 : (Cond.static yX3_isColour) ∈ zT := zT_in (List.mem_append_right _ (List.mem_of_getElem? (i := 246) (by decide +kernel))) (by decide +kernel)
theorem tw_247 : (Cond.code yX3_isColour prog_1_method_28_code 1 (some .boolean)) ∈ zT := zT_in (List.mem_append_right _ (List.mem_of_getElem? (i := 247) (by decide +kernel))) (by decide +kernel)
theorem tw_248 : (Cond.constant "DyeTank" 84 (1000000 : Int32)) ∈ zT := zT_in (List.mem_append_right _ (List.mem_of_getElem? (i := 248) (by decide +kernel))) (by decide +kernel)
theorem tw_249 : (Cond.constant "DyeTank" 85 (10000000 : Int32)) ∈ zT := zT_in (List.mem_append_right _ (List.mem_of_getElem? (i := 249) (by decide +kernel))) (by decide +kernel)
theorem tw_250 : (Cond.methodLink "DyeTank" 93 yX2_cellIn) ∈ zT := zT_in (List.mem_append_right _ (List.mem_of_getElem? (i := 250) (by decide +kernel))) (by decide +kernel)
theorem tw_251 : (Cond.instanceMethod yX2_cellIn) ∈ zT := zT_in (List.mem_append_right _ (List.mem_of_getElem? (i := 251) (by decide +kernel))) (by decide +kernel)
theorem tw_252 : (Cond.selects "DyeTank$Tank" yX2_cellIn yX2_cellIn) ∈ zT := zT_in (List.mem_append_right _ (List.mem_of_getElem? (i := 252) (by decide +kernel))) (by decide +kernel)
theorem tw_253 : (Cond.code yX2_cellIn prog_4_method_16_code 4 (some .int)) ∈ zT := zT_in (List.mem_append_right _ (List.mem_of_getElem? (i := 253) (by decide +kernel))) (by decide +kernel)
theorem tw_254 : (Cond.methodLink "DyeTank$Tank" 104 yX2_rowOf) ∈ zT := zT_in (List.mem_append_right _ (List.mem_of_getElem? (i := 254) (by decide +kernel))) (by decide +kernel)
theorem tw_255 : (Cond.static yX2_rowOf) ∈ zT := zT_in (List.mem_append_right _ (List.mem_of_getElem? (i := 255) (by decide +kernel))) (by decide +kernel)
theorem tw_256 : (Cond.code yX2_rowOf prog_4_method_15_code 2 (some .int)) ∈ zT := zT_in (List.mem_append_right _ (List.mem_of_getElem? (i := 256) (by decide +kernel))) (by decide +kernel)
theorem tw_257 : (Cond.methodLink "DyeTank$Tank" 107 yJ9_floorMod_7cf53) ∈ zT := zT_in (List.mem_append_right _ (List.mem_of_getElem? (i := 257) (by decide +kernel))) (by decide +kernel)
theorem tw_258 : (Cond.static yJ9_floorMod_7cf53) ∈ zT := zT_in (List.mem_append_right _ (List.mem_of_getElem? (i := 258) (by decide +kernel))) (by decide +kernel)
theorem tw_259 : (Cond.code yJ9_floorMod_7cf53 prog_7_method_50_code 3 (some .int)) ∈ zT := zT_in (List.mem_append_right _ (List.mem_of_getElem? (i := 259) (by decide +kernel))) (by decide +kernel)
theorem tw_260 : (Cond.methodLink "DyeTankLaw" 36 yX3_tick) ∈ zT := zT_in (List.mem_append_right _ (List.mem_of_getElem? (i := 260) (by decide +kernel))) (by decide +kernel)
theorem tw_261 : (Cond.instanceMethod yX3_tick) ∈ zT := zT_in (List.mem_append_right _ (List.mem_of_getElem? (i := 261) (by decide +kernel))) (by decide +kernel)
theorem tw_262 : (Cond.selects "DyeTank" yX3_tick yX3_tick) ∈ zT := zT_in (List.mem_append_right _ (List.mem_of_getElem? (i := 262) (by decide +kernel))) (by decide +kernel)
theorem tw_263 : (Cond.code yX3_tick prog_1_method_7_code 3 (some .int)) ∈ zT := zT_in (List.mem_append_right _ (List.mem_of_getElem? (i := 263) (by decide +kernel))) (by decide +kernel)
theorem tw_264 : (Cond.constant "DyeTank" 97 (100000 : Int32)) ∈ zT := zT_in (List.mem_append_right _ (List.mem_of_getElem? (i := 264) (by decide +kernel))) (by decide +kernel)
theorem tw_265 : (Cond.methodLink "DyeTank" 101 yX2_makeTick) ∈ zT := zT_in (List.mem_append_right _ (List.mem_of_getElem? (i := 265) (by decide +kernel))) (by decide +kernel)
theorem tw_266 : (Cond.instanceMethod yX2_makeTick) ∈ zT := zT_in (List.mem_append_right _ (List.mem_of_getElem? (i := 266) (by decide +kernel))) (by decide +kernel)
theorem tw_267 : (Cond.selects "DyeTank$Tank" yX2_makeTick yX2_makeTick) ∈ zT := zT_in (List.mem_append_right _ (List.mem_of_getElem? (i := 267) (by decide +kernel))) (by decide +kernel)
theorem tw_268 : (Cond.code yX2_makeTick prog_4_method_24_code 2 (none : Option Jvm.ClassFile.FieldType)) ∈ zT := zT_in (List.mem_append_right _ (List.mem_of_getElem? (i := 268) (by decide +kernel))) (by decide +kernel)
theorem tw_269 : (Cond.methodLink "DyeTank$Tank" 128 yX2_turn) ∈ zT := zT_in (List.mem_append_right _ (List.mem_of_getElem? (i := 269) (by decide +kernel))) (by decide +kernel)
theorem tw_270 : (Cond.instanceMethod yX2_turn) ∈ zT := zT_in (List.mem_append_right _ (List.mem_of_getElem? (i := 270) (by decide +kernel))) (by decide +kernel)
theorem tw_271 : (Cond.selects "DyeTank$Tank" yX2_turn yX2_turn) ∈ zT := zT_in (List.mem_append_right _ (List.mem_of_getElem? (i := 271) (by decide +kernel))) (by decide +kernel)
theorem tw_272 : (Cond.code yX2_turn prog_4_method_25_code 2 (none : Option Jvm.ClassFile.FieldType)) ∈ zT := zT_in (List.mem_append_right _ (List.mem_of_getElem? (i := 272) (by decide +kernel))) (by decide +kernel)
theorem tw_273 : (Cond.methodLink "DyeTank$Tank" 137 yX2_changeMomenta) ∈ zT := zT_in (List.mem_append_right _ (List.mem_of_getElem? (i := 273) (by decide +kernel))) (by decide +kernel)
theorem tw_275 : (Cond.instanceMethod yX2_changeMomenta) ∈ zT := zT_in (List.mem_append_right _ (List.mem_of_getElem? (i := 275) (by decide +kernel))) (by decide +kernel)
theorem tw_276 : (Cond.code yX2_changeMomenta prog_4_method_26_code 4 (none : Option Jvm.ClassFile.FieldType)) ∈ zT := zT_in (List.mem_append_right _ (List.mem_of_getElem? (i := 276) (by decide +kernel))) (by decide +kernel)
theorem tw_277 : (Cond.methodLink "DyeTank$Tank" 95 yX2_velocityOf) ∈ zT := zT_in (List.mem_append_right _ (List.mem_of_getElem? (i := 277) (by decide +kernel))) (by decide +kernel)
theorem tw_278 : (Cond.methodLink "DyeTank$Tank" 140 yX2_pushOf) ∈ zT := zT_in (List.mem_append_right _ (List.mem_of_getElem? (i := 278) (by decide +kernel))) (by decide +kernel)
theorem tw_279 : (Cond.instanceMethod yX2_pushOf) ∈ zT := zT_in (List.mem_append_right _ (List.mem_of_getElem? (i := 279) (by decide +kernel))) (by decide +kernel)
theorem tw_280 : (Cond.selects "DyeTank$Tank" yX2_pushOf yX2_pushOf) ∈ zT := zT_in (List.mem_append_right _ (List.mem_of_getElem? (i := 280) (by decide +kernel))) (by decide +kernel)
theorem tw_281 : (Cond.code yX2_pushOf prog_4_method_11_code 3 (some .int)) ∈ zT := zT_in (List.mem_append_right _ (List.mem_of_getElem? (i := 281) (by decide +kernel))) (by decide +kernel)
theorem tw_282 : (Cond.methodLink "DyeTank$Tank" 98 yJ9_min_7cf53) ∈ zT := zT_in (List.mem_append_right _ (List.mem_of_getElem? (i := 282) (by decide +kernel))) (by decide +kernel)
theorem tw_283 : (Cond.static yJ9_min_7cf53) ∈ zT := zT_in (List.mem_append_right _ (List.mem_of_getElem? (i := 283) (by decide +kernel))) (by decide +kernel)
theorem tw_284 : (Cond.code yJ9_min_7cf53 prog_7_method_69_code 2 (some .int)) ∈ zT := zT_in (List.mem_append_right _ (List.mem_of_getElem? (i := 284) (by decide +kernel))) (by decide +kernel)
theorem tw_285 : (Cond.methodLink "DyeTank$Tank" 131 yX2_carry) ∈ zT := zT_in (List.mem_append_right _ (List.mem_of_getElem? (i := 285) (by decide +kernel))) (by decide +kernel)
theorem tw_286 : (Cond.instanceMethod yX2_carry) ∈ zT := zT_in (List.mem_append_right _ (List.mem_of_getElem? (i := 286) (by decide +kernel))) (by decide +kernel)
theorem tw_287 : (Cond.selects "DyeTank$Tank" yX2_carry yX2_carry) ∈ zT := zT_in (List.mem_append_right _ (List.mem_of_getElem? (i := 287) (by decide +kernel))) (by decide +kernel)
theorem tw_288 : (Cond.code yX2_carry prog_4_method_27_code 6 (none : Option Jvm.ClassFile.FieldType)) ∈ zT := zT_in (List.mem_append_right _ (List.mem_of_getElem? (i := 288) (by decide +kernel))) (by decide +kernel)
theorem tw_289 : (Cond.methodLink "DyeTank$Tank" 101 yJ9_abs_0f7a4) ∈ zT := zT_in (List.mem_append_right _ (List.mem_of_getElem? (i := 289) (by decide +kernel))) (by decide +kernel)
theorem tw_290 : (Cond.static yJ9_abs_0f7a4) ∈ zT := zT_in (List.mem_append_right _ (List.mem_of_getElem? (i := 290) (by decide +kernel))) (by decide +kernel)
theorem tw_291 : (Cond.code yJ9_abs_0f7a4 prog_7_method_59_code 1 (some .int)) ∈ zT := zT_in (List.mem_append_right _ (List.mem_of_getElem? (i := 291) (by decide +kernel))) (by decide +kernel)
theorem tw_292 : (Cond.methodLink "DyeTank$Tank" 143 yX2_moveRow) ∈ zT := zT_in (List.mem_append_right _ (List.mem_of_getElem? (i := 292) (by decide +kernel))) (by decide +kernel)
theorem tw_294 : (Cond.instanceMethod yX2_moveRow) ∈ zT := zT_in (List.mem_append_right _ (List.mem_of_getElem? (i := 294) (by decide +kernel))) (by decide +kernel)
theorem tw_295 : (Cond.code yX2_moveRow prog_4_method_28_code 12 (none : Option Jvm.ClassFile.FieldType)) ∈ zT := zT_in (List.mem_append_right _ (List.mem_of_getElem? (i := 295) (by decide +kernel))) (by decide +kernel)
theorem tw_296 : (Cond.methodLink "DyeTank$Tank" 151 yX2_hasRing) ∈ zT := zT_in (List.mem_append_right _ (List.mem_of_getElem? (i := 296) (by decide +kernel))) (by decide +kernel)
theorem tw_297 : (Cond.constantLong "DyeTank$Tank" 119 (1000 : Int64)) ∈ zT := zT_in (List.mem_append_right _ (List.mem_of_getElem? (i := 297) (by decide +kernel))) (by decide +kernel)
theorem tw_298 : (Cond.methodLink "DyeTank$Tank" 147 yX2_mixLayers) ∈ zT := zT_in (List.mem_append_right _ (List.mem_of_getElem? (i := 298) (by decide +kernel))) (by decide +kernel)
theorem tw_300 : (Cond.instanceMethod yX2_mixLayers) ∈ zT := zT_in (List.mem_append_right _ (List.mem_of_getElem? (i := 300) (by decide +kernel))) (by decide +kernel)
theorem tw_301 : (Cond.code yX2_mixLayers prog_4_method_29_code 7 (none : Option Jvm.ClassFile.FieldType)) ∈ zT := zT_in (List.mem_append_right _ (List.mem_of_getElem? (i := 301) (by decide +kernel))) (by decide +kernel)
theorem tw_302 : (Cond.constantLong "DyeTank$Tank" 155 (2000 : Int64)) ∈ zT := zT_in (List.mem_append_right _ (List.mem_of_getElem? (i := 302) (by decide +kernel))) (by decide +kernel)
theorem tw_303 : (Cond.methodLink "DyeTank$Tank" 134 yX2_moveMarkers) ∈ zT := zT_in (List.mem_append_right _ (List.mem_of_getElem? (i := 303) (by decide +kernel))) (by decide +kernel)
theorem tw_304 : (Cond.instanceMethod yX2_moveMarkers) ∈ zT := zT_in (List.mem_append_right _ (List.mem_of_getElem? (i := 304) (by decide +kernel))) (by decide +kernel)
theorem tw_305 : (Cond.selects "DyeTank$Tank" yX2_moveMarkers yX2_moveMarkers) ∈ zT := zT_in (List.mem_append_right _ (List.mem_of_getElem? (i := 305) (by decide +kernel))) (by decide +kernel)
theorem tw_306 : (Cond.code yX2_moveMarkers prog_4_method_30_code 4 (none : Option Jvm.ClassFile.FieldType)) ∈ zT := zT_in (List.mem_append_right _ (List.mem_of_getElem? (i := 306) (by decide +kernel))) (by decide +kernel)
theorem tw_307 : (Cond.methodLink "DyeTank$Tank" 157 yX0_ringNow) ∈ zT := zT_in (List.mem_append_right _ (List.mem_of_getElem? (i := 307) (by decide +kernel))) (by decide +kernel)
theorem tw_308 : (Cond.instanceMethod yX0_ringNow) ∈ zT := zT_in (List.mem_append_right _ (List.mem_of_getElem? (i := 308) (by decide +kernel))) (by decide +kernel)
theorem tw_309 : (Cond.selects "DyeTank$Marker" yX0_ringNow yX0_ringNow) ∈ zT := zT_in (List.mem_append_right _ (List.mem_of_getElem? (i := 309) (by decide +kernel))) (by decide +kernel)
theorem tw_310 : (Cond.code yX0_ringNow prog_2_method_4_code 1 (some .int)) ∈ zT := zT_in (List.mem_append_right _ (List.mem_of_getElem? (i := 310) (by decide +kernel))) (by decide +kernel)
theorem tw_311 : (Cond.methodLink "DyeTank$Tank" 161 yX2_lastPlace) ∈ zT := zT_in (List.mem_append_right _ (List.mem_of_getElem? (i := 311) (by decide +kernel))) (by decide +kernel)
theorem tw_312 : (Cond.instanceMethod yX2_lastPlace) ∈ zT := zT_in (List.mem_append_right _ (List.mem_of_getElem? (i := 312) (by decide +kernel))) (by decide +kernel)
theorem tw_313 : (Cond.selects "DyeTank$Tank" yX2_lastPlace yX2_lastPlace) ∈ zT := zT_in (List.mem_append_right _ (List.mem_of_getElem? (i := 313) (by decide +kernel))) (by decide +kernel)
theorem tw_314 : (Cond.code yX2_lastPlace prog_4_method_6_code 1 (some .int)) ∈ zT := zT_in (List.mem_append_right _ (List.mem_of_getElem? (i := 314) (by decide +kernel))) (by decide +kernel)
theorem tw_315 : (Cond.methodLink "DyeTank$Tank" 164 yX0_move) ∈ zT := zT_in (List.mem_append_right _ (List.mem_of_getElem? (i := 315) (by decide +kernel))) (by decide +kernel)
theorem tw_316 : (Cond.instanceMethod yX0_move) ∈ zT := zT_in (List.mem_append_right _ (List.mem_of_getElem? (i := 316) (by decide +kernel))) (by decide +kernel)
theorem tw_317 : (Cond.selects "DyeTank$Marker" yX0_move yX0_move) ∈ zT := zT_in (List.mem_append_right _ (List.mem_of_getElem? (i := 317) (by decide +kernel))) (by decide +kernel)
theorem tw_318 : (Cond.code yX0_move prog_2_method_5_code 5 (none : Option Jvm.ClassFile.FieldType)) ∈ zT := zT_in (List.mem_append_right _ (List.mem_of_getElem? (i := 318) (by decide +kernel))) (by decide +kernel)
theorem tw_319 : (Cond.methodLink "DyeTank$Marker" 40 yX0_ringNow) ∈ zT := zT_in (List.mem_append_right _ (List.mem_of_getElem? (i := 319) (by decide +kernel))) (by decide +kernel)
theorem tw_320 : (Cond.methodLink "DyeTank$Marker" 44 yJ9_floorMod_7cf53) ∈ zT := zT_in (List.mem_append_right _ (List.mem_of_getElem? (i := 320) (by decide +kernel))) (by decide +kernel)
theorem tw_321 : (Cond.methodLink "DyeTank$Marker" 50 yJ9_min_7cf53) ∈ zT := zT_in (List.mem_append_right _ (List.mem_of_getElem? (i := 321) (by decide +kernel))) (by decide +kernel)
theorem tw_322 : (Cond.methodLink "DyeTank$Marker" 53 yJ9_max_7cf53) ∈ zT := zT_in (List.mem_append_right _ (List.mem_of_getElem? (i := 322) (by decide +kernel))) (by decide +kernel)
theorem tw_323 : (Cond.methodLink "DyeTank$Marker" 56 yX0_keepPosition) ∈ zT := zT_in (List.mem_append_right _ (List.mem_of_getElem? (i := 323) (by decide +kernel))) (by decide +kernel)
theorem tw_325 : (Cond.instanceMethod yX0_keepPosition) ∈ zT := zT_in (List.mem_append_right _ (List.mem_of_getElem? (i := 325) (by decide +kernel))) (by decide +kernel)
theorem tw_326 : (Cond.code yX0_keepPosition prog_2_method_6_code 1 (none : Option Jvm.ClassFile.FieldType)) ∈ zT := zT_in (List.mem_append_right _ (List.mem_of_getElem? (i := 326) (by decide +kernel))) (by decide +kernel)
theorem tw_327 : (Cond.methodLink "DyeTankLaw" 40 yX3_ring) ∈ zT := zT_in (List.mem_append_right _ (List.mem_of_getElem? (i := 327) (by decide +kernel))) (by decide +kernel)
theorem tw_328 : (Cond.instanceMethod yX3_ring) ∈ zT := zT_in (List.mem_append_right _ (List.mem_of_getElem? (i := 328) (by decide +kernel))) (by decide +kernel)
theorem tw_329 : (Cond.selects "DyeTank" yX3_ring yX3_ring) ∈ zT := zT_in (List.mem_append_right _ (List.mem_of_getElem? (i := 329) (by decide +kernel))) (by decide +kernel)
theorem tw_330 : (Cond.code yX3_ring prog_1_method_8_code 3 (some .int)) ∈ zT := zT_in (List.mem_append_right _ (List.mem_of_getElem? (i := 330) (by decide +kernel))) (by decide +kernel)
theorem tw_331 : (Cond.methodLink "DyeTank" 110 yX2_pushOf) ∈ zT := zT_in (List.mem_append_right _ (List.mem_of_getElem? (i := 331) (by decide +kernel))) (by decide +kernel)
theorem tw_332 : (Cond.methodLink "DyeTank" 113 yX2_amountInRing) ∈ zT := zT_in (List.mem_append_right _ (List.mem_of_getElem? (i := 332) (by decide +kernel))) (by decide +kernel)
theorem tw_333 : (Cond.instanceMethod yX2_amountInRing) ∈ zT := zT_in (List.mem_append_right _ (List.mem_of_getElem? (i := 333) (by decide +kernel))) (by decide +kernel)
theorem tw_334 : (Cond.selects "DyeTank$Tank" yX2_amountInRing yX2_amountInRing) ∈ zT := zT_in (List.mem_append_right _ (List.mem_of_getElem? (i := 334) (by decide +kernel))) (by decide +kernel)
theorem tw_335 : (Cond.code yX2_amountInRing prog_4_method_17_code 3 (some .int)) ∈ zT := zT_in (List.mem_append_right _ (List.mem_of_getElem? (i := 335) (by decide +kernel))) (by decide +kernel)
theorem tw_336 : (Cond.methodLink "DyeTank$Tank" 110 yX2_amountInRow) ∈ zT := zT_in (List.mem_append_right _ (List.mem_of_getElem? (i := 336) (by decide +kernel))) (by decide +kernel)
theorem tw_338 : (Cond.instanceMethod yX2_amountInRow) ∈ zT := zT_in (List.mem_append_right _ (List.mem_of_getElem? (i := 338) (by decide +kernel))) (by decide +kernel)
theorem tw_339 : (Cond.code yX2_amountInRow prog_4_method_19_code 8 (some .int)) ∈ zT := zT_in (List.mem_append_right _ (List.mem_of_getElem? (i := 339) (by decide +kernel))) (by decide +kernel)
theorem tw_340 : (Cond.methodLink "DyeTankLaw" 44 yX3_dye) ∈ zT := zT_in (List.mem_append_right _ (List.mem_of_getElem? (i := 340) (by decide +kernel))) (by decide +kernel)
theorem tw_341 : (Cond.instanceMethod yX3_dye) ∈ zT := zT_in (List.mem_append_right _ (List.mem_of_getElem? (i := 341) (by decide +kernel))) (by decide +kernel)
theorem tw_342 : (Cond.selects "DyeTank" yX3_dye yX3_dye) ∈ zT := zT_in (List.mem_append_right _ (List.mem_of_getElem? (i := 342) (by decide +kernel))) (by decide +kernel)
theorem tw_343 : (Cond.code yX3_dye prog_1_method_9_code 5 (some .int)) ∈ zT := zT_in (List.mem_append_right _ (List.mem_of_getElem? (i := 343) (by decide +kernel))) (by decide +kernel)
theorem tw_344 : (Cond.methodLink "DyeTankLaw" 49 yX3_colour) ∈ zT := zT_in (List.mem_append_right _ (List.mem_of_getElem? (i := 344) (by decide +kernel))) (by decide +kernel)
theorem tw_345 : (Cond.instanceMethod yX3_colour) ∈ zT := zT_in (List.mem_append_right _ (List.mem_of_getElem? (i := 345) (by decide +kernel))) (by decide +kernel)
theorem tw_346 : (Cond.selects "DyeTank" yX3_colour yX3_colour) ∈ zT := zT_in (List.mem_append_right _ (List.mem_of_getElem? (i := 346) (by decide +kernel))) (by decide +kernel)
theorem tw_347 : (Cond.code yX3_colour prog_1_method_10_code 3 (some .long)) ∈ zT := zT_in (List.mem_append_right _ (List.mem_of_getElem? (i := 347) (by decide +kernel))) (by decide +kernel)
theorem tw_348 : (Cond.constantLong "DyeTank" 120 (-1 : Int64)) ∈ zT := zT_in (List.mem_append_right _ (List.mem_of_getElem? (i := 348) (by decide +kernel))) (by decide +kernel)
theorem tw_349 : (Cond.methodLink "DyeTank" 122 yX2_amountInTop) ∈ zT := zT_in (List.mem_append_right _ (List.mem_of_getElem? (i := 349) (by decide +kernel))) (by decide +kernel)
theorem tw_350 : (Cond.instanceMethod yX2_amountInTop) ∈ zT := zT_in (List.mem_append_right _ (List.mem_of_getElem? (i := 350) (by decide +kernel))) (by decide +kernel)
theorem tw_351 : (Cond.selects "DyeTank$Tank" yX2_amountInTop yX2_amountInTop) ∈ zT := zT_in (List.mem_append_right _ (List.mem_of_getElem? (i := 351) (by decide +kernel))) (by decide +kernel)
theorem tw_352 : (Cond.code yX2_amountInTop prog_4_method_18_code 4 (some .int)) ∈ zT := zT_in (List.mem_append_right _ (List.mem_of_getElem? (i := 352) (by decide +kernel))) (by decide +kernel)
theorem tw_353 : (Cond.methodLink "DyeTank" 125 yX2_cellsWith) ∈ zT := zT_in (List.mem_append_right _ (List.mem_of_getElem? (i := 353) (by decide +kernel))) (by decide +kernel)
theorem tw_354 : (Cond.instanceMethod yX2_cellsWith) ∈ zT := zT_in (List.mem_append_right _ (List.mem_of_getElem? (i := 354) (by decide +kernel))) (by decide +kernel)
theorem tw_355 : (Cond.selects "DyeTank$Tank" yX2_cellsWith yX2_cellsWith) ∈ zT := zT_in (List.mem_append_right _ (List.mem_of_getElem? (i := 355) (by decide +kernel))) (by decide +kernel)
theorem tw_356 : (Cond.code yX2_cellsWith prog_4_method_20_code 5 (some .int)) ∈ zT := zT_in (List.mem_append_right _ (List.mem_of_getElem? (i := 356) (by decide +kernel))) (by decide +kernel)
theorem tw_357 : (Cond.methodLink "DyeTank" 128 yX2_greatestAmount) ∈ zT := zT_in (List.mem_append_right _ (List.mem_of_getElem? (i := 357) (by decide +kernel))) (by decide +kernel)
theorem tw_358 : (Cond.instanceMethod yX2_greatestAmount) ∈ zT := zT_in (List.mem_append_right _ (List.mem_of_getElem? (i := 358) (by decide +kernel))) (by decide +kernel)
theorem tw_359 : (Cond.selects "DyeTank$Tank" yX2_greatestAmount yX2_greatestAmount) ∈ zT := zT_in (List.mem_append_right _ (List.mem_of_getElem? (i := 359) (by decide +kernel))) (by decide +kernel)
theorem tw_360 : (Cond.code yX2_greatestAmount prog_4_method_21_code 5 (some .int)) ∈ zT := zT_in (List.mem_append_right _ (List.mem_of_getElem? (i := 360) (by decide +kernel))) (by decide +kernel)
theorem tw_361 : (Cond.methodLink "DyeTank" 131 yX2_meanPlace) ∈ zT := zT_in (List.mem_append_right _ (List.mem_of_getElem? (i := 361) (by decide +kernel))) (by decide +kernel)
theorem tw_362 : (Cond.instanceMethod yX2_meanPlace) ∈ zT := zT_in (List.mem_append_right _ (List.mem_of_getElem? (i := 362) (by decide +kernel))) (by decide +kernel)
theorem tw_363 : (Cond.selects "DyeTank$Tank" yX2_meanPlace yX2_meanPlace) ∈ zT := zT_in (List.mem_append_right _ (List.mem_of_getElem? (i := 363) (by decide +kernel))) (by decide +kernel)
theorem tw_364 : (Cond.code yX2_meanPlace prog_4_method_22_code 5 (some .long)) ∈ zT := zT_in (List.mem_append_right _ (List.mem_of_getElem? (i := 364) (by decide +kernel))) (by decide +kernel)
theorem tw_365 : (Cond.constantLong "DyeTank$Tank" 114 (-6 : Int64)) ∈ zT := zT_in (List.mem_append_right _ (List.mem_of_getElem? (i := 365) (by decide +kernel))) (by decide +kernel)
theorem tw_366 : (Cond.methodLink "DyeTank$Tank" 116 yX2_amountInRing) ∈ zT := zT_in (List.mem_append_right _ (List.mem_of_getElem? (i := 366) (by decide +kernel))) (by decide +kernel)
theorem tw_367 : (Cond.methodLink "DyeTank" 135 yX2_unevenness) ∈ zT := zT_in (List.mem_append_right _ (List.mem_of_getElem? (i := 367) (by decide +kernel))) (by decide +kernel)
theorem tw_368 : (Cond.instanceMethod yX2_unevenness) ∈ zT := zT_in (List.mem_append_right _ (List.mem_of_getElem? (i := 368) (by decide +kernel))) (by decide +kernel)
theorem tw_369 : (Cond.selects "DyeTank$Tank" yX2_unevenness yX2_unevenness) ∈ zT := zT_in (List.mem_append_right _ (List.mem_of_getElem? (i := 369) (by decide +kernel))) (by decide +kernel)
theorem tw_370 : (Cond.code yX2_unevenness prog_4_method_23_code 11 (some .long)) ∈ zT := zT_in (List.mem_append_right _ (List.mem_of_getElem? (i := 370) (by decide +kernel))) (by decide +kernel)
theorem tw_371 : (Cond.constantLong "DyeTank$Tank" 121 (2 : Int64)) ∈ zT := zT_in (List.mem_append_right _ (List.mem_of_getElem? (i := 371) (by decide +kernel))) (by decide +kernel)
theorem tw_372 : (Cond.constantLong "DyeTank$Tank" 123 (24 : Int64)) ∈ zT := zT_in (List.mem_append_right _ (List.mem_of_getElem? (i := 372) (by decide +kernel))) (by decide +kernel)
theorem tw_373 : (Cond.methodLink "DyeTank$Tank" 125 yJ9_abs_067f4) ∈ zT := zT_in (List.mem_append_right _ (List.mem_of_getElem? (i := 373) (by decide +kernel))) (by decide +kernel)
theorem tw_374 : (Cond.static yJ9_abs_067f4) ∈ zT := zT_in (List.mem_append_right _ (List.mem_of_getElem? (i := 374) (by decide +kernel))) (by decide +kernel)
theorem tw_375 : (Cond.code yJ9_abs_067f4 prog_7_method_61_code 2 (some .long)) ∈ zT := zT_in (List.mem_append_right _ (List.mem_of_getElem? (i := 375) (by decide +kernel))) (by decide +kernel)
theorem tw_376 : (Cond.constantLong "DyeTank" 138 (-2 : Int64)) ∈ zT := zT_in (List.mem_append_right _ (List.mem_of_getElem? (i := 376) (by decide +kernel))) (by decide +kernel)
theorem tw_377 : (Cond.methodLink "DyeTankLaw" 54 yX3_state) ∈ zT := zT_in (List.mem_append_right _ (List.mem_of_getElem? (i := 377) (by decide +kernel))) (by decide +kernel)
theorem tw_378 : (Cond.instanceMethod yX3_state) ∈ zT := zT_in (List.mem_append_right _ (List.mem_of_getElem? (i := 378) (by decide +kernel))) (by decide +kernel)
theorem tw_379 : (Cond.selects "DyeTank" yX3_state yX3_state) ∈ zT := zT_in (List.mem_append_right _ (List.mem_of_getElem? (i := 379) (by decide +kernel))) (by decide +kernel)
theorem tw_380 : (Cond.code yX3_state prog_1_method_11_code 2 (some .int)) ∈ zT := zT_in (List.mem_append_right _ (List.mem_of_getElem? (i := 380) (by decide +kernel))) (by decide +kernel)
theorem tw_381 : (Cond.methodLink "DyeTank" 143 yX2_greatestShear) ∈ zT := zT_in (List.mem_append_right _ (List.mem_of_getElem? (i := 381) (by decide +kernel))) (by decide +kernel)
theorem tw_382 : (Cond.instanceMethod yX2_greatestShear) ∈ zT := zT_in (List.mem_append_right _ (List.mem_of_getElem? (i := 382) (by decide +kernel))) (by decide +kernel)
theorem tw_383 : (Cond.selects "DyeTank$Tank" yX2_greatestShear yX2_greatestShear) ∈ zT := zT_in (List.mem_append_right _ (List.mem_of_getElem? (i := 383) (by decide +kernel))) (by decide +kernel)
theorem tw_384 : (Cond.code yX2_greatestShear prog_4_method_13_code 3 (some .int)) ∈ zT := zT_in (List.mem_append_right _ (List.mem_of_getElem? (i := 384) (by decide +kernel))) (by decide +kernel)
theorem tw_385 : (Cond.methodLink "DyeTankLaw" 58 yX3_marker) ∈ zT := zT_in (List.mem_append_right _ (List.mem_of_getElem? (i := 385) (by decide +kernel))) (by decide +kernel)
theorem tw_386 : (Cond.instanceMethod yX3_marker) ∈ zT := zT_in (List.mem_append_right _ (List.mem_of_getElem? (i := 386) (by decide +kernel))) (by decide +kernel)
theorem tw_387 : (Cond.selects "DyeTank" yX3_marker yX3_marker) ∈ zT := zT_in (List.mem_append_right _ (List.mem_of_getElem? (i := 387) (by decide +kernel))) (by decide +kernel)
theorem tw_388 : (Cond.code yX3_marker prog_1_method_12_code 4 (some .int)) ∈ zT := zT_in (List.mem_append_right _ (List.mem_of_getElem? (i := 388) (by decide +kernel))) (by decide +kernel)
theorem tw_389 : (Cond.methodLink "DyeTank" 149 yX2_lastPlace) ∈ zT := zT_in (List.mem_append_right _ (List.mem_of_getElem? (i := 389) (by decide +kernel))) (by decide +kernel)
theorem tw_390 : (Cond.methodLink "DyeTank" 156 yX0_putIn) ∈ zT := zT_in (List.mem_append_right _ (List.mem_of_getElem? (i := 390) (by decide +kernel))) (by decide +kernel)
theorem tw_391 : (Cond.instanceMethod yX0_putIn) ∈ zT := zT_in (List.mem_append_right _ (List.mem_of_getElem? (i := 391) (by decide +kernel))) (by decide +kernel)
theorem tw_392 : (Cond.selects "DyeTank$Marker" yX0_putIn yX0_putIn) ∈ zT := zT_in (List.mem_append_right _ (List.mem_of_getElem? (i := 392) (by decide +kernel))) (by decide +kernel)
theorem tw_393 : (Cond.code yX0_putIn prog_2_method_2_code 3 (none : Option Jvm.ClassFile.FieldType)) ∈ zT := zT_in (List.mem_append_right _ (List.mem_of_getElem? (i := 393) (by decide +kernel))) (by decide +kernel)
theorem tw_394 : (Cond.methodLink "DyeTankLaw" 62 yX3_where) ∈ zT := zT_in (List.mem_append_right _ (List.mem_of_getElem? (i := 394) (by decide +kernel))) (by decide +kernel)
theorem tw_395 : (Cond.instanceMethod yX3_where) ∈ zT := zT_in (List.mem_append_right _ (List.mem_of_getElem? (i := 395) (by decide +kernel))) (by decide +kernel)
theorem tw_396 : (Cond.selects "DyeTank" yX3_where yX3_where) ∈ zT := zT_in (List.mem_append_right _ (List.mem_of_getElem? (i := 396) (by decide +kernel))) (by decide +kernel)
theorem tw_397 : (Cond.code yX3_where prog_1_method_13_code 4 (some .int)) ∈ zT := zT_in (List.mem_append_right _ (List.mem_of_getElem? (i := 397) (by decide +kernel))) (by decide +kernel)
theorem tw_398 : (Cond.methodLink "DyeTank" 161 yX2_hasMarker) ∈ zT := zT_in (List.mem_append_right _ (List.mem_of_getElem? (i := 398) (by decide +kernel))) (by decide +kernel)
theorem tw_399 : (Cond.instanceMethod yX2_hasMarker) ∈ zT := zT_in (List.mem_append_right _ (List.mem_of_getElem? (i := 399) (by decide +kernel))) (by decide +kernel)
theorem tw_400 : (Cond.selects "DyeTank$Tank" yX2_hasMarker yX2_hasMarker) ∈ zT := zT_in (List.mem_append_right _ (List.mem_of_getElem? (i := 400) (by decide +kernel))) (by decide +kernel)
theorem tw_401 : (Cond.code yX2_hasMarker prog_4_method_5_code 2 (some .boolean)) ∈ zT := zT_in (List.mem_append_right _ (List.mem_of_getElem? (i := 401) (by decide +kernel))) (by decide +kernel)
theorem tw_402 : (Cond.methodLink "DyeTank" 170 yX0_ringNow) ∈ zT := zT_in (List.mem_append_right _ (List.mem_of_getElem? (i := 402) (by decide +kernel))) (by decide +kernel)
theorem tw_403 : (Cond.methodLink "DyeTankLaw" 66 yX3_path) ∈ zT := zT_in (List.mem_append_right _ (List.mem_of_getElem? (i := 403) (by decide +kernel))) (by decide +kernel)
theorem tw_404 : (Cond.instanceMethod yX3_path) ∈ zT := zT_in (List.mem_append_right _ (List.mem_of_getElem? (i := 404) (by decide +kernel))) (by decide +kernel)
theorem tw_405 : (Cond.selects "DyeTank" yX3_path yX3_path) ∈ zT := zT_in (List.mem_append_right _ (List.mem_of_getElem? (i := 405) (by decide +kernel))) (by decide +kernel)
theorem tw_406 : (Cond.code yX3_path prog_1_method_14_code 5 (some .int)) ∈ zT := zT_in (List.mem_append_right _ (List.mem_of_getElem? (i := 406) (by decide +kernel))) (by decide +kernel)
theorem tw_407 : (Cond.methodLink "DyeTank" 179 yX0_placeBack) ∈ zT := zT_in (List.mem_append_right _ (List.mem_of_getElem? (i := 407) (by decide +kernel))) (by decide +kernel)
theorem tw_408 : (Cond.instanceMethod yX0_placeBack) ∈ zT := zT_in (List.mem_append_right _ (List.mem_of_getElem? (i := 408) (by decide +kernel))) (by decide +kernel)
theorem tw_409 : (Cond.selects "DyeTank$Marker" yX0_placeBack yX0_placeBack) ∈ zT := zT_in (List.mem_append_right _ (List.mem_of_getElem? (i := 409) (by decide +kernel))) (by decide +kernel)
theorem tw_410 : (Cond.code yX0_placeBack prog_2_method_7_code 2 (some .int)) ∈ zT := zT_in (List.mem_append_right _ (List.mem_of_getElem? (i := 410) (by decide +kernel))) (by decide +kernel)
theorem tw_411 : (Cond.methodLink "DyeTank" 182 yX0_angleBack) ∈ zT := zT_in (List.mem_append_right _ (List.mem_of_getElem? (i := 411) (by decide +kernel))) (by decide +kernel)
theorem tw_412 : (Cond.instanceMethod yX0_angleBack) ∈ zT := zT_in (List.mem_append_right _ (List.mem_of_getElem? (i := 412) (by decide +kernel))) (by decide +kernel)
theorem tw_413 : (Cond.selects "DyeTank$Marker" yX0_angleBack yX0_angleBack) ∈ zT := zT_in (List.mem_append_right _ (List.mem_of_getElem? (i := 413) (by decide +kernel))) (by decide +kernel)
theorem tw_414 : (Cond.code yX0_angleBack prog_2_method_8_code 2 (some .int)) ∈ zT := zT_in (List.mem_append_right _ (List.mem_of_getElem? (i := 414) (by decide +kernel))) (by decide +kernel)
theorem tw_415 : (Cond.methodLink "DyeTankLaw" 71 yX3_settles) ∈ zT := zT_in (List.mem_append_right _ (List.mem_of_getElem? (i := 415) (by decide +kernel))) (by decide +kernel)
theorem tw_416 : (Cond.instanceMethod yX3_settles) ∈ zT := zT_in (List.mem_append_right _ (List.mem_of_getElem? (i := 416) (by decide +kernel))) (by decide +kernel)
theorem tw_417 : (Cond.selects "DyeTank" yX3_settles yX3_settles) ∈ zT := zT_in (List.mem_append_right _ (List.mem_of_getElem? (i := 417) (by decide +kernel))) (by decide +kernel)
theorem tw_418 : (Cond.code yX3_settles prog_1_method_15_code 4 (some .int)) ∈ zT := zT_in (List.mem_append_right _ (List.mem_of_getElem? (i := 418) (by decide +kernel))) (by decide +kernel)
theorem tw_419 : (Cond.methodLink "DyeTank" 185 yX2_becomeLike) ∈ zT := zT_in (List.mem_append_right _ (List.mem_of_getElem? (i := 419) (by decide +kernel))) (by decide +kernel)
theorem tw_420 : (Cond.instanceMethod yX2_becomeLike) ∈ zT := zT_in (List.mem_append_right _ (List.mem_of_getElem? (i := 420) (by decide +kernel))) (by decide +kernel)
theorem tw_421 : (Cond.selects "DyeTank$Tank" yX2_becomeLike yX2_becomeLike) ∈ zT := zT_in (List.mem_append_right _ (List.mem_of_getElem? (i := 421) (by decide +kernel))) (by decide +kernel)
theorem tw_422 : (Cond.code yX2_becomeLike prog_4_method_3_code 3 (none : Option Jvm.ClassFile.FieldType)) ∈ zT := zT_in (List.mem_append_right _ (List.mem_of_getElem? (i := 422) (by decide +kernel))) (by decide +kernel)
theorem tw_423 : (Cond.methodLink "DyeTank$Tank" 74 yX0_becomeLike) ∈ zT := zT_in (List.mem_append_right _ (List.mem_of_getElem? (i := 423) (by decide +kernel))) (by decide +kernel)
theorem tw_424 : (Cond.instanceMethod yX0_becomeLike) ∈ zT := zT_in (List.mem_append_right _ (List.mem_of_getElem? (i := 424) (by decide +kernel))) (by decide +kernel)
theorem tw_425 : (Cond.selects "DyeTank$Marker" yX0_becomeLike yX0_becomeLike) ∈ zT := zT_in (List.mem_append_right _ (List.mem_of_getElem? (i := 425) (by decide +kernel))) (by decide +kernel)
theorem tw_426 : (Cond.code yX0_becomeLike prog_2_method_3_code 2 (none : Option Jvm.ClassFile.FieldType)) ∈ zT := zT_in (List.mem_append_right _ (List.mem_of_getElem? (i := 426) (by decide +kernel))) (by decide +kernel)
theorem tw_427 : (Cond.methodLink "DyeTank$Marker" 34 ⟨"java/lang/System", "arraycopy", "(Ljava/lang/Object;ILjava/lang/Object;II)V"⟩) ∈ zT := zT_in (List.mem_append_right _ (List.mem_of_getElem? (i := 427) (by decide +kernel))) (by decide +kernel)
theorem tw_428 : (Cond.methodLink "DyeTank" 189 yX2_turnsWithFloor) ∈ zT := zT_in (List.mem_append_right _ (List.mem_of_getElem? (i := 428) (by decide +kernel))) (by decide +kernel)
theorem tw_429 : (Cond.instanceMethod yX2_turnsWithFloor) ∈ zT := zT_in (List.mem_append_right _ (List.mem_of_getElem? (i := 429) (by decide +kernel))) (by decide +kernel)
theorem tw_430 : (Cond.selects "DyeTank$Tank" yX2_turnsWithFloor yX2_turnsWithFloor) ∈ zT := zT_in (List.mem_append_right _ (List.mem_of_getElem? (i := 430) (by decide +kernel))) (by decide +kernel)
theorem tw_431 : (Cond.code yX2_turnsWithFloor prog_4_method_14_code 3 (some .boolean)) ∈ zT := zT_in (List.mem_append_right _ (List.mem_of_getElem? (i := 431) (by decide +kernel))) (by decide +kernel)
theorem tw_432 : (Cond.methodLink "DyeTank" 192 yX2_turn) ∈ zT := zT_in (List.mem_append_right _ (List.mem_of_getElem? (i := 432) (by decide +kernel))) (by decide +kernel)
theorem tw_433 : (Cond.methodLink "DyeTankLaw" 75 yX3_arrives) ∈ zT := zT_in (List.mem_append_right _ (List.mem_of_getElem? (i := 433) (by decide +kernel))) (by decide +kernel)
theorem tw_434 : (Cond.instanceMethod yX3_arrives) ∈ zT := zT_in (List.mem_append_right _ (List.mem_of_getElem? (i := 434) (by decide +kernel))) (by decide +kernel)
theorem tw_435 : (Cond.selects "DyeTank" yX3_arrives yX3_arrives) ∈ zT := zT_in (List.mem_append_right _ (List.mem_of_getElem? (i := 435) (by decide +kernel))) (by decide +kernel)
theorem tw_436 : (Cond.code yX3_arrives prog_1_method_16_code 8 (some .int)) ∈ zT := zT_in (List.mem_append_right _ (List.mem_of_getElem? (i := 436) (by decide +kernel))) (by decide +kernel)
theorem tw_437 : (Cond.constantLong "DyeTank" 195 (1000 : Int64)) ∈ zT := zT_in (List.mem_append_right _ (List.mem_of_getElem? (i := 437) (by decide +kernel))) (by decide +kernel)
theorem tw_438 : (Cond.methodLink "DyeTank" 197 yX2_carry) ∈ zT := zT_in (List.mem_append_right _ (List.mem_of_getElem? (i := 438) (by decide +kernel))) (by decide +kernel)
theorem tw_439 : (Cond.methodLink "DyeTankLaw" 79 yX3_meet) ∈ zT := zT_in (List.mem_append_right _ (List.mem_of_getElem? (i := 439) (by decide +kernel))) (by decide +kernel)
theorem tw_440 : (Cond.instanceMethod yX3_meet) ∈ zT := zT_in (List.mem_append_right _ (List.mem_of_getElem? (i := 440) (by decide +kernel))) (by decide +kernel)
theorem tw_441 : (Cond.selects "DyeTank" yX3_meet yX3_meet) ∈ zT := zT_in (List.mem_append_right _ (List.mem_of_getElem? (i := 441) (by decide +kernel))) (by decide +kernel)
theorem tw_442 : (Cond.code yX3_meet prog_1_method_17_code 6 (some .int)) ∈ zT := zT_in (List.mem_append_right _ (List.mem_of_getElem? (i := 442) (by decide +kernel))) (by decide +kernel)
theorem tw_443 : (Cond.methodLink "DyeTank" 200 yX0_isNear) ∈ zT := zT_in (List.mem_append_right _ (List.mem_of_getElem? (i := 443) (by decide +kernel))) (by decide +kernel)
theorem tw_444 : (Cond.instanceMethod yX0_isNear) ∈ zT := zT_in (List.mem_append_right _ (List.mem_of_getElem? (i := 444) (by decide +kernel))) (by decide +kernel)
theorem tw_445 : (Cond.selects "DyeTank$Marker" yX0_isNear yX0_isNear) ∈ zT := zT_in (List.mem_append_right _ (List.mem_of_getElem? (i := 445) (by decide +kernel))) (by decide +kernel)
theorem tw_446 : (Cond.code yX0_isNear prog_2_method_9_code 4 (some .boolean)) ∈ zT := zT_in (List.mem_append_right _ (List.mem_of_getElem? (i := 446) (by decide +kernel))) (by decide +kernel)
theorem tw_447 : (Cond.methodLink "DyeTank$Marker" 59 yJ9_abs_0f7a4) ∈ zT := zT_in (List.mem_append_right _ (List.mem_of_getElem? (i := 447) (by decide +kernel))) (by decide +kernel)
theorem tw_448 : (Cond.methodLink "DyeTank" 204 yX2_moveMarkers) ∈ zT := zT_in (List.mem_append_right _ (List.mem_of_getElem? (i := 448) (by decide +kernel))) (by decide +kernel)
theorem tw_449 : (Cond.methodLink "DyeTankLaw" 83 yX3_leastEkman) ∈ zT := zT_in (List.mem_append_right _ (List.mem_of_getElem? (i := 449) (by decide +kernel))) (by decide +kernel)
theorem tw_450 : (Cond.instanceMethod yX3_leastEkman) ∈ zT := zT_in (List.mem_append_right _ (List.mem_of_getElem? (i := 450) (by decide +kernel))) (by decide +kernel)
theorem tw_451 : (Cond.selects "DyeTank" yX3_leastEkman yX3_leastEkman) ∈ zT := zT_in (List.mem_append_right _ (List.mem_of_getElem? (i := 451) (by decide +kernel))) (by decide +kernel)
theorem tw_452 : (Cond.code yX3_leastEkman prog_1_method_18_code 5 (some .int)) ∈ zT := zT_in (List.mem_append_right _ (List.mem_of_getElem? (i := 452) (by decide +kernel))) (by decide +kernel)
theorem tw_453 : (Cond.methodLink "DyeTank" 207 yX3_placeWith) ∈ zT := zT_in (List.mem_append_right _ (List.mem_of_getElem? (i := 453) (by decide +kernel))) (by decide +kernel)
theorem tw_455 : (Cond.instanceMethod yX3_placeWith) ∈ zT := zT_in (List.mem_append_right _ (List.mem_of_getElem? (i := 455) (by decide +kernel))) (by decide +kernel)
theorem tw_456 : (Cond.code yX3_placeWith prog_1_method_19_code 5 (some .long)) ∈ zT := zT_in (List.mem_append_right _ (List.mem_of_getElem? (i := 456) (by decide +kernel))) (by decide +kernel)
theorem tw_457 : (Cond.methodLink "DyeTankLaw" 87 yX3_say) ∈ zT := zT_in (List.mem_append_right _ (List.mem_of_getElem? (i := 457) (by decide +kernel))) (by decide +kernel)
theorem tw_458 : (Cond.instanceMethod yX3_say) ∈ zT := zT_in (List.mem_append_right _ (List.mem_of_getElem? (i := 458) (by decide +kernel))) (by decide +kernel)
theorem tw_459 : (Cond.selects "DyeTank" yX3_say yX3_say) ∈ zT := zT_in (List.mem_append_right _ (List.mem_of_getElem? (i := 459) (by decide +kernel))) (by decide +kernel)
theorem tw_460 : (Cond.code yX3_say prog_1_method_20_code 2 (some .int)) ∈ zT := zT_in (List.mem_append_right _ (List.mem_of_getElem? (i := 460) (by decide +kernel))) (by decide +kernel)
theorem tw_461 : (Cond.methodLink "DyeTank" 211 yX1_append) ∈ zT := zT_in (List.mem_append_right _ (List.mem_of_getElem? (i := 461) (by decide +kernel))) (by decide +kernel)
theorem tw_462 : (Cond.instanceMethod yX1_append) ∈ zT := zT_in (List.mem_append_right _ (List.mem_of_getElem? (i := 462) (by decide +kernel))) (by decide +kernel)
theorem tw_463 : (Cond.selects "DyeTank$Pad" yX1_append yX1_append) ∈ zT := zT_in (List.mem_append_right _ (List.mem_of_getElem? (i := 463) (by decide +kernel))) (by decide +kernel)
theorem tw_464 : (Cond.code yX1_append prog_3_method_2_code 2 (none : Option Jvm.ClassFile.FieldType)) ∈ zT := zT_in (List.mem_append_right _ (List.mem_of_getElem? (i := 464) (by decide +kernel))) (by decide +kernel)
theorem tw_465 : (Cond.methodLink "DyeTankLaw" 91 yX3_wipe) ∈ zT := zT_in (List.mem_append_right _ (List.mem_of_getElem? (i := 465) (by decide +kernel))) (by decide +kernel)
theorem tw_466 : (Cond.instanceMethod yX3_wipe) ∈ zT := zT_in (List.mem_append_right _ (List.mem_of_getElem? (i := 466) (by decide +kernel))) (by decide +kernel)
theorem tw_467 : (Cond.selects "DyeTank" yX3_wipe yX3_wipe) ∈ zT := zT_in (List.mem_append_right _ (List.mem_of_getElem? (i := 467) (by decide +kernel))) (by decide +kernel)
theorem tw_468 : (Cond.code yX3_wipe prog_1_method_21_code 2 (some .int)) ∈ zT := zT_in (List.mem_append_right _ (List.mem_of_getElem? (i := 468) (by decide +kernel))) (by decide +kernel)
theorem tw_469 : (Cond.methodLink "DyeTankLaw" 96 yX3_fault) ∈ zT := zT_in (List.mem_append_right _ (List.mem_of_getElem? (i := 469) (by decide +kernel))) (by decide +kernel)
theorem tw_470 : (Cond.instanceMethod yX3_fault) ∈ zT := zT_in (List.mem_append_right _ (List.mem_of_getElem? (i := 470) (by decide +kernel))) (by decide +kernel)
theorem tw_471 : (Cond.selects "DyeTank" yX3_fault yX3_fault) ∈ zT := zT_in (List.mem_append_right _ (List.mem_of_getElem? (i := 471) (by decide +kernel))) (by decide +kernel)
theorem tw_472 : (Cond.code yX3_fault prog_1_method_22_code 1 (some .int)) ∈ zT := zT_in (List.mem_append_right _ (List.mem_of_getElem? (i := 472) (by decide +kernel))) (by decide +kernel)
theorem tw_473 : (Cond.methodLink "DyeTank" 215 yX1_firstFault) ∈ zT := zT_in (List.mem_append_right _ (List.mem_of_getElem? (i := 473) (by decide +kernel))) (by decide +kernel)
theorem tw_474 : (Cond.instanceMethod yX1_firstFault) ∈ zT := zT_in (List.mem_append_right _ (List.mem_of_getElem? (i := 474) (by decide +kernel))) (by decide +kernel)
theorem tw_475 : (Cond.selects "DyeTank$Pad" yX1_firstFault yX1_firstFault) ∈ zT := zT_in (List.mem_append_right _ (List.mem_of_getElem? (i := 475) (by decide +kernel))) (by decide +kernel)
theorem tw_476 : (Cond.code yX1_firstFault prog_3_method_3_code 2 (some .int)) ∈ zT := zT_in (List.mem_append_right _ (List.mem_of_getElem? (i := 476) (by decide +kernel))) (by decide +kernel)
theorem tw_477 : (Cond.methodLink "DyeTank$Pad" 22 yX1_readStep) ∈ zT := zT_in (List.mem_append_right _ (List.mem_of_getElem? (i := 477) (by decide +kernel))) (by decide +kernel)
theorem tw_478 : (Cond.instanceMethod yX1_readStep) ∈ zT := zT_in (List.mem_append_right _ (List.mem_of_getElem? (i := 478) (by decide +kernel))) (by decide +kernel)
theorem tw_479 : (Cond.selects "DyeTank$Pad" yX1_readStep yX1_readStep) ∈ zT := zT_in (List.mem_append_right _ (List.mem_of_getElem? (i := 479) (by decide +kernel))) (by decide +kernel)
theorem tw_480 : (Cond.code yX1_readStep prog_3_method_4_code 1 (some .boolean)) ∈ zT := zT_in (List.mem_append_right _ (List.mem_of_getElem? (i := 480) (by decide +kernel))) (by decide +kernel)
theorem tw_481 : (Cond.methodLink "DyeTank$Pad" 30 yX1_character) ∈ zT := zT_in (List.mem_append_right _ (List.mem_of_getElem? (i := 481) (by decide +kernel))) (by decide +kernel)
theorem tw_483 : (Cond.instanceMethod yX1_character) ∈ zT := zT_in (List.mem_append_right _ (List.mem_of_getElem? (i := 483) (by decide +kernel))) (by decide +kernel)
theorem tw_484 : (Cond.code yX1_character prog_3_method_14_code 1 (some .char)) ∈ zT := zT_in (List.mem_append_right _ (List.mem_of_getElem? (i := 484) (by decide +kernel))) (by decide +kernel)
theorem tw_485 : (Cond.methodLink "DyeTank$Pad" 26 yX1_take) ∈ zT := zT_in (List.mem_append_right _ (List.mem_of_getElem? (i := 485) (by decide +kernel))) (by decide +kernel)
theorem tw_486 : (Cond.instanceMethod yX1_take) ∈ zT := zT_in (List.mem_append_right _ (List.mem_of_getElem? (i := 486) (by decide +kernel))) (by decide +kernel)
theorem tw_487 : (Cond.selects "DyeTank$Pad" yX1_take yX1_take) ∈ zT := zT_in (List.mem_append_right _ (List.mem_of_getElem? (i := 487) (by decide +kernel))) (by decide +kernel)
theorem tw_488 : (Cond.code yX1_take prog_3_method_13_code 2 (some .boolean)) ∈ zT := zT_in (List.mem_append_right _ (List.mem_of_getElem? (i := 488) (by decide +kernel))) (by decide +kernel)
theorem tw_489 : (Cond.methodLink "DyeTank$Pad" 38 yX1_readNumber) ∈ zT := zT_in (List.mem_append_right _ (List.mem_of_getElem? (i := 489) (by decide +kernel))) (by decide +kernel)
theorem tw_491 : (Cond.instanceMethod yX1_readNumber) ∈ zT := zT_in (List.mem_append_right _ (List.mem_of_getElem? (i := 491) (by decide +kernel))) (by decide +kernel)
theorem tw_492 : (Cond.code yX1_readNumber prog_3_method_11_code 5 (some .int)) ∈ zT := zT_in (List.mem_append_right _ (List.mem_of_getElem? (i := 492) (by decide +kernel))) (by decide +kernel)
theorem tw_493 : (Cond.methodLink "DyeTank$Pad" 76 yX1_digit) ∈ zT := zT_in (List.mem_append_right _ (List.mem_of_getElem? (i := 493) (by decide +kernel))) (by decide +kernel)
theorem tw_495 : (Cond.instanceMethod yX1_digit) ∈ zT := zT_in (List.mem_append_right _ (List.mem_of_getElem? (i := 495) (by decide +kernel))) (by decide +kernel)
theorem tw_496 : (Cond.code yX1_digit prog_3_method_12_code 2 (some .int)) ∈ zT := zT_in (List.mem_append_right _ (List.mem_of_getElem? (i := 496) (by decide +kernel))) (by decide +kernel)
theorem tw_497 : (Cond.methodLink "DyeTank$Pad" 45 yX1_readRing) ∈ zT := zT_in (List.mem_append_right _ (List.mem_of_getElem? (i := 497) (by decide +kernel))) (by decide +kernel)
theorem tw_499 : (Cond.instanceMethod yX1_readRing) ∈ zT := zT_in (List.mem_append_right _ (List.mem_of_getElem? (i := 499) (by decide +kernel))) (by decide +kernel)
theorem tw_500 : (Cond.code yX1_readRing prog_3_method_5_code 1 (some .boolean)) ∈ zT := zT_in (List.mem_append_right _ (List.mem_of_getElem? (i := 500) (by decide +kernel))) (by decide +kernel)
theorem tw_501 : (Cond.methodLink "DyeTank$Pad" 48 yX1_readVelocity) ∈ zT := zT_in (List.mem_append_right _ (List.mem_of_getElem? (i := 501) (by decide +kernel))) (by decide +kernel)
theorem tw_503 : (Cond.instanceMethod yX1_readVelocity) ∈ zT := zT_in (List.mem_append_right _ (List.mem_of_getElem? (i := 503) (by decide +kernel))) (by decide +kernel)
theorem tw_504 : (Cond.code yX1_readVelocity prog_3_method_6_code 3 (some .boolean)) ∈ zT := zT_in (List.mem_append_right _ (List.mem_of_getElem? (i := 504) (by decide +kernel))) (by decide +kernel)
theorem tw_505 : (Cond.methodLink "DyeTank$Pad" 51 yX1_readColour) ∈ zT := zT_in (List.mem_append_right _ (List.mem_of_getElem? (i := 505) (by decide +kernel))) (by decide +kernel)
theorem tw_507 : (Cond.instanceMethod yX1_readColour) ∈ zT := zT_in (List.mem_append_right _ (List.mem_of_getElem? (i := 507) (by decide +kernel))) (by decide +kernel)
theorem tw_508 : (Cond.code yX1_readColour prog_3_method_7_code 1 (some .boolean)) ∈ zT := zT_in (List.mem_append_right _ (List.mem_of_getElem? (i := 508) (by decide +kernel))) (by decide +kernel)
theorem tw_509 : (Cond.methodLink "DyeTank$Pad" 54 yX1_readLayer) ∈ zT := zT_in (List.mem_append_right _ (List.mem_of_getElem? (i := 509) (by decide +kernel))) (by decide +kernel)
theorem tw_511 : (Cond.instanceMethod yX1_readLayer) ∈ zT := zT_in (List.mem_append_right _ (List.mem_of_getElem? (i := 511) (by decide +kernel))) (by decide +kernel)
theorem tw_512 : (Cond.code yX1_readLayer prog_3_method_8_code 1 (some .boolean)) ∈ zT := zT_in (List.mem_append_right _ (List.mem_of_getElem? (i := 512) (by decide +kernel))) (by decide +kernel)
theorem tw_513 : (Cond.methodLink "DyeTank$Pad" 57 yX1_readSector) ∈ zT := zT_in (List.mem_append_right _ (List.mem_of_getElem? (i := 513) (by decide +kernel))) (by decide +kernel)
theorem tw_515 : (Cond.instanceMethod yX1_readSector) ∈ zT := zT_in (List.mem_append_right _ (List.mem_of_getElem? (i := 515) (by decide +kernel))) (by decide +kernel)
theorem tw_516 : (Cond.code yX1_readSector prog_3_method_9_code 1 (some .boolean)) ∈ zT := zT_in (List.mem_append_right _ (List.mem_of_getElem? (i := 516) (by decide +kernel))) (by decide +kernel)
theorem tw_517 : (Cond.methodLink "DyeTank$Pad" 60 yX1_readAmount) ∈ zT := zT_in (List.mem_append_right _ (List.mem_of_getElem? (i := 517) (by decide +kernel))) (by decide +kernel)
theorem tw_519 : (Cond.instanceMethod yX1_readAmount) ∈ zT := zT_in (List.mem_append_right _ (List.mem_of_getElem? (i := 519) (by decide +kernel))) (by decide +kernel)
theorem tw_520 : (Cond.code yX1_readAmount prog_3_method_10_code 1 (some .boolean)) ∈ zT := zT_in (List.mem_append_right _ (List.mem_of_getElem? (i := 520) (by decide +kernel))) (by decide +kernel)
theorem tw_521 : (Cond.constant "DyeTank$Pad" 75 (999999 : Int32)) ∈ zT := zT_in (List.mem_append_right _ (List.mem_of_getElem? (i := 521) (by decide +kernel))) (by decide +kernel)
theorem tw_522 : (Cond.methodLink "DyeTankLaw" 100 yX3_carryOut) ∈ zT := zT_in (List.mem_append_right _ (List.mem_of_getElem? (i := 522) (by decide +kernel))) (by decide +kernel)
theorem tw_523 : (Cond.instanceMethod yX3_carryOut) ∈ zT := zT_in (List.mem_append_right _ (List.mem_of_getElem? (i := 523) (by decide +kernel))) (by decide +kernel)
theorem tw_524 : (Cond.selects "DyeTank" yX3_carryOut yX3_carryOut) ∈ zT := zT_in (List.mem_append_right _ (List.mem_of_getElem? (i := 524) (by decide +kernel))) (by decide +kernel)
theorem tw_525 : (Cond.code yX3_carryOut prog_1_method_23_code 3 (some .int)) ∈ zT := zT_in (List.mem_append_right _ (List.mem_of_getElem? (i := 525) (by decide +kernel))) (by decide +kernel)
theorem tw_526 : (Cond.methodLink "DyeTank" 221 yX1_readStep) ∈ zT := zT_in (List.mem_append_right _ (List.mem_of_getElem? (i := 526) (by decide +kernel))) (by decide +kernel)
theorem tw_527 : (Cond.methodLink "DyeTank" 225 yX3_carriedOut) ∈ zT := zT_in (List.mem_append_right _ (List.mem_of_getElem? (i := 527) (by decide +kernel))) (by decide +kernel)
theorem tw_529 : (Cond.instanceMethod yX3_carriedOut) ∈ zT := zT_in (List.mem_append_right _ (List.mem_of_getElem? (i := 529) (by decide +kernel))) (by decide +kernel)
theorem tw_530 : (Cond.code yX3_carriedOut prog_1_method_24_code 1 (some .boolean)) ∈ zT := zT_in (List.mem_append_right _ (List.mem_of_getElem? (i := 530) (by decide +kernel))) (by decide +kernel)
theorem tw_531 : (Cond.methodLink "DyeTank" 239 yX3_tick) ∈ zT := zT_in (List.mem_append_right _ (List.mem_of_getElem? (i := 531) (by decide +kernel))) (by decide +kernel)
theorem tw_532 : (Cond.methodLink "DyeTank" 245 yX3_spin) ∈ zT := zT_in (List.mem_append_right _ (List.mem_of_getElem? (i := 532) (by decide +kernel))) (by decide +kernel)
theorem tw_533 : (Cond.constant "DyeTank" 248 (-1000000000 : Int32)) ∈ zT := zT_in (List.mem_append_right _ (List.mem_of_getElem? (i := 533) (by decide +kernel))) (by decide +kernel)
theorem tw_534 : (Cond.methodLink "DyeTank" 258 yX3_pour) ∈ zT := zT_in (List.mem_append_right _ (List.mem_of_getElem? (i := 534) (by decide +kernel))) (by decide +kernel)
theorem tw_535 : (Cond.methodLink "DyeTank" 228 yX1_take) ∈ zT := zT_in (List.mem_append_right _ (List.mem_of_getElem? (i := 535) (by decide +kernel))) (by decide +kernel)
theorem tw_536 : (Cond.methodLink "DyeTankLaw" 104 yX3_save) ∈ zT := zT_in (List.mem_append_right _ (List.mem_of_getElem? (i := 536) (by decide +kernel))) (by decide +kernel)
theorem tw_537 : (Cond.instanceMethod yX3_save) ∈ zT := zT_in (List.mem_append_right _ (List.mem_of_getElem? (i := 537) (by decide +kernel))) (by decide +kernel)
theorem tw_538 : (Cond.selects "DyeTank" yX3_save yX3_save) ∈ zT := zT_in (List.mem_append_right _ (List.mem_of_getElem? (i := 538) (by decide +kernel))) (by decide +kernel)
theorem tw_539 : (Cond.code yX3_save prog_1_method_25_code 2 (some .int)) ∈ zT := zT_in (List.mem_append_right _ (List.mem_of_getElem? (i := 539) (by decide +kernel))) (by decide +kernel)
theorem tw_540 : (Cond.methodLink "DyeTankLaw" 108 yX3_restore) ∈ zT := zT_in (List.mem_append_right _ (List.mem_of_getElem? (i := 540) (by decide +kernel))) (by decide +kernel)
theorem tw_541 : (Cond.instanceMethod yX3_restore) ∈ zT := zT_in (List.mem_append_right _ (List.mem_of_getElem? (i := 541) (by decide +kernel))) (by decide +kernel)
theorem tw_542 : (Cond.selects "DyeTank" yX3_restore yX3_restore) ∈ zT := zT_in (List.mem_append_right _ (List.mem_of_getElem? (i := 542) (by decide +kernel))) (by decide +kernel)
theorem tw_543 : (Cond.code yX3_restore prog_1_method_26_code 2 (some .int)) ∈ zT := zT_in (List.mem_append_right _ (List.mem_of_getElem? (i := 543) (by decide +kernel))) (by decide +kernel)
theorem tw_544 : (Cond.classLink "DyeTankLaw" 10 "DyeTankModel") ∈ zT := zT_in (List.mem_append_right _ (List.mem_of_getElem? (i := 544) (by decide +kernel))) (by decide +kernel)
theorem tw_545 : (Cond.instantiable "DyeTankModel" 12) ∈ zT := zT_in (List.mem_append_right _ (List.mem_of_getElem? (i := 545) (by decide +kernel))) (by decide +kernel)
theorem tw_546 : (Cond.methodLink "DyeTankLaw" 12 yX4_init) ∈ zT := zT_in (List.mem_append_right _ (List.mem_of_getElem? (i := 546) (by decide +kernel))) (by decide +kernel)
theorem tw_547 : (Cond.instanceMethod yX4_init) ∈ zT := zT_in (List.mem_append_right _ (List.mem_of_getElem? (i := 547) (by decide +kernel))) (by decide +kernel)
theorem tw_548 : (Cond.code yX4_init prog_6_method_1_code 1 (none : Option Jvm.ClassFile.FieldType)) ∈ zT := zT_in (List.mem_append_right _ (List.mem_of_getElem? (i := 548) (by decide +kernel))) (by decide +kernel)
theorem tw_549 : (Cond.methodLink "DyeTankModel" 1 ⟨"java/lang/Object", "<init>", "()V"⟩) ∈ zT := zT_in (List.mem_append_right _ (List.mem_of_getElem? (i := 549) (by decide +kernel))) (by decide +kernel)
theorem tw_550 : (Cond.methodLink "DyeTankModel" 35 yX4_begin) ∈ zT := zT_in (List.mem_append_right _ (List.mem_of_getElem? (i := 550) (by decide +kernel))) (by decide +kernel)
theorem tw_552 : (Cond.instanceMethod yX4_begin) ∈ zT := zT_in (List.mem_append_right _ (List.mem_of_getElem? (i := 552) (by decide +kernel))) (by decide +kernel)
theorem tw_553 : (Cond.code yX4_begin prog_6_method_5_code 3 (none : Option Jvm.ClassFile.FieldType)) ∈ zT := zT_in (List.mem_append_right _ (List.mem_of_getElem? (i := 553) (by decide +kernel))) (by decide +kernel)
theorem tw_554 : (Cond.fieldLink "DyeTankModel" 7 "DyeTankModel" "at" "[I") ∈ zT := zT_in (List.mem_append_right _ (List.mem_of_getElem? (i := 554) (by decide +kernel))) (by decide +kernel)
theorem tw_555 : (Cond.fieldLink "DyeTankModel" 13 "DyeTankModel" "aside" "[I") ∈ zT := zT_in (List.mem_append_right _ (List.mem_of_getElem? (i := 555) (by decide +kernel))) (by decide +kernel)
theorem tw_556 : (Cond.fieldLink "DyeTankModel" 16 "DyeTankModel" "slots" "[I") ∈ zT := zT_in (List.mem_append_right _ (List.mem_of_getElem? (i := 556) (by decide +kernel))) (by decide +kernel)
theorem tw_557 : (Cond.fieldLink "DyeTankModel" 19 "DyeTankModel" "isSaved" "[Z") ∈ zT := zT_in (List.mem_append_right _ (List.mem_of_getElem? (i := 557) (by decide +kernel))) (by decide +kernel)
theorem tw_558 : (Cond.fieldLink "DyeTankModel" 23 "DyeTankModel" "before" "[I") ∈ zT := zT_in (List.mem_append_right _ (List.mem_of_getElem? (i := 558) (by decide +kernel))) (by decide +kernel)
theorem tw_559 : (Cond.fieldLink "DyeTankModel" 26 "DyeTankModel" "speed" "[I") ∈ zT := zT_in (List.mem_append_right _ (List.mem_of_getElem? (i := 559) (by decide +kernel))) (by decide +kernel)
theorem tw_560 : (Cond.fieldLink "DyeTankModel" 29 "DyeTankModel" "pad" "[I") ∈ zT := zT_in (List.mem_append_right _ (List.mem_of_getElem? (i := 560) (by decide +kernel))) (by decide +kernel)
theorem tw_561 : (Cond.fieldLink "DyeTankModel" 144 "DyeTankModel" "padMany" "I") ∈ zT := zT_in (List.mem_append_right _ (List.mem_of_getElem? (i := 561) (by decide +kernel))) (by decide +kernel)
theorem tw_562 : (Cond.fieldLink "DyeTankModel" 176 "DyeTankModel" "spot" "I") ∈ zT := zT_in (List.mem_append_right _ (List.mem_of_getElem? (i := 562) (by decide +kernel))) (by decide +kernel)
theorem tw_563 : (Cond.fieldLink "DyeTankModel" 179 "DyeTankModel" "isWrong" "Z") ∈ zT := zT_in (List.mem_append_right _ (List.mem_of_getElem? (i := 563) (by decide +kernel))) (by decide +kernel)
theorem tw_564 : (Cond.fieldLink "DyeTankModel" 32 "DyeTankModel" "steps" "[I") ∈ zT := zT_in (List.mem_append_right _ (List.mem_of_getElem? (i := 564) (by decide +kernel))) (by decide +kernel)
theorem tw_565 : (Cond.fieldLink "DyeTankModel" 196 "DyeTankModel" "stepMany" "I") ∈ zT := zT_in (List.mem_append_right _ (List.mem_of_getElem? (i := 565) (by decide +kernel))) (by decide +kernel)
theorem tw_591 : (Cond.methodLink "DyeTankLaw" 17 yX4_setUp) ∈ zT := zT_in (List.mem_append_right _ (List.mem_of_getElem? (i := 591) (by decide +kernel))) (by decide +kernel)
theorem tw_592 : (Cond.instanceMethod yX4_setUp) ∈ zT := zT_in (List.mem_append_right _ (List.mem_of_getElem? (i := 592) (by decide +kernel))) (by decide +kernel)
theorem tw_593 : (Cond.selects "DyeTankModel" yX4_setUp yX4_setUp) ∈ zT := zT_in (List.mem_append_right _ (List.mem_of_getElem? (i := 593) (by decide +kernel))) (by decide +kernel)
theorem tw_594 : (Cond.code yX4_setUp prog_6_method_10_code 3 (some .int)) ∈ zT := zT_in (List.mem_append_right _ (List.mem_of_getElem? (i := 594) (by decide +kernel))) (by decide +kernel)
theorem tw_595 : (Cond.methodLink "DyeTankModel" 39 yX4_in) ∈ zT := zT_in (List.mem_append_right _ (List.mem_of_getElem? (i := 595) (by decide +kernel))) (by decide +kernel)
theorem tw_596 : (Cond.static yX4_in) ∈ zT := zT_in (List.mem_append_right _ (List.mem_of_getElem? (i := 596) (by decide +kernel))) (by decide +kernel)
theorem tw_597 : (Cond.code yX4_in prog_6_method_2_code 3 (some .boolean)) ∈ zT := zT_in (List.mem_append_right _ (List.mem_of_getElem? (i := 597) (by decide +kernel))) (by decide +kernel)
theorem tw_598 : (Cond.methodLink "DyeTankLaw" 22 yX4_set) ∈ zT := zT_in (List.mem_append_right _ (List.mem_of_getElem? (i := 598) (by decide +kernel))) (by decide +kernel)
theorem tw_599 : (Cond.instanceMethod yX4_set) ∈ zT := zT_in (List.mem_append_right _ (List.mem_of_getElem? (i := 599) (by decide +kernel))) (by decide +kernel)
theorem tw_600 : (Cond.selects "DyeTankModel" yX4_set yX4_set) ∈ zT := zT_in (List.mem_append_right _ (List.mem_of_getElem? (i := 600) (by decide +kernel))) (by decide +kernel)
theorem tw_601 : (Cond.code yX4_set prog_6_method_12_code 4 (some .int)) ∈ zT := zT_in (List.mem_append_right _ (List.mem_of_getElem? (i := 601) (by decide +kernel))) (by decide +kernel)
theorem tw_602 : (Cond.methodLink "DyeTankModel" 47 yX4_takes) ∈ zT := zT_in (List.mem_append_right _ (List.mem_of_getElem? (i := 602) (by decide +kernel))) (by decide +kernel)
theorem tw_603 : (Cond.static yX4_takes) ∈ zT := zT_in (List.mem_append_right _ (List.mem_of_getElem? (i := 603) (by decide +kernel))) (by decide +kernel)
theorem tw_604 : (Cond.code yX4_takes prog_6_method_11_code 2 (some .boolean)) ∈ zT := zT_in (List.mem_append_right _ (List.mem_of_getElem? (i := 604) (by decide +kernel))) (by decide +kernel)
theorem tw_605 : (Cond.constant "DyeTankModel" 51 (-1000000002 : Int32)) ∈ zT := zT_in (List.mem_append_right _ (List.mem_of_getElem? (i := 605) (by decide +kernel))) (by decide +kernel)
theorem tw_606 : (Cond.methodLink "DyeTankLaw" 26 yX4_spin) ∈ zT := zT_in (List.mem_append_right _ (List.mem_of_getElem? (i := 606) (by decide +kernel))) (by decide +kernel)
theorem tw_607 : (Cond.instanceMethod yX4_spin) ∈ zT := zT_in (List.mem_append_right _ (List.mem_of_getElem? (i := 607) (by decide +kernel))) (by decide +kernel)
theorem tw_608 : (Cond.selects "DyeTankModel" yX4_spin yX4_spin) ∈ zT := zT_in (List.mem_append_right _ (List.mem_of_getElem? (i := 608) (by decide +kernel))) (by decide +kernel)
theorem tw_609 : (Cond.code yX4_spin prog_6_method_14_code 4 (some .int)) ∈ zT := zT_in (List.mem_append_right _ (List.mem_of_getElem? (i := 609) (by decide +kernel))) (by decide +kernel)
theorem tw_610 : (Cond.methodLink "DyeTankModel" 52 yX4_isRing) ∈ zT := zT_in (List.mem_append_right _ (List.mem_of_getElem? (i := 610) (by decide +kernel))) (by decide +kernel)
theorem tw_612 : (Cond.instanceMethod yX4_isRing) ∈ zT := zT_in (List.mem_append_right _ (List.mem_of_getElem? (i := 612) (by decide +kernel))) (by decide +kernel)
theorem tw_613 : (Cond.code yX4_isRing prog_6_method_8_code 2 (some .boolean)) ∈ zT := zT_in (List.mem_append_right _ (List.mem_of_getElem? (i := 613) (by decide +kernel))) (by decide +kernel)
theorem tw_614 : (Cond.constant "DyeTankModel" 56 (-1000000001 : Int32)) ∈ zT := zT_in (List.mem_append_right _ (List.mem_of_getElem? (i := 614) (by decide +kernel))) (by decide +kernel)
theorem tw_615 : (Cond.methodLink "DyeTankModel" 57 yX4_isVelocity) ∈ zT := zT_in (List.mem_append_right _ (List.mem_of_getElem? (i := 615) (by decide +kernel))) (by decide +kernel)
theorem tw_616 : (Cond.static yX4_isVelocity) ∈ zT := zT_in (List.mem_append_right _ (List.mem_of_getElem? (i := 616) (by decide +kernel))) (by decide +kernel)
theorem tw_617 : (Cond.code yX4_isVelocity prog_6_method_13_code 1 (some .boolean)) ∈ zT := zT_in (List.mem_append_right _ (List.mem_of_getElem? (i := 617) (by decide +kernel))) (by decide +kernel)
theorem tw_618 : (Cond.methodLink "DyeTankModel" 60 yX4_velocity) ∈ zT := zT_in (List.mem_append_right _ (List.mem_of_getElem? (i := 618) (by decide +kernel))) (by decide +kernel)
theorem tw_620 : (Cond.instanceMethod yX4_velocity) ∈ zT := zT_in (List.mem_append_right _ (List.mem_of_getElem? (i := 620) (by decide +kernel))) (by decide +kernel)
theorem tw_621 : (Cond.code yX4_velocity prog_6_method_9_code 2 (some .int)) ∈ zT := zT_in (List.mem_append_right _ (List.mem_of_getElem? (i := 621) (by decide +kernel))) (by decide +kernel)
theorem tw_622 : (Cond.methodLink "DyeTankModel" 43 yX4_down) ∈ zT := zT_in (List.mem_append_right _ (List.mem_of_getElem? (i := 622) (by decide +kernel))) (by decide +kernel)
theorem tw_623 : (Cond.static yX4_down) ∈ zT := zT_in (List.mem_append_right _ (List.mem_of_getElem? (i := 623) (by decide +kernel))) (by decide +kernel)
theorem tw_624 : (Cond.code yX4_down prog_6_method_3_code 2 (some .int)) ∈ zT := zT_in (List.mem_append_right _ (List.mem_of_getElem? (i := 624) (by decide +kernel))) (by decide +kernel)
theorem tw_625 : (Cond.methodLink "DyeTankLaw" 30 yX4_spinAll) ∈ zT := zT_in (List.mem_append_right _ (List.mem_of_getElem? (i := 625) (by decide +kernel))) (by decide +kernel)
theorem tw_626 : (Cond.instanceMethod yX4_spinAll) ∈ zT := zT_in (List.mem_append_right _ (List.mem_of_getElem? (i := 626) (by decide +kernel))) (by decide +kernel)
theorem tw_627 : (Cond.selects "DyeTankModel" yX4_spinAll yX4_spinAll) ∈ zT := zT_in (List.mem_append_right _ (List.mem_of_getElem? (i := 627) (by decide +kernel))) (by decide +kernel)
theorem tw_628 : (Cond.code yX4_spinAll prog_6_method_16_code 4 (some .int)) ∈ zT := zT_in (List.mem_append_right _ (List.mem_of_getElem? (i := 628) (by decide +kernel))) (by decide +kernel)
theorem tw_629 : (Cond.methodLink "DyeTankModel" 64 yX4_momenta) ∈ zT := zT_in (List.mem_append_right _ (List.mem_of_getElem? (i := 629) (by decide +kernel))) (by decide +kernel)
theorem tw_631 : (Cond.instanceMethod yX4_momenta) ∈ zT := zT_in (List.mem_append_right _ (List.mem_of_getElem? (i := 631) (by decide +kernel))) (by decide +kernel)
theorem tw_632 : (Cond.code yX4_momenta prog_6_method_15_code 3 (some .int)) ∈ zT := zT_in (List.mem_append_right _ (List.mem_of_getElem? (i := 632) (by decide +kernel))) (by decide +kernel)
theorem tw_633 : (Cond.methodLink "DyeTankLaw" 35 yX4_pour) ∈ zT := zT_in (List.mem_append_right _ (List.mem_of_getElem? (i := 633) (by decide +kernel))) (by decide +kernel)
theorem tw_634 : (Cond.instanceMethod yX4_pour) ∈ zT := zT_in (List.mem_append_right _ (List.mem_of_getElem? (i := 634) (by decide +kernel))) (by decide +kernel)
theorem tw_635 : (Cond.selects "DyeTankModel" yX4_pour yX4_pour) ∈ zT := zT_in (List.mem_append_right _ (List.mem_of_getElem? (i := 635) (by decide +kernel))) (by decide +kernel)
theorem tw_636 : (Cond.code yX4_pour prog_6_method_22_code 7 (some .int)) ∈ zT := zT_in (List.mem_append_right _ (List.mem_of_getElem? (i := 636) (by decide +kernel))) (by decide +kernel)
theorem tw_637 : (Cond.methodLink "DyeTankModel" 78 yX4_isPlace) ∈ zT := zT_in (List.mem_append_right _ (List.mem_of_getElem? (i := 637) (by decide +kernel))) (by decide +kernel)
theorem tw_639 : (Cond.instanceMethod yX4_isPlace) ∈ zT := zT_in (List.mem_append_right _ (List.mem_of_getElem? (i := 639) (by decide +kernel))) (by decide +kernel)
theorem tw_640 : (Cond.code yX4_isPlace prog_6_method_19_code 5 (some .boolean)) ∈ zT := zT_in (List.mem_append_right _ (List.mem_of_getElem? (i := 640) (by decide +kernel))) (by decide +kernel)
theorem tw_641 : (Cond.constant "DyeTankModel" 82 (1000000 : Int32)) ∈ zT := zT_in (List.mem_append_right _ (List.mem_of_getElem? (i := 641) (by decide +kernel))) (by decide +kernel)
theorem tw_642 : (Cond.methodLink "DyeTankModel" 83 yX4_allOf) ∈ zT := zT_in (List.mem_append_right _ (List.mem_of_getElem? (i := 642) (by decide +kernel))) (by decide +kernel)
theorem tw_644 : (Cond.instanceMethod yX4_allOf) ∈ zT := zT_in (List.mem_append_right _ (List.mem_of_getElem? (i := 644) (by decide +kernel))) (by decide +kernel)
theorem tw_645 : (Cond.code yX4_allOf prog_6_method_21_code 2 (some .int)) ∈ zT := zT_in (List.mem_append_right _ (List.mem_of_getElem? (i := 645) (by decide +kernel))) (by decide +kernel)
theorem tw_646 : (Cond.methodLink "DyeTankModel" 75 yX4_amountOf) ∈ zT := zT_in (List.mem_append_right _ (List.mem_of_getElem? (i := 646) (by decide +kernel))) (by decide +kernel)
theorem tw_648 : (Cond.instanceMethod yX4_amountOf) ∈ zT := zT_in (List.mem_append_right _ (List.mem_of_getElem? (i := 648) (by decide +kernel))) (by decide +kernel)
theorem tw_649 : (Cond.code yX4_amountOf prog_6_method_20_code 8 (some .int)) ∈ zT := zT_in (List.mem_append_right _ (List.mem_of_getElem? (i := 649) (by decide +kernel))) (by decide +kernel)
theorem tw_650 : (Cond.methodLink "DyeTankModel" 71 yX4_dyeAt) ∈ zT := zT_in (List.mem_append_right _ (List.mem_of_getElem? (i := 650) (by decide +kernel))) (by decide +kernel)
theorem tw_651 : (Cond.static yX4_dyeAt) ∈ zT := zT_in (List.mem_append_right _ (List.mem_of_getElem? (i := 651) (by decide +kernel))) (by decide +kernel)
theorem tw_652 : (Cond.code yX4_dyeAt prog_6_method_17_code 4 (some .int)) ∈ zT := zT_in (List.mem_append_right _ (List.mem_of_getElem? (i := 652) (by decide +kernel))) (by decide +kernel)
theorem tw_653 : (Cond.constant "DyeTankModel" 86 (10000000 : Int32)) ∈ zT := zT_in (List.mem_append_right _ (List.mem_of_getElem? (i := 653) (by decide +kernel))) (by decide +kernel)
theorem tw_654 : (Cond.methodLink "DyeTankModel" 87 yX4_cellIn) ∈ zT := zT_in (List.mem_append_right _ (List.mem_of_getElem? (i := 654) (by decide +kernel))) (by decide +kernel)
theorem tw_656 : (Cond.instanceMethod yX4_cellIn) ∈ zT := zT_in (List.mem_append_right _ (List.mem_of_getElem? (i := 656) (by decide +kernel))) (by decide +kernel)
theorem tw_657 : (Cond.code yX4_cellIn prog_6_method_18_code 3 (some .int)) ∈ zT := zT_in (List.mem_append_right _ (List.mem_of_getElem? (i := 657) (by decide +kernel))) (by decide +kernel)
theorem tw_658 : (Cond.methodLink "DyeTankModel" 68 yX4_mod) ∈ zT := zT_in (List.mem_append_right _ (List.mem_of_getElem? (i := 658) (by decide +kernel))) (by decide +kernel)
theorem tw_659 : (Cond.static yX4_mod) ∈ zT := zT_in (List.mem_append_right _ (List.mem_of_getElem? (i := 659) (by decide +kernel))) (by decide +kernel)
theorem tw_660 : (Cond.code yX4_mod prog_6_method_4_code 3 (some .int)) ∈ zT := zT_in (List.mem_append_right _ (List.mem_of_getElem? (i := 660) (by decide +kernel))) (by decide +kernel)
theorem tw_661 : (Cond.methodLink "DyeTankLaw" 39 yX4_tick) ∈ zT := zT_in (List.mem_append_right _ (List.mem_of_getElem? (i := 661) (by decide +kernel))) (by decide +kernel)
theorem tw_662 : (Cond.instanceMethod yX4_tick) ∈ zT := zT_in (List.mem_append_right _ (List.mem_of_getElem? (i := 662) (by decide +kernel))) (by decide +kernel)
theorem tw_663 : (Cond.selects "DyeTankModel" yX4_tick yX4_tick) ∈ zT := zT_in (List.mem_append_right _ (List.mem_of_getElem? (i := 663) (by decide +kernel))) (by decide +kernel)
theorem tw_664 : (Cond.code yX4_tick prog_6_method_30_code 3 (some .int)) ∈ zT := zT_in (List.mem_append_right _ (List.mem_of_getElem? (i := 664) (by decide +kernel))) (by decide +kernel)
theorem tw_665 : (Cond.constant "DyeTankModel" 113 (100000 : Int32)) ∈ zT := zT_in (List.mem_append_right _ (List.mem_of_getElem? (i := 665) (by decide +kernel))) (by decide +kernel)
theorem tw_666 : (Cond.methodLink "DyeTankModel" 114 yX4_makeTick) ∈ zT := zT_in (List.mem_append_right _ (List.mem_of_getElem? (i := 666) (by decide +kernel))) (by decide +kernel)
theorem tw_668 : (Cond.instanceMethod yX4_makeTick) ∈ zT := zT_in (List.mem_append_right _ (List.mem_of_getElem? (i := 668) (by decide +kernel))) (by decide +kernel)
theorem tw_669 : (Cond.code yX4_makeTick prog_6_method_29_code 2 (none : Option Jvm.ClassFile.FieldType)) ∈ zT := zT_in (List.mem_append_right _ (List.mem_of_getElem? (i := 669) (by decide +kernel))) (by decide +kernel)
theorem tw_670 : (Cond.methodLink "DyeTankModel" 101 yX4_stepMomenta) ∈ zT := zT_in (List.mem_append_right _ (List.mem_of_getElem? (i := 670) (by decide +kernel))) (by decide +kernel)
theorem tw_672 : (Cond.instanceMethod yX4_stepMomenta) ∈ zT := zT_in (List.mem_append_right _ (List.mem_of_getElem? (i := 672) (by decide +kernel))) (by decide +kernel)
theorem tw_673 : (Cond.code yX4_stepMomenta prog_6_method_23_code 4 (none : Option Jvm.ClassFile.FieldType)) ∈ zT := zT_in (List.mem_append_right _ (List.mem_of_getElem? (i := 673) (by decide +kernel))) (by decide +kernel)
theorem tw_674 : (Cond.methodLink "DyeTankModel" 104 yX4_stepDyes) ∈ zT := zT_in (List.mem_append_right _ (List.mem_of_getElem? (i := 674) (by decide +kernel))) (by decide +kernel)
theorem tw_676 : (Cond.instanceMethod yX4_stepDyes) ∈ zT := zT_in (List.mem_append_right _ (List.mem_of_getElem? (i := 676) (by decide +kernel))) (by decide +kernel)
theorem tw_677 : (Cond.code yX4_stepDyes prog_6_method_26_code 2 (none : Option Jvm.ClassFile.FieldType)) ∈ zT := zT_in (List.mem_append_right _ (List.mem_of_getElem? (i := 677) (by decide +kernel))) (by decide +kernel)
theorem tw_678 : (Cond.methodLink "DyeTankModel" 92 yX4_push) ∈ zT := zT_in (List.mem_append_right _ (List.mem_of_getElem? (i := 678) (by decide +kernel))) (by decide +kernel)
theorem tw_680 : (Cond.instanceMethod yX4_push) ∈ zT := zT_in (List.mem_append_right _ (List.mem_of_getElem? (i := 680) (by decide +kernel))) (by decide +kernel)
theorem tw_681 : (Cond.code yX4_push prog_6_method_24_code 3 (some .int)) ∈ zT := zT_in (List.mem_append_right _ (List.mem_of_getElem? (i := 681) (by decide +kernel))) (by decide +kernel)
theorem tw_682 : (Cond.methodLink "DyeTankModel" 95 yX4_stepRing) ∈ zT := zT_in (List.mem_append_right _ (List.mem_of_getElem? (i := 682) (by decide +kernel))) (by decide +kernel)
theorem tw_684 : (Cond.instanceMethod yX4_stepRing) ∈ zT := zT_in (List.mem_append_right _ (List.mem_of_getElem? (i := 684) (by decide +kernel))) (by decide +kernel)
theorem tw_685 : (Cond.code yX4_stepRing prog_6_method_25_code 12 (none : Option Jvm.ClassFile.FieldType)) ∈ zT := zT_in (List.mem_append_right _ (List.mem_of_getElem? (i := 685) (by decide +kernel))) (by decide +kernel)
theorem tw_686 : (Cond.constantLong "DyeTankModel" 90 (1000 : Int64)) ∈ zT := zT_in (List.mem_append_right _ (List.mem_of_getElem? (i := 686) (by decide +kernel))) (by decide +kernel)
theorem tw_687 : (Cond.methodLink "DyeTankModel" 107 yX4_mix) ∈ zT := zT_in (List.mem_append_right _ (List.mem_of_getElem? (i := 687) (by decide +kernel))) (by decide +kernel)
theorem tw_689 : (Cond.instanceMethod yX4_mix) ∈ zT := zT_in (List.mem_append_right _ (List.mem_of_getElem? (i := 689) (by decide +kernel))) (by decide +kernel)
theorem tw_690 : (Cond.code yX4_mix prog_6_method_27_code 6 (none : Option Jvm.ClassFile.FieldType)) ∈ zT := zT_in (List.mem_append_right _ (List.mem_of_getElem? (i := 690) (by decide +kernel))) (by decide +kernel)
theorem tw_691 : (Cond.constantLong "DyeTankModel" 99 (2000 : Int64)) ∈ zT := zT_in (List.mem_append_right _ (List.mem_of_getElem? (i := 691) (by decide +kernel))) (by decide +kernel)
theorem tw_692 : (Cond.methodLink "DyeTankModel" 110 yX4_stepMarker) ∈ zT := zT_in (List.mem_append_right _ (List.mem_of_getElem? (i := 692) (by decide +kernel))) (by decide +kernel)
theorem tw_694 : (Cond.instanceMethod yX4_stepMarker) ∈ zT := zT_in (List.mem_append_right _ (List.mem_of_getElem? (i := 694) (by decide +kernel))) (by decide +kernel)
theorem tw_695 : (Cond.code yX4_stepMarker prog_6_method_28_code 6 (none : Option Jvm.ClassFile.FieldType)) ∈ zT := zT_in (List.mem_append_right _ (List.mem_of_getElem? (i := 695) (by decide +kernel))) (by decide +kernel)
theorem tw_696 : (Cond.methodLink "DyeTankLaw" 43 yX4_ring) ∈ zT := zT_in (List.mem_append_right _ (List.mem_of_getElem? (i := 696) (by decide +kernel))) (by decide +kernel)
theorem tw_697 : (Cond.instanceMethod yX4_ring) ∈ zT := zT_in (List.mem_append_right _ (List.mem_of_getElem? (i := 697) (by decide +kernel))) (by decide +kernel)
theorem tw_698 : (Cond.selects "DyeTankModel" yX4_ring yX4_ring) ∈ zT := zT_in (List.mem_append_right _ (List.mem_of_getElem? (i := 698) (by decide +kernel))) (by decide +kernel)
theorem tw_699 : (Cond.code yX4_ring prog_6_method_31_code 3 (some .int)) ∈ zT := zT_in (List.mem_append_right _ (List.mem_of_getElem? (i := 699) (by decide +kernel))) (by decide +kernel)
theorem tw_700 : (Cond.methodLink "DyeTankLaw" 48 yX4_dye) ∈ zT := zT_in (List.mem_append_right _ (List.mem_of_getElem? (i := 700) (by decide +kernel))) (by decide +kernel)
theorem tw_701 : (Cond.instanceMethod yX4_dye) ∈ zT := zT_in (List.mem_append_right _ (List.mem_of_getElem? (i := 701) (by decide +kernel))) (by decide +kernel)
theorem tw_702 : (Cond.selects "DyeTankModel" yX4_dye yX4_dye) ∈ zT := zT_in (List.mem_append_right _ (List.mem_of_getElem? (i := 702) (by decide +kernel))) (by decide +kernel)
theorem tw_703 : (Cond.code yX4_dye prog_6_method_32_code 5 (some .int)) ∈ zT := zT_in (List.mem_append_right _ (List.mem_of_getElem? (i := 703) (by decide +kernel))) (by decide +kernel)
theorem tw_704 : (Cond.methodLink "DyeTankLaw" 53 yX4_colour) ∈ zT := zT_in (List.mem_append_right _ (List.mem_of_getElem? (i := 704) (by decide +kernel))) (by decide +kernel)
theorem tw_705 : (Cond.instanceMethod yX4_colour) ∈ zT := zT_in (List.mem_append_right _ (List.mem_of_getElem? (i := 705) (by decide +kernel))) (by decide +kernel)
theorem tw_706 : (Cond.selects "DyeTankModel" yX4_colour yX4_colour) ∈ zT := zT_in (List.mem_append_right _ (List.mem_of_getElem? (i := 706) (by decide +kernel))) (by decide +kernel)
theorem tw_707 : (Cond.code yX4_colour prog_6_method_38_code 3 (some .long)) ∈ zT := zT_in (List.mem_append_right _ (List.mem_of_getElem? (i := 707) (by decide +kernel))) (by decide +kernel)
theorem tw_708 : (Cond.methodLink "DyeTankModel" 121 yX4_isColour) ∈ zT := zT_in (List.mem_append_right _ (List.mem_of_getElem? (i := 708) (by decide +kernel))) (by decide +kernel)
theorem tw_709 : (Cond.static yX4_isColour) ∈ zT := zT_in (List.mem_append_right _ (List.mem_of_getElem? (i := 709) (by decide +kernel))) (by decide +kernel)
theorem tw_710 : (Cond.code yX4_isColour prog_6_method_37_code 1 (some .boolean)) ∈ zT := zT_in (List.mem_append_right _ (List.mem_of_getElem? (i := 710) (by decide +kernel))) (by decide +kernel)
theorem tw_711 : (Cond.constantLong "DyeTankModel" 124 (-1 : Int64)) ∈ zT := zT_in (List.mem_append_right _ (List.mem_of_getElem? (i := 711) (by decide +kernel))) (by decide +kernel)
theorem tw_712 : (Cond.methodLink "DyeTankModel" 126 yX4_cellsWith) ∈ zT := zT_in (List.mem_append_right _ (List.mem_of_getElem? (i := 712) (by decide +kernel))) (by decide +kernel)
theorem tw_714 : (Cond.instanceMethod yX4_cellsWith) ∈ zT := zT_in (List.mem_append_right _ (List.mem_of_getElem? (i := 714) (by decide +kernel))) (by decide +kernel)
theorem tw_715 : (Cond.code yX4_cellsWith prog_6_method_33_code 4 (some .int)) ∈ zT := zT_in (List.mem_append_right _ (List.mem_of_getElem? (i := 715) (by decide +kernel))) (by decide +kernel)
theorem tw_716 : (Cond.methodLink "DyeTankModel" 129 yX4_greatest) ∈ zT := zT_in (List.mem_append_right _ (List.mem_of_getElem? (i := 716) (by decide +kernel))) (by decide +kernel)
theorem tw_718 : (Cond.instanceMethod yX4_greatest) ∈ zT := zT_in (List.mem_append_right _ (List.mem_of_getElem? (i := 718) (by decide +kernel))) (by decide +kernel)
theorem tw_719 : (Cond.code yX4_greatest prog_6_method_34_code 5 (some .int)) ∈ zT := zT_in (List.mem_append_right _ (List.mem_of_getElem? (i := 719) (by decide +kernel))) (by decide +kernel)
theorem tw_720 : (Cond.methodLink "DyeTankModel" 132 yX4_meanPlace) ∈ zT := zT_in (List.mem_append_right _ (List.mem_of_getElem? (i := 720) (by decide +kernel))) (by decide +kernel)
theorem tw_722 : (Cond.instanceMethod yX4_meanPlace) ∈ zT := zT_in (List.mem_append_right _ (List.mem_of_getElem? (i := 722) (by decide +kernel))) (by decide +kernel)
theorem tw_723 : (Cond.code yX4_meanPlace prog_6_method_35_code 5 (some .long)) ∈ zT := zT_in (List.mem_append_right _ (List.mem_of_getElem? (i := 723) (by decide +kernel))) (by decide +kernel)
theorem tw_724 : (Cond.constantLong "DyeTankModel" 117 (-6 : Int64)) ∈ zT := zT_in (List.mem_append_right _ (List.mem_of_getElem? (i := 724) (by decide +kernel))) (by decide +kernel)
theorem tw_725 : (Cond.methodLink "DyeTankModel" 136 yX4_unevenness) ∈ zT := zT_in (List.mem_append_right _ (List.mem_of_getElem? (i := 725) (by decide +kernel))) (by decide +kernel)
theorem tw_727 : (Cond.instanceMethod yX4_unevenness) ∈ zT := zT_in (List.mem_append_right _ (List.mem_of_getElem? (i := 727) (by decide +kernel))) (by decide +kernel)
theorem tw_728 : (Cond.code yX4_unevenness prog_6_method_36_code 12 (some .long)) ∈ zT := zT_in (List.mem_append_right _ (List.mem_of_getElem? (i := 728) (by decide +kernel))) (by decide +kernel)
theorem tw_729 : (Cond.constantLong "DyeTankModel" 119 (48 : Int64)) ∈ zT := zT_in (List.mem_append_right _ (List.mem_of_getElem? (i := 729) (by decide +kernel))) (by decide +kernel)
theorem tw_730 : (Cond.constantLong "DyeTankModel" 139 (-2 : Int64)) ∈ zT := zT_in (List.mem_append_right _ (List.mem_of_getElem? (i := 730) (by decide +kernel))) (by decide +kernel)
theorem tw_731 : (Cond.methodLink "DyeTankLaw" 57 yX4_state) ∈ zT := zT_in (List.mem_append_right _ (List.mem_of_getElem? (i := 731) (by decide +kernel))) (by decide +kernel)
theorem tw_732 : (Cond.instanceMethod yX4_state) ∈ zT := zT_in (List.mem_append_right _ (List.mem_of_getElem? (i := 732) (by decide +kernel))) (by decide +kernel)
theorem tw_733 : (Cond.selects "DyeTankModel" yX4_state yX4_state) ∈ zT := zT_in (List.mem_append_right _ (List.mem_of_getElem? (i := 733) (by decide +kernel))) (by decide +kernel)
theorem tw_734 : (Cond.code yX4_state prog_6_method_40_code 2 (some .int)) ∈ zT := zT_in (List.mem_append_right _ (List.mem_of_getElem? (i := 734) (by decide +kernel))) (by decide +kernel)
theorem tw_735 : (Cond.methodLink "DyeTankModel" 141 yX4_greatestShear) ∈ zT := zT_in (List.mem_append_right _ (List.mem_of_getElem? (i := 735) (by decide +kernel))) (by decide +kernel)
theorem tw_737 : (Cond.instanceMethod yX4_greatestShear) ∈ zT := zT_in (List.mem_append_right _ (List.mem_of_getElem? (i := 737) (by decide +kernel))) (by decide +kernel)
theorem tw_738 : (Cond.code yX4_greatestShear prog_6_method_39_code 4 (some .int)) ∈ zT := zT_in (List.mem_append_right _ (List.mem_of_getElem? (i := 738) (by decide +kernel))) (by decide +kernel)
theorem tw_739 : (Cond.methodLink "DyeTankLaw" 61 yX4_marker) ∈ zT := zT_in (List.mem_append_right _ (List.mem_of_getElem? (i := 739) (by decide +kernel))) (by decide +kernel)
theorem tw_740 : (Cond.instanceMethod yX4_marker) ∈ zT := zT_in (List.mem_append_right _ (List.mem_of_getElem? (i := 740) (by decide +kernel))) (by decide +kernel)
theorem tw_741 : (Cond.selects "DyeTankModel" yX4_marker yX4_marker) ∈ zT := zT_in (List.mem_append_right _ (List.mem_of_getElem? (i := 741) (by decide +kernel))) (by decide +kernel)
theorem tw_742 : (Cond.code yX4_marker prog_6_method_41_code 4 (some .int)) ∈ zT := zT_in (List.mem_append_right _ (List.mem_of_getElem? (i := 742) (by decide +kernel))) (by decide +kernel)
theorem tw_743 : (Cond.methodLink "DyeTankLaw" 65 yX4_where) ∈ zT := zT_in (List.mem_append_right _ (List.mem_of_getElem? (i := 743) (by decide +kernel))) (by decide +kernel)
theorem tw_744 : (Cond.instanceMethod yX4_where) ∈ zT := zT_in (List.mem_append_right _ (List.mem_of_getElem? (i := 744) (by decide +kernel))) (by decide +kernel)
theorem tw_745 : (Cond.selects "DyeTankModel" yX4_where yX4_where) ∈ zT := zT_in (List.mem_append_right _ (List.mem_of_getElem? (i := 745) (by decide +kernel))) (by decide +kernel)
theorem tw_746 : (Cond.code yX4_where prog_6_method_44_code 4 (some .int)) ∈ zT := zT_in (List.mem_append_right _ (List.mem_of_getElem? (i := 746) (by decide +kernel))) (by decide +kernel)
theorem tw_747 : (Cond.methodLink "DyeTankModel" 148 yX4_isMarker) ∈ zT := zT_in (List.mem_append_right _ (List.mem_of_getElem? (i := 747) (by decide +kernel))) (by decide +kernel)
theorem tw_749 : (Cond.instanceMethod yX4_isMarker) ∈ zT := zT_in (List.mem_append_right _ (List.mem_of_getElem? (i := 749) (by decide +kernel))) (by decide +kernel)
theorem tw_750 : (Cond.code yX4_isMarker prog_6_method_42_code 2 (some .boolean)) ∈ zT := zT_in (List.mem_append_right _ (List.mem_of_getElem? (i := 750) (by decide +kernel))) (by decide +kernel)
theorem tw_751 : (Cond.methodLink "DyeTankModel" 151 yX4_keptOf) ∈ zT := zT_in (List.mem_append_right _ (List.mem_of_getElem? (i := 751) (by decide +kernel))) (by decide +kernel)
theorem tw_753 : (Cond.instanceMethod yX4_keptOf) ∈ zT := zT_in (List.mem_append_right _ (List.mem_of_getElem? (i := 753) (by decide +kernel))) (by decide +kernel)
theorem tw_754 : (Cond.code yX4_keptOf prog_6_method_43_code 3 (some .int)) ∈ zT := zT_in (List.mem_append_right _ (List.mem_of_getElem? (i := 754) (by decide +kernel))) (by decide +kernel)
theorem tw_755 : (Cond.methodLink "DyeTankLaw" 70 yX4_path) ∈ zT := zT_in (List.mem_append_right _ (List.mem_of_getElem? (i := 755) (by decide +kernel))) (by decide +kernel)
theorem tw_756 : (Cond.instanceMethod yX4_path) ∈ zT := zT_in (List.mem_append_right _ (List.mem_of_getElem? (i := 756) (by decide +kernel))) (by decide +kernel)
theorem tw_757 : (Cond.selects "DyeTankModel" yX4_path yX4_path) ∈ zT := zT_in (List.mem_append_right _ (List.mem_of_getElem? (i := 757) (by decide +kernel))) (by decide +kernel)
theorem tw_758 : (Cond.code yX4_path prog_6_method_45_code 5 (some .int)) ∈ zT := zT_in (List.mem_append_right _ (List.mem_of_getElem? (i := 758) (by decide +kernel))) (by decide +kernel)
theorem tw_759 : (Cond.methodLink "DyeTankLaw" 74 yX4_settles) ∈ zT := zT_in (List.mem_append_right _ (List.mem_of_getElem? (i := 759) (by decide +kernel))) (by decide +kernel)
theorem tw_760 : (Cond.instanceMethod yX4_settles) ∈ zT := zT_in (List.mem_append_right _ (List.mem_of_getElem? (i := 760) (by decide +kernel))) (by decide +kernel)
theorem tw_761 : (Cond.selects "DyeTankModel" yX4_settles yX4_settles) ∈ zT := zT_in (List.mem_append_right _ (List.mem_of_getElem? (i := 761) (by decide +kernel))) (by decide +kernel)
theorem tw_762 : (Cond.code yX4_settles prog_6_method_51_code 3 (some .int)) ∈ zT := zT_in (List.mem_append_right _ (List.mem_of_getElem? (i := 762) (by decide +kernel))) (by decide +kernel)
theorem tw_763 : (Cond.methodLink "DyeTankModel" 172 yX4_whenHolds) ∈ zT := zT_in (List.mem_append_right _ (List.mem_of_getElem? (i := 763) (by decide +kernel))) (by decide +kernel)
theorem tw_765 : (Cond.instanceMethod yX4_whenHolds) ∈ zT := zT_in (List.mem_append_right _ (List.mem_of_getElem? (i := 765) (by decide +kernel))) (by decide +kernel)
theorem tw_766 : (Cond.code yX4_whenHolds prog_6_method_50_code 8 (some .int)) ∈ zT := zT_in (List.mem_append_right _ (List.mem_of_getElem? (i := 766) (by decide +kernel))) (by decide +kernel)
theorem tw_767 : (Cond.methodLink "DyeTankModel" 163 yX4_putAside) ∈ zT := zT_in (List.mem_append_right _ (List.mem_of_getElem? (i := 767) (by decide +kernel))) (by decide +kernel)
theorem tw_769 : (Cond.instanceMethod yX4_putAside) ∈ zT := zT_in (List.mem_append_right _ (List.mem_of_getElem? (i := 769) (by decide +kernel))) (by decide +kernel)
theorem tw_770 : (Cond.code yX4_putAside prog_6_method_6_code 2 (none : Option Jvm.ClassFile.FieldType)) ∈ zT := zT_in (List.mem_append_right _ (List.mem_of_getElem? (i := 770) (by decide +kernel))) (by decide +kernel)
theorem tw_771 : (Cond.methodLink "DyeTankModel" 166 yX4_holds) ∈ zT := zT_in (List.mem_append_right _ (List.mem_of_getElem? (i := 771) (by decide +kernel))) (by decide +kernel)
theorem tw_773 : (Cond.instanceMethod yX4_holds) ∈ zT := zT_in (List.mem_append_right _ (List.mem_of_getElem? (i := 773) (by decide +kernel))) (by decide +kernel)
theorem tw_774 : (Cond.code yX4_holds prog_6_method_49_code 5 (some .boolean)) ∈ zT := zT_in (List.mem_append_right _ (List.mem_of_getElem? (i := 774) (by decide +kernel))) (by decide +kernel)
theorem tw_775 : (Cond.methodLink "DyeTankModel" 154 yX4_isSettled) ∈ zT := zT_in (List.mem_append_right _ (List.mem_of_getElem? (i := 775) (by decide +kernel))) (by decide +kernel)
theorem tw_777 : (Cond.instanceMethod yX4_isSettled) ∈ zT := zT_in (List.mem_append_right _ (List.mem_of_getElem? (i := 777) (by decide +kernel))) (by decide +kernel)
theorem tw_778 : (Cond.code yX4_isSettled prog_6_method_46_code 4 (some .boolean)) ∈ zT := zT_in (List.mem_append_right _ (List.mem_of_getElem? (i := 778) (by decide +kernel))) (by decide +kernel)
theorem tw_779 : (Cond.methodLink "DyeTankModel" 157 yX4_hasPart) ∈ zT := zT_in (List.mem_append_right _ (List.mem_of_getElem? (i := 779) (by decide +kernel))) (by decide +kernel)
theorem tw_781 : (Cond.instanceMethod yX4_hasPart) ∈ zT := zT_in (List.mem_append_right _ (List.mem_of_getElem? (i := 781) (by decide +kernel))) (by decide +kernel)
theorem tw_782 : (Cond.code yX4_hasPart prog_6_method_47_code 6 (some .boolean)) ∈ zT := zT_in (List.mem_append_right _ (List.mem_of_getElem? (i := 782) (by decide +kernel))) (by decide +kernel)
theorem tw_783 : (Cond.methodLink "DyeTankModel" 160 yX4_areNear) ∈ zT := zT_in (List.mem_append_right _ (List.mem_of_getElem? (i := 783) (by decide +kernel))) (by decide +kernel)
theorem tw_785 : (Cond.instanceMethod yX4_areNear) ∈ zT := zT_in (List.mem_append_right _ (List.mem_of_getElem? (i := 785) (by decide +kernel))) (by decide +kernel)
theorem tw_786 : (Cond.code yX4_areNear prog_6_method_48_code 7 (some .boolean)) ∈ zT := zT_in (List.mem_append_right _ (List.mem_of_getElem? (i := 786) (by decide +kernel))) (by decide +kernel)
theorem tw_787 : (Cond.methodLink "DyeTankModel" 169 yX4_putBack) ∈ zT := zT_in (List.mem_append_right _ (List.mem_of_getElem? (i := 787) (by decide +kernel))) (by decide +kernel)
theorem tw_789 : (Cond.instanceMethod yX4_putBack) ∈ zT := zT_in (List.mem_append_right _ (List.mem_of_getElem? (i := 789) (by decide +kernel))) (by decide +kernel)
theorem tw_790 : (Cond.code yX4_putBack prog_6_method_7_code 2 (none : Option Jvm.ClassFile.FieldType)) ∈ zT := zT_in (List.mem_append_right _ (List.mem_of_getElem? (i := 790) (by decide +kernel))) (by decide +kernel)
theorem tw_791 : (Cond.methodLink "DyeTankLaw" 78 yX4_arrives) ∈ zT := zT_in (List.mem_append_right _ (List.mem_of_getElem? (i := 791) (by decide +kernel))) (by decide +kernel)
theorem tw_792 : (Cond.instanceMethod yX4_arrives) ∈ zT := zT_in (List.mem_append_right _ (List.mem_of_getElem? (i := 792) (by decide +kernel))) (by decide +kernel)
theorem tw_793 : (Cond.selects "DyeTankModel" yX4_arrives yX4_arrives) ∈ zT := zT_in (List.mem_append_right _ (List.mem_of_getElem? (i := 793) (by decide +kernel))) (by decide +kernel)
theorem tw_794 : (Cond.code yX4_arrives prog_6_method_52_code 5 (some .int)) ∈ zT := zT_in (List.mem_append_right _ (List.mem_of_getElem? (i := 794) (by decide +kernel))) (by decide +kernel)
theorem tw_795 : (Cond.methodLink "DyeTankLaw" 82 yX4_meet) ∈ zT := zT_in (List.mem_append_right _ (List.mem_of_getElem? (i := 795) (by decide +kernel))) (by decide +kernel)
theorem tw_796 : (Cond.instanceMethod yX4_meet) ∈ zT := zT_in (List.mem_append_right _ (List.mem_of_getElem? (i := 796) (by decide +kernel))) (by decide +kernel)
theorem tw_797 : (Cond.selects "DyeTankModel" yX4_meet yX4_meet) ∈ zT := zT_in (List.mem_append_right _ (List.mem_of_getElem? (i := 797) (by decide +kernel))) (by decide +kernel)
theorem tw_798 : (Cond.code yX4_meet prog_6_method_53_code 5 (some .int)) ∈ zT := zT_in (List.mem_append_right _ (List.mem_of_getElem? (i := 798) (by decide +kernel))) (by decide +kernel)
theorem tw_799 : (Cond.methodLink "DyeTankLaw" 86 yX4_leastEkman) ∈ zT := zT_in (List.mem_append_right _ (List.mem_of_getElem? (i := 799) (by decide +kernel))) (by decide +kernel)
theorem tw_800 : (Cond.instanceMethod yX4_leastEkman) ∈ zT := zT_in (List.mem_append_right _ (List.mem_of_getElem? (i := 800) (by decide +kernel))) (by decide +kernel)
theorem tw_801 : (Cond.selects "DyeTankModel" yX4_leastEkman yX4_leastEkman) ∈ zT := zT_in (List.mem_append_right _ (List.mem_of_getElem? (i := 801) (by decide +kernel))) (by decide +kernel)
theorem tw_802 : (Cond.code yX4_leastEkman prog_6_method_54_code 7 (some .int)) ∈ zT := zT_in (List.mem_append_right _ (List.mem_of_getElem? (i := 802) (by decide +kernel))) (by decide +kernel)
theorem tw_803 : (Cond.methodLink "DyeTankLaw" 90 yX4_say) ∈ zT := zT_in (List.mem_append_right _ (List.mem_of_getElem? (i := 803) (by decide +kernel))) (by decide +kernel)
theorem tw_804 : (Cond.instanceMethod yX4_say) ∈ zT := zT_in (List.mem_append_right _ (List.mem_of_getElem? (i := 804) (by decide +kernel))) (by decide +kernel)
theorem tw_805 : (Cond.selects "DyeTankModel" yX4_say yX4_say) ∈ zT := zT_in (List.mem_append_right _ (List.mem_of_getElem? (i := 805) (by decide +kernel))) (by decide +kernel)
theorem tw_806 : (Cond.code yX4_say prog_6_method_55_code 2 (some .int)) ∈ zT := zT_in (List.mem_append_right _ (List.mem_of_getElem? (i := 806) (by decide +kernel))) (by decide +kernel)
theorem tw_807 : (Cond.methodLink "DyeTankLaw" 95 yX4_wipe) ∈ zT := zT_in (List.mem_append_right _ (List.mem_of_getElem? (i := 807) (by decide +kernel))) (by decide +kernel)
theorem tw_808 : (Cond.instanceMethod yX4_wipe) ∈ zT := zT_in (List.mem_append_right _ (List.mem_of_getElem? (i := 808) (by decide +kernel))) (by decide +kernel)
theorem tw_809 : (Cond.selects "DyeTankModel" yX4_wipe yX4_wipe) ∈ zT := zT_in (List.mem_append_right _ (List.mem_of_getElem? (i := 809) (by decide +kernel))) (by decide +kernel)
theorem tw_810 : (Cond.code yX4_wipe prog_6_method_56_code 2 (some .int)) ∈ zT := zT_in (List.mem_append_right _ (List.mem_of_getElem? (i := 810) (by decide +kernel))) (by decide +kernel)
theorem tw_811 : (Cond.methodLink "DyeTankLaw" 99 yX4_fault) ∈ zT := zT_in (List.mem_append_right _ (List.mem_of_getElem? (i := 811) (by decide +kernel))) (by decide +kernel)
theorem tw_812 : (Cond.instanceMethod yX4_fault) ∈ zT := zT_in (List.mem_append_right _ (List.mem_of_getElem? (i := 812) (by decide +kernel))) (by decide +kernel)
theorem tw_813 : (Cond.selects "DyeTankModel" yX4_fault yX4_fault) ∈ zT := zT_in (List.mem_append_right _ (List.mem_of_getElem? (i := 813) (by decide +kernel))) (by decide +kernel)
theorem tw_814 : (Cond.code yX4_fault prog_6_method_64_code 1 (some .int)) ∈ zT := zT_in (List.mem_append_right _ (List.mem_of_getElem? (i := 814) (by decide +kernel))) (by decide +kernel)
theorem tw_815 : (Cond.methodLink "DyeTankModel" 205 yX4_takeStep) ∈ zT := zT_in (List.mem_append_right _ (List.mem_of_getElem? (i := 815) (by decide +kernel))) (by decide +kernel)
theorem tw_817 : (Cond.instanceMethod yX4_takeStep) ∈ zT := zT_in (List.mem_append_right _ (List.mem_of_getElem? (i := 817) (by decide +kernel))) (by decide +kernel)
theorem tw_818 : (Cond.code yX4_takeStep prog_6_method_63_code 3 (none : Option Jvm.ClassFile.FieldType)) ∈ zT := zT_in (List.mem_append_right _ (List.mem_of_getElem? (i := 818) (by decide +kernel))) (by decide +kernel)
theorem tw_819 : (Cond.methodLink "DyeTankModel" 183 yX4_next) ∈ zT := zT_in (List.mem_append_right _ (List.mem_of_getElem? (i := 819) (by decide +kernel))) (by decide +kernel)
theorem tw_821 : (Cond.instanceMethod yX4_next) ∈ zT := zT_in (List.mem_append_right _ (List.mem_of_getElem? (i := 821) (by decide +kernel))) (by decide +kernel)
theorem tw_822 : (Cond.code yX4_next prog_6_method_57_code 1 (some .int)) ∈ zT := zT_in (List.mem_append_right _ (List.mem_of_getElem? (i := 822) (by decide +kernel))) (by decide +kernel)
theorem tw_823 : (Cond.methodLink "DyeTankModel" 186 yX4_takeNumber) ∈ zT := zT_in (List.mem_append_right _ (List.mem_of_getElem? (i := 823) (by decide +kernel))) (by decide +kernel)
theorem tw_825 : (Cond.instanceMethod yX4_takeNumber) ∈ zT := zT_in (List.mem_append_right _ (List.mem_of_getElem? (i := 825) (by decide +kernel))) (by decide +kernel)
theorem tw_826 : (Cond.code yX4_takeNumber prog_6_method_58_code 6 (some .int)) ∈ zT := zT_in (List.mem_append_right _ (List.mem_of_getElem? (i := 826) (by decide +kernel))) (by decide +kernel)
theorem tw_827 : (Cond.methodLink "DyeTankModel" 199 yX4_takeVelocity) ∈ zT := zT_in (List.mem_append_right _ (List.mem_of_getElem? (i := 827) (by decide +kernel))) (by decide +kernel)
theorem tw_829 : (Cond.instanceMethod yX4_takeVelocity) ∈ zT := zT_in (List.mem_append_right _ (List.mem_of_getElem? (i := 829) (by decide +kernel))) (by decide +kernel)
theorem tw_830 : (Cond.code yX4_takeVelocity prog_6_method_61_code 4 (none : Option Jvm.ClassFile.FieldType)) ∈ zT := zT_in (List.mem_append_right _ (List.mem_of_getElem? (i := 830) (by decide +kernel))) (by decide +kernel)
theorem tw_831 : (Cond.methodLink "DyeTankModel" 189 yX4_need) ∈ zT := zT_in (List.mem_append_right _ (List.mem_of_getElem? (i := 831) (by decide +kernel))) (by decide +kernel)
theorem tw_833 : (Cond.instanceMethod yX4_need) ∈ zT := zT_in (List.mem_append_right _ (List.mem_of_getElem? (i := 833) (by decide +kernel))) (by decide +kernel)
theorem tw_834 : (Cond.code yX4_need prog_6_method_59_code 2 (none : Option Jvm.ClassFile.FieldType)) ∈ zT := zT_in (List.mem_append_right _ (List.mem_of_getElem? (i := 834) (by decide +kernel))) (by decide +kernel)
theorem tw_835 : (Cond.methodLink "DyeTankModel" 202 yX4_takeDye) ∈ zT := zT_in (List.mem_append_right _ (List.mem_of_getElem? (i := 835) (by decide +kernel))) (by decide +kernel)
theorem tw_837 : (Cond.instanceMethod yX4_takeDye) ∈ zT := zT_in (List.mem_append_right _ (List.mem_of_getElem? (i := 837) (by decide +kernel))) (by decide +kernel)
theorem tw_838 : (Cond.code yX4_takeDye prog_6_method_62_code 2 (none : Option Jvm.ClassFile.FieldType)) ∈ zT := zT_in (List.mem_append_right _ (List.mem_of_getElem? (i := 838) (by decide +kernel))) (by decide +kernel)
theorem tw_839 : (Cond.methodLink "DyeTankModel" 192 yX4_takeOne) ∈ zT := zT_in (List.mem_append_right _ (List.mem_of_getElem? (i := 839) (by decide +kernel))) (by decide +kernel)
theorem tw_841 : (Cond.instanceMethod yX4_takeOne) ∈ zT := zT_in (List.mem_append_right _ (List.mem_of_getElem? (i := 841) (by decide +kernel))) (by decide +kernel)
theorem tw_842 : (Cond.code yX4_takeOne prog_6_method_60_code 4 (some .int)) ∈ zT := zT_in (List.mem_append_right _ (List.mem_of_getElem? (i := 842) (by decide +kernel))) (by decide +kernel)
theorem tw_843 : (Cond.constant "DyeTankModel" 195 (999999 : Int32)) ∈ zT := zT_in (List.mem_append_right _ (List.mem_of_getElem? (i := 843) (by decide +kernel))) (by decide +kernel)
theorem tw_844 : (Cond.methodLink "DyeTankLaw" 103 yX4_carryOut) ∈ zT := zT_in (List.mem_append_right _ (List.mem_of_getElem? (i := 844) (by decide +kernel))) (by decide +kernel)
theorem tw_845 : (Cond.instanceMethod yX4_carryOut) ∈ zT := zT_in (List.mem_append_right _ (List.mem_of_getElem? (i := 845) (by decide +kernel))) (by decide +kernel)
theorem tw_846 : (Cond.selects "DyeTankModel" yX4_carryOut yX4_carryOut) ∈ zT := zT_in (List.mem_append_right _ (List.mem_of_getElem? (i := 846) (by decide +kernel))) (by decide +kernel)
theorem tw_847 : (Cond.code yX4_carryOut prog_6_method_66_code 2 (some .int)) ∈ zT := zT_in (List.mem_append_right _ (List.mem_of_getElem? (i := 847) (by decide +kernel))) (by decide +kernel)
theorem tw_848 : (Cond.methodLink "DyeTankModel" 218 yX4_fault) ∈ zT := zT_in (List.mem_append_right _ (List.mem_of_getElem? (i := 848) (by decide +kernel))) (by decide +kernel)
theorem tw_849 : (Cond.methodLink "DyeTankModel" 221 yX4_carries) ∈ zT := zT_in (List.mem_append_right _ (List.mem_of_getElem? (i := 849) (by decide +kernel))) (by decide +kernel)
theorem tw_851 : (Cond.instanceMethod yX4_carries) ∈ zT := zT_in (List.mem_append_right _ (List.mem_of_getElem? (i := 851) (by decide +kernel))) (by decide +kernel)
theorem tw_852 : (Cond.code yX4_carries prog_6_method_65_code 4 (some .boolean)) ∈ zT := zT_in (List.mem_append_right _ (List.mem_of_getElem? (i := 852) (by decide +kernel))) (by decide +kernel)
theorem tw_853 : (Cond.methodLink "DyeTankModel" 208 yX4_tick) ∈ zT := zT_in (List.mem_append_right _ (List.mem_of_getElem? (i := 853) (by decide +kernel))) (by decide +kernel)
theorem tw_854 : (Cond.methodLink "DyeTankModel" 211 yX4_spin) ∈ zT := zT_in (List.mem_append_right _ (List.mem_of_getElem? (i := 854) (by decide +kernel))) (by decide +kernel)
theorem tw_855 : (Cond.constant "DyeTankModel" 214 (-1000000000 : Int32)) ∈ zT := zT_in (List.mem_append_right _ (List.mem_of_getElem? (i := 855) (by decide +kernel))) (by decide +kernel)
theorem tw_856 : (Cond.methodLink "DyeTankModel" 215 yX4_pour) ∈ zT := zT_in (List.mem_append_right _ (List.mem_of_getElem? (i := 856) (by decide +kernel))) (by decide +kernel)
theorem tw_857 : (Cond.methodLink "DyeTankLaw" 107 yX4_save) ∈ zT := zT_in (List.mem_append_right _ (List.mem_of_getElem? (i := 857) (by decide +kernel))) (by decide +kernel)
theorem tw_858 : (Cond.instanceMethod yX4_save) ∈ zT := zT_in (List.mem_append_right _ (List.mem_of_getElem? (i := 858) (by decide +kernel))) (by decide +kernel)
theorem tw_859 : (Cond.selects "DyeTankModel" yX4_save yX4_save) ∈ zT := zT_in (List.mem_append_right _ (List.mem_of_getElem? (i := 859) (by decide +kernel))) (by decide +kernel)
theorem tw_860 : (Cond.code yX4_save prog_6_method_67_code 3 (some .int)) ∈ zT := zT_in (List.mem_append_right _ (List.mem_of_getElem? (i := 860) (by decide +kernel))) (by decide +kernel)
theorem tw_861 : (Cond.methodLink "DyeTankLaw" 111 yX4_restore) ∈ zT := zT_in (List.mem_append_right _ (List.mem_of_getElem? (i := 861) (by decide +kernel))) (by decide +kernel)
theorem tw_862 : (Cond.instanceMethod yX4_restore) ∈ zT := zT_in (List.mem_append_right _ (List.mem_of_getElem? (i := 862) (by decide +kernel))) (by decide +kernel)
theorem tw_863 : (Cond.selects "DyeTankModel" yX4_restore yX4_restore) ∈ zT := zT_in (List.mem_append_right _ (List.mem_of_getElem? (i := 863) (by decide +kernel))) (by decide +kernel)
theorem tw_864 : (Cond.code yX4_restore prog_6_method_68_code 3 (some .int)) ∈ zT := zT_in (List.mem_append_right _ (List.mem_of_getElem? (i := 864) (by decide +kernel))) (by decide +kernel)
theorem tp_0 : (Cond.selects "DyeTank" yX3_isPlaceOfDye yX3_isPlaceOfDye) ∈ zT := zT_in (List.mem_append_left _ (List.mem_of_getElem? (i := 0) (by decide +kernel))) (by decide +kernel)
theorem tp_1 : (Cond.selects "DyeTank$Tank" yX2_changeMomenta yX2_changeMomenta) ∈ zT := zT_in (List.mem_append_left _ (List.mem_of_getElem? (i := 1) (by decide +kernel))) (by decide +kernel)
theorem tp_2 : (Cond.selects "DyeTank$Tank" yX2_moveRow yX2_moveRow) ∈ zT := zT_in (List.mem_append_left _ (List.mem_of_getElem? (i := 2) (by decide +kernel))) (by decide +kernel)
theorem tp_3 : (Cond.selects "DyeTank$Tank" yX2_mixLayers yX2_mixLayers) ∈ zT := zT_in (List.mem_append_left _ (List.mem_of_getElem? (i := 3) (by decide +kernel))) (by decide +kernel)
theorem tp_4 : (Cond.selects "DyeTank$Marker" yX0_keepPosition yX0_keepPosition) ∈ zT := zT_in (List.mem_append_left _ (List.mem_of_getElem? (i := 4) (by decide +kernel))) (by decide +kernel)
theorem tp_5 : (Cond.selects "DyeTank$Tank" yX2_amountInRow yX2_amountInRow) ∈ zT := zT_in (List.mem_append_left _ (List.mem_of_getElem? (i := 5) (by decide +kernel))) (by decide +kernel)
theorem tp_6 : (Cond.selects "DyeTank" yX3_placeWith yX3_placeWith) ∈ zT := zT_in (List.mem_append_left _ (List.mem_of_getElem? (i := 6) (by decide +kernel))) (by decide +kernel)
theorem tp_7 : (Cond.selects "DyeTank$Pad" yX1_character yX1_character) ∈ zT := zT_in (List.mem_append_left _ (List.mem_of_getElem? (i := 7) (by decide +kernel))) (by decide +kernel)
theorem tp_8 : (Cond.selects "DyeTank$Pad" yX1_readNumber yX1_readNumber) ∈ zT := zT_in (List.mem_append_left _ (List.mem_of_getElem? (i := 8) (by decide +kernel))) (by decide +kernel)
theorem tp_9 : (Cond.selects "DyeTank$Pad" yX1_digit yX1_digit) ∈ zT := zT_in (List.mem_append_left _ (List.mem_of_getElem? (i := 9) (by decide +kernel))) (by decide +kernel)
theorem tp_10 : (Cond.selects "DyeTank$Pad" yX1_readRing yX1_readRing) ∈ zT := zT_in (List.mem_append_left _ (List.mem_of_getElem? (i := 10) (by decide +kernel))) (by decide +kernel)
theorem tp_11 : (Cond.selects "DyeTank$Pad" yX1_readVelocity yX1_readVelocity) ∈ zT := zT_in (List.mem_append_left _ (List.mem_of_getElem? (i := 11) (by decide +kernel))) (by decide +kernel)
theorem tp_12 : (Cond.selects "DyeTank$Pad" yX1_readColour yX1_readColour) ∈ zT := zT_in (List.mem_append_left _ (List.mem_of_getElem? (i := 12) (by decide +kernel))) (by decide +kernel)
theorem tp_13 : (Cond.selects "DyeTank$Pad" yX1_readLayer yX1_readLayer) ∈ zT := zT_in (List.mem_append_left _ (List.mem_of_getElem? (i := 13) (by decide +kernel))) (by decide +kernel)
theorem tp_14 : (Cond.selects "DyeTank$Pad" yX1_readSector yX1_readSector) ∈ zT := zT_in (List.mem_append_left _ (List.mem_of_getElem? (i := 14) (by decide +kernel))) (by decide +kernel)
theorem tp_15 : (Cond.selects "DyeTank$Pad" yX1_readAmount yX1_readAmount) ∈ zT := zT_in (List.mem_append_left _ (List.mem_of_getElem? (i := 15) (by decide +kernel))) (by decide +kernel)
theorem tp_16 : (Cond.selects "DyeTank" yX3_carriedOut yX3_carriedOut) ∈ zT := zT_in (List.mem_append_left _ (List.mem_of_getElem? (i := 16) (by decide +kernel))) (by decide +kernel)
theorem tp_17 : (Cond.selects "DyeTankModel" yX4_begin yX4_begin) ∈ zT := zT_in (List.mem_append_left _ (List.mem_of_getElem? (i := 17) (by decide +kernel))) (by decide +kernel)
theorem tp_18 : (Cond.selects "DyeTankModel" yX4_isRing yX4_isRing) ∈ zT := zT_in (List.mem_append_left _ (List.mem_of_getElem? (i := 18) (by decide +kernel))) (by decide +kernel)
theorem tp_19 : (Cond.selects "DyeTankModel" yX4_velocity yX4_velocity) ∈ zT := zT_in (List.mem_append_left _ (List.mem_of_getElem? (i := 19) (by decide +kernel))) (by decide +kernel)
theorem tp_20 : (Cond.selects "DyeTankModel" yX4_momenta yX4_momenta) ∈ zT := zT_in (List.mem_append_left _ (List.mem_of_getElem? (i := 20) (by decide +kernel))) (by decide +kernel)
theorem tp_21 : (Cond.selects "DyeTankModel" yX4_isPlace yX4_isPlace) ∈ zT := zT_in (List.mem_append_left _ (List.mem_of_getElem? (i := 21) (by decide +kernel))) (by decide +kernel)
theorem tp_22 : (Cond.selects "DyeTankModel" yX4_allOf yX4_allOf) ∈ zT := zT_in (List.mem_append_left _ (List.mem_of_getElem? (i := 22) (by decide +kernel))) (by decide +kernel)
theorem tp_23 : (Cond.selects "DyeTankModel" yX4_amountOf yX4_amountOf) ∈ zT := zT_in (List.mem_append_left _ (List.mem_of_getElem? (i := 23) (by decide +kernel))) (by decide +kernel)
theorem tp_24 : (Cond.selects "DyeTankModel" yX4_cellIn yX4_cellIn) ∈ zT := zT_in (List.mem_append_left _ (List.mem_of_getElem? (i := 24) (by decide +kernel))) (by decide +kernel)
theorem tp_25 : (Cond.selects "DyeTankModel" yX4_makeTick yX4_makeTick) ∈ zT := zT_in (List.mem_append_left _ (List.mem_of_getElem? (i := 25) (by decide +kernel))) (by decide +kernel)
theorem tp_26 : (Cond.selects "DyeTankModel" yX4_stepMomenta yX4_stepMomenta) ∈ zT := zT_in (List.mem_append_left _ (List.mem_of_getElem? (i := 26) (by decide +kernel))) (by decide +kernel)
theorem tp_27 : (Cond.selects "DyeTankModel" yX4_stepDyes yX4_stepDyes) ∈ zT := zT_in (List.mem_append_left _ (List.mem_of_getElem? (i := 27) (by decide +kernel))) (by decide +kernel)
theorem tp_28 : (Cond.selects "DyeTankModel" yX4_push yX4_push) ∈ zT := zT_in (List.mem_append_left _ (List.mem_of_getElem? (i := 28) (by decide +kernel))) (by decide +kernel)
theorem tp_29 : (Cond.selects "DyeTankModel" yX4_stepRing yX4_stepRing) ∈ zT := zT_in (List.mem_append_left _ (List.mem_of_getElem? (i := 29) (by decide +kernel))) (by decide +kernel)
theorem tp_30 : (Cond.selects "DyeTankModel" yX4_mix yX4_mix) ∈ zT := zT_in (List.mem_append_left _ (List.mem_of_getElem? (i := 30) (by decide +kernel))) (by decide +kernel)
theorem tp_31 : (Cond.selects "DyeTankModel" yX4_stepMarker yX4_stepMarker) ∈ zT := zT_in (List.mem_append_left _ (List.mem_of_getElem? (i := 31) (by decide +kernel))) (by decide +kernel)
theorem tp_32 : (Cond.selects "DyeTankModel" yX4_cellsWith yX4_cellsWith) ∈ zT := zT_in (List.mem_append_left _ (List.mem_of_getElem? (i := 32) (by decide +kernel))) (by decide +kernel)
theorem tp_33 : (Cond.selects "DyeTankModel" yX4_greatest yX4_greatest) ∈ zT := zT_in (List.mem_append_left _ (List.mem_of_getElem? (i := 33) (by decide +kernel))) (by decide +kernel)
theorem tp_34 : (Cond.selects "DyeTankModel" yX4_meanPlace yX4_meanPlace) ∈ zT := zT_in (List.mem_append_left _ (List.mem_of_getElem? (i := 34) (by decide +kernel))) (by decide +kernel)
theorem tp_35 : (Cond.selects "DyeTankModel" yX4_unevenness yX4_unevenness) ∈ zT := zT_in (List.mem_append_left _ (List.mem_of_getElem? (i := 35) (by decide +kernel))) (by decide +kernel)
theorem tp_36 : (Cond.selects "DyeTankModel" yX4_greatestShear yX4_greatestShear) ∈ zT := zT_in (List.mem_append_left _ (List.mem_of_getElem? (i := 36) (by decide +kernel))) (by decide +kernel)
theorem tp_37 : (Cond.selects "DyeTankModel" yX4_isMarker yX4_isMarker) ∈ zT := zT_in (List.mem_append_left _ (List.mem_of_getElem? (i := 37) (by decide +kernel))) (by decide +kernel)
theorem tp_38 : (Cond.selects "DyeTankModel" yX4_keptOf yX4_keptOf) ∈ zT := zT_in (List.mem_append_left _ (List.mem_of_getElem? (i := 38) (by decide +kernel))) (by decide +kernel)
theorem tp_39 : (Cond.selects "DyeTankModel" yX4_whenHolds yX4_whenHolds) ∈ zT := zT_in (List.mem_append_left _ (List.mem_of_getElem? (i := 39) (by decide +kernel))) (by decide +kernel)
theorem tp_40 : (Cond.selects "DyeTankModel" yX4_putAside yX4_putAside) ∈ zT := zT_in (List.mem_append_left _ (List.mem_of_getElem? (i := 40) (by decide +kernel))) (by decide +kernel)
theorem tp_41 : (Cond.selects "DyeTankModel" yX4_holds yX4_holds) ∈ zT := zT_in (List.mem_append_left _ (List.mem_of_getElem? (i := 41) (by decide +kernel))) (by decide +kernel)
theorem tp_42 : (Cond.selects "DyeTankModel" yX4_isSettled yX4_isSettled) ∈ zT := zT_in (List.mem_append_left _ (List.mem_of_getElem? (i := 42) (by decide +kernel))) (by decide +kernel)
theorem tp_43 : (Cond.selects "DyeTankModel" yX4_hasPart yX4_hasPart) ∈ zT := zT_in (List.mem_append_left _ (List.mem_of_getElem? (i := 43) (by decide +kernel))) (by decide +kernel)
theorem tp_44 : (Cond.selects "DyeTankModel" yX4_areNear yX4_areNear) ∈ zT := zT_in (List.mem_append_left _ (List.mem_of_getElem? (i := 44) (by decide +kernel))) (by decide +kernel)
theorem tp_45 : (Cond.selects "DyeTankModel" yX4_putBack yX4_putBack) ∈ zT := zT_in (List.mem_append_left _ (List.mem_of_getElem? (i := 45) (by decide +kernel))) (by decide +kernel)
theorem tp_46 : (Cond.selects "DyeTankModel" yX4_takeStep yX4_takeStep) ∈ zT := zT_in (List.mem_append_left _ (List.mem_of_getElem? (i := 46) (by decide +kernel))) (by decide +kernel)
theorem tp_47 : (Cond.selects "DyeTankModel" yX4_next yX4_next) ∈ zT := zT_in (List.mem_append_left _ (List.mem_of_getElem? (i := 47) (by decide +kernel))) (by decide +kernel)
theorem tp_48 : (Cond.selects "DyeTankModel" yX4_takeNumber yX4_takeNumber) ∈ zT := zT_in (List.mem_append_left _ (List.mem_of_getElem? (i := 48) (by decide +kernel))) (by decide +kernel)
theorem tp_49 : (Cond.selects "DyeTankModel" yX4_takeVelocity yX4_takeVelocity) ∈ zT := zT_in (List.mem_append_left _ (List.mem_of_getElem? (i := 49) (by decide +kernel))) (by decide +kernel)
theorem tp_50 : (Cond.selects "DyeTankModel" yX4_need yX4_need) ∈ zT := zT_in (List.mem_append_left _ (List.mem_of_getElem? (i := 50) (by decide +kernel))) (by decide +kernel)
theorem tp_51 : (Cond.selects "DyeTankModel" yX4_takeDye yX4_takeDye) ∈ zT := zT_in (List.mem_append_left _ (List.mem_of_getElem? (i := 51) (by decide +kernel))) (by decide +kernel)
theorem tp_52 : (Cond.selects "DyeTankModel" yX4_takeOne yX4_takeOne) ∈ zT := zT_in (List.mem_append_left _ (List.mem_of_getElem? (i := 52) (by decide +kernel))) (by decide +kernel)
theorem tp_53 : (Cond.selects "DyeTankModel" yX4_carries yX4_carries) ∈ zT := zT_in (List.mem_append_left _ (List.mem_of_getElem? (i := 53) (by decide +kernel))) (by decide +kernel)
end
section
theorem dX0_init_0 : decode cX0_init 0 = .ok (.aload_n 0, 1) := by decide +kernel
theorem dX0_init_1 : decode cX0_init 1 = .ok (.invokespecial 3, 3) := by decide +kernel
theorem dX0_init_4 : decode cX0_init 4 = .ok (.aload_n 0, 1) := by decide +kernel
theorem dX0_init_5 : decode cX0_init 5 = .ok (.bipush 50, 2) := by decide +kernel
theorem dX0_init_7 : decode cX0_init 7 = .ok (.newarray .int, 2) := by decide +kernel
theorem dX0_init_9 : decode cX0_init 9 = .ok (.putfield 9, 3) := by decide +kernel
theorem dX0_init_12 : decode cX0_init 12 = .ok (.aload_n 0, 1) := by decide +kernel
theorem dX0_init_13 : decode cX0_init 13 = .ok (.bipush 50, 2) := by decide +kernel
theorem dX0_init_15 : decode cX0_init 15 = .ok (.newarray .int, 2) := by decide +kernel
theorem dX0_init_17 : decode cX0_init 17 = .ok (.putfield 15, 3) := by decide +kernel
theorem dX0_init_20 : decode cX0_init 20 = .ok (.return_, 1) := by decide +kernel
theorem dX0_putIn_0 : decode cX0_putIn 0 = .ok (.aload_n 0, 1) := by decide +kernel
theorem dX0_putIn_1 : decode cX0_putIn 1 = .ok (.iload_n 1, 1) := by decide +kernel
theorem dX0_putIn_2 : decode cX0_putIn 2 = .ok (.putfield 18, 3) := by decide +kernel
theorem dX0_putIn_5 : decode cX0_putIn 5 = .ok (.aload_n 0, 1) := by decide +kernel
theorem dX0_putIn_6 : decode cX0_putIn 6 = .ok (.iload_n 2, 1) := by decide +kernel
theorem dX0_putIn_7 : decode cX0_putIn 7 = .ok (.putfield 22, 3) := by decide +kernel
theorem dX0_putIn_10 : decode cX0_putIn 10 = .ok (.aload_n 0, 1) := by decide +kernel
theorem dX0_putIn_11 : decode cX0_putIn 11 = .ok (.iconst 0, 1) := by decide +kernel
theorem dX0_putIn_12 : decode cX0_putIn 12 = .ok (.putfield 25, 3) := by decide +kernel
theorem dX0_putIn_15 : decode cX0_putIn 15 = .ok (.aload_n 0, 1) := by decide +kernel
theorem dX0_putIn_16 : decode cX0_putIn 16 = .ok (.iconst 0, 1) := by decide +kernel
theorem dX0_putIn_17 : decode cX0_putIn 17 = .ok (.putfield 28, 3) := by decide +kernel
theorem dX0_putIn_20 : decode cX0_putIn 20 = .ok (.aload_n 0, 1) := by decide +kernel
theorem dX0_putIn_21 : decode cX0_putIn 21 = .ok (.iconst 0, 1) := by decide +kernel
theorem dX0_putIn_22 : decode cX0_putIn 22 = .ok (.putfield 31, 3) := by decide +kernel
theorem dX0_putIn_25 : decode cX0_putIn 25 = .ok (.return_, 1) := by decide +kernel
theorem dX0_becomeLike_0 : decode cX0_becomeLike 0 = .ok (.aload_n 0, 1) := by decide +kernel
theorem dX0_becomeLike_1 : decode cX0_becomeLike 1 = .ok (.aload_n 1, 1) := by decide +kernel
theorem dX0_becomeLike_2 : decode cX0_becomeLike 2 = .ok (.getfield 18, 3) := by decide +kernel
theorem dX0_becomeLike_5 : decode cX0_becomeLike 5 = .ok (.putfield 18, 3) := by decide +kernel
theorem dX0_becomeLike_8 : decode cX0_becomeLike 8 = .ok (.aload_n 0, 1) := by decide +kernel
theorem dX0_becomeLike_9 : decode cX0_becomeLike 9 = .ok (.aload_n 1, 1) := by decide +kernel
theorem dX0_becomeLike_10 : decode cX0_becomeLike 10 = .ok (.getfield 22, 3) := by decide +kernel
theorem dX0_becomeLike_13 : decode cX0_becomeLike 13 = .ok (.putfield 22, 3) := by decide +kernel
theorem dX0_becomeLike_16 : decode cX0_becomeLike 16 = .ok (.aload_n 0, 1) := by decide +kernel
theorem dX0_becomeLike_17 : decode cX0_becomeLike 17 = .ok (.aload_n 1, 1) := by decide +kernel
theorem dX0_becomeLike_18 : decode cX0_becomeLike 18 = .ok (.getfield 25, 3) := by decide +kernel
theorem dX0_becomeLike_21 : decode cX0_becomeLike 21 = .ok (.putfield 25, 3) := by decide +kernel
theorem dX0_becomeLike_24 : decode cX0_becomeLike 24 = .ok (.aload_n 0, 1) := by decide +kernel
theorem dX0_becomeLike_25 : decode cX0_becomeLike 25 = .ok (.aload_n 1, 1) := by decide +kernel
theorem dX0_becomeLike_26 : decode cX0_becomeLike 26 = .ok (.getfield 28, 3) := by decide +kernel
theorem dX0_becomeLike_29 : decode cX0_becomeLike 29 = .ok (.putfield 28, 3) := by decide +kernel
theorem dX0_becomeLike_32 : decode cX0_becomeLike 32 = .ok (.aload_n 0, 1) := by decide +kernel
theorem dX0_becomeLike_33 : decode cX0_becomeLike 33 = .ok (.aload_n 1, 1) := by decide +kernel
theorem dX0_becomeLike_34 : decode cX0_becomeLike 34 = .ok (.getfield 31, 3) := by decide +kernel
theorem dX0_becomeLike_37 : decode cX0_becomeLike 37 = .ok (.putfield 31, 3) := by decide +kernel
theorem dX0_becomeLike_40 : decode cX0_becomeLike 40 = .ok (.aload_n 1, 1) := by decide +kernel
theorem dX0_becomeLike_41 : decode cX0_becomeLike 41 = .ok (.getfield 9, 3) := by decide +kernel
theorem dX0_becomeLike_44 : decode cX0_becomeLike 44 = .ok (.iconst 0, 1) := by decide +kernel
theorem dX0_becomeLike_45 : decode cX0_becomeLike 45 = .ok (.aload_n 0, 1) := by decide +kernel
theorem dX0_becomeLike_46 : decode cX0_becomeLike 46 = .ok (.getfield 9, 3) := by decide +kernel
theorem dX0_becomeLike_49 : decode cX0_becomeLike 49 = .ok (.iconst 0, 1) := by decide +kernel
theorem dX0_becomeLike_50 : decode cX0_becomeLike 50 = .ok (.bipush 50, 2) := by decide +kernel
theorem dX0_becomeLike_52 : decode cX0_becomeLike 52 = .ok (.invokestatic 34, 3) := by decide +kernel
theorem dX0_becomeLike_55 : decode cX0_becomeLike 55 = .ok (.aload_n 1, 1) := by decide +kernel
theorem dX0_becomeLike_56 : decode cX0_becomeLike 56 = .ok (.getfield 15, 3) := by decide +kernel
theorem dX0_becomeLike_59 : decode cX0_becomeLike 59 = .ok (.iconst 0, 1) := by decide +kernel
theorem dX0_becomeLike_60 : decode cX0_becomeLike 60 = .ok (.aload_n 0, 1) := by decide +kernel
theorem dX0_becomeLike_61 : decode cX0_becomeLike 61 = .ok (.getfield 15, 3) := by decide +kernel
theorem dX0_becomeLike_64 : decode cX0_becomeLike 64 = .ok (.iconst 0, 1) := by decide +kernel
theorem dX0_becomeLike_65 : decode cX0_becomeLike 65 = .ok (.bipush 50, 2) := by decide +kernel
theorem dX0_becomeLike_67 : decode cX0_becomeLike 67 = .ok (.invokestatic 34, 3) := by decide +kernel
theorem dX0_becomeLike_70 : decode cX0_becomeLike 70 = .ok (.return_, 1) := by decide +kernel
theorem dX0_ringNow_0 : decode cX0_ringNow 0 = .ok (.aload_n 0, 1) := by decide +kernel
theorem dX0_ringNow_1 : decode cX0_ringNow 1 = .ok (.getfield 18, 3) := by decide +kernel
theorem dX0_ringNow_4 : decode cX0_ringNow 4 = .ok (.sipush 1000, 3) := by decide +kernel
theorem dX0_ringNow_7 : decode cX0_ringNow 7 = .ok (.idiv, 1) := by decide +kernel
theorem dX0_ringNow_8 : decode cX0_ringNow 8 = .ok (.ireturn, 1) := by decide +kernel
theorem dX0_move_0 : decode cX0_move 0 = .ok (.aload_n 0, 1) := by decide +kernel
theorem dX0_move_1 : decode cX0_move 1 = .ok (.invokevirtual 40, 3) := by decide +kernel
theorem dX0_move_4 : decode cX0_move 4 = .ok (.istore 4, 2) := by decide +kernel
theorem dX0_move_6 : decode cX0_move 6 = .ok (.aload_n 0, 1) := by decide +kernel
theorem dX0_move_7 : decode cX0_move 7 = .ok (.aload_n 0, 1) := by decide +kernel
theorem dX0_move_8 : decode cX0_move 8 = .ok (.getfield 22, 3) := by decide +kernel
theorem dX0_move_11 : decode cX0_move 11 = .ok (.iload_n 1, 1) := by decide +kernel
theorem dX0_move_12 : decode cX0_move 12 = .ok (.iadd, 1) := by decide +kernel
theorem dX0_move_13 : decode cX0_move 13 = .ok (.sipush 3600, 3) := by decide +kernel
theorem dX0_move_16 : decode cX0_move 16 = .ok (.invokestatic 44, 3) := by decide +kernel
theorem dX0_move_19 : decode cX0_move 19 = .ok (.putfield 22, 3) := by decide +kernel
theorem dX0_move_22 : decode cX0_move 22 = .ok (.aload_n 0, 1) := by decide +kernel
theorem dX0_move_23 : decode cX0_move 23 = .ok (.iconst 0, 1) := by decide +kernel
theorem dX0_move_24 : decode cX0_move 24 = .ok (.iload_n 3, 1) := by decide +kernel
theorem dX0_move_25 : decode cX0_move 25 = .ok (.aload_n 0, 1) := by decide +kernel
theorem dX0_move_26 : decode cX0_move 26 = .ok (.getfield 18, 3) := by decide +kernel
theorem dX0_move_29 : decode cX0_move 29 = .ok (.iload_n 2, 1) := by decide +kernel
theorem dX0_move_30 : decode cX0_move 30 = .ok (.iadd, 1) := by decide +kernel
theorem dX0_move_31 : decode cX0_move 31 = .ok (.invokestatic 50, 3) := by decide +kernel
theorem dX0_move_34 : decode cX0_move 34 = .ok (.invokestatic 53, 3) := by decide +kernel
theorem dX0_move_37 : decode cX0_move 37 = .ok (.putfield 18, 3) := by decide +kernel
theorem dX0_move_40 : decode cX0_move 40 = .ok (.aload_n 0, 1) := by decide +kernel
theorem dX0_move_41 : decode cX0_move 41 = .ok (.invokevirtual 40, 3) := by decide +kernel
theorem dX0_move_44 : decode cX0_move 44 = .ok (.iload 4, 2) := by decide +kernel
theorem dX0_move_46 : decode cX0_move 46 = .ok (.if_icmp .eq 13, 3) := by decide +kernel
theorem dX0_move_49 : decode cX0_move 49 = .ok (.aload_n 0, 1) := by decide +kernel
theorem dX0_move_50 : decode cX0_move 50 = .ok (.dup, 1) := by decide +kernel
theorem dX0_move_51 : decode cX0_move 51 = .ok (.getfield 28, 3) := by decide +kernel
theorem dX0_move_54 : decode cX0_move 54 = .ok (.iconst 1, 1) := by decide +kernel
theorem dX0_move_55 : decode cX0_move 55 = .ok (.iadd, 1) := by decide +kernel
theorem dX0_move_56 : decode cX0_move 56 = .ok (.putfield 28, 3) := by decide +kernel
theorem dX0_move_59 : decode cX0_move 59 = .ok (.aload_n 0, 1) := by decide +kernel
theorem dX0_move_60 : decode cX0_move 60 = .ok (.invokevirtual 56, 3) := by decide +kernel
theorem dX0_move_63 : decode cX0_move 63 = .ok (.return_, 1) := by decide +kernel
theorem dX0_keepPosition_0 : decode cX0_keepPosition 0 = .ok (.aload_n 0, 1) := by decide +kernel
theorem dX0_keepPosition_1 : decode cX0_keepPosition 1 = .ok (.getfield 9, 3) := by decide +kernel
theorem dX0_keepPosition_4 : decode cX0_keepPosition 4 = .ok (.aload_n 0, 1) := by decide +kernel
theorem dX0_keepPosition_5 : decode cX0_keepPosition 5 = .ok (.getfield 31, 3) := by decide +kernel
theorem dX0_keepPosition_8 : decode cX0_keepPosition 8 = .ok (.aload_n 0, 1) := by decide +kernel
theorem dX0_keepPosition_9 : decode cX0_keepPosition 9 = .ok (.getfield 18, 3) := by decide +kernel
theorem dX0_keepPosition_12 : decode cX0_keepPosition 12 = .ok (.iastore, 1) := by decide +kernel
theorem dX0_keepPosition_13 : decode cX0_keepPosition 13 = .ok (.aload_n 0, 1) := by decide +kernel
theorem dX0_keepPosition_14 : decode cX0_keepPosition 14 = .ok (.getfield 15, 3) := by decide +kernel
theorem dX0_keepPosition_17 : decode cX0_keepPosition 17 = .ok (.aload_n 0, 1) := by decide +kernel
theorem dX0_keepPosition_18 : decode cX0_keepPosition 18 = .ok (.getfield 31, 3) := by decide +kernel
theorem dX0_keepPosition_21 : decode cX0_keepPosition 21 = .ok (.aload_n 0, 1) := by decide +kernel
theorem dX0_keepPosition_22 : decode cX0_keepPosition 22 = .ok (.getfield 22, 3) := by decide +kernel
theorem dX0_keepPosition_25 : decode cX0_keepPosition 25 = .ok (.iastore, 1) := by decide +kernel
theorem dX0_keepPosition_26 : decode cX0_keepPosition 26 = .ok (.aload_n 0, 1) := by decide +kernel
theorem dX0_keepPosition_27 : decode cX0_keepPosition 27 = .ok (.aload_n 0, 1) := by decide +kernel
theorem dX0_keepPosition_28 : decode cX0_keepPosition 28 = .ok (.getfield 31, 3) := by decide +kernel
theorem dX0_keepPosition_31 : decode cX0_keepPosition 31 = .ok (.bipush 49, 2) := by decide +kernel
theorem dX0_keepPosition_33 : decode cX0_keepPosition 33 = .ok (.if_icmp .ge 12, 3) := by decide +kernel
theorem dX0_keepPosition_36 : decode cX0_keepPosition 36 = .ok (.aload_n 0, 1) := by decide +kernel
theorem dX0_keepPosition_37 : decode cX0_keepPosition 37 = .ok (.getfield 31, 3) := by decide +kernel
theorem dX0_keepPosition_40 : decode cX0_keepPosition 40 = .ok (.iconst 1, 1) := by decide +kernel
theorem dX0_keepPosition_41 : decode cX0_keepPosition 41 = .ok (.iadd, 1) := by decide +kernel
theorem dX0_keepPosition_42 : decode cX0_keepPosition 42 = .ok (.goto 4, 3) := by decide +kernel
theorem dX0_keepPosition_45 : decode cX0_keepPosition 45 = .ok (.iconst 0, 1) := by decide +kernel
theorem dX0_keepPosition_46 : decode cX0_keepPosition 46 = .ok (.putfield 31, 3) := by decide +kernel
theorem dX0_keepPosition_49 : decode cX0_keepPosition 49 = .ok (.aload_n 0, 1) := by decide +kernel
theorem dX0_keepPosition_50 : decode cX0_keepPosition 50 = .ok (.bipush 50, 2) := by decide +kernel
theorem dX0_keepPosition_52 : decode cX0_keepPosition 52 = .ok (.aload_n 0, 1) := by decide +kernel
theorem dX0_keepPosition_53 : decode cX0_keepPosition 53 = .ok (.getfield 25, 3) := by decide +kernel
theorem dX0_keepPosition_56 : decode cX0_keepPosition 56 = .ok (.iconst 1, 1) := by decide +kernel
theorem dX0_keepPosition_57 : decode cX0_keepPosition 57 = .ok (.iadd, 1) := by decide +kernel
theorem dX0_keepPosition_58 : decode cX0_keepPosition 58 = .ok (.invokestatic 50, 3) := by decide +kernel
theorem dX0_keepPosition_61 : decode cX0_keepPosition 61 = .ok (.putfield 25, 3) := by decide +kernel
theorem dX0_keepPosition_64 : decode cX0_keepPosition 64 = .ok (.return_, 1) := by decide +kernel
theorem dX0_placeBack_0 : decode cX0_placeBack 0 = .ok (.aload_n 0, 1) := by decide +kernel
theorem dX0_placeBack_1 : decode cX0_placeBack 1 = .ok (.getfield 9, 3) := by decide +kernel
theorem dX0_placeBack_4 : decode cX0_placeBack 4 = .ok (.aload_n 0, 1) := by decide +kernel
theorem dX0_placeBack_5 : decode cX0_placeBack 5 = .ok (.getfield 31, 3) := by decide +kernel
theorem dX0_placeBack_8 : decode cX0_placeBack 8 = .ok (.iconst 1, 1) := by decide +kernel
theorem dX0_placeBack_9 : decode cX0_placeBack 9 = .ok (.isub, 1) := by decide +kernel
theorem dX0_placeBack_10 : decode cX0_placeBack 10 = .ok (.iload_n 1, 1) := by decide +kernel
theorem dX0_placeBack_11 : decode cX0_placeBack 11 = .ok (.isub, 1) := by decide +kernel
theorem dX0_placeBack_12 : decode cX0_placeBack 12 = .ok (.bipush 50, 2) := by decide +kernel
theorem dX0_placeBack_14 : decode cX0_placeBack 14 = .ok (.invokestatic 44, 3) := by decide +kernel
theorem dX0_placeBack_17 : decode cX0_placeBack 17 = .ok (.iaload, 1) := by decide +kernel
theorem dX0_placeBack_18 : decode cX0_placeBack 18 = .ok (.ireturn, 1) := by decide +kernel
theorem dX0_angleBack_0 : decode cX0_angleBack 0 = .ok (.aload_n 0, 1) := by decide +kernel
theorem dX0_angleBack_1 : decode cX0_angleBack 1 = .ok (.getfield 15, 3) := by decide +kernel
theorem dX0_angleBack_4 : decode cX0_angleBack 4 = .ok (.aload_n 0, 1) := by decide +kernel
theorem dX0_angleBack_5 : decode cX0_angleBack 5 = .ok (.getfield 31, 3) := by decide +kernel
theorem dX0_angleBack_8 : decode cX0_angleBack 8 = .ok (.iconst 1, 1) := by decide +kernel
theorem dX0_angleBack_9 : decode cX0_angleBack 9 = .ok (.isub, 1) := by decide +kernel
theorem dX0_angleBack_10 : decode cX0_angleBack 10 = .ok (.iload_n 1, 1) := by decide +kernel
theorem dX0_angleBack_11 : decode cX0_angleBack 11 = .ok (.isub, 1) := by decide +kernel
theorem dX0_angleBack_12 : decode cX0_angleBack 12 = .ok (.bipush 50, 2) := by decide +kernel
theorem dX0_angleBack_14 : decode cX0_angleBack 14 = .ok (.invokestatic 44, 3) := by decide +kernel
theorem dX0_angleBack_17 : decode cX0_angleBack 17 = .ok (.iaload, 1) := by decide +kernel
theorem dX0_angleBack_18 : decode cX0_angleBack 18 = .ok (.ireturn, 1) := by decide +kernel
theorem dX0_isNear_0 : decode cX0_isNear 0 = .ok (.aload_n 0, 1) := by decide +kernel
theorem dX0_isNear_1 : decode cX0_isNear 1 = .ok (.getfield 22, 3) := by decide +kernel
theorem dX0_isNear_4 : decode cX0_isNear 4 = .ok (.aload_n 1, 1) := by decide +kernel
theorem dX0_isNear_5 : decode cX0_isNear 5 = .ok (.getfield 22, 3) := by decide +kernel
theorem dX0_isNear_8 : decode cX0_isNear 8 = .ok (.isub, 1) := by decide +kernel
theorem dX0_isNear_9 : decode cX0_isNear 9 = .ok (.invokestatic 59, 3) := by decide +kernel
theorem dX0_isNear_12 : decode cX0_isNear 12 = .ok (.istore_n 3, 1) := by decide +kernel
theorem dX0_isNear_13 : decode cX0_isNear 13 = .ok (.aload_n 0, 1) := by decide +kernel
theorem dX0_isNear_14 : decode cX0_isNear 14 = .ok (.invokevirtual 40, 3) := by decide +kernel
theorem dX0_isNear_17 : decode cX0_isNear 17 = .ok (.aload_n 1, 1) := by decide +kernel
theorem dX0_isNear_18 : decode cX0_isNear 18 = .ok (.invokevirtual 40, 3) := by decide +kernel
theorem dX0_isNear_21 : decode cX0_isNear 21 = .ok (.if_icmp .ne 20, 3) := by decide +kernel
theorem dX0_isNear_24 : decode cX0_isNear 24 = .ok (.iload_n 3, 1) := by decide +kernel
theorem dX0_isNear_25 : decode cX0_isNear 25 = .ok (.sipush 3600, 3) := by decide +kernel
theorem dX0_isNear_28 : decode cX0_isNear 28 = .ok (.iload_n 3, 1) := by decide +kernel
theorem dX0_isNear_29 : decode cX0_isNear 29 = .ok (.isub, 1) := by decide +kernel
theorem dX0_isNear_30 : decode cX0_isNear 30 = .ok (.invokestatic 50, 3) := by decide +kernel
theorem dX0_isNear_33 : decode cX0_isNear 33 = .ok (.iload_n 2, 1) := by decide +kernel
theorem dX0_isNear_34 : decode cX0_isNear 34 = .ok (.if_icmp .gt 7, 3) := by decide +kernel
theorem dX0_isNear_37 : decode cX0_isNear 37 = .ok (.iconst 1, 1) := by decide +kernel
theorem dX0_isNear_38 : decode cX0_isNear 38 = .ok (.goto 4, 3) := by decide +kernel
theorem dX0_isNear_41 : decode cX0_isNear 41 = .ok (.iconst 0, 1) := by decide +kernel
theorem dX0_isNear_42 : decode cX0_isNear 42 = .ok (.ireturn, 1) := by decide +kernel
theorem dX1_init_0 : decode cX1_init 0 = .ok (.aload_n 0, 1) := by decide +kernel
theorem dX1_init_1 : decode cX1_init 1 = .ok (.invokespecial 3, 3) := by decide +kernel
theorem dX1_init_4 : decode cX1_init 4 = .ok (.aload_n 0, 1) := by decide +kernel
theorem dX1_init_5 : decode cX1_init 5 = .ok (.bipush 60, 2) := by decide +kernel
theorem dX1_init_7 : decode cX1_init 7 = .ok (.newarray .char, 2) := by decide +kernel
theorem dX1_init_9 : decode cX1_init 9 = .ok (.putfield 9, 3) := by decide +kernel
theorem dX1_init_12 : decode cX1_init 12 = .ok (.return_, 1) := by decide +kernel
theorem dX1_append_0 : decode cX1_append 0 = .ok (.aload_n 0, 1) := by decide +kernel
theorem dX1_append_1 : decode cX1_append 1 = .ok (.getfield 15, 3) := by decide +kernel
theorem dX1_append_4 : decode cX1_append 4 = .ok (.ifCond .lt 32, 3) := by decide +kernel
theorem dX1_append_7 : decode cX1_append 7 = .ok (.aload_n 0, 1) := by decide +kernel
theorem dX1_append_8 : decode cX1_append 8 = .ok (.getfield 15, 3) := by decide +kernel
theorem dX1_append_11 : decode cX1_append 11 = .ok (.bipush 60, 2) := by decide +kernel
theorem dX1_append_13 : decode cX1_append 13 = .ok (.if_icmp .ge 23, 3) := by decide +kernel
theorem dX1_append_16 : decode cX1_append 16 = .ok (.aload_n 0, 1) := by decide +kernel
theorem dX1_append_17 : decode cX1_append 17 = .ok (.getfield 9, 3) := by decide +kernel
theorem dX1_append_20 : decode cX1_append 20 = .ok (.aload_n 0, 1) := by decide +kernel
theorem dX1_append_21 : decode cX1_append 21 = .ok (.getfield 15, 3) := by decide +kernel
theorem dX1_append_24 : decode cX1_append 24 = .ok (.iload_n 1, 1) := by decide +kernel
theorem dX1_append_25 : decode cX1_append 25 = .ok (.castore, 1) := by decide +kernel
theorem dX1_append_26 : decode cX1_append 26 = .ok (.aload_n 0, 1) := by decide +kernel
theorem dX1_append_27 : decode cX1_append 27 = .ok (.dup, 1) := by decide +kernel
theorem dX1_append_28 : decode cX1_append 28 = .ok (.getfield 15, 3) := by decide +kernel
theorem dX1_append_31 : decode cX1_append 31 = .ok (.iconst 1, 1) := by decide +kernel
theorem dX1_append_32 : decode cX1_append 32 = .ok (.iadd, 1) := by decide +kernel
theorem dX1_append_33 : decode cX1_append 33 = .ok (.putfield 15, 3) := by decide +kernel
theorem dX1_append_36 : decode cX1_append 36 = .ok (.return_, 1) := by decide +kernel
theorem dX1_firstFault_0 : decode cX1_firstFault 0 = .ok (.aload_n 0, 1) := by decide +kernel
theorem dX1_firstFault_1 : decode cX1_firstFault 1 = .ok (.iconst 0, 1) := by decide +kernel
theorem dX1_firstFault_2 : decode cX1_firstFault 2 = .ok (.putfield 19, 3) := by decide +kernel
theorem dX1_firstFault_5 : decode cX1_firstFault 5 = .ok (.iconst 0, 1) := by decide +kernel
theorem dX1_firstFault_6 : decode cX1_firstFault 6 = .ok (.istore_n 1, 1) := by decide +kernel
theorem dX1_firstFault_7 : decode cX1_firstFault 7 = .ok (.iload_n 1, 1) := by decide +kernel
theorem dX1_firstFault_8 : decode cX1_firstFault 8 = .ok (.bipush 60, 2) := by decide +kernel
theorem dX1_firstFault_10 : decode cX1_firstFault 10 = .ok (.if_icmp .ge 49, 3) := by decide +kernel
theorem dX1_firstFault_13 : decode cX1_firstFault 13 = .ok (.aload_n 0, 1) := by decide +kernel
theorem dX1_firstFault_14 : decode cX1_firstFault 14 = .ok (.invokevirtual 22, 3) := by decide +kernel
theorem dX1_firstFault_17 : decode cX1_firstFault 17 = .ok (.ifCond .ne 8, 3) := by decide +kernel
theorem dX1_firstFault_20 : decode cX1_firstFault 20 = .ok (.aload_n 0, 1) := by decide +kernel
theorem dX1_firstFault_21 : decode cX1_firstFault 21 = .ok (.getfield 19, 3) := by decide +kernel
theorem dX1_firstFault_24 : decode cX1_firstFault 24 = .ok (.ireturn, 1) := by decide +kernel
theorem dX1_firstFault_25 : decode cX1_firstFault 25 = .ok (.aload_n 0, 1) := by decide +kernel
theorem dX1_firstFault_26 : decode cX1_firstFault 26 = .ok (.getfield 19, 3) := by decide +kernel
theorem dX1_firstFault_29 : decode cX1_firstFault 29 = .ok (.aload_n 0, 1) := by decide +kernel
theorem dX1_firstFault_30 : decode cX1_firstFault 30 = .ok (.getfield 15, 3) := by decide +kernel
theorem dX1_firstFault_33 : decode cX1_firstFault 33 = .ok (.if_icmp .ne 6, 3) := by decide +kernel
theorem dX1_firstFault_36 : decode cX1_firstFault 36 = .ok (.bipush (-6), 2) := by decide +kernel
theorem dX1_firstFault_38 : decode cX1_firstFault 38 = .ok (.ireturn, 1) := by decide +kernel
theorem dX1_firstFault_39 : decode cX1_firstFault 39 = .ok (.aload_n 0, 1) := by decide +kernel
theorem dX1_firstFault_40 : decode cX1_firstFault 40 = .ok (.bipush 44, 2) := by decide +kernel
theorem dX1_firstFault_42 : decode cX1_firstFault 42 = .ok (.invokevirtual 26, 3) := by decide +kernel
theorem dX1_firstFault_45 : decode cX1_firstFault 45 = .ok (.ifCond .ne 8, 3) := by decide +kernel
theorem dX1_firstFault_48 : decode cX1_firstFault 48 = .ok (.aload_n 0, 1) := by decide +kernel
theorem dX1_firstFault_49 : decode cX1_firstFault 49 = .ok (.getfield 19, 3) := by decide +kernel
theorem dX1_firstFault_52 : decode cX1_firstFault 52 = .ok (.ireturn, 1) := by decide +kernel
theorem dX1_firstFault_53 : decode cX1_firstFault 53 = .ok (.iinc 1 1, 3) := by decide +kernel
theorem dX1_firstFault_56 : decode cX1_firstFault 56 = .ok (.goto (-49), 3) := by decide +kernel
theorem dX1_firstFault_59 : decode cX1_firstFault 59 = .ok (.aload_n 0, 1) := by decide +kernel
theorem dX1_firstFault_60 : decode cX1_firstFault 60 = .ok (.getfield 19, 3) := by decide +kernel
theorem dX1_firstFault_63 : decode cX1_firstFault 63 = .ok (.ireturn, 1) := by decide +kernel
theorem dX1_readStep_0 : decode cX1_readStep 0 = .ok (.aload_n 0, 1) := by decide +kernel
theorem dX1_readStep_1 : decode cX1_readStep 1 = .ok (.aload_n 0, 1) := by decide +kernel
theorem dX1_readStep_2 : decode cX1_readStep 2 = .ok (.invokevirtual 30, 3) := by decide +kernel
theorem dX1_readStep_5 : decode cX1_readStep 5 = .ok (.putfield 34, 3) := by decide +kernel
theorem dX1_readStep_8 : decode cX1_readStep 8 = .ok (.aload_n 0, 1) := by decide +kernel
theorem dX1_readStep_9 : decode cX1_readStep 9 = .ok (.bipush 116, 2) := by decide +kernel
theorem dX1_readStep_11 : decode cX1_readStep 11 = .ok (.invokevirtual 26, 3) := by decide +kernel
theorem dX1_readStep_14 : decode cX1_readStep 14 = .ok (.ifCond .eq 28, 3) := by decide +kernel
theorem dX1_readStep_17 : decode cX1_readStep 17 = .ok (.aload_n 0, 1) := by decide +kernel
theorem dX1_readStep_18 : decode cX1_readStep 18 = .ok (.aload_n 0, 1) := by decide +kernel
theorem dX1_readStep_19 : decode cX1_readStep 19 = .ok (.iconst 1, 1) := by decide +kernel
theorem dX1_readStep_20 : decode cX1_readStep 20 = .ok (.sipush 999, 3) := by decide +kernel
theorem dX1_readStep_23 : decode cX1_readStep 23 = .ok (.invokevirtual 38, 3) := by decide +kernel
theorem dX1_readStep_26 : decode cX1_readStep 26 = .ok (.putfield 42, 3) := by decide +kernel
theorem dX1_readStep_29 : decode cX1_readStep 29 = .ok (.aload_n 0, 1) := by decide +kernel
theorem dX1_readStep_30 : decode cX1_readStep 30 = .ok (.getfield 42, 3) := by decide +kernel
theorem dX1_readStep_33 : decode cX1_readStep 33 = .ok (.ifCond .lt 7, 3) := by decide +kernel
theorem dX1_readStep_36 : decode cX1_readStep 36 = .ok (.iconst 1, 1) := by decide +kernel
theorem dX1_readStep_37 : decode cX1_readStep 37 = .ok (.goto 4, 3) := by decide +kernel
theorem dX1_readStep_40 : decode cX1_readStep 40 = .ok (.iconst 0, 1) := by decide +kernel
theorem dX1_readStep_41 : decode cX1_readStep 41 = .ok (.ireturn, 1) := by decide +kernel
theorem dX1_readStep_42 : decode cX1_readStep 42 = .ok (.aload_n 0, 1) := by decide +kernel
theorem dX1_readStep_43 : decode cX1_readStep 43 = .ok (.bipush 118, 2) := by decide +kernel
theorem dX1_readStep_45 : decode cX1_readStep 45 = .ok (.invokevirtual 26, 3) := by decide +kernel
theorem dX1_readStep_48 : decode cX1_readStep 48 = .ok (.ifCond .eq 32, 3) := by decide +kernel
theorem dX1_readStep_51 : decode cX1_readStep 51 = .ok (.aload_n 0, 1) := by decide +kernel
theorem dX1_readStep_52 : decode cX1_readStep 52 = .ok (.invokevirtual 45, 3) := by decide +kernel
theorem dX1_readStep_55 : decode cX1_readStep 55 = .ok (.ifCond .eq 23, 3) := by decide +kernel
theorem dX1_readStep_58 : decode cX1_readStep 58 = .ok (.aload_n 0, 1) := by decide +kernel
theorem dX1_readStep_59 : decode cX1_readStep 59 = .ok (.bipush 58, 2) := by decide +kernel
theorem dX1_readStep_61 : decode cX1_readStep 61 = .ok (.invokevirtual 26, 3) := by decide +kernel
theorem dX1_readStep_64 : decode cX1_readStep 64 = .ok (.ifCond .eq 14, 3) := by decide +kernel
theorem dX1_readStep_67 : decode cX1_readStep 67 = .ok (.aload_n 0, 1) := by decide +kernel
theorem dX1_readStep_68 : decode cX1_readStep 68 = .ok (.invokevirtual 48, 3) := by decide +kernel
theorem dX1_readStep_71 : decode cX1_readStep 71 = .ok (.ifCond .eq 7, 3) := by decide +kernel
theorem dX1_readStep_74 : decode cX1_readStep 74 = .ok (.iconst 1, 1) := by decide +kernel
theorem dX1_readStep_75 : decode cX1_readStep 75 = .ok (.goto 4, 3) := by decide +kernel
theorem dX1_readStep_78 : decode cX1_readStep 78 = .ok (.iconst 0, 1) := by decide +kernel
theorem dX1_readStep_79 : decode cX1_readStep 79 = .ok (.ireturn, 1) := by decide +kernel
theorem dX1_readStep_80 : decode cX1_readStep 80 = .ok (.aload_n 0, 1) := by decide +kernel
theorem dX1_readStep_81 : decode cX1_readStep 81 = .ok (.bipush 100, 2) := by decide +kernel
theorem dX1_readStep_83 : decode cX1_readStep 83 = .ok (.invokevirtual 26, 3) := by decide +kernel
theorem dX1_readStep_86 : decode cX1_readStep 86 = .ok (.ifCond .eq 60, 3) := by decide +kernel
theorem dX1_readStep_89 : decode cX1_readStep 89 = .ok (.aload_n 0, 1) := by decide +kernel
theorem dX1_readStep_90 : decode cX1_readStep 90 = .ok (.invokevirtual 51, 3) := by decide +kernel
theorem dX1_readStep_93 : decode cX1_readStep 93 = .ok (.ifCond .eq 53, 3) := by decide +kernel
theorem dX1_readStep_96 : decode cX1_readStep 96 = .ok (.aload_n 0, 1) := by decide +kernel
theorem dX1_readStep_97 : decode cX1_readStep 97 = .ok (.invokevirtual 54, 3) := by decide +kernel
theorem dX1_readStep_100 : decode cX1_readStep 100 = .ok (.ifCond .eq 46, 3) := by decide +kernel
theorem dX1_readStep_103 : decode cX1_readStep 103 = .ok (.aload_n 0, 1) := by decide +kernel
theorem dX1_readStep_104 : decode cX1_readStep 104 = .ok (.invokevirtual 45, 3) := by decide +kernel
theorem dX1_readStep_107 : decode cX1_readStep 107 = .ok (.ifCond .eq 39, 3) := by decide +kernel
theorem dX1_readStep_110 : decode cX1_readStep 110 = .ok (.aload_n 0, 1) := by decide +kernel
theorem dX1_readStep_111 : decode cX1_readStep 111 = .ok (.bipush 58, 2) := by decide +kernel
theorem dX1_readStep_113 : decode cX1_readStep 113 = .ok (.invokevirtual 26, 3) := by decide +kernel
theorem dX1_readStep_116 : decode cX1_readStep 116 = .ok (.ifCond .eq 30, 3) := by decide +kernel
theorem dX1_readStep_119 : decode cX1_readStep 119 = .ok (.aload_n 0, 1) := by decide +kernel
theorem dX1_readStep_120 : decode cX1_readStep 120 = .ok (.invokevirtual 57, 3) := by decide +kernel
theorem dX1_readStep_123 : decode cX1_readStep 123 = .ok (.ifCond .eq 23, 3) := by decide +kernel
theorem dX1_readStep_126 : decode cX1_readStep 126 = .ok (.aload_n 0, 1) := by decide +kernel
theorem dX1_readStep_127 : decode cX1_readStep 127 = .ok (.bipush 61, 2) := by decide +kernel
theorem dX1_readStep_129 : decode cX1_readStep 129 = .ok (.invokevirtual 26, 3) := by decide +kernel
theorem dX1_readStep_132 : decode cX1_readStep 132 = .ok (.ifCond .eq 14, 3) := by decide +kernel
theorem dX1_readStep_135 : decode cX1_readStep 135 = .ok (.aload_n 0, 1) := by decide +kernel
theorem dX1_readStep_136 : decode cX1_readStep 136 = .ok (.invokevirtual 60, 3) := by decide +kernel
theorem dX1_readStep_139 : decode cX1_readStep 139 = .ok (.ifCond .eq 7, 3) := by decide +kernel
theorem dX1_readStep_142 : decode cX1_readStep 142 = .ok (.iconst 1, 1) := by decide +kernel
theorem dX1_readStep_143 : decode cX1_readStep 143 = .ok (.goto 4, 3) := by decide +kernel
theorem dX1_readStep_146 : decode cX1_readStep 146 = .ok (.iconst 0, 1) := by decide +kernel
theorem dX1_readStep_147 : decode cX1_readStep 147 = .ok (.ireturn, 1) := by decide +kernel
theorem dX1_readRing_0 : decode cX1_readRing 0 = .ok (.aload_n 0, 1) := by decide +kernel
theorem dX1_readRing_1 : decode cX1_readRing 1 = .ok (.aload_n 0, 1) := by decide +kernel
theorem dX1_readRing_2 : decode cX1_readRing 2 = .ok (.iconst 0, 1) := by decide +kernel
theorem dX1_readRing_3 : decode cX1_readRing 3 = .ok (.bipush 11, 2) := by decide +kernel
theorem dX1_readRing_5 : decode cX1_readRing 5 = .ok (.invokevirtual 38, 3) := by decide +kernel
theorem dX1_readRing_8 : decode cX1_readRing 8 = .ok (.putfield 63, 3) := by decide +kernel
theorem dX1_readRing_11 : decode cX1_readRing 11 = .ok (.aload_n 0, 1) := by decide +kernel
theorem dX1_readRing_12 : decode cX1_readRing 12 = .ok (.getfield 63, 3) := by decide +kernel
theorem dX1_readRing_15 : decode cX1_readRing 15 = .ok (.ifCond .lt 7, 3) := by decide +kernel
theorem dX1_readRing_18 : decode cX1_readRing 18 = .ok (.iconst 1, 1) := by decide +kernel
theorem dX1_readRing_19 : decode cX1_readRing 19 = .ok (.goto 4, 3) := by decide +kernel
theorem dX1_readRing_22 : decode cX1_readRing 22 = .ok (.iconst 0, 1) := by decide +kernel
theorem dX1_readRing_23 : decode cX1_readRing 23 = .ok (.ireturn, 1) := by decide +kernel
theorem dX1_readVelocity_0 : decode cX1_readVelocity 0 = .ok (.aload_n 0, 1) := by decide +kernel
theorem dX1_readVelocity_1 : decode cX1_readVelocity 1 = .ok (.bipush 45, 2) := by decide +kernel
theorem dX1_readVelocity_3 : decode cX1_readVelocity 3 = .ok (.invokevirtual 26, 3) := by decide +kernel
theorem dX1_readVelocity_6 : decode cX1_readVelocity 6 = .ok (.istore_n 1, 1) := by decide +kernel
theorem dX1_readVelocity_7 : decode cX1_readVelocity 7 = .ok (.aload_n 0, 1) := by decide +kernel
theorem dX1_readVelocity_8 : decode cX1_readVelocity 8 = .ok (.iconst 0, 1) := by decide +kernel
theorem dX1_readVelocity_9 : decode cX1_readVelocity 9 = .ok (.sipush 1500, 3) := by decide +kernel
theorem dX1_readVelocity_12 : decode cX1_readVelocity 12 = .ok (.invokevirtual 38, 3) := by decide +kernel
theorem dX1_readVelocity_15 : decode cX1_readVelocity 15 = .ok (.istore_n 2, 1) := by decide +kernel
theorem dX1_readVelocity_16 : decode cX1_readVelocity 16 = .ok (.aload_n 0, 1) := by decide +kernel
theorem dX1_readVelocity_17 : decode cX1_readVelocity 17 = .ok (.iload_n 1, 1) := by decide +kernel
theorem dX1_readVelocity_18 : decode cX1_readVelocity 18 = .ok (.ifCond .eq 8, 3) := by decide +kernel
theorem dX1_readVelocity_21 : decode cX1_readVelocity 21 = .ok (.iload_n 2, 1) := by decide +kernel
theorem dX1_readVelocity_22 : decode cX1_readVelocity 22 = .ok (.ineg, 1) := by decide +kernel
theorem dX1_readVelocity_23 : decode cX1_readVelocity 23 = .ok (.goto 4, 3) := by decide +kernel
theorem dX1_readVelocity_26 : decode cX1_readVelocity 26 = .ok (.iload_n 2, 1) := by decide +kernel
theorem dX1_readVelocity_27 : decode cX1_readVelocity 27 = .ok (.putfield 42, 3) := by decide +kernel
theorem dX1_readVelocity_30 : decode cX1_readVelocity 30 = .ok (.iload_n 2, 1) := by decide +kernel
theorem dX1_readVelocity_31 : decode cX1_readVelocity 31 = .ok (.ifCond .lt 7, 3) := by decide +kernel
theorem dX1_readVelocity_34 : decode cX1_readVelocity 34 = .ok (.iconst 1, 1) := by decide +kernel
theorem dX1_readVelocity_35 : decode cX1_readVelocity 35 = .ok (.goto 4, 3) := by decide +kernel
theorem dX1_readVelocity_38 : decode cX1_readVelocity 38 = .ok (.iconst 0, 1) := by decide +kernel
theorem dX1_readVelocity_39 : decode cX1_readVelocity 39 = .ok (.ireturn, 1) := by decide +kernel
theorem dX1_readColour_0 : decode cX1_readColour 0 = .ok (.aload_n 0, 1) := by decide +kernel
theorem dX1_readColour_1 : decode cX1_readColour 1 = .ok (.aload_n 0, 1) := by decide +kernel
theorem dX1_readColour_2 : decode cX1_readColour 2 = .ok (.invokevirtual 30, 3) := by decide +kernel
theorem dX1_readColour_5 : decode cX1_readColour 5 = .ok (.bipush 97, 2) := by decide +kernel
theorem dX1_readColour_7 : decode cX1_readColour 7 = .ok (.isub, 1) := by decide +kernel
theorem dX1_readColour_8 : decode cX1_readColour 8 = .ok (.putfield 66, 3) := by decide +kernel
theorem dX1_readColour_11 : decode cX1_readColour 11 = .ok (.aload_n 0, 1) := by decide +kernel
theorem dX1_readColour_12 : decode cX1_readColour 12 = .ok (.bipush 97, 2) := by decide +kernel
theorem dX1_readColour_14 : decode cX1_readColour 14 = .ok (.invokevirtual 26, 3) := by decide +kernel
theorem dX1_readColour_17 : decode cX1_readColour 17 = .ok (.ifCond .ne 21, 3) := by decide +kernel
theorem dX1_readColour_20 : decode cX1_readColour 20 = .ok (.aload_n 0, 1) := by decide +kernel
theorem dX1_readColour_21 : decode cX1_readColour 21 = .ok (.bipush 98, 2) := by decide +kernel
theorem dX1_readColour_23 : decode cX1_readColour 23 = .ok (.invokevirtual 26, 3) := by decide +kernel
theorem dX1_readColour_26 : decode cX1_readColour 26 = .ok (.ifCond .ne 12, 3) := by decide +kernel
theorem dX1_readColour_29 : decode cX1_readColour 29 = .ok (.aload_n 0, 1) := by decide +kernel
theorem dX1_readColour_30 : decode cX1_readColour 30 = .ok (.bipush 99, 2) := by decide +kernel
theorem dX1_readColour_32 : decode cX1_readColour 32 = .ok (.invokevirtual 26, 3) := by decide +kernel
theorem dX1_readColour_35 : decode cX1_readColour 35 = .ok (.ifCond .eq 7, 3) := by decide +kernel
theorem dX1_readColour_38 : decode cX1_readColour 38 = .ok (.iconst 1, 1) := by decide +kernel
theorem dX1_readColour_39 : decode cX1_readColour 39 = .ok (.goto 4, 3) := by decide +kernel
theorem dX1_readColour_42 : decode cX1_readColour 42 = .ok (.iconst 0, 1) := by decide +kernel
theorem dX1_readColour_43 : decode cX1_readColour 43 = .ok (.ireturn, 1) := by decide +kernel
theorem dX1_readLayer_0 : decode cX1_readLayer 0 = .ok (.aload_n 0, 1) := by decide +kernel
theorem dX1_readLayer_1 : decode cX1_readLayer 1 = .ok (.aload_n 0, 1) := by decide +kernel
theorem dX1_readLayer_2 : decode cX1_readLayer 2 = .ok (.invokevirtual 30, 3) := by decide +kernel
theorem dX1_readLayer_5 : decode cX1_readLayer 5 = .ok (.bipush 94, 2) := by decide +kernel
theorem dX1_readLayer_7 : decode cX1_readLayer 7 = .ok (.if_icmp .ne 7, 3) := by decide +kernel
theorem dX1_readLayer_10 : decode cX1_readLayer 10 = .ok (.iconst 0, 1) := by decide +kernel
theorem dX1_readLayer_11 : decode cX1_readLayer 11 = .ok (.goto 4, 3) := by decide +kernel
theorem dX1_readLayer_14 : decode cX1_readLayer 14 = .ok (.iconst 1, 1) := by decide +kernel
theorem dX1_readLayer_15 : decode cX1_readLayer 15 = .ok (.putfield 69, 3) := by decide +kernel
theorem dX1_readLayer_18 : decode cX1_readLayer 18 = .ok (.aload_n 0, 1) := by decide +kernel
theorem dX1_readLayer_19 : decode cX1_readLayer 19 = .ok (.bipush 94, 2) := by decide +kernel
theorem dX1_readLayer_21 : decode cX1_readLayer 21 = .ok (.invokevirtual 26, 3) := by decide +kernel
theorem dX1_readLayer_24 : decode cX1_readLayer 24 = .ok (.ifCond .ne 12, 3) := by decide +kernel
theorem dX1_readLayer_27 : decode cX1_readLayer 27 = .ok (.aload_n 0, 1) := by decide +kernel
theorem dX1_readLayer_28 : decode cX1_readLayer 28 = .ok (.bipush 95, 2) := by decide +kernel
theorem dX1_readLayer_30 : decode cX1_readLayer 30 = .ok (.invokevirtual 26, 3) := by decide +kernel
theorem dX1_readLayer_33 : decode cX1_readLayer 33 = .ok (.ifCond .eq 7, 3) := by decide +kernel
theorem dX1_readLayer_36 : decode cX1_readLayer 36 = .ok (.iconst 1, 1) := by decide +kernel
theorem dX1_readLayer_37 : decode cX1_readLayer 37 = .ok (.goto 4, 3) := by decide +kernel
theorem dX1_readLayer_40 : decode cX1_readLayer 40 = .ok (.iconst 0, 1) := by decide +kernel
theorem dX1_readLayer_41 : decode cX1_readLayer 41 = .ok (.ireturn, 1) := by decide +kernel
theorem dX1_readSector_0 : decode cX1_readSector 0 = .ok (.aload_n 0, 1) := by decide +kernel
theorem dX1_readSector_1 : decode cX1_readSector 1 = .ok (.aload_n 0, 1) := by decide +kernel
theorem dX1_readSector_2 : decode cX1_readSector 2 = .ok (.iconst 0, 1) := by decide +kernel
theorem dX1_readSector_3 : decode cX1_readSector 3 = .ok (.bipush 23, 2) := by decide +kernel
theorem dX1_readSector_5 : decode cX1_readSector 5 = .ok (.invokevirtual 38, 3) := by decide +kernel
theorem dX1_readSector_8 : decode cX1_readSector 8 = .ok (.putfield 72, 3) := by decide +kernel
theorem dX1_readSector_11 : decode cX1_readSector 11 = .ok (.aload_n 0, 1) := by decide +kernel
theorem dX1_readSector_12 : decode cX1_readSector 12 = .ok (.getfield 72, 3) := by decide +kernel
theorem dX1_readSector_15 : decode cX1_readSector 15 = .ok (.ifCond .lt 7, 3) := by decide +kernel
theorem dX1_readSector_18 : decode cX1_readSector 18 = .ok (.iconst 1, 1) := by decide +kernel
theorem dX1_readSector_19 : decode cX1_readSector 19 = .ok (.goto 4, 3) := by decide +kernel
theorem dX1_readSector_22 : decode cX1_readSector 22 = .ok (.iconst 0, 1) := by decide +kernel
theorem dX1_readSector_23 : decode cX1_readSector 23 = .ok (.ireturn, 1) := by decide +kernel
theorem dX1_readAmount_0 : decode cX1_readAmount 0 = .ok (.aload_n 0, 1) := by decide +kernel
theorem dX1_readAmount_1 : decode cX1_readAmount 1 = .ok (.aload_n 0, 1) := by decide +kernel
theorem dX1_readAmount_2 : decode cX1_readAmount 2 = .ok (.iconst 1, 1) := by decide +kernel
theorem dX1_readAmount_3 : decode cX1_readAmount 3 = .ok (.ldc 75, 2) := by decide +kernel
theorem dX1_readAmount_5 : decode cX1_readAmount 5 = .ok (.invokevirtual 38, 3) := by decide +kernel
theorem dX1_readAmount_8 : decode cX1_readAmount 8 = .ok (.putfield 42, 3) := by decide +kernel
theorem dX1_readAmount_11 : decode cX1_readAmount 11 = .ok (.aload_n 0, 1) := by decide +kernel
theorem dX1_readAmount_12 : decode cX1_readAmount 12 = .ok (.getfield 42, 3) := by decide +kernel
theorem dX1_readAmount_15 : decode cX1_readAmount 15 = .ok (.ifCond .lt 7, 3) := by decide +kernel
theorem dX1_readAmount_18 : decode cX1_readAmount 18 = .ok (.iconst 1, 1) := by decide +kernel
theorem dX1_readAmount_19 : decode cX1_readAmount 19 = .ok (.goto 4, 3) := by decide +kernel
theorem dX1_readAmount_22 : decode cX1_readAmount 22 = .ok (.iconst 0, 1) := by decide +kernel
theorem dX1_readAmount_23 : decode cX1_readAmount 23 = .ok (.ireturn, 1) := by decide +kernel
theorem dX1_readNumber_0 : decode cX1_readNumber 0 = .ok (.aload_n 0, 1) := by decide +kernel
theorem dX1_readNumber_1 : decode cX1_readNumber 1 = .ok (.invokevirtual 76, 3) := by decide +kernel
theorem dX1_readNumber_4 : decode cX1_readNumber 4 = .ok (.istore_n 3, 1) := by decide +kernel
theorem dX1_readNumber_5 : decode cX1_readNumber 5 = .ok (.iload_n 3, 1) := by decide +kernel
theorem dX1_readNumber_6 : decode cX1_readNumber 6 = .ok (.iload_n 1, 1) := by decide +kernel
theorem dX1_readNumber_7 : decode cX1_readNumber 7 = .ok (.if_icmp .ge 5, 3) := by decide +kernel
theorem dX1_readNumber_10 : decode cX1_readNumber 10 = .ok (.iconst (-1), 1) := by decide +kernel
theorem dX1_readNumber_11 : decode cX1_readNumber 11 = .ok (.ireturn, 1) := by decide +kernel
theorem dX1_readNumber_12 : decode cX1_readNumber 12 = .ok (.aload_n 0, 1) := by decide +kernel
theorem dX1_readNumber_13 : decode cX1_readNumber 13 = .ok (.dup, 1) := by decide +kernel
theorem dX1_readNumber_14 : decode cX1_readNumber 14 = .ok (.getfield 19, 3) := by decide +kernel
theorem dX1_readNumber_17 : decode cX1_readNumber 17 = .ok (.iconst 1, 1) := by decide +kernel
theorem dX1_readNumber_18 : decode cX1_readNumber 18 = .ok (.iadd, 1) := by decide +kernel
theorem dX1_readNumber_19 : decode cX1_readNumber 19 = .ok (.putfield 19, 3) := by decide +kernel
theorem dX1_readNumber_22 : decode cX1_readNumber 22 = .ok (.iload_n 3, 1) := by decide +kernel
theorem dX1_readNumber_23 : decode cX1_readNumber 23 = .ok (.ifCond .le 60, 3) := by decide +kernel
theorem dX1_readNumber_26 : decode cX1_readNumber 26 = .ok (.aload_n 0, 1) := by decide +kernel
theorem dX1_readNumber_27 : decode cX1_readNumber 27 = .ok (.getfield 19, 3) := by decide +kernel
theorem dX1_readNumber_30 : decode cX1_readNumber 30 = .ok (.aload_n 0, 1) := by decide +kernel
theorem dX1_readNumber_31 : decode cX1_readNumber 31 = .ok (.getfield 15, 3) := by decide +kernel
theorem dX1_readNumber_34 : decode cX1_readNumber 34 = .ok (.if_icmp .ge 49, 3) := by decide +kernel
theorem dX1_readNumber_37 : decode cX1_readNumber 37 = .ok (.aload_n 0, 1) := by decide +kernel
theorem dX1_readNumber_38 : decode cX1_readNumber 38 = .ok (.invokevirtual 76, 3) := by decide +kernel
theorem dX1_readNumber_41 : decode cX1_readNumber 41 = .ok (.istore 4, 2) := by decide +kernel
theorem dX1_readNumber_43 : decode cX1_readNumber 43 = .ok (.iload 4, 2) := by decide +kernel
theorem dX1_readNumber_45 : decode cX1_readNumber 45 = .ok (.ifCond .lt 38, 3) := by decide +kernel
theorem dX1_readNumber_48 : decode cX1_readNumber 48 = .ok (.iload_n 3, 1) := by decide +kernel
theorem dX1_readNumber_49 : decode cX1_readNumber 49 = .ok (.bipush 10, 2) := by decide +kernel
theorem dX1_readNumber_51 : decode cX1_readNumber 51 = .ok (.imul, 1) := by decide +kernel
theorem dX1_readNumber_52 : decode cX1_readNumber 52 = .ok (.iload 4, 2) := by decide +kernel
theorem dX1_readNumber_54 : decode cX1_readNumber 54 = .ok (.iadd, 1) := by decide +kernel
theorem dX1_readNumber_55 : decode cX1_readNumber 55 = .ok (.iload_n 2, 1) := by decide +kernel
theorem dX1_readNumber_56 : decode cX1_readNumber 56 = .ok (.if_icmp .le 6, 3) := by decide +kernel
theorem dX1_readNumber_59 : decode cX1_readNumber 59 = .ok (.goto 24, 3) := by decide +kernel
theorem dX1_readNumber_62 : decode cX1_readNumber 62 = .ok (.iload_n 3, 1) := by decide +kernel
theorem dX1_readNumber_63 : decode cX1_readNumber 63 = .ok (.bipush 10, 2) := by decide +kernel
theorem dX1_readNumber_65 : decode cX1_readNumber 65 = .ok (.imul, 1) := by decide +kernel
theorem dX1_readNumber_66 : decode cX1_readNumber 66 = .ok (.iload 4, 2) := by decide +kernel
theorem dX1_readNumber_68 : decode cX1_readNumber 68 = .ok (.iadd, 1) := by decide +kernel
theorem dX1_readNumber_69 : decode cX1_readNumber 69 = .ok (.istore_n 3, 1) := by decide +kernel
theorem dX1_readNumber_70 : decode cX1_readNumber 70 = .ok (.aload_n 0, 1) := by decide +kernel
theorem dX1_readNumber_71 : decode cX1_readNumber 71 = .ok (.dup, 1) := by decide +kernel
theorem dX1_readNumber_72 : decode cX1_readNumber 72 = .ok (.getfield 19, 3) := by decide +kernel
theorem dX1_readNumber_75 : decode cX1_readNumber 75 = .ok (.iconst 1, 1) := by decide +kernel
theorem dX1_readNumber_76 : decode cX1_readNumber 76 = .ok (.iadd, 1) := by decide +kernel
theorem dX1_readNumber_77 : decode cX1_readNumber 77 = .ok (.putfield 19, 3) := by decide +kernel
theorem dX1_readNumber_80 : decode cX1_readNumber 80 = .ok (.goto (-58), 3) := by decide +kernel
theorem dX1_readNumber_83 : decode cX1_readNumber 83 = .ok (.iload_n 3, 1) := by decide +kernel
theorem dX1_readNumber_84 : decode cX1_readNumber 84 = .ok (.ireturn, 1) := by decide +kernel
theorem dX1_digit_0 : decode cX1_digit 0 = .ok (.aload_n 0, 1) := by decide +kernel
theorem dX1_digit_1 : decode cX1_digit 1 = .ok (.invokevirtual 30, 3) := by decide +kernel
theorem dX1_digit_4 : decode cX1_digit 4 = .ok (.istore_n 1, 1) := by decide +kernel
theorem dX1_digit_5 : decode cX1_digit 5 = .ok (.iload_n 1, 1) := by decide +kernel
theorem dX1_digit_6 : decode cX1_digit 6 = .ok (.bipush 48, 2) := by decide +kernel
theorem dX1_digit_8 : decode cX1_digit 8 = .ok (.if_icmp .lt 16, 3) := by decide +kernel
theorem dX1_digit_11 : decode cX1_digit 11 = .ok (.iload_n 1, 1) := by decide +kernel
theorem dX1_digit_12 : decode cX1_digit 12 = .ok (.bipush 57, 2) := by decide +kernel
theorem dX1_digit_14 : decode cX1_digit 14 = .ok (.if_icmp .gt 10, 3) := by decide +kernel
theorem dX1_digit_17 : decode cX1_digit 17 = .ok (.iload_n 1, 1) := by decide +kernel
theorem dX1_digit_18 : decode cX1_digit 18 = .ok (.bipush 48, 2) := by decide +kernel
theorem dX1_digit_20 : decode cX1_digit 20 = .ok (.isub, 1) := by decide +kernel
theorem dX1_digit_21 : decode cX1_digit 21 = .ok (.goto 4, 3) := by decide +kernel
theorem dX1_digit_24 : decode cX1_digit 24 = .ok (.iconst (-1), 1) := by decide +kernel
theorem dX1_digit_25 : decode cX1_digit 25 = .ok (.ireturn, 1) := by decide +kernel
theorem dX1_take_0 : decode cX1_take 0 = .ok (.aload_n 0, 1) := by decide +kernel
theorem dX1_take_1 : decode cX1_take 1 = .ok (.invokevirtual 30, 3) := by decide +kernel
theorem dX1_take_4 : decode cX1_take 4 = .ok (.iload_n 1, 1) := by decide +kernel
theorem dX1_take_5 : decode cX1_take 5 = .ok (.if_icmp .eq 5, 3) := by decide +kernel
theorem dX1_take_8 : decode cX1_take 8 = .ok (.iconst 0, 1) := by decide +kernel
theorem dX1_take_9 : decode cX1_take 9 = .ok (.ireturn, 1) := by decide +kernel
theorem dX1_take_10 : decode cX1_take 10 = .ok (.aload_n 0, 1) := by decide +kernel
theorem dX1_take_11 : decode cX1_take 11 = .ok (.dup, 1) := by decide +kernel
theorem dX1_take_12 : decode cX1_take 12 = .ok (.getfield 19, 3) := by decide +kernel
theorem dX1_take_15 : decode cX1_take 15 = .ok (.iconst 1, 1) := by decide +kernel
theorem dX1_take_16 : decode cX1_take 16 = .ok (.iadd, 1) := by decide +kernel
theorem dX1_take_17 : decode cX1_take 17 = .ok (.putfield 19, 3) := by decide +kernel
theorem dX1_take_20 : decode cX1_take 20 = .ok (.iconst 1, 1) := by decide +kernel
theorem dX1_take_21 : decode cX1_take 21 = .ok (.ireturn, 1) := by decide +kernel
theorem dX1_character_0 : decode cX1_character 0 = .ok (.aload_n 0, 1) := by decide +kernel
theorem dX1_character_1 : decode cX1_character 1 = .ok (.getfield 19, 3) := by decide +kernel
theorem dX1_character_4 : decode cX1_character 4 = .ok (.ifCond .lt 35, 3) := by decide +kernel
theorem dX1_character_7 : decode cX1_character 7 = .ok (.aload_n 0, 1) := by decide +kernel
theorem dX1_character_8 : decode cX1_character 8 = .ok (.getfield 19, 3) := by decide +kernel
theorem dX1_character_11 : decode cX1_character 11 = .ok (.aload_n 0, 1) := by decide +kernel
theorem dX1_character_12 : decode cX1_character 12 = .ok (.getfield 15, 3) := by decide +kernel
theorem dX1_character_15 : decode cX1_character 15 = .ok (.if_icmp .ge 24, 3) := by decide +kernel
theorem dX1_character_18 : decode cX1_character 18 = .ok (.aload_n 0, 1) := by decide +kernel
theorem dX1_character_19 : decode cX1_character 19 = .ok (.getfield 19, 3) := by decide +kernel
theorem dX1_character_22 : decode cX1_character 22 = .ok (.bipush 60, 2) := by decide +kernel
theorem dX1_character_24 : decode cX1_character 24 = .ok (.if_icmp .ge 15, 3) := by decide +kernel
theorem dX1_character_27 : decode cX1_character 27 = .ok (.aload_n 0, 1) := by decide +kernel
theorem dX1_character_28 : decode cX1_character 28 = .ok (.getfield 9, 3) := by decide +kernel
theorem dX1_character_31 : decode cX1_character 31 = .ok (.aload_n 0, 1) := by decide +kernel
theorem dX1_character_32 : decode cX1_character 32 = .ok (.getfield 19, 3) := by decide +kernel
theorem dX1_character_35 : decode cX1_character 35 = .ok (.caload, 1) := by decide +kernel
theorem dX1_character_36 : decode cX1_character 36 = .ok (.goto 4, 3) := by decide +kernel
theorem dX1_character_39 : decode cX1_character 39 = .ok (.iconst 0, 1) := by decide +kernel
theorem dX1_character_40 : decode cX1_character 40 = .ok (.ireturn, 1) := by decide +kernel
theorem dX2_init_0 : decode cX2_init 0 = .ok (.aload_n 0, 1) := by decide +kernel
theorem dX2_init_1 : decode cX2_init 1 = .ok (.invokespecial 3, 3) := by decide +kernel
theorem dX2_init_4 : decode cX2_init 4 = .ok (.aload_n 0, 1) := by decide +kernel
theorem dX2_init_5 : decode cX2_init 5 = .ok (.bipush 7, 2) := by decide +kernel
theorem dX2_init_7 : decode cX2_init 7 = .ok (.newarray .int, 2) := by decide +kernel
theorem dX2_init_9 : decode cX2_init 9 = .ok (.putfield 9, 3) := by decide +kernel
theorem dX2_init_12 : decode cX2_init 12 = .ok (.aload_n 0, 1) := by decide +kernel
theorem dX2_init_13 : decode cX2_init 13 = .ok (.bipush 12, 2) := by decide +kernel
theorem dX2_init_15 : decode cX2_init 15 = .ok (.newarray .int, 2) := by decide +kernel
theorem dX2_init_17 : decode cX2_init 17 = .ok (.putfield 15, 3) := by decide +kernel
theorem dX2_init_20 : decode cX2_init 20 = .ok (.aload_n 0, 1) := by decide +kernel
theorem dX2_init_21 : decode cX2_init 21 = .ok (.bipush 12, 2) := by decide +kernel
theorem dX2_init_23 : decode cX2_init 23 = .ok (.newarray .int, 2) := by decide +kernel
theorem dX2_init_25 : decode cX2_init 25 = .ok (.putfield 18, 3) := by decide +kernel
theorem dX2_init_28 : decode cX2_init 28 = .ok (.aload_n 0, 1) := by decide +kernel
theorem dX2_init_29 : decode cX2_init 29 = .ok (.iconst 3, 1) := by decide +kernel
theorem dX2_init_30 : decode cX2_init 30 = .ok (.newarray .int, 2) := by decide +kernel
theorem dX2_init_32 : decode cX2_init 32 = .ok (.putfield 21, 3) := by decide +kernel
theorem dX2_init_35 : decode cX2_init 35 = .ok (.aload_n 0, 1) := by decide +kernel
theorem dX2_init_36 : decode cX2_init 36 = .ok (.iconst 3, 1) := by decide +kernel
theorem dX2_init_37 : decode cX2_init 37 = .ok (.sipush 576, 3) := by decide +kernel
theorem dX2_init_40 : decode cX2_init 40 = .ok (.multianewarray 24 2, 4) := by decide +kernel
theorem dX2_init_44 : decode cX2_init 44 = .ok (.putfield 26, 3) := by decide +kernel
theorem dX2_init_47 : decode cX2_init 47 = .ok (.aload_n 0, 1) := by decide +kernel
theorem dX2_init_48 : decode cX2_init 48 = .ok (.bipush 6, 2) := by decide +kernel
theorem dX2_init_50 : decode cX2_init 50 = .ok (.anewarray 29, 3) := by decide +kernel
theorem dX2_init_53 : decode cX2_init 53 = .ok (.putfield 31, 3) := by decide +kernel
theorem dX2_init_56 : decode cX2_init 56 = .ok (.aload_n 0, 1) := by decide +kernel
theorem dX2_init_57 : decode cX2_init 57 = .ok (.bipush 12, 2) := by decide +kernel
theorem dX2_init_59 : decode cX2_init 59 = .ok (.newarray .int, 2) := by decide +kernel
theorem dX2_init_61 : decode cX2_init 61 = .ok (.putfield 35, 3) := by decide +kernel
theorem dX2_init_64 : decode cX2_init 64 = .ok (.aload_n 0, 1) := by decide +kernel
theorem dX2_init_65 : decode cX2_init 65 = .ok (.bipush 12, 2) := by decide +kernel
theorem dX2_init_67 : decode cX2_init 67 = .ok (.newarray .int, 2) := by decide +kernel
theorem dX2_init_69 : decode cX2_init 69 = .ok (.putfield 38, 3) := by decide +kernel
theorem dX2_init_72 : decode cX2_init 72 = .ok (.aload_n 0, 1) := by decide +kernel
theorem dX2_init_73 : decode cX2_init 73 = .ok (.sipush 576, 3) := by decide +kernel
theorem dX2_init_76 : decode cX2_init 76 = .ok (.newarray .int, 2) := by decide +kernel
theorem dX2_init_78 : decode cX2_init 78 = .ok (.putfield 41, 3) := by decide +kernel
theorem dX2_init_81 : decode cX2_init 81 = .ok (.iconst 0, 1) := by decide +kernel
theorem dX2_init_82 : decode cX2_init 82 = .ok (.istore_n 1, 1) := by decide +kernel
theorem dX2_init_83 : decode cX2_init 83 = .ok (.iload_n 1, 1) := by decide +kernel
theorem dX2_init_84 : decode cX2_init 84 = .ok (.bipush 6, 2) := by decide +kernel
theorem dX2_init_86 : decode cX2_init 86 = .ok (.if_icmp .ge 22, 3) := by decide +kernel
theorem dX2_init_89 : decode cX2_init 89 = .ok (.aload_n 0, 1) := by decide +kernel
theorem dX2_init_90 : decode cX2_init 90 = .ok (.getfield 31, 3) := by decide +kernel
theorem dX2_init_93 : decode cX2_init 93 = .ok (.iload_n 1, 1) := by decide +kernel
theorem dX2_init_94 : decode cX2_init 94 = .ok (.new 29, 3) := by decide +kernel
theorem dX2_init_97 : decode cX2_init 97 = .ok (.dup, 1) := by decide +kernel
theorem dX2_init_98 : decode cX2_init 98 = .ok (.invokespecial 44, 3) := by decide +kernel
theorem dX2_init_101 : decode cX2_init 101 = .ok (.aastore, 1) := by decide +kernel
theorem dX2_init_102 : decode cX2_init 102 = .ok (.iinc 1 1, 3) := by decide +kernel
theorem dX2_init_105 : decode cX2_init 105 = .ok (.goto (-22), 3) := by decide +kernel
theorem dX2_init_108 : decode cX2_init 108 = .ok (.aload_n 0, 1) := by decide +kernel
theorem dX2_init_109 : decode cX2_init 109 = .ok (.bipush 6, 2) := by decide +kernel
theorem dX2_init_111 : decode cX2_init 111 = .ok (.invokevirtual 45, 3) := by decide +kernel
theorem dX2_init_114 : decode cX2_init 114 = .ok (.return_, 1) := by decide +kernel
theorem dX2_startAgain_0 : decode cX2_startAgain 0 = .ok (.aload_n 0, 1) := by decide +kernel
theorem dX2_startAgain_1 : decode cX2_startAgain 1 = .ok (.iload_n 1, 1) := by decide +kernel
theorem dX2_startAgain_2 : decode cX2_startAgain 2 = .ok (.putfield 49, 3) := by decide +kernel
theorem dX2_startAgain_5 : decode cX2_startAgain 5 = .ok (.aload_n 0, 1) := by decide +kernel
theorem dX2_startAgain_6 : decode cX2_startAgain 6 = .ok (.iconst 0, 1) := by decide +kernel
theorem dX2_startAgain_7 : decode cX2_startAgain 7 = .ok (.putfield 53, 3) := by decide +kernel
theorem dX2_startAgain_10 : decode cX2_startAgain 10 = .ok (.aload_n 0, 1) := by decide +kernel
theorem dX2_startAgain_11 : decode cX2_startAgain 11 = .ok (.iconst 0, 1) := by decide +kernel
theorem dX2_startAgain_12 : decode cX2_startAgain 12 = .ok (.putfield 56, 3) := by decide +kernel
theorem dX2_startAgain_15 : decode cX2_startAgain 15 = .ok (.getstatic 59, 3) := by decide +kernel
theorem dX2_startAgain_18 : decode cX2_startAgain 18 = .ok (.iconst 0, 1) := by decide +kernel
theorem dX2_startAgain_19 : decode cX2_startAgain 19 = .ok (.aload_n 0, 1) := by decide +kernel
theorem dX2_startAgain_20 : decode cX2_startAgain 20 = .ok (.getfield 9, 3) := by decide +kernel
theorem dX2_startAgain_23 : decode cX2_startAgain 23 = .ok (.iconst 0, 1) := by decide +kernel
theorem dX2_startAgain_24 : decode cX2_startAgain 24 = .ok (.bipush 7, 2) := by decide +kernel
theorem dX2_startAgain_26 : decode cX2_startAgain 26 = .ok (.invokestatic 62, 3) := by decide +kernel
theorem dX2_startAgain_29 : decode cX2_startAgain 29 = .ok (.aload_n 0, 1) := by decide +kernel
theorem dX2_startAgain_30 : decode cX2_startAgain 30 = .ok (.getfield 15, 3) := by decide +kernel
theorem dX2_startAgain_33 : decode cX2_startAgain 33 = .ok (.iconst 0, 1) := by decide +kernel
theorem dX2_startAgain_34 : decode cX2_startAgain 34 = .ok (.invokestatic 68, 3) := by decide +kernel
theorem dX2_startAgain_37 : decode cX2_startAgain 37 = .ok (.aload_n 0, 1) := by decide +kernel
theorem dX2_startAgain_38 : decode cX2_startAgain 38 = .ok (.getfield 18, 3) := by decide +kernel
theorem dX2_startAgain_41 : decode cX2_startAgain 41 = .ok (.iconst 0, 1) := by decide +kernel
theorem dX2_startAgain_42 : decode cX2_startAgain 42 = .ok (.invokestatic 68, 3) := by decide +kernel
theorem dX2_startAgain_45 : decode cX2_startAgain 45 = .ok (.aload_n 0, 1) := by decide +kernel
theorem dX2_startAgain_46 : decode cX2_startAgain 46 = .ok (.getfield 21, 3) := by decide +kernel
theorem dX2_startAgain_49 : decode cX2_startAgain 49 = .ok (.iconst 0, 1) := by decide +kernel
theorem dX2_startAgain_50 : decode cX2_startAgain 50 = .ok (.invokestatic 68, 3) := by decide +kernel
theorem dX2_startAgain_53 : decode cX2_startAgain 53 = .ok (.iconst 0, 1) := by decide +kernel
theorem dX2_startAgain_54 : decode cX2_startAgain 54 = .ok (.istore_n 2, 1) := by decide +kernel
theorem dX2_startAgain_55 : decode cX2_startAgain 55 = .ok (.iload_n 2, 1) := by decide +kernel
theorem dX2_startAgain_56 : decode cX2_startAgain 56 = .ok (.iconst 3, 1) := by decide +kernel
theorem dX2_startAgain_57 : decode cX2_startAgain 57 = .ok (.if_icmp .ge 19, 3) := by decide +kernel
theorem dX2_startAgain_60 : decode cX2_startAgain 60 = .ok (.aload_n 0, 1) := by decide +kernel
theorem dX2_startAgain_61 : decode cX2_startAgain 61 = .ok (.getfield 26, 3) := by decide +kernel
theorem dX2_startAgain_64 : decode cX2_startAgain 64 = .ok (.iload_n 2, 1) := by decide +kernel
theorem dX2_startAgain_65 : decode cX2_startAgain 65 = .ok (.aaload, 1) := by decide +kernel
theorem dX2_startAgain_66 : decode cX2_startAgain 66 = .ok (.iconst 0, 1) := by decide +kernel
theorem dX2_startAgain_67 : decode cX2_startAgain 67 = .ok (.invokestatic 68, 3) := by decide +kernel
theorem dX2_startAgain_70 : decode cX2_startAgain 70 = .ok (.iinc 2 1, 3) := by decide +kernel
theorem dX2_startAgain_73 : decode cX2_startAgain 73 = .ok (.goto (-18), 3) := by decide +kernel
theorem dX2_startAgain_76 : decode cX2_startAgain 76 = .ok (.return_, 1) := by decide +kernel
theorem dX2_becomeLike_0 : decode cX2_becomeLike 0 = .ok (.aload_n 0, 1) := by decide +kernel
theorem dX2_becomeLike_1 : decode cX2_becomeLike 1 = .ok (.aload_n 1, 1) := by decide +kernel
theorem dX2_becomeLike_2 : decode cX2_becomeLike 2 = .ok (.getfield 49, 3) := by decide +kernel
theorem dX2_becomeLike_5 : decode cX2_becomeLike 5 = .ok (.putfield 49, 3) := by decide +kernel
theorem dX2_becomeLike_8 : decode cX2_becomeLike 8 = .ok (.aload_n 0, 1) := by decide +kernel
theorem dX2_becomeLike_9 : decode cX2_becomeLike 9 = .ok (.aload_n 1, 1) := by decide +kernel
theorem dX2_becomeLike_10 : decode cX2_becomeLike 10 = .ok (.getfield 53, 3) := by decide +kernel
theorem dX2_becomeLike_13 : decode cX2_becomeLike 13 = .ok (.putfield 53, 3) := by decide +kernel
theorem dX2_becomeLike_16 : decode cX2_becomeLike 16 = .ok (.aload_n 0, 1) := by decide +kernel
theorem dX2_becomeLike_17 : decode cX2_becomeLike 17 = .ok (.aload_n 1, 1) := by decide +kernel
theorem dX2_becomeLike_18 : decode cX2_becomeLike 18 = .ok (.getfield 56, 3) := by decide +kernel
theorem dX2_becomeLike_21 : decode cX2_becomeLike 21 = .ok (.putfield 56, 3) := by decide +kernel
theorem dX2_becomeLike_24 : decode cX2_becomeLike 24 = .ok (.aload_n 1, 1) := by decide +kernel
theorem dX2_becomeLike_25 : decode cX2_becomeLike 25 = .ok (.getfield 9, 3) := by decide +kernel
theorem dX2_becomeLike_28 : decode cX2_becomeLike 28 = .ok (.iconst 0, 1) := by decide +kernel
theorem dX2_becomeLike_29 : decode cX2_becomeLike 29 = .ok (.aload_n 0, 1) := by decide +kernel
theorem dX2_becomeLike_30 : decode cX2_becomeLike 30 = .ok (.getfield 9, 3) := by decide +kernel
theorem dX2_becomeLike_33 : decode cX2_becomeLike 33 = .ok (.iconst 0, 1) := by decide +kernel
theorem dX2_becomeLike_34 : decode cX2_becomeLike 34 = .ok (.bipush 7, 2) := by decide +kernel
theorem dX2_becomeLike_36 : decode cX2_becomeLike 36 = .ok (.invokestatic 62, 3) := by decide +kernel
theorem dX2_becomeLike_39 : decode cX2_becomeLike 39 = .ok (.aload_n 1, 1) := by decide +kernel
theorem dX2_becomeLike_40 : decode cX2_becomeLike 40 = .ok (.getfield 15, 3) := by decide +kernel
theorem dX2_becomeLike_43 : decode cX2_becomeLike 43 = .ok (.iconst 0, 1) := by decide +kernel
theorem dX2_becomeLike_44 : decode cX2_becomeLike 44 = .ok (.aload_n 0, 1) := by decide +kernel
theorem dX2_becomeLike_45 : decode cX2_becomeLike 45 = .ok (.getfield 15, 3) := by decide +kernel
theorem dX2_becomeLike_48 : decode cX2_becomeLike 48 = .ok (.iconst 0, 1) := by decide +kernel
theorem dX2_becomeLike_49 : decode cX2_becomeLike 49 = .ok (.bipush 12, 2) := by decide +kernel
theorem dX2_becomeLike_51 : decode cX2_becomeLike 51 = .ok (.invokestatic 62, 3) := by decide +kernel
theorem dX2_becomeLike_54 : decode cX2_becomeLike 54 = .ok (.aload_n 1, 1) := by decide +kernel
theorem dX2_becomeLike_55 : decode cX2_becomeLike 55 = .ok (.getfield 18, 3) := by decide +kernel
theorem dX2_becomeLike_58 : decode cX2_becomeLike 58 = .ok (.iconst 0, 1) := by decide +kernel
theorem dX2_becomeLike_59 : decode cX2_becomeLike 59 = .ok (.aload_n 0, 1) := by decide +kernel
theorem dX2_becomeLike_60 : decode cX2_becomeLike 60 = .ok (.getfield 18, 3) := by decide +kernel
theorem dX2_becomeLike_63 : decode cX2_becomeLike 63 = .ok (.iconst 0, 1) := by decide +kernel
theorem dX2_becomeLike_64 : decode cX2_becomeLike 64 = .ok (.bipush 12, 2) := by decide +kernel
theorem dX2_becomeLike_66 : decode cX2_becomeLike 66 = .ok (.invokestatic 62, 3) := by decide +kernel
theorem dX2_becomeLike_69 : decode cX2_becomeLike 69 = .ok (.aload_n 1, 1) := by decide +kernel
theorem dX2_becomeLike_70 : decode cX2_becomeLike 70 = .ok (.getfield 21, 3) := by decide +kernel
theorem dX2_becomeLike_73 : decode cX2_becomeLike 73 = .ok (.iconst 0, 1) := by decide +kernel
theorem dX2_becomeLike_74 : decode cX2_becomeLike 74 = .ok (.aload_n 0, 1) := by decide +kernel
theorem dX2_becomeLike_75 : decode cX2_becomeLike 75 = .ok (.getfield 21, 3) := by decide +kernel
theorem dX2_becomeLike_78 : decode cX2_becomeLike 78 = .ok (.iconst 0, 1) := by decide +kernel
theorem dX2_becomeLike_79 : decode cX2_becomeLike 79 = .ok (.iconst 3, 1) := by decide +kernel
theorem dX2_becomeLike_80 : decode cX2_becomeLike 80 = .ok (.invokestatic 62, 3) := by decide +kernel
theorem dX2_becomeLike_83 : decode cX2_becomeLike 83 = .ok (.iconst 0, 1) := by decide +kernel
theorem dX2_becomeLike_84 : decode cX2_becomeLike 84 = .ok (.istore_n 2, 1) := by decide +kernel
theorem dX2_becomeLike_85 : decode cX2_becomeLike 85 = .ok (.iload_n 2, 1) := by decide +kernel
theorem dX2_becomeLike_86 : decode cX2_becomeLike 86 = .ok (.iconst 3, 1) := by decide +kernel
theorem dX2_becomeLike_87 : decode cX2_becomeLike 87 = .ok (.if_icmp .ge 31, 3) := by decide +kernel
theorem dX2_becomeLike_90 : decode cX2_becomeLike 90 = .ok (.aload_n 1, 1) := by decide +kernel
theorem dX2_becomeLike_91 : decode cX2_becomeLike 91 = .ok (.getfield 26, 3) := by decide +kernel
theorem dX2_becomeLike_94 : decode cX2_becomeLike 94 = .ok (.iload_n 2, 1) := by decide +kernel
theorem dX2_becomeLike_95 : decode cX2_becomeLike 95 = .ok (.aaload, 1) := by decide +kernel
theorem dX2_becomeLike_96 : decode cX2_becomeLike 96 = .ok (.iconst 0, 1) := by decide +kernel
theorem dX2_becomeLike_97 : decode cX2_becomeLike 97 = .ok (.aload_n 0, 1) := by decide +kernel
theorem dX2_becomeLike_98 : decode cX2_becomeLike 98 = .ok (.getfield 26, 3) := by decide +kernel
theorem dX2_becomeLike_101 : decode cX2_becomeLike 101 = .ok (.iload_n 2, 1) := by decide +kernel
theorem dX2_becomeLike_102 : decode cX2_becomeLike 102 = .ok (.aaload, 1) := by decide +kernel
theorem dX2_becomeLike_103 : decode cX2_becomeLike 103 = .ok (.iconst 0, 1) := by decide +kernel
theorem dX2_becomeLike_104 : decode cX2_becomeLike 104 = .ok (.aload_n 0, 1) := by decide +kernel
theorem dX2_becomeLike_105 : decode cX2_becomeLike 105 = .ok (.getfield 41, 3) := by decide +kernel
theorem dX2_becomeLike_108 : decode cX2_becomeLike 108 = .ok (.arraylength, 1) := by decide +kernel
theorem dX2_becomeLike_109 : decode cX2_becomeLike 109 = .ok (.invokestatic 62, 3) := by decide +kernel
theorem dX2_becomeLike_112 : decode cX2_becomeLike 112 = .ok (.iinc 2 1, 3) := by decide +kernel
theorem dX2_becomeLike_115 : decode cX2_becomeLike 115 = .ok (.goto (-30), 3) := by decide +kernel
theorem dX2_becomeLike_118 : decode cX2_becomeLike 118 = .ok (.iconst 0, 1) := by decide +kernel
theorem dX2_becomeLike_119 : decode cX2_becomeLike 119 = .ok (.istore_n 2, 1) := by decide +kernel
theorem dX2_becomeLike_120 : decode cX2_becomeLike 120 = .ok (.iload_n 2, 1) := by decide +kernel
theorem dX2_becomeLike_121 : decode cX2_becomeLike 121 = .ok (.aload_n 0, 1) := by decide +kernel
theorem dX2_becomeLike_122 : decode cX2_becomeLike 122 = .ok (.getfield 56, 3) := by decide +kernel
theorem dX2_becomeLike_125 : decode cX2_becomeLike 125 = .ok (.if_icmp .ge 24, 3) := by decide +kernel
theorem dX2_becomeLike_128 : decode cX2_becomeLike 128 = .ok (.aload_n 0, 1) := by decide +kernel
theorem dX2_becomeLike_129 : decode cX2_becomeLike 129 = .ok (.getfield 31, 3) := by decide +kernel
theorem dX2_becomeLike_132 : decode cX2_becomeLike 132 = .ok (.iload_n 2, 1) := by decide +kernel
theorem dX2_becomeLike_133 : decode cX2_becomeLike 133 = .ok (.aaload, 1) := by decide +kernel
theorem dX2_becomeLike_134 : decode cX2_becomeLike 134 = .ok (.aload_n 1, 1) := by decide +kernel
theorem dX2_becomeLike_135 : decode cX2_becomeLike 135 = .ok (.getfield 31, 3) := by decide +kernel
theorem dX2_becomeLike_138 : decode cX2_becomeLike 138 = .ok (.iload_n 2, 1) := by decide +kernel
theorem dX2_becomeLike_139 : decode cX2_becomeLike 139 = .ok (.aaload, 1) := by decide +kernel
theorem dX2_becomeLike_140 : decode cX2_becomeLike 140 = .ok (.invokevirtual 74, 3) := by decide +kernel
theorem dX2_becomeLike_143 : decode cX2_becomeLike 143 = .ok (.iinc 2 1, 3) := by decide +kernel
theorem dX2_becomeLike_146 : decode cX2_becomeLike 146 = .ok (.goto (-26), 3) := by decide +kernel
theorem dX2_becomeLike_149 : decode cX2_becomeLike 149 = .ok (.return_, 1) := by decide +kernel
theorem dX2_hasRing_0 : decode cX2_hasRing 0 = .ok (.iload_n 1, 1) := by decide +kernel
theorem dX2_hasRing_1 : decode cX2_hasRing 1 = .ok (.ifCond .lt 15, 3) := by decide +kernel
theorem dX2_hasRing_4 : decode cX2_hasRing 4 = .ok (.iload_n 1, 1) := by decide +kernel
theorem dX2_hasRing_5 : decode cX2_hasRing 5 = .ok (.aload_n 0, 1) := by decide +kernel
theorem dX2_hasRing_6 : decode cX2_hasRing 6 = .ok (.getfield 49, 3) := by decide +kernel
theorem dX2_hasRing_9 : decode cX2_hasRing 9 = .ok (.if_icmp .ge 7, 3) := by decide +kernel
theorem dX2_hasRing_12 : decode cX2_hasRing 12 = .ok (.iconst 1, 1) := by decide +kernel
theorem dX2_hasRing_13 : decode cX2_hasRing 13 = .ok (.goto 4, 3) := by decide +kernel
theorem dX2_hasRing_16 : decode cX2_hasRing 16 = .ok (.iconst 0, 1) := by decide +kernel
theorem dX2_hasRing_17 : decode cX2_hasRing 17 = .ok (.ireturn, 1) := by decide +kernel
theorem dX2_hasMarker_0 : decode cX2_hasMarker 0 = .ok (.iload_n 1, 1) := by decide +kernel
theorem dX2_hasMarker_1 : decode cX2_hasMarker 1 = .ok (.ifCond .lt 15, 3) := by decide +kernel
theorem dX2_hasMarker_4 : decode cX2_hasMarker 4 = .ok (.iload_n 1, 1) := by decide +kernel
theorem dX2_hasMarker_5 : decode cX2_hasMarker 5 = .ok (.aload_n 0, 1) := by decide +kernel
theorem dX2_hasMarker_6 : decode cX2_hasMarker 6 = .ok (.getfield 56, 3) := by decide +kernel
theorem dX2_hasMarker_9 : decode cX2_hasMarker 9 = .ok (.if_icmp .ge 7, 3) := by decide +kernel
theorem dX2_hasMarker_12 : decode cX2_hasMarker 12 = .ok (.iconst 1, 1) := by decide +kernel
theorem dX2_hasMarker_13 : decode cX2_hasMarker 13 = .ok (.goto 4, 3) := by decide +kernel
theorem dX2_hasMarker_16 : decode cX2_hasMarker 16 = .ok (.iconst 0, 1) := by decide +kernel
theorem dX2_hasMarker_17 : decode cX2_hasMarker 17 = .ok (.ireturn, 1) := by decide +kernel
theorem dX2_lastPlace_0 : decode cX2_lastPlace 0 = .ok (.sipush 1000, 3) := by decide +kernel
theorem dX2_lastPlace_3 : decode cX2_lastPlace 3 = .ok (.aload_n 0, 1) := by decide +kernel
theorem dX2_lastPlace_4 : decode cX2_lastPlace 4 = .ok (.getfield 49, 3) := by decide +kernel
theorem dX2_lastPlace_7 : decode cX2_lastPlace 7 = .ok (.imul, 1) := by decide +kernel
theorem dX2_lastPlace_8 : decode cX2_lastPlace 8 = .ok (.iconst 1, 1) := by decide +kernel
theorem dX2_lastPlace_9 : decode cX2_lastPlace 9 = .ok (.isub, 1) := by decide +kernel
theorem dX2_lastPlace_10 : decode cX2_lastPlace 10 = .ok (.ireturn, 1) := by decide +kernel
theorem dX2_weightOf_0 : decode cX2_weightOf 0 = .ok (.iconst 2, 1) := by decide +kernel
theorem dX2_weightOf_1 : decode cX2_weightOf 1 = .ok (.iload_n 0, 1) := by decide +kernel
theorem dX2_weightOf_2 : decode cX2_weightOf 2 = .ok (.imul, 1) := by decide +kernel
theorem dX2_weightOf_3 : decode cX2_weightOf 3 = .ok (.iconst 1, 1) := by decide +kernel
theorem dX2_weightOf_4 : decode cX2_weightOf 4 = .ok (.iadd, 1) := by decide +kernel
theorem dX2_weightOf_5 : decode cX2_weightOf 5 = .ok (.ireturn, 1) := by decide +kernel
theorem dX2_velocityOf_0 : decode cX2_velocityOf 0 = .ok (.aload_n 0, 1) := by decide +kernel
theorem dX2_velocityOf_1 : decode cX2_velocityOf 1 = .ok (.getfield 15, 3) := by decide +kernel
theorem dX2_velocityOf_4 : decode cX2_velocityOf 4 = .ok (.iload_n 1, 1) := by decide +kernel
theorem dX2_velocityOf_5 : decode cX2_velocityOf 5 = .ok (.iaload, 1) := by decide +kernel
theorem dX2_velocityOf_6 : decode cX2_velocityOf 6 = .ok (.iload_n 1, 1) := by decide +kernel
theorem dX2_velocityOf_7 : decode cX2_velocityOf 7 = .ok (.invokestatic 78, 3) := by decide +kernel
theorem dX2_velocityOf_10 : decode cX2_velocityOf 10 = .ok (.invokestatic 82, 3) := by decide +kernel
theorem dX2_velocityOf_13 : decode cX2_velocityOf 13 = .ok (.ireturn, 1) := by decide +kernel
theorem dX2_giveVelocity_0 : decode cX2_giveVelocity 0 = .ok (.aload_n 0, 1) := by decide +kernel
theorem dX2_giveVelocity_1 : decode cX2_giveVelocity 1 = .ok (.getfield 15, 3) := by decide +kernel
theorem dX2_giveVelocity_4 : decode cX2_giveVelocity 4 = .ok (.iload_n 1, 1) := by decide +kernel
theorem dX2_giveVelocity_5 : decode cX2_giveVelocity 5 = .ok (.iload_n 2, 1) := by decide +kernel
theorem dX2_giveVelocity_6 : decode cX2_giveVelocity 6 = .ok (.iload_n 1, 1) := by decide +kernel
theorem dX2_giveVelocity_7 : decode cX2_giveVelocity 7 = .ok (.invokestatic 78, 3) := by decide +kernel
theorem dX2_giveVelocity_10 : decode cX2_giveVelocity 10 = .ok (.imul, 1) := by decide +kernel
theorem dX2_giveVelocity_11 : decode cX2_giveVelocity 11 = .ok (.iastore, 1) := by decide +kernel
theorem dX2_giveVelocity_12 : decode cX2_giveVelocity 12 = .ok (.return_, 1) := by decide +kernel
theorem dX2_giveVelocities_0 : decode cX2_giveVelocities 0 = .ok (.iconst 1, 1) := by decide +kernel
theorem dX2_giveVelocities_1 : decode cX2_giveVelocities 1 = .ok (.aload_n 0, 1) := by decide +kernel
theorem dX2_giveVelocities_2 : decode cX2_giveVelocities 2 = .ok (.getfield 49, 3) := by decide +kernel
theorem dX2_giveVelocities_5 : decode cX2_giveVelocities 5 = .ok (.iconst 1, 1) := by decide +kernel
theorem dX2_giveVelocities_6 : decode cX2_giveVelocities 6 = .ok (.isub, 1) := by decide +kernel
theorem dX2_giveVelocities_7 : decode cX2_giveVelocities 7 = .ok (.invokestatic 88, 3) := by decide +kernel
theorem dX2_giveVelocities_10 : decode cX2_giveVelocities 10 = .ok (.istore_n 3, 1) := by decide +kernel
theorem dX2_giveVelocities_11 : decode cX2_giveVelocities 11 = .ok (.iconst 0, 1) := by decide +kernel
theorem dX2_giveVelocities_12 : decode cX2_giveVelocities 12 = .ok (.istore 4, 2) := by decide +kernel
theorem dX2_giveVelocities_14 : decode cX2_giveVelocities 14 = .ok (.iload 4, 2) := by decide +kernel
theorem dX2_giveVelocities_16 : decode cX2_giveVelocities 16 = .ok (.aload_n 0, 1) := by decide +kernel
theorem dX2_giveVelocities_17 : decode cX2_giveVelocities 17 = .ok (.getfield 49, 3) := by decide +kernel
theorem dX2_giveVelocities_20 : decode cX2_giveVelocities 20 = .ok (.if_icmp .ge 25, 3) := by decide +kernel
theorem dX2_giveVelocities_23 : decode cX2_giveVelocities 23 = .ok (.aload_n 0, 1) := by decide +kernel
theorem dX2_giveVelocities_24 : decode cX2_giveVelocities 24 = .ok (.iload 4, 2) := by decide +kernel
theorem dX2_giveVelocities_26 : decode cX2_giveVelocities 26 = .ok (.iload_n 1, 1) := by decide +kernel
theorem dX2_giveVelocities_27 : decode cX2_giveVelocities 27 = .ok (.iload_n 2, 1) := by decide +kernel
theorem dX2_giveVelocities_28 : decode cX2_giveVelocities 28 = .ok (.iload_n 1, 1) := by decide +kernel
theorem dX2_giveVelocities_29 : decode cX2_giveVelocities 29 = .ok (.isub, 1) := by decide +kernel
theorem dX2_giveVelocities_30 : decode cX2_giveVelocities 30 = .ok (.iload 4, 2) := by decide +kernel
theorem dX2_giveVelocities_32 : decode cX2_giveVelocities 32 = .ok (.imul, 1) := by decide +kernel
theorem dX2_giveVelocities_33 : decode cX2_giveVelocities 33 = .ok (.iload_n 3, 1) := by decide +kernel
theorem dX2_giveVelocities_34 : decode cX2_giveVelocities 34 = .ok (.idiv, 1) := by decide +kernel
theorem dX2_giveVelocities_35 : decode cX2_giveVelocities 35 = .ok (.iadd, 1) := by decide +kernel
theorem dX2_giveVelocities_36 : decode cX2_giveVelocities 36 = .ok (.invokevirtual 91, 3) := by decide +kernel
theorem dX2_giveVelocities_39 : decode cX2_giveVelocities 39 = .ok (.iinc 4 1, 3) := by decide +kernel
theorem dX2_giveVelocities_42 : decode cX2_giveVelocities 42 = .ok (.goto (-28), 3) := by decide +kernel
theorem dX2_giveVelocities_45 : decode cX2_giveVelocities 45 = .ok (.return_, 1) := by decide +kernel
theorem dX2_pushOf_0 : decode cX2_pushOf 0 = .ok (.aload_n 0, 1) := by decide +kernel
theorem dX2_pushOf_1 : decode cX2_pushOf 1 = .ok (.getfield 9, 3) := by decide +kernel
theorem dX2_pushOf_4 : decode cX2_pushOf 4 = .ok (.iconst 5, 1) := by decide +kernel
theorem dX2_pushOf_5 : decode cX2_pushOf 5 = .ok (.iaload, 1) := by decide +kernel
theorem dX2_pushOf_6 : decode cX2_pushOf 6 = .ok (.aload_n 0, 1) := by decide +kernel
theorem dX2_pushOf_7 : decode cX2_pushOf 7 = .ok (.iload_n 1, 1) := by decide +kernel
theorem dX2_pushOf_8 : decode cX2_pushOf 8 = .ok (.invokevirtual 95, 3) := by decide +kernel
theorem dX2_pushOf_11 : decode cX2_pushOf 11 = .ok (.aload_n 0, 1) := by decide +kernel
theorem dX2_pushOf_12 : decode cX2_pushOf 12 = .ok (.getfield 9, 3) := by decide +kernel
theorem dX2_pushOf_15 : decode cX2_pushOf 15 = .ok (.iconst 4, 1) := by decide +kernel
theorem dX2_pushOf_16 : decode cX2_pushOf 16 = .ok (.iaload, 1) := by decide +kernel
theorem dX2_pushOf_17 : decode cX2_pushOf 17 = .ok (.isub, 1) := by decide +kernel
theorem dX2_pushOf_18 : decode cX2_pushOf 18 = .ok (.imul, 1) := by decide +kernel
theorem dX2_pushOf_19 : decode cX2_pushOf 19 = .ok (.bipush 100, 2) := by decide +kernel
theorem dX2_pushOf_21 : decode cX2_pushOf 21 = .ok (.idiv, 1) := by decide +kernel
theorem dX2_pushOf_22 : decode cX2_pushOf 22 = .ok (.istore_n 2, 1) := by decide +kernel
theorem dX2_pushOf_23 : decode cX2_pushOf 23 = .ok (.sipush (-500), 3) := by decide +kernel
theorem dX2_pushOf_26 : decode cX2_pushOf 26 = .ok (.sipush 500, 3) := by decide +kernel
theorem dX2_pushOf_29 : decode cX2_pushOf 29 = .ok (.iload_n 2, 1) := by decide +kernel
theorem dX2_pushOf_30 : decode cX2_pushOf 30 = .ok (.invokestatic 98, 3) := by decide +kernel
theorem dX2_pushOf_33 : decode cX2_pushOf 33 = .ok (.invokestatic 88, 3) := by decide +kernel
theorem dX2_pushOf_36 : decode cX2_pushOf 36 = .ok (.ireturn, 1) := by decide +kernel
theorem dX2_allMomenta_0 : decode cX2_allMomenta 0 = .ok (.iconst 0, 1) := by decide +kernel
theorem dX2_allMomenta_1 : decode cX2_allMomenta 1 = .ok (.istore_n 1, 1) := by decide +kernel
theorem dX2_allMomenta_2 : decode cX2_allMomenta 2 = .ok (.iconst 0, 1) := by decide +kernel
theorem dX2_allMomenta_3 : decode cX2_allMomenta 3 = .ok (.istore_n 2, 1) := by decide +kernel
theorem dX2_allMomenta_4 : decode cX2_allMomenta 4 = .ok (.iload_n 2, 1) := by decide +kernel
theorem dX2_allMomenta_5 : decode cX2_allMomenta 5 = .ok (.aload_n 0, 1) := by decide +kernel
theorem dX2_allMomenta_6 : decode cX2_allMomenta 6 = .ok (.getfield 49, 3) := by decide +kernel
theorem dX2_allMomenta_9 : decode cX2_allMomenta 9 = .ok (.if_icmp .ge 18, 3) := by decide +kernel
theorem dX2_allMomenta_12 : decode cX2_allMomenta 12 = .ok (.iload_n 1, 1) := by decide +kernel
theorem dX2_allMomenta_13 : decode cX2_allMomenta 13 = .ok (.aload_n 0, 1) := by decide +kernel
theorem dX2_allMomenta_14 : decode cX2_allMomenta 14 = .ok (.getfield 15, 3) := by decide +kernel
theorem dX2_allMomenta_17 : decode cX2_allMomenta 17 = .ok (.iload_n 2, 1) := by decide +kernel
theorem dX2_allMomenta_18 : decode cX2_allMomenta 18 = .ok (.iaload, 1) := by decide +kernel
theorem dX2_allMomenta_19 : decode cX2_allMomenta 19 = .ok (.iadd, 1) := by decide +kernel
theorem dX2_allMomenta_20 : decode cX2_allMomenta 20 = .ok (.istore_n 1, 1) := by decide +kernel
theorem dX2_allMomenta_21 : decode cX2_allMomenta 21 = .ok (.iinc 2 1, 3) := by decide +kernel
theorem dX2_allMomenta_24 : decode cX2_allMomenta 24 = .ok (.goto (-20), 3) := by decide +kernel
theorem dX2_allMomenta_27 : decode cX2_allMomenta 27 = .ok (.iload_n 1, 1) := by decide +kernel
theorem dX2_allMomenta_28 : decode cX2_allMomenta 28 = .ok (.ireturn, 1) := by decide +kernel
theorem dX2_greatestShear_0 : decode cX2_greatestShear 0 = .ok (.iconst 0, 1) := by decide +kernel
theorem dX2_greatestShear_1 : decode cX2_greatestShear 1 = .ok (.istore_n 1, 1) := by decide +kernel
theorem dX2_greatestShear_2 : decode cX2_greatestShear 2 = .ok (.iconst 0, 1) := by decide +kernel
theorem dX2_greatestShear_3 : decode cX2_greatestShear 3 = .ok (.istore_n 2, 1) := by decide +kernel
theorem dX2_greatestShear_4 : decode cX2_greatestShear 4 = .ok (.iload_n 2, 1) := by decide +kernel
theorem dX2_greatestShear_5 : decode cX2_greatestShear 5 = .ok (.aload_n 0, 1) := by decide +kernel
theorem dX2_greatestShear_6 : decode cX2_greatestShear 6 = .ok (.getfield 49, 3) := by decide +kernel
theorem dX2_greatestShear_9 : decode cX2_greatestShear 9 = .ok (.iconst 1, 1) := by decide +kernel
theorem dX2_greatestShear_10 : decode cX2_greatestShear 10 = .ok (.isub, 1) := by decide +kernel
theorem dX2_greatestShear_11 : decode cX2_greatestShear 11 = .ok (.if_icmp .ge 30, 3) := by decide +kernel
theorem dX2_greatestShear_14 : decode cX2_greatestShear 14 = .ok (.iload_n 1, 1) := by decide +kernel
theorem dX2_greatestShear_15 : decode cX2_greatestShear 15 = .ok (.aload_n 0, 1) := by decide +kernel
theorem dX2_greatestShear_16 : decode cX2_greatestShear 16 = .ok (.iload_n 2, 1) := by decide +kernel
theorem dX2_greatestShear_17 : decode cX2_greatestShear 17 = .ok (.invokevirtual 95, 3) := by decide +kernel
theorem dX2_greatestShear_20 : decode cX2_greatestShear 20 = .ok (.aload_n 0, 1) := by decide +kernel
theorem dX2_greatestShear_21 : decode cX2_greatestShear 21 = .ok (.iload_n 2, 1) := by decide +kernel
theorem dX2_greatestShear_22 : decode cX2_greatestShear 22 = .ok (.iconst 1, 1) := by decide +kernel
theorem dX2_greatestShear_23 : decode cX2_greatestShear 23 = .ok (.iadd, 1) := by decide +kernel
theorem dX2_greatestShear_24 : decode cX2_greatestShear 24 = .ok (.invokevirtual 95, 3) := by decide +kernel
theorem dX2_greatestShear_27 : decode cX2_greatestShear 27 = .ok (.isub, 1) := by decide +kernel
theorem dX2_greatestShear_28 : decode cX2_greatestShear 28 = .ok (.invokestatic 101, 3) := by decide +kernel
theorem dX2_greatestShear_31 : decode cX2_greatestShear 31 = .ok (.invokestatic 88, 3) := by decide +kernel
theorem dX2_greatestShear_34 : decode cX2_greatestShear 34 = .ok (.istore_n 1, 1) := by decide +kernel
theorem dX2_greatestShear_35 : decode cX2_greatestShear 35 = .ok (.iinc 2 1, 3) := by decide +kernel
theorem dX2_greatestShear_38 : decode cX2_greatestShear 38 = .ok (.goto (-34), 3) := by decide +kernel
theorem dX2_greatestShear_41 : decode cX2_greatestShear 41 = .ok (.iload_n 1, 1) := by decide +kernel
theorem dX2_greatestShear_42 : decode cX2_greatestShear 42 = .ok (.ireturn, 1) := by decide +kernel
theorem dX2_turnsWithFloor_0 : decode cX2_turnsWithFloor 0 = .ok (.iconst 0, 1) := by decide +kernel
theorem dX2_turnsWithFloor_1 : decode cX2_turnsWithFloor 1 = .ok (.istore_n 2, 1) := by decide +kernel
theorem dX2_turnsWithFloor_2 : decode cX2_turnsWithFloor 2 = .ok (.iload_n 2, 1) := by decide +kernel
theorem dX2_turnsWithFloor_3 : decode cX2_turnsWithFloor 3 = .ok (.aload_n 0, 1) := by decide +kernel
theorem dX2_turnsWithFloor_4 : decode cX2_turnsWithFloor 4 = .ok (.getfield 49, 3) := by decide +kernel
theorem dX2_turnsWithFloor_7 : decode cX2_turnsWithFloor 7 = .ok (.if_icmp .ge 30, 3) := by decide +kernel
theorem dX2_turnsWithFloor_10 : decode cX2_turnsWithFloor 10 = .ok (.aload_n 0, 1) := by decide +kernel
theorem dX2_turnsWithFloor_11 : decode cX2_turnsWithFloor 11 = .ok (.iload_n 2, 1) := by decide +kernel
theorem dX2_turnsWithFloor_12 : decode cX2_turnsWithFloor 12 = .ok (.invokevirtual 95, 3) := by decide +kernel
theorem dX2_turnsWithFloor_15 : decode cX2_turnsWithFloor 15 = .ok (.aload_n 0, 1) := by decide +kernel
theorem dX2_turnsWithFloor_16 : decode cX2_turnsWithFloor 16 = .ok (.getfield 9, 3) := by decide +kernel
theorem dX2_turnsWithFloor_19 : decode cX2_turnsWithFloor 19 = .ok (.iconst 4, 1) := by decide +kernel
theorem dX2_turnsWithFloor_20 : decode cX2_turnsWithFloor 20 = .ok (.iaload, 1) := by decide +kernel
theorem dX2_turnsWithFloor_21 : decode cX2_turnsWithFloor 21 = .ok (.isub, 1) := by decide +kernel
theorem dX2_turnsWithFloor_22 : decode cX2_turnsWithFloor 22 = .ok (.invokestatic 101, 3) := by decide +kernel
theorem dX2_turnsWithFloor_25 : decode cX2_turnsWithFloor 25 = .ok (.iload_n 1, 1) := by decide +kernel
theorem dX2_turnsWithFloor_26 : decode cX2_turnsWithFloor 26 = .ok (.if_icmp .le 5, 3) := by decide +kernel
theorem dX2_turnsWithFloor_29 : decode cX2_turnsWithFloor 29 = .ok (.iconst 0, 1) := by decide +kernel
theorem dX2_turnsWithFloor_30 : decode cX2_turnsWithFloor 30 = .ok (.ireturn, 1) := by decide +kernel
theorem dX2_turnsWithFloor_31 : decode cX2_turnsWithFloor 31 = .ok (.iinc 2 1, 3) := by decide +kernel
theorem dX2_turnsWithFloor_34 : decode cX2_turnsWithFloor 34 = .ok (.goto (-32), 3) := by decide +kernel
theorem dX2_turnsWithFloor_37 : decode cX2_turnsWithFloor 37 = .ok (.iconst 1, 1) := by decide +kernel
theorem dX2_turnsWithFloor_38 : decode cX2_turnsWithFloor 38 = .ok (.ireturn, 1) := by decide +kernel
theorem dX2_rowOf_0 : decode cX2_rowOf 0 = .ok (.iload_n 0, 1) := by decide +kernel
theorem dX2_rowOf_1 : decode cX2_rowOf 1 = .ok (.bipush 12, 2) := by decide +kernel
theorem dX2_rowOf_3 : decode cX2_rowOf 3 = .ok (.imul, 1) := by decide +kernel
theorem dX2_rowOf_4 : decode cX2_rowOf 4 = .ok (.iload_n 1, 1) := by decide +kernel
theorem dX2_rowOf_5 : decode cX2_rowOf 5 = .ok (.iadd, 1) := by decide +kernel
theorem dX2_rowOf_6 : decode cX2_rowOf 6 = .ok (.bipush 24, 2) := by decide +kernel
theorem dX2_rowOf_8 : decode cX2_rowOf 8 = .ok (.imul, 1) := by decide +kernel
theorem dX2_rowOf_9 : decode cX2_rowOf 9 = .ok (.ireturn, 1) := by decide +kernel
theorem dX2_cellIn_0 : decode cX2_cellIn 0 = .ok (.iload_n 1, 1) := by decide +kernel
theorem dX2_cellIn_1 : decode cX2_cellIn 1 = .ok (.iload_n 2, 1) := by decide +kernel
theorem dX2_cellIn_2 : decode cX2_cellIn 2 = .ok (.invokestatic 104, 3) := by decide +kernel
theorem dX2_cellIn_5 : decode cX2_cellIn 5 = .ok (.iload_n 3, 1) := by decide +kernel
theorem dX2_cellIn_6 : decode cX2_cellIn 6 = .ok (.aload_n 0, 1) := by decide +kernel
theorem dX2_cellIn_7 : decode cX2_cellIn 7 = .ok (.getfield 18, 3) := by decide +kernel
theorem dX2_cellIn_10 : decode cX2_cellIn 10 = .ok (.iload_n 2, 1) := by decide +kernel
theorem dX2_cellIn_11 : decode cX2_cellIn 11 = .ok (.iaload, 1) := by decide +kernel
theorem dX2_cellIn_12 : decode cX2_cellIn 12 = .ok (.sipush 150, 3) := by decide +kernel
theorem dX2_cellIn_15 : decode cX2_cellIn 15 = .ok (.idiv, 1) := by decide +kernel
theorem dX2_cellIn_16 : decode cX2_cellIn 16 = .ok (.isub, 1) := by decide +kernel
theorem dX2_cellIn_17 : decode cX2_cellIn 17 = .ok (.bipush 24, 2) := by decide +kernel
theorem dX2_cellIn_19 : decode cX2_cellIn 19 = .ok (.invokestatic 107, 3) := by decide +kernel
theorem dX2_cellIn_22 : decode cX2_cellIn 22 = .ok (.iadd, 1) := by decide +kernel
theorem dX2_cellIn_23 : decode cX2_cellIn 23 = .ok (.ireturn, 1) := by decide +kernel
theorem dX2_amountInRing_0 : decode cX2_amountInRing 0 = .ok (.aload_n 0, 1) := by decide +kernel
theorem dX2_amountInRing_1 : decode cX2_amountInRing 1 = .ok (.iload_n 1, 1) := by decide +kernel
theorem dX2_amountInRing_2 : decode cX2_amountInRing 2 = .ok (.iconst 0, 1) := by decide +kernel
theorem dX2_amountInRing_3 : decode cX2_amountInRing 3 = .ok (.iload_n 2, 1) := by decide +kernel
theorem dX2_amountInRing_4 : decode cX2_amountInRing 4 = .ok (.invokevirtual 110, 3) := by decide +kernel
theorem dX2_amountInRing_7 : decode cX2_amountInRing 7 = .ok (.aload_n 0, 1) := by decide +kernel
theorem dX2_amountInRing_8 : decode cX2_amountInRing 8 = .ok (.iload_n 1, 1) := by decide +kernel
theorem dX2_amountInRing_9 : decode cX2_amountInRing 9 = .ok (.iconst 1, 1) := by decide +kernel
theorem dX2_amountInRing_10 : decode cX2_amountInRing 10 = .ok (.iload_n 2, 1) := by decide +kernel
theorem dX2_amountInRing_11 : decode cX2_amountInRing 11 = .ok (.invokevirtual 110, 3) := by decide +kernel
theorem dX2_amountInRing_14 : decode cX2_amountInRing 14 = .ok (.iadd, 1) := by decide +kernel
theorem dX2_amountInRing_15 : decode cX2_amountInRing 15 = .ok (.ireturn, 1) := by decide +kernel
theorem dX2_amountInTop_0 : decode cX2_amountInTop 0 = .ok (.iconst 0, 1) := by decide +kernel
theorem dX2_amountInTop_1 : decode cX2_amountInTop 1 = .ok (.istore_n 2, 1) := by decide +kernel
theorem dX2_amountInTop_2 : decode cX2_amountInTop 2 = .ok (.iconst 0, 1) := by decide +kernel
theorem dX2_amountInTop_3 : decode cX2_amountInTop 3 = .ok (.istore_n 3, 1) := by decide +kernel
theorem dX2_amountInTop_4 : decode cX2_amountInTop 4 = .ok (.iload_n 3, 1) := by decide +kernel
theorem dX2_amountInTop_5 : decode cX2_amountInTop 5 = .ok (.aload_n 0, 1) := by decide +kernel
theorem dX2_amountInTop_6 : decode cX2_amountInTop 6 = .ok (.getfield 49, 3) := by decide +kernel
theorem dX2_amountInTop_9 : decode cX2_amountInTop 9 = .ok (.if_icmp .ge 19, 3) := by decide +kernel
theorem dX2_amountInTop_12 : decode cX2_amountInTop 12 = .ok (.iload_n 2, 1) := by decide +kernel
theorem dX2_amountInTop_13 : decode cX2_amountInTop 13 = .ok (.aload_n 0, 1) := by decide +kernel
theorem dX2_amountInTop_14 : decode cX2_amountInTop 14 = .ok (.iload_n 1, 1) := by decide +kernel
theorem dX2_amountInTop_15 : decode cX2_amountInTop 15 = .ok (.iconst 0, 1) := by decide +kernel
theorem dX2_amountInTop_16 : decode cX2_amountInTop 16 = .ok (.iload_n 3, 1) := by decide +kernel
theorem dX2_amountInTop_17 : decode cX2_amountInTop 17 = .ok (.invokevirtual 110, 3) := by decide +kernel
theorem dX2_amountInTop_20 : decode cX2_amountInTop 20 = .ok (.iadd, 1) := by decide +kernel
theorem dX2_amountInTop_21 : decode cX2_amountInTop 21 = .ok (.istore_n 2, 1) := by decide +kernel
theorem dX2_amountInTop_22 : decode cX2_amountInTop 22 = .ok (.iinc 3 1, 3) := by decide +kernel
theorem dX2_amountInTop_25 : decode cX2_amountInTop 25 = .ok (.goto (-21), 3) := by decide +kernel
theorem dX2_amountInTop_28 : decode cX2_amountInTop 28 = .ok (.iload_n 2, 1) := by decide +kernel
theorem dX2_amountInTop_29 : decode cX2_amountInTop 29 = .ok (.ireturn, 1) := by decide +kernel
theorem dX2_amountInRow_0 : decode cX2_amountInRow 0 = .ok (.aload_n 0, 1) := by decide +kernel
theorem dX2_amountInRow_1 : decode cX2_amountInRow 1 = .ok (.getfield 26, 3) := by decide +kernel
theorem dX2_amountInRow_4 : decode cX2_amountInRow 4 = .ok (.iload_n 1, 1) := by decide +kernel
theorem dX2_amountInRow_5 : decode cX2_amountInRow 5 = .ok (.aaload, 1) := by decide +kernel
theorem dX2_amountInRow_6 : decode cX2_amountInRow 6 = .ok (.astore 4, 2) := by decide +kernel
theorem dX2_amountInRow_8 : decode cX2_amountInRow 8 = .ok (.iload_n 2, 1) := by decide +kernel
theorem dX2_amountInRow_9 : decode cX2_amountInRow 9 = .ok (.iload_n 3, 1) := by decide +kernel
theorem dX2_amountInRow_10 : decode cX2_amountInRow 10 = .ok (.invokestatic 104, 3) := by decide +kernel
theorem dX2_amountInRow_13 : decode cX2_amountInRow 13 = .ok (.istore 5, 2) := by decide +kernel
theorem dX2_amountInRow_15 : decode cX2_amountInRow 15 = .ok (.iconst 0, 1) := by decide +kernel
theorem dX2_amountInRow_16 : decode cX2_amountInRow 16 = .ok (.istore 6, 2) := by decide +kernel
theorem dX2_amountInRow_18 : decode cX2_amountInRow 18 = .ok (.iload 5, 2) := by decide +kernel
theorem dX2_amountInRow_20 : decode cX2_amountInRow 20 = .ok (.istore 7, 2) := by decide +kernel
theorem dX2_amountInRow_22 : decode cX2_amountInRow 22 = .ok (.iload 7, 2) := by decide +kernel
theorem dX2_amountInRow_24 : decode cX2_amountInRow 24 = .ok (.iload 5, 2) := by decide +kernel
theorem dX2_amountInRow_26 : decode cX2_amountInRow 26 = .ok (.bipush 24, 2) := by decide +kernel
theorem dX2_amountInRow_28 : decode cX2_amountInRow 28 = .ok (.iadd, 1) := by decide +kernel
theorem dX2_amountInRow_29 : decode cX2_amountInRow 29 = .ok (.if_icmp .ge 19, 3) := by decide +kernel
theorem dX2_amountInRow_32 : decode cX2_amountInRow 32 = .ok (.iload 6, 2) := by decide +kernel
theorem dX2_amountInRow_34 : decode cX2_amountInRow 34 = .ok (.aload 4, 2) := by decide +kernel
theorem dX2_amountInRow_36 : decode cX2_amountInRow 36 = .ok (.iload 7, 2) := by decide +kernel
theorem dX2_amountInRow_38 : decode cX2_amountInRow 38 = .ok (.iaload, 1) := by decide +kernel
theorem dX2_amountInRow_39 : decode cX2_amountInRow 39 = .ok (.iadd, 1) := by decide +kernel
theorem dX2_amountInRow_40 : decode cX2_amountInRow 40 = .ok (.istore 6, 2) := by decide +kernel
theorem dX2_amountInRow_42 : decode cX2_amountInRow 42 = .ok (.iinc 7 1, 3) := by decide +kernel
theorem dX2_amountInRow_45 : decode cX2_amountInRow 45 = .ok (.goto (-23), 3) := by decide +kernel
theorem dX2_amountInRow_48 : decode cX2_amountInRow 48 = .ok (.iload 6, 2) := by decide +kernel
theorem dX2_amountInRow_50 : decode cX2_amountInRow 50 = .ok (.ireturn, 1) := by decide +kernel
theorem dX2_cellsWith_0 : decode cX2_cellsWith 0 = .ok (.aload_n 0, 1) := by decide +kernel
theorem dX2_cellsWith_1 : decode cX2_cellsWith 1 = .ok (.getfield 26, 3) := by decide +kernel
theorem dX2_cellsWith_4 : decode cX2_cellsWith 4 = .ok (.iload_n 1, 1) := by decide +kernel
theorem dX2_cellsWith_5 : decode cX2_cellsWith 5 = .ok (.aaload, 1) := by decide +kernel
theorem dX2_cellsWith_6 : decode cX2_cellsWith 6 = .ok (.astore_n 2, 1) := by decide +kernel
theorem dX2_cellsWith_7 : decode cX2_cellsWith 7 = .ok (.iconst 0, 1) := by decide +kernel
theorem dX2_cellsWith_8 : decode cX2_cellsWith 8 = .ok (.istore_n 3, 1) := by decide +kernel
theorem dX2_cellsWith_9 : decode cX2_cellsWith 9 = .ok (.iconst 0, 1) := by decide +kernel
theorem dX2_cellsWith_10 : decode cX2_cellsWith 10 = .ok (.istore 4, 2) := by decide +kernel
theorem dX2_cellsWith_12 : decode cX2_cellsWith 12 = .ok (.iload 4, 2) := by decide +kernel
theorem dX2_cellsWith_14 : decode cX2_cellsWith 14 = .ok (.aload_n 2, 1) := by decide +kernel
theorem dX2_cellsWith_15 : decode cX2_cellsWith 15 = .ok (.arraylength, 1) := by decide +kernel
theorem dX2_cellsWith_16 : decode cX2_cellsWith 16 = .ok (.if_icmp .ge 19, 3) := by decide +kernel
theorem dX2_cellsWith_19 : decode cX2_cellsWith 19 = .ok (.aload_n 2, 1) := by decide +kernel
theorem dX2_cellsWith_20 : decode cX2_cellsWith 20 = .ok (.iload 4, 2) := by decide +kernel
theorem dX2_cellsWith_22 : decode cX2_cellsWith 22 = .ok (.iaload, 1) := by decide +kernel
theorem dX2_cellsWith_23 : decode cX2_cellsWith 23 = .ok (.ifCond .le 6, 3) := by decide +kernel
theorem dX2_cellsWith_26 : decode cX2_cellsWith 26 = .ok (.iinc 3 1, 3) := by decide +kernel
theorem dX2_cellsWith_29 : decode cX2_cellsWith 29 = .ok (.iinc 4 1, 3) := by decide +kernel
theorem dX2_cellsWith_32 : decode cX2_cellsWith 32 = .ok (.goto (-20), 3) := by decide +kernel
theorem dX2_cellsWith_35 : decode cX2_cellsWith 35 = .ok (.iload_n 3, 1) := by decide +kernel
theorem dX2_cellsWith_36 : decode cX2_cellsWith 36 = .ok (.ireturn, 1) := by decide +kernel
theorem dX2_greatestAmount_0 : decode cX2_greatestAmount 0 = .ok (.aload_n 0, 1) := by decide +kernel
theorem dX2_greatestAmount_1 : decode cX2_greatestAmount 1 = .ok (.getfield 26, 3) := by decide +kernel
theorem dX2_greatestAmount_4 : decode cX2_greatestAmount 4 = .ok (.iload_n 1, 1) := by decide +kernel
theorem dX2_greatestAmount_5 : decode cX2_greatestAmount 5 = .ok (.aaload, 1) := by decide +kernel
theorem dX2_greatestAmount_6 : decode cX2_greatestAmount 6 = .ok (.astore_n 2, 1) := by decide +kernel
theorem dX2_greatestAmount_7 : decode cX2_greatestAmount 7 = .ok (.iconst 0, 1) := by decide +kernel
theorem dX2_greatestAmount_8 : decode cX2_greatestAmount 8 = .ok (.istore_n 3, 1) := by decide +kernel
theorem dX2_greatestAmount_9 : decode cX2_greatestAmount 9 = .ok (.iconst 0, 1) := by decide +kernel
theorem dX2_greatestAmount_10 : decode cX2_greatestAmount 10 = .ok (.istore 4, 2) := by decide +kernel
theorem dX2_greatestAmount_12 : decode cX2_greatestAmount 12 = .ok (.iload 4, 2) := by decide +kernel
theorem dX2_greatestAmount_14 : decode cX2_greatestAmount 14 = .ok (.aload_n 2, 1) := by decide +kernel
theorem dX2_greatestAmount_15 : decode cX2_greatestAmount 15 = .ok (.arraylength, 1) := by decide +kernel
theorem dX2_greatestAmount_16 : decode cX2_greatestAmount 16 = .ok (.if_icmp .ge 18, 3) := by decide +kernel
theorem dX2_greatestAmount_19 : decode cX2_greatestAmount 19 = .ok (.iload_n 3, 1) := by decide +kernel
theorem dX2_greatestAmount_20 : decode cX2_greatestAmount 20 = .ok (.aload_n 2, 1) := by decide +kernel
theorem dX2_greatestAmount_21 : decode cX2_greatestAmount 21 = .ok (.iload 4, 2) := by decide +kernel
theorem dX2_greatestAmount_23 : decode cX2_greatestAmount 23 = .ok (.iaload, 1) := by decide +kernel
theorem dX2_greatestAmount_24 : decode cX2_greatestAmount 24 = .ok (.invokestatic 88, 3) := by decide +kernel
theorem dX2_greatestAmount_27 : decode cX2_greatestAmount 27 = .ok (.istore_n 3, 1) := by decide +kernel
theorem dX2_greatestAmount_28 : decode cX2_greatestAmount 28 = .ok (.iinc 4 1, 3) := by decide +kernel
theorem dX2_greatestAmount_31 : decode cX2_greatestAmount 31 = .ok (.goto (-19), 3) := by decide +kernel
theorem dX2_greatestAmount_34 : decode cX2_greatestAmount 34 = .ok (.iload_n 3, 1) := by decide +kernel
theorem dX2_greatestAmount_35 : decode cX2_greatestAmount 35 = .ok (.ireturn, 1) := by decide +kernel
theorem dX2_meanPlace_0 : decode cX2_meanPlace 0 = .ok (.aload_n 0, 1) := by decide +kernel
theorem dX2_meanPlace_1 : decode cX2_meanPlace 1 = .ok (.getfield 21, 3) := by decide +kernel
theorem dX2_meanPlace_4 : decode cX2_meanPlace 4 = .ok (.iload_n 1, 1) := by decide +kernel
theorem dX2_meanPlace_5 : decode cX2_meanPlace 5 = .ok (.iaload, 1) := by decide +kernel
theorem dX2_meanPlace_6 : decode cX2_meanPlace 6 = .ok (.ifCond .ne 7, 3) := by decide +kernel
theorem dX2_meanPlace_9 : decode cX2_meanPlace 9 = .ok (.ldc2_w 114, 3) := by decide +kernel
theorem dX2_meanPlace_12 : decode cX2_meanPlace 12 = .ok (.lreturn, 1) := by decide +kernel
theorem dX2_meanPlace_13 : decode cX2_meanPlace 13 = .ok (.lconst 0, 1) := by decide +kernel
theorem dX2_meanPlace_14 : decode cX2_meanPlace 14 = .ok (.lstore_n 2, 1) := by decide +kernel
theorem dX2_meanPlace_15 : decode cX2_meanPlace 15 = .ok (.iconst 0, 1) := by decide +kernel
theorem dX2_meanPlace_16 : decode cX2_meanPlace 16 = .ok (.istore 4, 2) := by decide +kernel
theorem dX2_meanPlace_18 : decode cX2_meanPlace 18 = .ok (.iload 4, 2) := by decide +kernel
theorem dX2_meanPlace_20 : decode cX2_meanPlace 20 = .ok (.aload_n 0, 1) := by decide +kernel
theorem dX2_meanPlace_21 : decode cX2_meanPlace 21 = .ok (.getfield 49, 3) := by decide +kernel
theorem dX2_meanPlace_24 : decode cX2_meanPlace 24 = .ok (.if_icmp .ge 24, 3) := by decide +kernel
theorem dX2_meanPlace_27 : decode cX2_meanPlace 27 = .ok (.lload_n 2, 1) := by decide +kernel
theorem dX2_meanPlace_28 : decode cX2_meanPlace 28 = .ok (.iload 4, 2) := by decide +kernel
theorem dX2_meanPlace_30 : decode cX2_meanPlace 30 = .ok (.i2l, 1) := by decide +kernel
theorem dX2_meanPlace_31 : decode cX2_meanPlace 31 = .ok (.aload_n 0, 1) := by decide +kernel
theorem dX2_meanPlace_32 : decode cX2_meanPlace 32 = .ok (.iload_n 1, 1) := by decide +kernel
theorem dX2_meanPlace_33 : decode cX2_meanPlace 33 = .ok (.iload 4, 2) := by decide +kernel
theorem dX2_meanPlace_35 : decode cX2_meanPlace 35 = .ok (.invokevirtual 116, 3) := by decide +kernel
theorem dX2_meanPlace_38 : decode cX2_meanPlace 38 = .ok (.i2l, 1) := by decide +kernel
theorem dX2_meanPlace_39 : decode cX2_meanPlace 39 = .ok (.lmul, 1) := by decide +kernel
theorem dX2_meanPlace_40 : decode cX2_meanPlace 40 = .ok (.ladd, 1) := by decide +kernel
theorem dX2_meanPlace_41 : decode cX2_meanPlace 41 = .ok (.lstore_n 2, 1) := by decide +kernel
theorem dX2_meanPlace_42 : decode cX2_meanPlace 42 = .ok (.iinc 4 1, 3) := by decide +kernel
theorem dX2_meanPlace_45 : decode cX2_meanPlace 45 = .ok (.goto (-27), 3) := by decide +kernel
theorem dX2_meanPlace_48 : decode cX2_meanPlace 48 = .ok (.ldc2_w 119, 3) := by decide +kernel
theorem dX2_meanPlace_51 : decode cX2_meanPlace 51 = .ok (.lload_n 2, 1) := by decide +kernel
theorem dX2_meanPlace_52 : decode cX2_meanPlace 52 = .ok (.lmul, 1) := by decide +kernel
theorem dX2_meanPlace_53 : decode cX2_meanPlace 53 = .ok (.aload_n 0, 1) := by decide +kernel
theorem dX2_meanPlace_54 : decode cX2_meanPlace 54 = .ok (.getfield 21, 3) := by decide +kernel
theorem dX2_meanPlace_57 : decode cX2_meanPlace 57 = .ok (.iload_n 1, 1) := by decide +kernel
theorem dX2_meanPlace_58 : decode cX2_meanPlace 58 = .ok (.iaload, 1) := by decide +kernel
theorem dX2_meanPlace_59 : decode cX2_meanPlace 59 = .ok (.i2l, 1) := by decide +kernel
theorem dX2_meanPlace_60 : decode cX2_meanPlace 60 = .ok (.ldiv, 1) := by decide +kernel
theorem dX2_meanPlace_61 : decode cX2_meanPlace 61 = .ok (.lreturn, 1) := by decide +kernel
theorem dX2_unevenness_0 : decode cX2_unevenness 0 = .ok (.aload_n 0, 1) := by decide +kernel
theorem dX2_unevenness_1 : decode cX2_unevenness 1 = .ok (.getfield 21, 3) := by decide +kernel
theorem dX2_unevenness_4 : decode cX2_unevenness 4 = .ok (.iload_n 1, 1) := by decide +kernel
theorem dX2_unevenness_5 : decode cX2_unevenness 5 = .ok (.iaload, 1) := by decide +kernel
theorem dX2_unevenness_6 : decode cX2_unevenness 6 = .ok (.i2l, 1) := by decide +kernel
theorem dX2_unevenness_7 : decode cX2_unevenness 7 = .ok (.lstore_n 2, 1) := by decide +kernel
theorem dX2_unevenness_8 : decode cX2_unevenness 8 = .ok (.ldc2_w 121, 3) := by decide +kernel
theorem dX2_unevenness_11 : decode cX2_unevenness 11 = .ok (.aload_n 0, 1) := by decide +kernel
theorem dX2_unevenness_12 : decode cX2_unevenness 12 = .ok (.getfield 49, 3) := by decide +kernel
theorem dX2_unevenness_15 : decode cX2_unevenness 15 = .ok (.i2l, 1) := by decide +kernel
theorem dX2_unevenness_16 : decode cX2_unevenness 16 = .ok (.lmul, 1) := by decide +kernel
theorem dX2_unevenness_17 : decode cX2_unevenness 17 = .ok (.ldc2_w 123, 3) := by decide +kernel
theorem dX2_unevenness_20 : decode cX2_unevenness 20 = .ok (.lmul, 1) := by decide +kernel
theorem dX2_unevenness_21 : decode cX2_unevenness 21 = .ok (.lstore 4, 2) := by decide +kernel
theorem dX2_unevenness_23 : decode cX2_unevenness 23 = .ok (.lconst 0, 1) := by decide +kernel
theorem dX2_unevenness_24 : decode cX2_unevenness 24 = .ok (.lstore 6, 2) := by decide +kernel
theorem dX2_unevenness_26 : decode cX2_unevenness 26 = .ok (.iconst 0, 1) := by decide +kernel
theorem dX2_unevenness_27 : decode cX2_unevenness 27 = .ok (.istore 8, 2) := by decide +kernel
theorem dX2_unevenness_29 : decode cX2_unevenness 29 = .ok (.iload 8, 2) := by decide +kernel
theorem dX2_unevenness_31 : decode cX2_unevenness 31 = .ok (.iconst 1, 1) := by decide +kernel
theorem dX2_unevenness_32 : decode cX2_unevenness 32 = .ok (.if_icmp .gt 65, 3) := by decide +kernel
theorem dX2_unevenness_35 : decode cX2_unevenness 35 = .ok (.iload 8, 2) := by decide +kernel
theorem dX2_unevenness_37 : decode cX2_unevenness 37 = .ok (.iconst 0, 1) := by decide +kernel
theorem dX2_unevenness_38 : decode cX2_unevenness 38 = .ok (.invokestatic 104, 3) := by decide +kernel
theorem dX2_unevenness_41 : decode cX2_unevenness 41 = .ok (.istore 9, 2) := by decide +kernel
theorem dX2_unevenness_43 : decode cX2_unevenness 43 = .ok (.iload 9, 2) := by decide +kernel
theorem dX2_unevenness_45 : decode cX2_unevenness 45 = .ok (.istore 10, 2) := by decide +kernel
theorem dX2_unevenness_47 : decode cX2_unevenness 47 = .ok (.iload 10, 2) := by decide +kernel
theorem dX2_unevenness_49 : decode cX2_unevenness 49 = .ok (.iload 9, 2) := by decide +kernel
theorem dX2_unevenness_51 : decode cX2_unevenness 51 = .ok (.aload_n 0, 1) := by decide +kernel
theorem dX2_unevenness_52 : decode cX2_unevenness 52 = .ok (.getfield 49, 3) := by decide +kernel
theorem dX2_unevenness_55 : decode cX2_unevenness 55 = .ok (.bipush 24, 2) := by decide +kernel
theorem dX2_unevenness_57 : decode cX2_unevenness 57 = .ok (.imul, 1) := by decide +kernel
theorem dX2_unevenness_58 : decode cX2_unevenness 58 = .ok (.iadd, 1) := by decide +kernel
theorem dX2_unevenness_59 : decode cX2_unevenness 59 = .ok (.if_icmp .ge 32, 3) := by decide +kernel
theorem dX2_unevenness_62 : decode cX2_unevenness 62 = .ok (.lload 6, 2) := by decide +kernel
theorem dX2_unevenness_64 : decode cX2_unevenness 64 = .ok (.aload_n 0, 1) := by decide +kernel
theorem dX2_unevenness_65 : decode cX2_unevenness 65 = .ok (.getfield 26, 3) := by decide +kernel
theorem dX2_unevenness_68 : decode cX2_unevenness 68 = .ok (.iload_n 1, 1) := by decide +kernel
theorem dX2_unevenness_69 : decode cX2_unevenness 69 = .ok (.aaload, 1) := by decide +kernel
theorem dX2_unevenness_70 : decode cX2_unevenness 70 = .ok (.iload 10, 2) := by decide +kernel
theorem dX2_unevenness_72 : decode cX2_unevenness 72 = .ok (.iaload, 1) := by decide +kernel
theorem dX2_unevenness_73 : decode cX2_unevenness 73 = .ok (.i2l, 1) := by decide +kernel
theorem dX2_unevenness_74 : decode cX2_unevenness 74 = .ok (.lload 4, 2) := by decide +kernel
theorem dX2_unevenness_76 : decode cX2_unevenness 76 = .ok (.lmul, 1) := by decide +kernel
theorem dX2_unevenness_77 : decode cX2_unevenness 77 = .ok (.lload_n 2, 1) := by decide +kernel
theorem dX2_unevenness_78 : decode cX2_unevenness 78 = .ok (.lsub, 1) := by decide +kernel
theorem dX2_unevenness_79 : decode cX2_unevenness 79 = .ok (.invokestatic 125, 3) := by decide +kernel
theorem dX2_unevenness_82 : decode cX2_unevenness 82 = .ok (.ladd, 1) := by decide +kernel
theorem dX2_unevenness_83 : decode cX2_unevenness 83 = .ok (.lstore 6, 2) := by decide +kernel
theorem dX2_unevenness_85 : decode cX2_unevenness 85 = .ok (.iinc 10 1, 3) := by decide +kernel
theorem dX2_unevenness_88 : decode cX2_unevenness 88 = .ok (.goto (-41), 3) := by decide +kernel
theorem dX2_unevenness_91 : decode cX2_unevenness 91 = .ok (.iinc 8 1, 3) := by decide +kernel
theorem dX2_unevenness_94 : decode cX2_unevenness 94 = .ok (.goto (-65), 3) := by decide +kernel
theorem dX2_unevenness_97 : decode cX2_unevenness 97 = .ok (.lload 6, 2) := by decide +kernel
theorem dX2_unevenness_99 : decode cX2_unevenness 99 = .ok (.lload 4, 2) := by decide +kernel
theorem dX2_unevenness_101 : decode cX2_unevenness 101 = .ok (.ldiv, 1) := by decide +kernel
theorem dX2_unevenness_102 : decode cX2_unevenness 102 = .ok (.lreturn, 1) := by decide +kernel
theorem dX2_makeTick_0 : decode cX2_makeTick 0 = .ok (.aload_n 0, 1) := by decide +kernel
theorem dX2_makeTick_1 : decode cX2_makeTick 1 = .ok (.invokevirtual 128, 3) := by decide +kernel
theorem dX2_makeTick_4 : decode cX2_makeTick 4 = .ok (.iconst 0, 1) := by decide +kernel
theorem dX2_makeTick_5 : decode cX2_makeTick 5 = .ok (.istore_n 1, 1) := by decide +kernel
theorem dX2_makeTick_6 : decode cX2_makeTick 6 = .ok (.iload_n 1, 1) := by decide +kernel
theorem dX2_makeTick_7 : decode cX2_makeTick 7 = .ok (.iconst 3, 1) := by decide +kernel
theorem dX2_makeTick_8 : decode cX2_makeTick 8 = .ok (.if_icmp .ge 23, 3) := by decide +kernel
theorem dX2_makeTick_11 : decode cX2_makeTick 11 = .ok (.aload_n 0, 1) := by decide +kernel
theorem dX2_makeTick_12 : decode cX2_makeTick 12 = .ok (.getfield 21, 3) := by decide +kernel
theorem dX2_makeTick_15 : decode cX2_makeTick 15 = .ok (.iload_n 1, 1) := by decide +kernel
theorem dX2_makeTick_16 : decode cX2_makeTick 16 = .ok (.iaload, 1) := by decide +kernel
theorem dX2_makeTick_17 : decode cX2_makeTick 17 = .ok (.ifCond .le 8, 3) := by decide +kernel
theorem dX2_makeTick_20 : decode cX2_makeTick 20 = .ok (.aload_n 0, 1) := by decide +kernel
theorem dX2_makeTick_21 : decode cX2_makeTick 21 = .ok (.iload_n 1, 1) := by decide +kernel
theorem dX2_makeTick_22 : decode cX2_makeTick 22 = .ok (.invokevirtual 131, 3) := by decide +kernel
theorem dX2_makeTick_25 : decode cX2_makeTick 25 = .ok (.iinc 1 1, 3) := by decide +kernel
theorem dX2_makeTick_28 : decode cX2_makeTick 28 = .ok (.goto (-22), 3) := by decide +kernel
theorem dX2_makeTick_31 : decode cX2_makeTick 31 = .ok (.aload_n 0, 1) := by decide +kernel
theorem dX2_makeTick_32 : decode cX2_makeTick 32 = .ok (.invokevirtual 134, 3) := by decide +kernel
theorem dX2_makeTick_35 : decode cX2_makeTick 35 = .ok (.aload_n 0, 1) := by decide +kernel
theorem dX2_makeTick_36 : decode cX2_makeTick 36 = .ok (.dup, 1) := by decide +kernel
theorem dX2_makeTick_37 : decode cX2_makeTick 37 = .ok (.getfield 53, 3) := by decide +kernel
theorem dX2_makeTick_40 : decode cX2_makeTick 40 = .ok (.iconst 1, 1) := by decide +kernel
theorem dX2_makeTick_41 : decode cX2_makeTick 41 = .ok (.iadd, 1) := by decide +kernel
theorem dX2_makeTick_42 : decode cX2_makeTick 42 = .ok (.putfield 53, 3) := by decide +kernel
theorem dX2_makeTick_45 : decode cX2_makeTick 45 = .ok (.return_, 1) := by decide +kernel
theorem dX2_turn_0 : decode cX2_turn 0 = .ok (.aload_n 0, 1) := by decide +kernel
theorem dX2_turn_1 : decode cX2_turn 1 = .ok (.invokevirtual 137, 3) := by decide +kernel
theorem dX2_turn_4 : decode cX2_turn 4 = .ok (.iconst 0, 1) := by decide +kernel
theorem dX2_turn_5 : decode cX2_turn 5 = .ok (.istore_n 1, 1) := by decide +kernel
theorem dX2_turn_6 : decode cX2_turn 6 = .ok (.iload_n 1, 1) := by decide +kernel
theorem dX2_turn_7 : decode cX2_turn 7 = .ok (.aload_n 0, 1) := by decide +kernel
theorem dX2_turn_8 : decode cX2_turn 8 = .ok (.getfield 49, 3) := by decide +kernel
theorem dX2_turn_11 : decode cX2_turn 11 = .ok (.if_icmp .ge 56, 3) := by decide +kernel
theorem dX2_turn_14 : decode cX2_turn 14 = .ok (.aload_n 0, 1) := by decide +kernel
theorem dX2_turn_15 : decode cX2_turn 15 = .ok (.getfield 35, 3) := by decide +kernel
theorem dX2_turn_18 : decode cX2_turn 18 = .ok (.iload_n 1, 1) := by decide +kernel
theorem dX2_turn_19 : decode cX2_turn 19 = .ok (.aload_n 0, 1) := by decide +kernel
theorem dX2_turn_20 : decode cX2_turn 20 = .ok (.iload_n 1, 1) := by decide +kernel
theorem dX2_turn_21 : decode cX2_turn 21 = .ok (.invokevirtual 95, 3) := by decide +kernel
theorem dX2_turn_24 : decode cX2_turn 24 = .ok (.iastore, 1) := by decide +kernel
theorem dX2_turn_25 : decode cX2_turn 25 = .ok (.aload_n 0, 1) := by decide +kernel
theorem dX2_turn_26 : decode cX2_turn 26 = .ok (.getfield 38, 3) := by decide +kernel
theorem dX2_turn_29 : decode cX2_turn 29 = .ok (.iload_n 1, 1) := by decide +kernel
theorem dX2_turn_30 : decode cX2_turn 30 = .ok (.aload_n 0, 1) := by decide +kernel
theorem dX2_turn_31 : decode cX2_turn 31 = .ok (.iload_n 1, 1) := by decide +kernel
theorem dX2_turn_32 : decode cX2_turn 32 = .ok (.invokevirtual 140, 3) := by decide +kernel
theorem dX2_turn_35 : decode cX2_turn 35 = .ok (.iastore, 1) := by decide +kernel
theorem dX2_turn_36 : decode cX2_turn 36 = .ok (.aload_n 0, 1) := by decide +kernel
theorem dX2_turn_37 : decode cX2_turn 37 = .ok (.getfield 18, 3) := by decide +kernel
theorem dX2_turn_40 : decode cX2_turn 40 = .ok (.iload_n 1, 1) := by decide +kernel
theorem dX2_turn_41 : decode cX2_turn 41 = .ok (.aload_n 0, 1) := by decide +kernel
theorem dX2_turn_42 : decode cX2_turn 42 = .ok (.getfield 18, 3) := by decide +kernel
theorem dX2_turn_45 : decode cX2_turn 45 = .ok (.iload_n 1, 1) := by decide +kernel
theorem dX2_turn_46 : decode cX2_turn 46 = .ok (.iaload, 1) := by decide +kernel
theorem dX2_turn_47 : decode cX2_turn 47 = .ok (.aload_n 0, 1) := by decide +kernel
theorem dX2_turn_48 : decode cX2_turn 48 = .ok (.getfield 35, 3) := by decide +kernel
theorem dX2_turn_51 : decode cX2_turn 51 = .ok (.iload_n 1, 1) := by decide +kernel
theorem dX2_turn_52 : decode cX2_turn 52 = .ok (.iaload, 1) := by decide +kernel
theorem dX2_turn_53 : decode cX2_turn 53 = .ok (.iadd, 1) := by decide +kernel
theorem dX2_turn_54 : decode cX2_turn 54 = .ok (.sipush 3600, 3) := by decide +kernel
theorem dX2_turn_57 : decode cX2_turn 57 = .ok (.invokestatic 107, 3) := by decide +kernel
theorem dX2_turn_60 : decode cX2_turn 60 = .ok (.iastore, 1) := by decide +kernel
theorem dX2_turn_61 : decode cX2_turn 61 = .ok (.iinc 1 1, 3) := by decide +kernel
theorem dX2_turn_64 : decode cX2_turn 64 = .ok (.goto (-58), 3) := by decide +kernel
theorem dX2_turn_67 : decode cX2_turn 67 = .ok (.return_, 1) := by decide +kernel
theorem dX2_changeMomenta_0 : decode cX2_changeMomenta 0 = .ok (.iconst 0, 1) := by decide +kernel
theorem dX2_changeMomenta_1 : decode cX2_changeMomenta 1 = .ok (.istore_n 1, 1) := by decide +kernel
theorem dX2_changeMomenta_2 : decode cX2_changeMomenta 2 = .ok (.iload_n 1, 1) := by decide +kernel
theorem dX2_changeMomenta_3 : decode cX2_changeMomenta 3 = .ok (.aload_n 0, 1) := by decide +kernel
theorem dX2_changeMomenta_4 : decode cX2_changeMomenta 4 = .ok (.getfield 49, 3) := by decide +kernel
theorem dX2_changeMomenta_7 : decode cX2_changeMomenta 7 = .ok (.if_icmp .ge 20, 3) := by decide +kernel
theorem dX2_changeMomenta_10 : decode cX2_changeMomenta 10 = .ok (.aload_n 0, 1) := by decide +kernel
theorem dX2_changeMomenta_11 : decode cX2_changeMomenta 11 = .ok (.getfield 35, 3) := by decide +kernel
theorem dX2_changeMomenta_14 : decode cX2_changeMomenta 14 = .ok (.iload_n 1, 1) := by decide +kernel
theorem dX2_changeMomenta_15 : decode cX2_changeMomenta 15 = .ok (.aload_n 0, 1) := by decide +kernel
theorem dX2_changeMomenta_16 : decode cX2_changeMomenta 16 = .ok (.iload_n 1, 1) := by decide +kernel
theorem dX2_changeMomenta_17 : decode cX2_changeMomenta 17 = .ok (.invokevirtual 95, 3) := by decide +kernel
theorem dX2_changeMomenta_20 : decode cX2_changeMomenta 20 = .ok (.iastore, 1) := by decide +kernel
theorem dX2_changeMomenta_21 : decode cX2_changeMomenta 21 = .ok (.iinc 1 1, 3) := by decide +kernel
theorem dX2_changeMomenta_24 : decode cX2_changeMomenta 24 = .ok (.goto (-22), 3) := by decide +kernel
theorem dX2_changeMomenta_27 : decode cX2_changeMomenta 27 = .ok (.aload_n 0, 1) := by decide +kernel
theorem dX2_changeMomenta_28 : decode cX2_changeMomenta 28 = .ok (.getfield 49, 3) := by decide +kernel
theorem dX2_changeMomenta_31 : decode cX2_changeMomenta 31 = .ok (.iconst 1, 1) := by decide +kernel
theorem dX2_changeMomenta_32 : decode cX2_changeMomenta 32 = .ok (.isub, 1) := by decide +kernel
theorem dX2_changeMomenta_33 : decode cX2_changeMomenta 33 = .ok (.istore_n 1, 1) := by decide +kernel
theorem dX2_changeMomenta_34 : decode cX2_changeMomenta 34 = .ok (.iconst 0, 1) := by decide +kernel
theorem dX2_changeMomenta_35 : decode cX2_changeMomenta 35 = .ok (.istore_n 2, 1) := by decide +kernel
theorem dX2_changeMomenta_36 : decode cX2_changeMomenta 36 = .ok (.iload_n 2, 1) := by decide +kernel
theorem dX2_changeMomenta_37 : decode cX2_changeMomenta 37 = .ok (.iload_n 1, 1) := by decide +kernel
theorem dX2_changeMomenta_38 : decode cX2_changeMomenta 38 = .ok (.if_icmp .ge 57, 3) := by decide +kernel
theorem dX2_changeMomenta_41 : decode cX2_changeMomenta 41 = .ok (.aload_n 0, 1) := by decide +kernel
theorem dX2_changeMomenta_42 : decode cX2_changeMomenta 42 = .ok (.getfield 9, 3) := by decide +kernel
theorem dX2_changeMomenta_45 : decode cX2_changeMomenta 45 = .ok (.iconst 0, 1) := by decide +kernel
theorem dX2_changeMomenta_46 : decode cX2_changeMomenta 46 = .ok (.iaload, 1) := by decide +kernel
theorem dX2_changeMomenta_47 : decode cX2_changeMomenta 47 = .ok (.aload_n 0, 1) := by decide +kernel
theorem dX2_changeMomenta_48 : decode cX2_changeMomenta 48 = .ok (.getfield 35, 3) := by decide +kernel
theorem dX2_changeMomenta_51 : decode cX2_changeMomenta 51 = .ok (.iload_n 2, 1) := by decide +kernel
theorem dX2_changeMomenta_52 : decode cX2_changeMomenta 52 = .ok (.iaload, 1) := by decide +kernel
theorem dX2_changeMomenta_53 : decode cX2_changeMomenta 53 = .ok (.aload_n 0, 1) := by decide +kernel
theorem dX2_changeMomenta_54 : decode cX2_changeMomenta 54 = .ok (.getfield 35, 3) := by decide +kernel
theorem dX2_changeMomenta_57 : decode cX2_changeMomenta 57 = .ok (.iload_n 2, 1) := by decide +kernel
theorem dX2_changeMomenta_58 : decode cX2_changeMomenta 58 = .ok (.iconst 1, 1) := by decide +kernel
theorem dX2_changeMomenta_59 : decode cX2_changeMomenta 59 = .ok (.iadd, 1) := by decide +kernel
theorem dX2_changeMomenta_60 : decode cX2_changeMomenta 60 = .ok (.iaload, 1) := by decide +kernel
theorem dX2_changeMomenta_61 : decode cX2_changeMomenta 61 = .ok (.isub, 1) := by decide +kernel
theorem dX2_changeMomenta_62 : decode cX2_changeMomenta 62 = .ok (.imul, 1) := by decide +kernel
theorem dX2_changeMomenta_63 : decode cX2_changeMomenta 63 = .ok (.bipush 100, 2) := by decide +kernel
theorem dX2_changeMomenta_65 : decode cX2_changeMomenta 65 = .ok (.idiv, 1) := by decide +kernel
theorem dX2_changeMomenta_66 : decode cX2_changeMomenta 66 = .ok (.istore_n 3, 1) := by decide +kernel
theorem dX2_changeMomenta_67 : decode cX2_changeMomenta 67 = .ok (.aload_n 0, 1) := by decide +kernel
theorem dX2_changeMomenta_68 : decode cX2_changeMomenta 68 = .ok (.getfield 15, 3) := by decide +kernel
theorem dX2_changeMomenta_71 : decode cX2_changeMomenta 71 = .ok (.iload_n 2, 1) := by decide +kernel
theorem dX2_changeMomenta_72 : decode cX2_changeMomenta 72 = .ok (.dup2, 1) := by decide +kernel
theorem dX2_changeMomenta_73 : decode cX2_changeMomenta 73 = .ok (.iaload, 1) := by decide +kernel
theorem dX2_changeMomenta_74 : decode cX2_changeMomenta 74 = .ok (.iload_n 3, 1) := by decide +kernel
theorem dX2_changeMomenta_75 : decode cX2_changeMomenta 75 = .ok (.isub, 1) := by decide +kernel
theorem dX2_changeMomenta_76 : decode cX2_changeMomenta 76 = .ok (.iastore, 1) := by decide +kernel
theorem dX2_changeMomenta_77 : decode cX2_changeMomenta 77 = .ok (.aload_n 0, 1) := by decide +kernel
theorem dX2_changeMomenta_78 : decode cX2_changeMomenta 78 = .ok (.getfield 15, 3) := by decide +kernel
theorem dX2_changeMomenta_81 : decode cX2_changeMomenta 81 = .ok (.iload_n 2, 1) := by decide +kernel
theorem dX2_changeMomenta_82 : decode cX2_changeMomenta 82 = .ok (.iconst 1, 1) := by decide +kernel
theorem dX2_changeMomenta_83 : decode cX2_changeMomenta 83 = .ok (.iadd, 1) := by decide +kernel
theorem dX2_changeMomenta_84 : decode cX2_changeMomenta 84 = .ok (.dup2, 1) := by decide +kernel
theorem dX2_changeMomenta_85 : decode cX2_changeMomenta 85 = .ok (.iaload, 1) := by decide +kernel
theorem dX2_changeMomenta_86 : decode cX2_changeMomenta 86 = .ok (.iload_n 3, 1) := by decide +kernel
theorem dX2_changeMomenta_87 : decode cX2_changeMomenta 87 = .ok (.iadd, 1) := by decide +kernel
theorem dX2_changeMomenta_88 : decode cX2_changeMomenta 88 = .ok (.iastore, 1) := by decide +kernel
theorem dX2_changeMomenta_89 : decode cX2_changeMomenta 89 = .ok (.iinc 2 1, 3) := by decide +kernel
theorem dX2_changeMomenta_92 : decode cX2_changeMomenta 92 = .ok (.goto (-56), 3) := by decide +kernel
theorem dX2_changeMomenta_95 : decode cX2_changeMomenta 95 = .ok (.aload_n 0, 1) := by decide +kernel
theorem dX2_changeMomenta_96 : decode cX2_changeMomenta 96 = .ok (.getfield 15, 3) := by decide +kernel
theorem dX2_changeMomenta_99 : decode cX2_changeMomenta 99 = .ok (.iload_n 1, 1) := by decide +kernel
theorem dX2_changeMomenta_100 : decode cX2_changeMomenta 100 = .ok (.dup2, 1) := by decide +kernel
theorem dX2_changeMomenta_101 : decode cX2_changeMomenta 101 = .ok (.iaload, 1) := by decide +kernel
theorem dX2_changeMomenta_102 : decode cX2_changeMomenta 102 = .ok (.aload_n 0, 1) := by decide +kernel
theorem dX2_changeMomenta_103 : decode cX2_changeMomenta 103 = .ok (.getfield 9, 3) := by decide +kernel
theorem dX2_changeMomenta_106 : decode cX2_changeMomenta 106 = .ok (.iconst 1, 1) := by decide +kernel
theorem dX2_changeMomenta_107 : decode cX2_changeMomenta 107 = .ok (.iaload, 1) := by decide +kernel
theorem dX2_changeMomenta_108 : decode cX2_changeMomenta 108 = .ok (.aload_n 0, 1) := by decide +kernel
theorem dX2_changeMomenta_109 : decode cX2_changeMomenta 109 = .ok (.getfield 9, 3) := by decide +kernel
theorem dX2_changeMomenta_112 : decode cX2_changeMomenta 112 = .ok (.iconst 2, 1) := by decide +kernel
theorem dX2_changeMomenta_113 : decode cX2_changeMomenta 113 = .ok (.iaload, 1) := by decide +kernel
theorem dX2_changeMomenta_114 : decode cX2_changeMomenta 114 = .ok (.aload_n 0, 1) := by decide +kernel
theorem dX2_changeMomenta_115 : decode cX2_changeMomenta 115 = .ok (.getfield 35, 3) := by decide +kernel
theorem dX2_changeMomenta_118 : decode cX2_changeMomenta 118 = .ok (.iload_n 1, 1) := by decide +kernel
theorem dX2_changeMomenta_119 : decode cX2_changeMomenta 119 = .ok (.iaload, 1) := by decide +kernel
theorem dX2_changeMomenta_120 : decode cX2_changeMomenta 120 = .ok (.isub, 1) := by decide +kernel
theorem dX2_changeMomenta_121 : decode cX2_changeMomenta 121 = .ok (.imul, 1) := by decide +kernel
theorem dX2_changeMomenta_122 : decode cX2_changeMomenta 122 = .ok (.bipush 100, 2) := by decide +kernel
theorem dX2_changeMomenta_124 : decode cX2_changeMomenta 124 = .ok (.idiv, 1) := by decide +kernel
theorem dX2_changeMomenta_125 : decode cX2_changeMomenta 125 = .ok (.iadd, 1) := by decide +kernel
theorem dX2_changeMomenta_126 : decode cX2_changeMomenta 126 = .ok (.iastore, 1) := by decide +kernel
theorem dX2_changeMomenta_127 : decode cX2_changeMomenta 127 = .ok (.iconst 0, 1) := by decide +kernel
theorem dX2_changeMomenta_128 : decode cX2_changeMomenta 128 = .ok (.istore_n 2, 1) := by decide +kernel
theorem dX2_changeMomenta_129 : decode cX2_changeMomenta 129 = .ok (.iload_n 2, 1) := by decide +kernel
theorem dX2_changeMomenta_130 : decode cX2_changeMomenta 130 = .ok (.aload_n 0, 1) := by decide +kernel
theorem dX2_changeMomenta_131 : decode cX2_changeMomenta 131 = .ok (.getfield 49, 3) := by decide +kernel
theorem dX2_changeMomenta_134 : decode cX2_changeMomenta 134 = .ok (.if_icmp .ge 47, 3) := by decide +kernel
theorem dX2_changeMomenta_137 : decode cX2_changeMomenta 137 = .ok (.aload_n 0, 1) := by decide +kernel
theorem dX2_changeMomenta_138 : decode cX2_changeMomenta 138 = .ok (.getfield 15, 3) := by decide +kernel
theorem dX2_changeMomenta_141 : decode cX2_changeMomenta 141 = .ok (.iload_n 2, 1) := by decide +kernel
theorem dX2_changeMomenta_142 : decode cX2_changeMomenta 142 = .ok (.dup2, 1) := by decide +kernel
theorem dX2_changeMomenta_143 : decode cX2_changeMomenta 143 = .ok (.iaload, 1) := by decide +kernel
theorem dX2_changeMomenta_144 : decode cX2_changeMomenta 144 = .ok (.aload_n 0, 1) := by decide +kernel
theorem dX2_changeMomenta_145 : decode cX2_changeMomenta 145 = .ok (.getfield 9, 3) := by decide +kernel
theorem dX2_changeMomenta_148 : decode cX2_changeMomenta 148 = .ok (.iconst 3, 1) := by decide +kernel
theorem dX2_changeMomenta_149 : decode cX2_changeMomenta 149 = .ok (.iaload, 1) := by decide +kernel
theorem dX2_changeMomenta_150 : decode cX2_changeMomenta 150 = .ok (.aload_n 0, 1) := by decide +kernel
theorem dX2_changeMomenta_151 : decode cX2_changeMomenta 151 = .ok (.getfield 9, 3) := by decide +kernel
theorem dX2_changeMomenta_154 : decode cX2_changeMomenta 154 = .ok (.iconst 4, 1) := by decide +kernel
theorem dX2_changeMomenta_155 : decode cX2_changeMomenta 155 = .ok (.iaload, 1) := by decide +kernel
theorem dX2_changeMomenta_156 : decode cX2_changeMomenta 156 = .ok (.aload_n 0, 1) := by decide +kernel
theorem dX2_changeMomenta_157 : decode cX2_changeMomenta 157 = .ok (.getfield 35, 3) := by decide +kernel
theorem dX2_changeMomenta_160 : decode cX2_changeMomenta 160 = .ok (.iload_n 2, 1) := by decide +kernel
theorem dX2_changeMomenta_161 : decode cX2_changeMomenta 161 = .ok (.iaload, 1) := by decide +kernel
theorem dX2_changeMomenta_162 : decode cX2_changeMomenta 162 = .ok (.isub, 1) := by decide +kernel
theorem dX2_changeMomenta_163 : decode cX2_changeMomenta 163 = .ok (.imul, 1) := by decide +kernel
theorem dX2_changeMomenta_164 : decode cX2_changeMomenta 164 = .ok (.iload_n 2, 1) := by decide +kernel
theorem dX2_changeMomenta_165 : decode cX2_changeMomenta 165 = .ok (.invokestatic 78, 3) := by decide +kernel
theorem dX2_changeMomenta_168 : decode cX2_changeMomenta 168 = .ok (.imul, 1) := by decide +kernel
theorem dX2_changeMomenta_169 : decode cX2_changeMomenta 169 = .ok (.sipush 1000, 3) := by decide +kernel
theorem dX2_changeMomenta_172 : decode cX2_changeMomenta 172 = .ok (.idiv, 1) := by decide +kernel
theorem dX2_changeMomenta_173 : decode cX2_changeMomenta 173 = .ok (.iadd, 1) := by decide +kernel
theorem dX2_changeMomenta_174 : decode cX2_changeMomenta 174 = .ok (.iastore, 1) := by decide +kernel
theorem dX2_changeMomenta_175 : decode cX2_changeMomenta 175 = .ok (.iinc 2 1, 3) := by decide +kernel
theorem dX2_changeMomenta_178 : decode cX2_changeMomenta 178 = .ok (.goto (-49), 3) := by decide +kernel
theorem dX2_changeMomenta_181 : decode cX2_changeMomenta 181 = .ok (.return_, 1) := by decide +kernel
theorem dX2_carry_0 : decode cX2_carry 0 = .ok (.aload_n 0, 1) := by decide +kernel
theorem dX2_carry_1 : decode cX2_carry 1 = .ok (.getfield 26, 3) := by decide +kernel
theorem dX2_carry_4 : decode cX2_carry 4 = .ok (.iload_n 1, 1) := by decide +kernel
theorem dX2_carry_5 : decode cX2_carry 5 = .ok (.aaload, 1) := by decide +kernel
theorem dX2_carry_6 : decode cX2_carry 6 = .ok (.astore_n 2, 1) := by decide +kernel
theorem dX2_carry_7 : decode cX2_carry 7 = .ok (.aload_n 2, 1) := by decide +kernel
theorem dX2_carry_8 : decode cX2_carry 8 = .ok (.iconst 0, 1) := by decide +kernel
theorem dX2_carry_9 : decode cX2_carry 9 = .ok (.aload_n 0, 1) := by decide +kernel
theorem dX2_carry_10 : decode cX2_carry 10 = .ok (.getfield 41, 3) := by decide +kernel
theorem dX2_carry_13 : decode cX2_carry 13 = .ok (.iconst 0, 1) := by decide +kernel
theorem dX2_carry_14 : decode cX2_carry 14 = .ok (.aload_n 0, 1) := by decide +kernel
theorem dX2_carry_15 : decode cX2_carry 15 = .ok (.getfield 41, 3) := by decide +kernel
theorem dX2_carry_18 : decode cX2_carry 18 = .ok (.arraylength, 1) := by decide +kernel
theorem dX2_carry_19 : decode cX2_carry 19 = .ok (.invokestatic 62, 3) := by decide +kernel
theorem dX2_carry_22 : decode cX2_carry 22 = .ok (.iconst 0, 1) := by decide +kernel
theorem dX2_carry_23 : decode cX2_carry 23 = .ok (.istore_n 3, 1) := by decide +kernel
theorem dX2_carry_24 : decode cX2_carry 24 = .ok (.iload_n 3, 1) := by decide +kernel
theorem dX2_carry_25 : decode cX2_carry 25 = .ok (.aload_n 0, 1) := by decide +kernel
theorem dX2_carry_26 : decode cX2_carry 26 = .ok (.getfield 49, 3) := by decide +kernel
theorem dX2_carry_29 : decode cX2_carry 29 = .ok (.if_icmp .ge 82, 3) := by decide +kernel
theorem dX2_carry_32 : decode cX2_carry 32 = .ok (.aload_n 0, 1) := by decide +kernel
theorem dX2_carry_33 : decode cX2_carry 33 = .ok (.getfield 38, 3) := by decide +kernel
theorem dX2_carry_36 : decode cX2_carry 36 = .ok (.iload_n 3, 1) := by decide +kernel
theorem dX2_carry_37 : decode cX2_carry 37 = .ok (.iaload, 1) := by decide +kernel
theorem dX2_carry_38 : decode cX2_carry 38 = .ok (.ifCond .le 7, 3) := by decide +kernel
theorem dX2_carry_41 : decode cX2_carry 41 = .ok (.iconst 1, 1) := by decide +kernel
theorem dX2_carry_42 : decode cX2_carry 42 = .ok (.goto 4, 3) := by decide +kernel
theorem dX2_carry_45 : decode cX2_carry 45 = .ok (.iconst 0, 1) := by decide +kernel
theorem dX2_carry_46 : decode cX2_carry 46 = .ok (.istore 4, 2) := by decide +kernel
theorem dX2_carry_48 : decode cX2_carry 48 = .ok (.aload_n 0, 1) := by decide +kernel
theorem dX2_carry_49 : decode cX2_carry 49 = .ok (.getfield 38, 3) := by decide +kernel
theorem dX2_carry_52 : decode cX2_carry 52 = .ok (.iload_n 3, 1) := by decide +kernel
theorem dX2_carry_53 : decode cX2_carry 53 = .ok (.iaload, 1) := by decide +kernel
theorem dX2_carry_54 : decode cX2_carry 54 = .ok (.invokestatic 101, 3) := by decide +kernel
theorem dX2_carry_57 : decode cX2_carry 57 = .ok (.istore 5, 2) := by decide +kernel
theorem dX2_carry_59 : decode cX2_carry 59 = .ok (.aload_n 0, 1) := by decide +kernel
theorem dX2_carry_60 : decode cX2_carry 60 = .ok (.aload_n 2, 1) := by decide +kernel
theorem dX2_carry_61 : decode cX2_carry 61 = .ok (.iconst 1, 1) := by decide +kernel
theorem dX2_carry_62 : decode cX2_carry 62 = .ok (.iload_n 3, 1) := by decide +kernel
theorem dX2_carry_63 : decode cX2_carry 63 = .ok (.iload 4, 2) := by decide +kernel
theorem dX2_carry_65 : decode cX2_carry 65 = .ok (.ifCond .eq 9, 3) := by decide +kernel
theorem dX2_carry_68 : decode cX2_carry 68 = .ok (.iload_n 3, 1) := by decide +kernel
theorem dX2_carry_69 : decode cX2_carry 69 = .ok (.iconst 1, 1) := by decide +kernel
theorem dX2_carry_70 : decode cX2_carry 70 = .ok (.isub, 1) := by decide +kernel
theorem dX2_carry_71 : decode cX2_carry 71 = .ok (.goto 6, 3) := by decide +kernel
theorem dX2_carry_74 : decode cX2_carry 74 = .ok (.iload_n 3, 1) := by decide +kernel
theorem dX2_carry_75 : decode cX2_carry 75 = .ok (.iconst 1, 1) := by decide +kernel
theorem dX2_carry_76 : decode cX2_carry 76 = .ok (.iadd, 1) := by decide +kernel
theorem dX2_carry_77 : decode cX2_carry 77 = .ok (.iload 5, 2) := by decide +kernel
theorem dX2_carry_79 : decode cX2_carry 79 = .ok (.invokevirtual 143, 3) := by decide +kernel
theorem dX2_carry_82 : decode cX2_carry 82 = .ok (.aload_n 0, 1) := by decide +kernel
theorem dX2_carry_83 : decode cX2_carry 83 = .ok (.aload_n 2, 1) := by decide +kernel
theorem dX2_carry_84 : decode cX2_carry 84 = .ok (.iconst 0, 1) := by decide +kernel
theorem dX2_carry_85 : decode cX2_carry 85 = .ok (.iload_n 3, 1) := by decide +kernel
theorem dX2_carry_86 : decode cX2_carry 86 = .ok (.iload 4, 2) := by decide +kernel
theorem dX2_carry_88 : decode cX2_carry 88 = .ok (.ifCond .eq 9, 3) := by decide +kernel
theorem dX2_carry_91 : decode cX2_carry 91 = .ok (.iload_n 3, 1) := by decide +kernel
theorem dX2_carry_92 : decode cX2_carry 92 = .ok (.iconst 1, 1) := by decide +kernel
theorem dX2_carry_93 : decode cX2_carry 93 = .ok (.iadd, 1) := by decide +kernel
theorem dX2_carry_94 : decode cX2_carry 94 = .ok (.goto 6, 3) := by decide +kernel
theorem dX2_carry_97 : decode cX2_carry 97 = .ok (.iload_n 3, 1) := by decide +kernel
theorem dX2_carry_98 : decode cX2_carry 98 = .ok (.iconst 1, 1) := by decide +kernel
theorem dX2_carry_99 : decode cX2_carry 99 = .ok (.isub, 1) := by decide +kernel
theorem dX2_carry_100 : decode cX2_carry 100 = .ok (.iload 5, 2) := by decide +kernel
theorem dX2_carry_102 : decode cX2_carry 102 = .ok (.invokevirtual 143, 3) := by decide +kernel
theorem dX2_carry_105 : decode cX2_carry 105 = .ok (.iinc 3 1, 3) := by decide +kernel
theorem dX2_carry_108 : decode cX2_carry 108 = .ok (.goto (-84), 3) := by decide +kernel
theorem dX2_carry_111 : decode cX2_carry 111 = .ok (.aload_n 0, 1) := by decide +kernel
theorem dX2_carry_112 : decode cX2_carry 112 = .ok (.getfield 9, 3) := by decide +kernel
theorem dX2_carry_115 : decode cX2_carry 115 = .ok (.bipush 6, 2) := by decide +kernel
theorem dX2_carry_117 : decode cX2_carry 117 = .ok (.iaload, 1) := by decide +kernel
theorem dX2_carry_118 : decode cX2_carry 118 = .ok (.ifCond .le 8, 3) := by decide +kernel
theorem dX2_carry_121 : decode cX2_carry 121 = .ok (.aload_n 0, 1) := by decide +kernel
theorem dX2_carry_122 : decode cX2_carry 122 = .ok (.aload_n 2, 1) := by decide +kernel
theorem dX2_carry_123 : decode cX2_carry 123 = .ok (.invokevirtual 147, 3) := by decide +kernel
theorem dX2_carry_126 : decode cX2_carry 126 = .ok (.return_, 1) := by decide +kernel
theorem dX2_moveRow_0 : decode cX2_moveRow 0 = .ok (.iload 5, 2) := by decide +kernel
theorem dX2_moveRow_2 : decode cX2_moveRow 2 = .ok (.ifCond .eq 12, 3) := by decide +kernel
theorem dX2_moveRow_5 : decode cX2_moveRow 5 = .ok (.aload_n 0, 1) := by decide +kernel
theorem dX2_moveRow_6 : decode cX2_moveRow 6 = .ok (.iload 4, 2) := by decide +kernel
theorem dX2_moveRow_8 : decode cX2_moveRow 8 = .ok (.invokevirtual 151, 3) := by decide +kernel
theorem dX2_moveRow_11 : decode cX2_moveRow 11 = .ok (.ifCond .ne 4, 3) := by decide +kernel
theorem dX2_moveRow_14 : decode cX2_moveRow 14 = .ok (.return_, 1) := by decide +kernel
theorem dX2_moveRow_15 : decode cX2_moveRow 15 = .ok (.iload_n 2, 1) := by decide +kernel
theorem dX2_moveRow_16 : decode cX2_moveRow 16 = .ok (.iload_n 3, 1) := by decide +kernel
theorem dX2_moveRow_17 : decode cX2_moveRow 17 = .ok (.invokestatic 104, 3) := by decide +kernel
theorem dX2_moveRow_20 : decode cX2_moveRow 20 = .ok (.istore 6, 2) := by decide +kernel
theorem dX2_moveRow_22 : decode cX2_moveRow 22 = .ok (.iload_n 2, 1) := by decide +kernel
theorem dX2_moveRow_23 : decode cX2_moveRow 23 = .ok (.iload 4, 2) := by decide +kernel
theorem dX2_moveRow_25 : decode cX2_moveRow 25 = .ok (.invokestatic 104, 3) := by decide +kernel
theorem dX2_moveRow_28 : decode cX2_moveRow 28 = .ok (.istore 7, 2) := by decide +kernel
theorem dX2_moveRow_30 : decode cX2_moveRow 30 = .ok (.aload_n 0, 1) := by decide +kernel
theorem dX2_moveRow_31 : decode cX2_moveRow 31 = .ok (.getfield 18, 3) := by decide +kernel
theorem dX2_moveRow_34 : decode cX2_moveRow 34 = .ok (.iload_n 3, 1) := by decide +kernel
theorem dX2_moveRow_35 : decode cX2_moveRow 35 = .ok (.iaload, 1) := by decide +kernel
theorem dX2_moveRow_36 : decode cX2_moveRow 36 = .ok (.sipush 150, 3) := by decide +kernel
theorem dX2_moveRow_39 : decode cX2_moveRow 39 = .ok (.idiv, 1) := by decide +kernel
theorem dX2_moveRow_40 : decode cX2_moveRow 40 = .ok (.aload_n 0, 1) := by decide +kernel
theorem dX2_moveRow_41 : decode cX2_moveRow 41 = .ok (.getfield 18, 3) := by decide +kernel
theorem dX2_moveRow_44 : decode cX2_moveRow 44 = .ok (.iload 4, 2) := by decide +kernel
theorem dX2_moveRow_46 : decode cX2_moveRow 46 = .ok (.iaload, 1) := by decide +kernel
theorem dX2_moveRow_47 : decode cX2_moveRow 47 = .ok (.sipush 150, 3) := by decide +kernel
theorem dX2_moveRow_50 : decode cX2_moveRow 50 = .ok (.idiv, 1) := by decide +kernel
theorem dX2_moveRow_51 : decode cX2_moveRow 51 = .ok (.isub, 1) := by decide +kernel
theorem dX2_moveRow_52 : decode cX2_moveRow 52 = .ok (.bipush 24, 2) := by decide +kernel
theorem dX2_moveRow_54 : decode cX2_moveRow 54 = .ok (.invokestatic 107, 3) := by decide +kernel
theorem dX2_moveRow_57 : decode cX2_moveRow 57 = .ok (.istore 8, 2) := by decide +kernel
theorem dX2_moveRow_59 : decode cX2_moveRow 59 = .ok (.iconst 0, 1) := by decide +kernel
theorem dX2_moveRow_60 : decode cX2_moveRow 60 = .ok (.istore 9, 2) := by decide +kernel
theorem dX2_moveRow_62 : decode cX2_moveRow 62 = .ok (.iload 9, 2) := by decide +kernel
theorem dX2_moveRow_64 : decode cX2_moveRow 64 = .ok (.bipush 24, 2) := by decide +kernel
theorem dX2_moveRow_66 : decode cX2_moveRow 66 = .ok (.if_icmp .ge 81, 3) := by decide +kernel
theorem dX2_moveRow_69 : decode cX2_moveRow 69 = .ok (.aload_n 0, 1) := by decide +kernel
theorem dX2_moveRow_70 : decode cX2_moveRow 70 = .ok (.getfield 41, 3) := by decide +kernel
theorem dX2_moveRow_73 : decode cX2_moveRow 73 = .ok (.iload 6, 2) := by decide +kernel
theorem dX2_moveRow_75 : decode cX2_moveRow 75 = .ok (.iload 9, 2) := by decide +kernel
theorem dX2_moveRow_77 : decode cX2_moveRow 77 = .ok (.iadd, 1) := by decide +kernel
theorem dX2_moveRow_78 : decode cX2_moveRow 78 = .ok (.iaload, 1) := by decide +kernel
theorem dX2_moveRow_79 : decode cX2_moveRow 79 = .ok (.istore 10, 2) := by decide +kernel
theorem dX2_moveRow_81 : decode cX2_moveRow 81 = .ok (.iload 10, 2) := by decide +kernel
theorem dX2_moveRow_83 : decode cX2_moveRow 83 = .ok (.ifCond .le 41, 3) := by decide +kernel
theorem dX2_moveRow_86 : decode cX2_moveRow 86 = .ok (.iload 10, 2) := by decide +kernel
theorem dX2_moveRow_88 : decode cX2_moveRow 88 = .ok (.i2l, 1) := by decide +kernel
theorem dX2_moveRow_89 : decode cX2_moveRow 89 = .ok (.iload 5, 2) := by decide +kernel
theorem dX2_moveRow_91 : decode cX2_moveRow 91 = .ok (.i2l, 1) := by decide +kernel
theorem dX2_moveRow_92 : decode cX2_moveRow 92 = .ok (.lmul, 1) := by decide +kernel
theorem dX2_moveRow_93 : decode cX2_moveRow 93 = .ok (.ldc2_w 119, 3) := by decide +kernel
theorem dX2_moveRow_96 : decode cX2_moveRow 96 = .ok (.ldiv, 1) := by decide +kernel
theorem dX2_moveRow_97 : decode cX2_moveRow 97 = .ok (.l2i, 1) := by decide +kernel
theorem dX2_moveRow_98 : decode cX2_moveRow 98 = .ok (.istore 11, 2) := by decide +kernel
theorem dX2_moveRow_100 : decode cX2_moveRow 100 = .ok (.aload_n 1, 1) := by decide +kernel
theorem dX2_moveRow_101 : decode cX2_moveRow 101 = .ok (.iload 6, 2) := by decide +kernel
theorem dX2_moveRow_103 : decode cX2_moveRow 103 = .ok (.iload 9, 2) := by decide +kernel
theorem dX2_moveRow_105 : decode cX2_moveRow 105 = .ok (.iadd, 1) := by decide +kernel
theorem dX2_moveRow_106 : decode cX2_moveRow 106 = .ok (.dup2, 1) := by decide +kernel
theorem dX2_moveRow_107 : decode cX2_moveRow 107 = .ok (.iaload, 1) := by decide +kernel
theorem dX2_moveRow_108 : decode cX2_moveRow 108 = .ok (.iload 11, 2) := by decide +kernel
theorem dX2_moveRow_110 : decode cX2_moveRow 110 = .ok (.isub, 1) := by decide +kernel
theorem dX2_moveRow_111 : decode cX2_moveRow 111 = .ok (.iastore, 1) := by decide +kernel
theorem dX2_moveRow_112 : decode cX2_moveRow 112 = .ok (.aload_n 1, 1) := by decide +kernel
theorem dX2_moveRow_113 : decode cX2_moveRow 113 = .ok (.iload 7, 2) := by decide +kernel
theorem dX2_moveRow_115 : decode cX2_moveRow 115 = .ok (.iload 8, 2) := by decide +kernel
theorem dX2_moveRow_117 : decode cX2_moveRow 117 = .ok (.iadd, 1) := by decide +kernel
theorem dX2_moveRow_118 : decode cX2_moveRow 118 = .ok (.dup2, 1) := by decide +kernel
theorem dX2_moveRow_119 : decode cX2_moveRow 119 = .ok (.iaload, 1) := by decide +kernel
theorem dX2_moveRow_120 : decode cX2_moveRow 120 = .ok (.iload 11, 2) := by decide +kernel
theorem dX2_moveRow_122 : decode cX2_moveRow 122 = .ok (.iadd, 1) := by decide +kernel
theorem dX2_moveRow_123 : decode cX2_moveRow 123 = .ok (.iastore, 1) := by decide +kernel
theorem dX2_moveRow_124 : decode cX2_moveRow 124 = .ok (.iload 8, 2) := by decide +kernel
theorem dX2_moveRow_126 : decode cX2_moveRow 126 = .ok (.bipush 23, 2) := by decide +kernel
theorem dX2_moveRow_128 : decode cX2_moveRow 128 = .ok (.if_icmp .ge 10, 3) := by decide +kernel
theorem dX2_moveRow_131 : decode cX2_moveRow 131 = .ok (.iload 8, 2) := by decide +kernel
theorem dX2_moveRow_133 : decode cX2_moveRow 133 = .ok (.iconst 1, 1) := by decide +kernel
theorem dX2_moveRow_134 : decode cX2_moveRow 134 = .ok (.iadd, 1) := by decide +kernel
theorem dX2_moveRow_135 : decode cX2_moveRow 135 = .ok (.goto 4, 3) := by decide +kernel
theorem dX2_moveRow_138 : decode cX2_moveRow 138 = .ok (.iconst 0, 1) := by decide +kernel
theorem dX2_moveRow_139 : decode cX2_moveRow 139 = .ok (.istore 8, 2) := by decide +kernel
theorem dX2_moveRow_141 : decode cX2_moveRow 141 = .ok (.iinc 9 1, 3) := by decide +kernel
theorem dX2_moveRow_144 : decode cX2_moveRow 144 = .ok (.goto (-82), 3) := by decide +kernel
theorem dX2_moveRow_147 : decode cX2_moveRow 147 = .ok (.return_, 1) := by decide +kernel
theorem dX2_mixLayers_0 : decode cX2_mixLayers 0 = .ok (.iconst 1, 1) := by decide +kernel
theorem dX2_mixLayers_1 : decode cX2_mixLayers 1 = .ok (.iconst 0, 1) := by decide +kernel
theorem dX2_mixLayers_2 : decode cX2_mixLayers 2 = .ok (.invokestatic 104, 3) := by decide +kernel
theorem dX2_mixLayers_5 : decode cX2_mixLayers 5 = .ok (.istore_n 2, 1) := by decide +kernel
theorem dX2_mixLayers_6 : decode cX2_mixLayers 6 = .ok (.iconst 0, 1) := by decide +kernel
theorem dX2_mixLayers_7 : decode cX2_mixLayers 7 = .ok (.istore_n 3, 1) := by decide +kernel
theorem dX2_mixLayers_8 : decode cX2_mixLayers 8 = .ok (.iload_n 3, 1) := by decide +kernel
theorem dX2_mixLayers_9 : decode cX2_mixLayers 9 = .ok (.aload_n 0, 1) := by decide +kernel
theorem dX2_mixLayers_10 : decode cX2_mixLayers 10 = .ok (.getfield 49, 3) := by decide +kernel
theorem dX2_mixLayers_13 : decode cX2_mixLayers 13 = .ok (.bipush 24, 2) := by decide +kernel
theorem dX2_mixLayers_15 : decode cX2_mixLayers 15 = .ok (.imul, 1) := by decide +kernel
theorem dX2_mixLayers_16 : decode cX2_mixLayers 16 = .ok (.if_icmp .ge 63, 3) := by decide +kernel
theorem dX2_mixLayers_19 : decode cX2_mixLayers 19 = .ok (.aload_n 1, 1) := by decide +kernel
theorem dX2_mixLayers_20 : decode cX2_mixLayers 20 = .ok (.iload_n 3, 1) := by decide +kernel
theorem dX2_mixLayers_21 : decode cX2_mixLayers 21 = .ok (.iaload, 1) := by decide +kernel
theorem dX2_mixLayers_22 : decode cX2_mixLayers 22 = .ok (.aload_n 1, 1) := by decide +kernel
theorem dX2_mixLayers_23 : decode cX2_mixLayers 23 = .ok (.iload_n 2, 1) := by decide +kernel
theorem dX2_mixLayers_24 : decode cX2_mixLayers 24 = .ok (.iaload, 1) := by decide +kernel
theorem dX2_mixLayers_25 : decode cX2_mixLayers 25 = .ok (.isub, 1) := by decide +kernel
theorem dX2_mixLayers_26 : decode cX2_mixLayers 26 = .ok (.i2l, 1) := by decide +kernel
theorem dX2_mixLayers_27 : decode cX2_mixLayers 27 = .ok (.lstore 4, 2) := by decide +kernel
theorem dX2_mixLayers_29 : decode cX2_mixLayers 29 = .ok (.lload 4, 2) := by decide +kernel
theorem dX2_mixLayers_31 : decode cX2_mixLayers 31 = .ok (.lconst 0, 1) := by decide +kernel
theorem dX2_mixLayers_32 : decode cX2_mixLayers 32 = .ok (.lcmp, 1) := by decide +kernel
theorem dX2_mixLayers_33 : decode cX2_mixLayers 33 = .ok (.ifCond .eq 37, 3) := by decide +kernel
theorem dX2_mixLayers_36 : decode cX2_mixLayers 36 = .ok (.lload 4, 2) := by decide +kernel
theorem dX2_mixLayers_38 : decode cX2_mixLayers 38 = .ok (.aload_n 0, 1) := by decide +kernel
theorem dX2_mixLayers_39 : decode cX2_mixLayers 39 = .ok (.getfield 9, 3) := by decide +kernel
theorem dX2_mixLayers_42 : decode cX2_mixLayers 42 = .ok (.bipush 6, 2) := by decide +kernel
theorem dX2_mixLayers_44 : decode cX2_mixLayers 44 = .ok (.iaload, 1) := by decide +kernel
theorem dX2_mixLayers_45 : decode cX2_mixLayers 45 = .ok (.i2l, 1) := by decide +kernel
theorem dX2_mixLayers_46 : decode cX2_mixLayers 46 = .ok (.lmul, 1) := by decide +kernel
theorem dX2_mixLayers_47 : decode cX2_mixLayers 47 = .ok (.ldc2_w 155, 3) := by decide +kernel
theorem dX2_mixLayers_50 : decode cX2_mixLayers 50 = .ok (.ldiv, 1) := by decide +kernel
theorem dX2_mixLayers_51 : decode cX2_mixLayers 51 = .ok (.l2i, 1) := by decide +kernel
theorem dX2_mixLayers_52 : decode cX2_mixLayers 52 = .ok (.istore 6, 2) := by decide +kernel
theorem dX2_mixLayers_54 : decode cX2_mixLayers 54 = .ok (.aload_n 1, 1) := by decide +kernel
theorem dX2_mixLayers_55 : decode cX2_mixLayers 55 = .ok (.iload_n 3, 1) := by decide +kernel
theorem dX2_mixLayers_56 : decode cX2_mixLayers 56 = .ok (.dup2, 1) := by decide +kernel
theorem dX2_mixLayers_57 : decode cX2_mixLayers 57 = .ok (.iaload, 1) := by decide +kernel
theorem dX2_mixLayers_58 : decode cX2_mixLayers 58 = .ok (.iload 6, 2) := by decide +kernel
theorem dX2_mixLayers_60 : decode cX2_mixLayers 60 = .ok (.isub, 1) := by decide +kernel
theorem dX2_mixLayers_61 : decode cX2_mixLayers 61 = .ok (.iastore, 1) := by decide +kernel
theorem dX2_mixLayers_62 : decode cX2_mixLayers 62 = .ok (.aload_n 1, 1) := by decide +kernel
theorem dX2_mixLayers_63 : decode cX2_mixLayers 63 = .ok (.iload_n 2, 1) := by decide +kernel
theorem dX2_mixLayers_64 : decode cX2_mixLayers 64 = .ok (.dup2, 1) := by decide +kernel
theorem dX2_mixLayers_65 : decode cX2_mixLayers 65 = .ok (.iaload, 1) := by decide +kernel
theorem dX2_mixLayers_66 : decode cX2_mixLayers 66 = .ok (.iload 6, 2) := by decide +kernel
theorem dX2_mixLayers_68 : decode cX2_mixLayers 68 = .ok (.iadd, 1) := by decide +kernel
theorem dX2_mixLayers_69 : decode cX2_mixLayers 69 = .ok (.iastore, 1) := by decide +kernel
theorem dX2_mixLayers_70 : decode cX2_mixLayers 70 = .ok (.iinc 2 1, 3) := by decide +kernel
theorem dX2_mixLayers_73 : decode cX2_mixLayers 73 = .ok (.iinc 3 1, 3) := by decide +kernel
theorem dX2_mixLayers_76 : decode cX2_mixLayers 76 = .ok (.goto (-68), 3) := by decide +kernel
theorem dX2_mixLayers_79 : decode cX2_mixLayers 79 = .ok (.return_, 1) := by decide +kernel
theorem dX2_moveMarkers_0 : decode cX2_moveMarkers 0 = .ok (.iconst 0, 1) := by decide +kernel
theorem dX2_moveMarkers_1 : decode cX2_moveMarkers 1 = .ok (.istore_n 1, 1) := by decide +kernel
theorem dX2_moveMarkers_2 : decode cX2_moveMarkers 2 = .ok (.iload_n 1, 1) := by decide +kernel
theorem dX2_moveMarkers_3 : decode cX2_moveMarkers 3 = .ok (.aload_n 0, 1) := by decide +kernel
theorem dX2_moveMarkers_4 : decode cX2_moveMarkers 4 = .ok (.getfield 56, 3) := by decide +kernel
theorem dX2_moveMarkers_7 : decode cX2_moveMarkers 7 = .ok (.if_icmp .ge 49, 3) := by decide +kernel
theorem dX2_moveMarkers_10 : decode cX2_moveMarkers 10 = .ok (.aload_n 0, 1) := by decide +kernel
theorem dX2_moveMarkers_11 : decode cX2_moveMarkers 11 = .ok (.getfield 31, 3) := by decide +kernel
theorem dX2_moveMarkers_14 : decode cX2_moveMarkers 14 = .ok (.iload_n 1, 1) := by decide +kernel
theorem dX2_moveMarkers_15 : decode cX2_moveMarkers 15 = .ok (.aaload, 1) := by decide +kernel
theorem dX2_moveMarkers_16 : decode cX2_moveMarkers 16 = .ok (.astore_n 2, 1) := by decide +kernel
theorem dX2_moveMarkers_17 : decode cX2_moveMarkers 17 = .ok (.aload_n 2, 1) := by decide +kernel
theorem dX2_moveMarkers_18 : decode cX2_moveMarkers 18 = .ok (.invokevirtual 157, 3) := by decide +kernel
theorem dX2_moveMarkers_21 : decode cX2_moveMarkers 21 = .ok (.istore_n 3, 1) := by decide +kernel
theorem dX2_moveMarkers_22 : decode cX2_moveMarkers 22 = .ok (.aload_n 0, 1) := by decide +kernel
theorem dX2_moveMarkers_23 : decode cX2_moveMarkers 23 = .ok (.iload_n 3, 1) := by decide +kernel
theorem dX2_moveMarkers_24 : decode cX2_moveMarkers 24 = .ok (.invokevirtual 151, 3) := by decide +kernel
theorem dX2_moveMarkers_27 : decode cX2_moveMarkers 27 = .ok (.ifCond .eq 23, 3) := by decide +kernel
theorem dX2_moveMarkers_30 : decode cX2_moveMarkers 30 = .ok (.aload_n 2, 1) := by decide +kernel
theorem dX2_moveMarkers_31 : decode cX2_moveMarkers 31 = .ok (.aload_n 0, 1) := by decide +kernel
theorem dX2_moveMarkers_32 : decode cX2_moveMarkers 32 = .ok (.getfield 35, 3) := by decide +kernel
theorem dX2_moveMarkers_35 : decode cX2_moveMarkers 35 = .ok (.iload_n 3, 1) := by decide +kernel
theorem dX2_moveMarkers_36 : decode cX2_moveMarkers 36 = .ok (.iaload, 1) := by decide +kernel
theorem dX2_moveMarkers_37 : decode cX2_moveMarkers 37 = .ok (.aload_n 0, 1) := by decide +kernel
theorem dX2_moveMarkers_38 : decode cX2_moveMarkers 38 = .ok (.getfield 38, 3) := by decide +kernel
theorem dX2_moveMarkers_41 : decode cX2_moveMarkers 41 = .ok (.iload_n 3, 1) := by decide +kernel
theorem dX2_moveMarkers_42 : decode cX2_moveMarkers 42 = .ok (.iaload, 1) := by decide +kernel
theorem dX2_moveMarkers_43 : decode cX2_moveMarkers 43 = .ok (.aload_n 0, 1) := by decide +kernel
theorem dX2_moveMarkers_44 : decode cX2_moveMarkers 44 = .ok (.invokevirtual 161, 3) := by decide +kernel
theorem dX2_moveMarkers_47 : decode cX2_moveMarkers 47 = .ok (.invokevirtual 164, 3) := by decide +kernel
theorem dX2_moveMarkers_50 : decode cX2_moveMarkers 50 = .ok (.iinc 1 1, 3) := by decide +kernel
theorem dX2_moveMarkers_53 : decode cX2_moveMarkers 53 = .ok (.goto (-51), 3) := by decide +kernel
theorem dX2_moveMarkers_56 : decode cX2_moveMarkers 56 = .ok (.return_, 1) := by decide +kernel
theorem dX3_init_0 : decode cX3_init 0 = .ok (.aload_n 0, 1) := by decide +kernel
theorem dX3_init_1 : decode cX3_init 1 = .ok (.invokespecial 1, 3) := by decide +kernel
theorem dX3_init_4 : decode cX3_init 4 = .ok (.aload_n 0, 1) := by decide +kernel
theorem dX3_init_5 : decode cX3_init 5 = .ok (.new 7, 3) := by decide +kernel
theorem dX3_init_8 : decode cX3_init 8 = .ok (.dup, 1) := by decide +kernel
theorem dX3_init_9 : decode cX3_init 9 = .ok (.invokespecial 9, 3) := by decide +kernel
theorem dX3_init_12 : decode cX3_init 12 = .ok (.putfield 10, 3) := by decide +kernel
theorem dX3_init_15 : decode cX3_init 15 = .ok (.aload_n 0, 1) := by decide +kernel
theorem dX3_init_16 : decode cX3_init 16 = .ok (.new 7, 3) := by decide +kernel
theorem dX3_init_19 : decode cX3_init 19 = .ok (.dup, 1) := by decide +kernel
theorem dX3_init_20 : decode cX3_init 20 = .ok (.invokespecial 9, 3) := by decide +kernel
theorem dX3_init_23 : decode cX3_init 23 = .ok (.putfield 16, 3) := by decide +kernel
theorem dX3_init_26 : decode cX3_init 26 = .ok (.aload_n 0, 1) := by decide +kernel
theorem dX3_init_27 : decode cX3_init 27 = .ok (.iconst 2, 1) := by decide +kernel
theorem dX3_init_28 : decode cX3_init 28 = .ok (.anewarray 7, 3) := by decide +kernel
theorem dX3_init_31 : decode cX3_init 31 = .ok (.putfield 19, 3) := by decide +kernel
theorem dX3_init_34 : decode cX3_init 34 = .ok (.iconst 0, 1) := by decide +kernel
theorem dX3_init_35 : decode cX3_init 35 = .ok (.istore_n 1, 1) := by decide +kernel
theorem dX3_init_36 : decode cX3_init 36 = .ok (.iload_n 1, 1) := by decide +kernel
theorem dX3_init_37 : decode cX3_init 37 = .ok (.iconst 2, 1) := by decide +kernel
theorem dX3_init_38 : decode cX3_init 38 = .ok (.if_icmp .ge 22, 3) := by decide +kernel
theorem dX3_init_41 : decode cX3_init 41 = .ok (.aload_n 0, 1) := by decide +kernel
theorem dX3_init_42 : decode cX3_init 42 = .ok (.getfield 19, 3) := by decide +kernel
theorem dX3_init_45 : decode cX3_init 45 = .ok (.iload_n 1, 1) := by decide +kernel
theorem dX3_init_46 : decode cX3_init 46 = .ok (.new 7, 3) := by decide +kernel
theorem dX3_init_49 : decode cX3_init 49 = .ok (.dup, 1) := by decide +kernel
theorem dX3_init_50 : decode cX3_init 50 = .ok (.invokespecial 9, 3) := by decide +kernel
theorem dX3_init_53 : decode cX3_init 53 = .ok (.aastore, 1) := by decide +kernel
theorem dX3_init_54 : decode cX3_init 54 = .ok (.iinc 1 1, 3) := by decide +kernel
theorem dX3_init_57 : decode cX3_init 57 = .ok (.goto (-21), 3) := by decide +kernel
theorem dX3_init_60 : decode cX3_init 60 = .ok (.aload_n 0, 1) := by decide +kernel
theorem dX3_init_61 : decode cX3_init 61 = .ok (.iconst 2, 1) := by decide +kernel
theorem dX3_init_62 : decode cX3_init 62 = .ok (.newarray .boolean, 2) := by decide +kernel
theorem dX3_init_64 : decode cX3_init 64 = .ok (.putfield 23, 3) := by decide +kernel
theorem dX3_init_67 : decode cX3_init 67 = .ok (.aload_n 0, 1) := by decide +kernel
theorem dX3_init_68 : decode cX3_init 68 = .ok (.new 27, 3) := by decide +kernel
theorem dX3_init_71 : decode cX3_init 71 = .ok (.dup, 1) := by decide +kernel
theorem dX3_init_72 : decode cX3_init 72 = .ok (.invokespecial 29, 3) := by decide +kernel
theorem dX3_init_75 : decode cX3_init 75 = .ok (.putfield 30, 3) := by decide +kernel
theorem dX3_init_78 : decode cX3_init 78 = .ok (.return_, 1) := by decide +kernel
theorem dX3_setUp_0 : decode cX3_setUp 0 = .ok (.iload_n 1, 1) := by decide +kernel
theorem dX3_setUp_1 : decode cX3_setUp 1 = .ok (.iconst 2, 1) := by decide +kernel
theorem dX3_setUp_2 : decode cX3_setUp 2 = .ok (.bipush 12, 2) := by decide +kernel
theorem dX3_setUp_4 : decode cX3_setUp 4 = .ok (.invokestatic 34, 3) := by decide +kernel
theorem dX3_setUp_7 : decode cX3_setUp 7 = .ok (.ifCond .ne 6, 3) := by decide +kernel
theorem dX3_setUp_10 : decode cX3_setUp 10 = .ok (.bipush (-2), 2) := by decide +kernel
theorem dX3_setUp_12 : decode cX3_setUp 12 = .ok (.ireturn, 1) := by decide +kernel
theorem dX3_setUp_13 : decode cX3_setUp 13 = .ok (.aload_n 0, 1) := by decide +kernel
theorem dX3_setUp_14 : decode cX3_setUp 14 = .ok (.getfield 10, 3) := by decide +kernel
theorem dX3_setUp_17 : decode cX3_setUp 17 = .ok (.getfield 38, 3) := by decide +kernel
theorem dX3_setUp_20 : decode cX3_setUp 20 = .ok (.istore_n 2, 1) := by decide +kernel
theorem dX3_setUp_21 : decode cX3_setUp 21 = .ok (.aload_n 0, 1) := by decide +kernel
theorem dX3_setUp_22 : decode cX3_setUp 22 = .ok (.getfield 10, 3) := by decide +kernel
theorem dX3_setUp_25 : decode cX3_setUp 25 = .ok (.iload_n 1, 1) := by decide +kernel
theorem dX3_setUp_26 : decode cX3_setUp 26 = .ok (.invokevirtual 42, 3) := by decide +kernel
theorem dX3_setUp_29 : decode cX3_setUp 29 = .ok (.iload_n 2, 1) := by decide +kernel
theorem dX3_setUp_30 : decode cX3_setUp 30 = .ok (.ireturn, 1) := by decide +kernel
theorem dX3_set_0 : decode cX3_set 0 = .ok (.iload_n 1, 1) := by decide +kernel
theorem dX3_set_1 : decode cX3_set 1 = .ok (.iconst 0, 1) := by decide +kernel
theorem dX3_set_2 : decode cX3_set 2 = .ok (.bipush 6, 2) := by decide +kernel
theorem dX3_set_4 : decode cX3_set 4 = .ok (.invokestatic 34, 3) := by decide +kernel
theorem dX3_set_7 : decode cX3_set 7 = .ok (.ifCond .eq 20, 3) := by decide +kernel
theorem dX3_set_10 : decode cX3_set 10 = .ok (.iload_n 2, 1) := by decide +kernel
theorem dX3_set_11 : decode cX3_set 11 = .ok (.getstatic 46, 3) := by decide +kernel
theorem dX3_set_14 : decode cX3_set 14 = .ok (.iload_n 1, 1) := by decide +kernel
theorem dX3_set_15 : decode cX3_set 15 = .ok (.iaload, 1) := by decide +kernel
theorem dX3_set_16 : decode cX3_set 16 = .ok (.getstatic 50, 3) := by decide +kernel
theorem dX3_set_19 : decode cX3_set 19 = .ok (.iload_n 1, 1) := by decide +kernel
theorem dX3_set_20 : decode cX3_set 20 = .ok (.iaload, 1) := by decide +kernel
theorem dX3_set_21 : decode cX3_set 21 = .ok (.invokestatic 34, 3) := by decide +kernel
theorem dX3_set_24 : decode cX3_set 24 = .ok (.ifCond .ne 6, 3) := by decide +kernel
theorem dX3_set_27 : decode cX3_set 27 = .ok (.ldc 53, 2) := by decide +kernel
theorem dX3_set_29 : decode cX3_set 29 = .ok (.ireturn, 1) := by decide +kernel
theorem dX3_set_30 : decode cX3_set 30 = .ok (.aload_n 0, 1) := by decide +kernel
theorem dX3_set_31 : decode cX3_set 31 = .ok (.getfield 10, 3) := by decide +kernel
theorem dX3_set_34 : decode cX3_set 34 = .ok (.getfield 54, 3) := by decide +kernel
theorem dX3_set_37 : decode cX3_set 37 = .ok (.iload_n 1, 1) := by decide +kernel
theorem dX3_set_38 : decode cX3_set 38 = .ok (.iaload, 1) := by decide +kernel
theorem dX3_set_39 : decode cX3_set 39 = .ok (.istore_n 3, 1) := by decide +kernel
theorem dX3_set_40 : decode cX3_set 40 = .ok (.aload_n 0, 1) := by decide +kernel
theorem dX3_set_41 : decode cX3_set 41 = .ok (.getfield 10, 3) := by decide +kernel
theorem dX3_set_44 : decode cX3_set 44 = .ok (.getfield 54, 3) := by decide +kernel
theorem dX3_set_47 : decode cX3_set 47 = .ok (.iload_n 1, 1) := by decide +kernel
theorem dX3_set_48 : decode cX3_set 48 = .ok (.iload_n 2, 1) := by decide +kernel
theorem dX3_set_49 : decode cX3_set 49 = .ok (.iastore, 1) := by decide +kernel
theorem dX3_set_50 : decode cX3_set 50 = .ok (.iload_n 3, 1) := by decide +kernel
theorem dX3_set_51 : decode cX3_set 51 = .ok (.ireturn, 1) := by decide +kernel
theorem dX3_spin_0 : decode cX3_spin 0 = .ok (.aload_n 0, 1) := by decide +kernel
theorem dX3_spin_1 : decode cX3_spin 1 = .ok (.getfield 10, 3) := by decide +kernel
theorem dX3_spin_4 : decode cX3_spin 4 = .ok (.iload_n 1, 1) := by decide +kernel
theorem dX3_spin_5 : decode cX3_spin 5 = .ok (.invokevirtual 57, 3) := by decide +kernel
theorem dX3_spin_8 : decode cX3_spin 8 = .ok (.ifCond .ne 6, 3) := by decide +kernel
theorem dX3_spin_11 : decode cX3_spin 11 = .ok (.ldc 61, 2) := by decide +kernel
theorem dX3_spin_13 : decode cX3_spin 13 = .ok (.ireturn, 1) := by decide +kernel
theorem dX3_spin_14 : decode cX3_spin 14 = .ok (.iload_n 2, 1) := by decide +kernel
theorem dX3_spin_15 : decode cX3_spin 15 = .ok (.invokestatic 62, 3) := by decide +kernel
theorem dX3_spin_18 : decode cX3_spin 18 = .ok (.ifCond .ne 6, 3) := by decide +kernel
theorem dX3_spin_21 : decode cX3_spin 21 = .ok (.ldc 53, 2) := by decide +kernel
theorem dX3_spin_23 : decode cX3_spin 23 = .ok (.ireturn, 1) := by decide +kernel
theorem dX3_spin_24 : decode cX3_spin 24 = .ok (.aload_n 0, 1) := by decide +kernel
theorem dX3_spin_25 : decode cX3_spin 25 = .ok (.getfield 10, 3) := by decide +kernel
theorem dX3_spin_28 : decode cX3_spin 28 = .ok (.iload_n 1, 1) := by decide +kernel
theorem dX3_spin_29 : decode cX3_spin 29 = .ok (.invokevirtual 65, 3) := by decide +kernel
theorem dX3_spin_32 : decode cX3_spin 32 = .ok (.istore_n 3, 1) := by decide +kernel
theorem dX3_spin_33 : decode cX3_spin 33 = .ok (.aload_n 0, 1) := by decide +kernel
theorem dX3_spin_34 : decode cX3_spin 34 = .ok (.getfield 10, 3) := by decide +kernel
theorem dX3_spin_37 : decode cX3_spin 37 = .ok (.iload_n 1, 1) := by decide +kernel
theorem dX3_spin_38 : decode cX3_spin 38 = .ok (.iload_n 2, 1) := by decide +kernel
theorem dX3_spin_39 : decode cX3_spin 39 = .ok (.invokevirtual 69, 3) := by decide +kernel
theorem dX3_spin_42 : decode cX3_spin 42 = .ok (.iload_n 3, 1) := by decide +kernel
theorem dX3_spin_43 : decode cX3_spin 43 = .ok (.ireturn, 1) := by decide +kernel
theorem dX3_spinAll_0 : decode cX3_spinAll 0 = .ok (.iload_n 1, 1) := by decide +kernel
theorem dX3_spinAll_1 : decode cX3_spinAll 1 = .ok (.invokestatic 62, 3) := by decide +kernel
theorem dX3_spinAll_4 : decode cX3_spinAll 4 = .ok (.ifCond .eq 10, 3) := by decide +kernel
theorem dX3_spinAll_7 : decode cX3_spinAll 7 = .ok (.iload_n 2, 1) := by decide +kernel
theorem dX3_spinAll_8 : decode cX3_spinAll 8 = .ok (.invokestatic 62, 3) := by decide +kernel
theorem dX3_spinAll_11 : decode cX3_spinAll 11 = .ok (.ifCond .ne 6, 3) := by decide +kernel
theorem dX3_spinAll_14 : decode cX3_spinAll 14 = .ok (.ldc 53, 2) := by decide +kernel
theorem dX3_spinAll_16 : decode cX3_spinAll 16 = .ok (.ireturn, 1) := by decide +kernel
theorem dX3_spinAll_17 : decode cX3_spinAll 17 = .ok (.aload_n 0, 1) := by decide +kernel
theorem dX3_spinAll_18 : decode cX3_spinAll 18 = .ok (.getfield 10, 3) := by decide +kernel
theorem dX3_spinAll_21 : decode cX3_spinAll 21 = .ok (.iload_n 1, 1) := by decide +kernel
theorem dX3_spinAll_22 : decode cX3_spinAll 22 = .ok (.iload_n 2, 1) := by decide +kernel
theorem dX3_spinAll_23 : decode cX3_spinAll 23 = .ok (.invokevirtual 73, 3) := by decide +kernel
theorem dX3_spinAll_26 : decode cX3_spinAll 26 = .ok (.aload_n 0, 1) := by decide +kernel
theorem dX3_spinAll_27 : decode cX3_spinAll 27 = .ok (.getfield 10, 3) := by decide +kernel
theorem dX3_spinAll_30 : decode cX3_spinAll 30 = .ok (.invokevirtual 76, 3) := by decide +kernel
theorem dX3_spinAll_33 : decode cX3_spinAll 33 = .ok (.ireturn, 1) := by decide +kernel
theorem dX3_pour_0 : decode cX3_pour 0 = .ok (.aload_n 0, 1) := by decide +kernel
theorem dX3_pour_1 : decode cX3_pour 1 = .ok (.iload_n 1, 1) := by decide +kernel
theorem dX3_pour_2 : decode cX3_pour 2 = .ok (.iload_n 2, 1) := by decide +kernel
theorem dX3_pour_3 : decode cX3_pour 3 = .ok (.iload_n 3, 1) := by decide +kernel
theorem dX3_pour_4 : decode cX3_pour 4 = .ok (.iload 4, 2) := by decide +kernel
theorem dX3_pour_6 : decode cX3_pour 6 = .ok (.invokevirtual 80, 3) := by decide +kernel
theorem dX3_pour_9 : decode cX3_pour 9 = .ok (.ifCond .ne 5, 3) := by decide +kernel
theorem dX3_pour_12 : decode cX3_pour 12 = .ok (.iconst (-1), 1) := by decide +kernel
theorem dX3_pour_13 : decode cX3_pour 13 = .ok (.ireturn, 1) := by decide +kernel
theorem dX3_pour_14 : decode cX3_pour 14 = .ok (.iload 5, 2) := by decide +kernel
theorem dX3_pour_16 : decode cX3_pour 16 = .ok (.iconst 1, 1) := by decide +kernel
theorem dX3_pour_17 : decode cX3_pour 17 = .ok (.ldc 84, 2) := by decide +kernel
theorem dX3_pour_19 : decode cX3_pour 19 = .ok (.invokestatic 34, 3) := by decide +kernel
theorem dX3_pour_22 : decode cX3_pour 22 = .ok (.ifCond .ne 6, 3) := by decide +kernel
theorem dX3_pour_25 : decode cX3_pour 25 = .ok (.bipush (-2), 2) := by decide +kernel
theorem dX3_pour_27 : decode cX3_pour 27 = .ok (.ireturn, 1) := by decide +kernel
theorem dX3_pour_28 : decode cX3_pour 28 = .ok (.iload 5, 2) := by decide +kernel
theorem dX3_pour_30 : decode cX3_pour 30 = .ok (.ldc 85, 2) := by decide +kernel
theorem dX3_pour_32 : decode cX3_pour 32 = .ok (.aload_n 0, 1) := by decide +kernel
theorem dX3_pour_33 : decode cX3_pour 33 = .ok (.getfield 10, 3) := by decide +kernel
theorem dX3_pour_36 : decode cX3_pour 36 = .ok (.getfield 86, 3) := by decide +kernel
theorem dX3_pour_39 : decode cX3_pour 39 = .ok (.iload_n 1, 1) := by decide +kernel
theorem dX3_pour_40 : decode cX3_pour 40 = .ok (.iaload, 1) := by decide +kernel
theorem dX3_pour_41 : decode cX3_pour 41 = .ok (.isub, 1) := by decide +kernel
theorem dX3_pour_42 : decode cX3_pour 42 = .ok (.if_icmp .le 6, 3) := by decide +kernel
theorem dX3_pour_45 : decode cX3_pour 45 = .ok (.bipush (-4), 2) := by decide +kernel
theorem dX3_pour_47 : decode cX3_pour 47 = .ok (.ireturn, 1) := by decide +kernel
theorem dX3_pour_48 : decode cX3_pour 48 = .ok (.aload_n 0, 1) := by decide +kernel
theorem dX3_pour_49 : decode cX3_pour 49 = .ok (.getfield 10, 3) := by decide +kernel
theorem dX3_pour_52 : decode cX3_pour 52 = .ok (.getfield 89, 3) := by decide +kernel
theorem dX3_pour_55 : decode cX3_pour 55 = .ok (.iload_n 1, 1) := by decide +kernel
theorem dX3_pour_56 : decode cX3_pour 56 = .ok (.aaload, 1) := by decide +kernel
theorem dX3_pour_57 : decode cX3_pour 57 = .ok (.aload_n 0, 1) := by decide +kernel
theorem dX3_pour_58 : decode cX3_pour 58 = .ok (.getfield 10, 3) := by decide +kernel
theorem dX3_pour_61 : decode cX3_pour 61 = .ok (.iload_n 2, 1) := by decide +kernel
theorem dX3_pour_62 : decode cX3_pour 62 = .ok (.iload_n 3, 1) := by decide +kernel
theorem dX3_pour_63 : decode cX3_pour 63 = .ok (.iload 4, 2) := by decide +kernel
theorem dX3_pour_65 : decode cX3_pour 65 = .ok (.invokevirtual 93, 3) := by decide +kernel
theorem dX3_pour_68 : decode cX3_pour 68 = .ok (.dup2, 1) := by decide +kernel
theorem dX3_pour_69 : decode cX3_pour 69 = .ok (.iaload, 1) := by decide +kernel
theorem dX3_pour_70 : decode cX3_pour 70 = .ok (.iload 5, 2) := by decide +kernel
theorem dX3_pour_72 : decode cX3_pour 72 = .ok (.iadd, 1) := by decide +kernel
theorem dX3_pour_73 : decode cX3_pour 73 = .ok (.iastore, 1) := by decide +kernel
theorem dX3_pour_74 : decode cX3_pour 74 = .ok (.aload_n 0, 1) := by decide +kernel
theorem dX3_pour_75 : decode cX3_pour 75 = .ok (.getfield 10, 3) := by decide +kernel
theorem dX3_pour_78 : decode cX3_pour 78 = .ok (.getfield 86, 3) := by decide +kernel
theorem dX3_pour_81 : decode cX3_pour 81 = .ok (.iload_n 1, 1) := by decide +kernel
theorem dX3_pour_82 : decode cX3_pour 82 = .ok (.dup2, 1) := by decide +kernel
theorem dX3_pour_83 : decode cX3_pour 83 = .ok (.iaload, 1) := by decide +kernel
theorem dX3_pour_84 : decode cX3_pour 84 = .ok (.iload 5, 2) := by decide +kernel
theorem dX3_pour_86 : decode cX3_pour 86 = .ok (.iadd, 1) := by decide +kernel
theorem dX3_pour_87 : decode cX3_pour 87 = .ok (.iastore, 1) := by decide +kernel
theorem dX3_pour_88 : decode cX3_pour 88 = .ok (.aload_n 0, 1) := by decide +kernel
theorem dX3_pour_89 : decode cX3_pour 89 = .ok (.getfield 10, 3) := by decide +kernel
theorem dX3_pour_92 : decode cX3_pour 92 = .ok (.getfield 86, 3) := by decide +kernel
theorem dX3_pour_95 : decode cX3_pour 95 = .ok (.iload_n 1, 1) := by decide +kernel
theorem dX3_pour_96 : decode cX3_pour 96 = .ok (.iaload, 1) := by decide +kernel
theorem dX3_pour_97 : decode cX3_pour 97 = .ok (.ireturn, 1) := by decide +kernel
theorem dX3_tick_0 : decode cX3_tick 0 = .ok (.iload_n 1, 1) := by decide +kernel
theorem dX3_tick_1 : decode cX3_tick 1 = .ok (.iconst 1, 1) := by decide +kernel
theorem dX3_tick_2 : decode cX3_tick 2 = .ok (.sipush 1000, 3) := by decide +kernel
theorem dX3_tick_5 : decode cX3_tick 5 = .ok (.invokestatic 34, 3) := by decide +kernel
theorem dX3_tick_8 : decode cX3_tick 8 = .ok (.ifCond .ne 6, 3) := by decide +kernel
theorem dX3_tick_11 : decode cX3_tick 11 = .ok (.bipush (-2), 2) := by decide +kernel
theorem dX3_tick_13 : decode cX3_tick 13 = .ok (.ireturn, 1) := by decide +kernel
theorem dX3_tick_14 : decode cX3_tick 14 = .ok (.iload_n 1, 1) := by decide +kernel
theorem dX3_tick_15 : decode cX3_tick 15 = .ok (.ldc 97, 2) := by decide +kernel
theorem dX3_tick_17 : decode cX3_tick 17 = .ok (.aload_n 0, 1) := by decide +kernel
theorem dX3_tick_18 : decode cX3_tick 18 = .ok (.getfield 10, 3) := by decide +kernel
theorem dX3_tick_21 : decode cX3_tick 21 = .ok (.getfield 98, 3) := by decide +kernel
theorem dX3_tick_24 : decode cX3_tick 24 = .ok (.isub, 1) := by decide +kernel
theorem dX3_tick_25 : decode cX3_tick 25 = .ok (.if_icmp .le 6, 3) := by decide +kernel
theorem dX3_tick_28 : decode cX3_tick 28 = .ok (.bipush (-5), 2) := by decide +kernel
theorem dX3_tick_30 : decode cX3_tick 30 = .ok (.ireturn, 1) := by decide +kernel
theorem dX3_tick_31 : decode cX3_tick 31 = .ok (.iconst 0, 1) := by decide +kernel
theorem dX3_tick_32 : decode cX3_tick 32 = .ok (.istore_n 2, 1) := by decide +kernel
theorem dX3_tick_33 : decode cX3_tick 33 = .ok (.iload_n 2, 1) := by decide +kernel
theorem dX3_tick_34 : decode cX3_tick 34 = .ok (.iload_n 1, 1) := by decide +kernel
theorem dX3_tick_35 : decode cX3_tick 35 = .ok (.if_icmp .ge 16, 3) := by decide +kernel
theorem dX3_tick_38 : decode cX3_tick 38 = .ok (.aload_n 0, 1) := by decide +kernel
theorem dX3_tick_39 : decode cX3_tick 39 = .ok (.getfield 10, 3) := by decide +kernel
theorem dX3_tick_42 : decode cX3_tick 42 = .ok (.invokevirtual 101, 3) := by decide +kernel
theorem dX3_tick_45 : decode cX3_tick 45 = .ok (.iinc 2 1, 3) := by decide +kernel
theorem dX3_tick_48 : decode cX3_tick 48 = .ok (.goto (-15), 3) := by decide +kernel
theorem dX3_tick_51 : decode cX3_tick 51 = .ok (.aload_n 0, 1) := by decide +kernel
theorem dX3_tick_52 : decode cX3_tick 52 = .ok (.getfield 10, 3) := by decide +kernel
theorem dX3_tick_55 : decode cX3_tick 55 = .ok (.getfield 98, 3) := by decide +kernel
theorem dX3_tick_58 : decode cX3_tick 58 = .ok (.ireturn, 1) := by decide +kernel
theorem dX3_ring_0 : decode cX3_ring 0 = .ok (.aload_n 0, 1) := by decide +kernel
theorem dX3_ring_1 : decode cX3_ring 1 = .ok (.getfield 10, 3) := by decide +kernel
theorem dX3_ring_4 : decode cX3_ring 4 = .ok (.iload_n 1, 1) := by decide +kernel
theorem dX3_ring_5 : decode cX3_ring 5 = .ok (.invokevirtual 57, 3) := by decide +kernel
theorem dX3_ring_8 : decode cX3_ring 8 = .ok (.ifCond .ne 6, 3) := by decide +kernel
theorem dX3_ring_11 : decode cX3_ring 11 = .ok (.ldc 61, 2) := by decide +kernel
theorem dX3_ring_13 : decode cX3_ring 13 = .ok (.ireturn, 1) := by decide +kernel
theorem dX3_ring_14 : decode cX3_ring 14 = .ok (.iload_n 2, 1) := by decide +kernel
theorem dX3_ring_15 : decode cX3_ring 15 = .ok (.tableswitch 109 0 6 #[41, 50, 60, 70, 79, 89, 99], 41) := by decide +kernel
theorem dX3_ring_56 : decode cX3_ring 56 = .ok (.aload_n 0, 1) := by decide +kernel
theorem dX3_ring_57 : decode cX3_ring 57 = .ok (.getfield 10, 3) := by decide +kernel
theorem dX3_ring_60 : decode cX3_ring 60 = .ok (.iload_n 1, 1) := by decide +kernel
theorem dX3_ring_61 : decode cX3_ring 61 = .ok (.invokevirtual 65, 3) := by decide +kernel
theorem dX3_ring_64 : decode cX3_ring 64 = .ok (.ireturn, 1) := by decide +kernel
theorem dX3_ring_65 : decode cX3_ring 65 = .ok (.aload_n 0, 1) := by decide +kernel
theorem dX3_ring_66 : decode cX3_ring 66 = .ok (.getfield 10, 3) := by decide +kernel
theorem dX3_ring_69 : decode cX3_ring 69 = .ok (.getfield 104, 3) := by decide +kernel
theorem dX3_ring_72 : decode cX3_ring 72 = .ok (.iload_n 1, 1) := by decide +kernel
theorem dX3_ring_73 : decode cX3_ring 73 = .ok (.iaload, 1) := by decide +kernel
theorem dX3_ring_74 : decode cX3_ring 74 = .ok (.ireturn, 1) := by decide +kernel
theorem dX3_ring_75 : decode cX3_ring 75 = .ok (.aload_n 0, 1) := by decide +kernel
theorem dX3_ring_76 : decode cX3_ring 76 = .ok (.getfield 10, 3) := by decide +kernel
theorem dX3_ring_79 : decode cX3_ring 79 = .ok (.getfield 107, 3) := by decide +kernel
theorem dX3_ring_82 : decode cX3_ring 82 = .ok (.iload_n 1, 1) := by decide +kernel
theorem dX3_ring_83 : decode cX3_ring 83 = .ok (.iaload, 1) := by decide +kernel
theorem dX3_ring_84 : decode cX3_ring 84 = .ok (.ireturn, 1) := by decide +kernel
theorem dX3_ring_85 : decode cX3_ring 85 = .ok (.aload_n 0, 1) := by decide +kernel
theorem dX3_ring_86 : decode cX3_ring 86 = .ok (.getfield 10, 3) := by decide +kernel
theorem dX3_ring_89 : decode cX3_ring 89 = .ok (.iload_n 1, 1) := by decide +kernel
theorem dX3_ring_90 : decode cX3_ring 90 = .ok (.invokevirtual 110, 3) := by decide +kernel
theorem dX3_ring_93 : decode cX3_ring 93 = .ok (.ireturn, 1) := by decide +kernel
theorem dX3_ring_94 : decode cX3_ring 94 = .ok (.aload_n 0, 1) := by decide +kernel
theorem dX3_ring_95 : decode cX3_ring 95 = .ok (.getfield 10, 3) := by decide +kernel
theorem dX3_ring_98 : decode cX3_ring 98 = .ok (.iconst 0, 1) := by decide +kernel
theorem dX3_ring_99 : decode cX3_ring 99 = .ok (.iload_n 1, 1) := by decide +kernel
theorem dX3_ring_100 : decode cX3_ring 100 = .ok (.invokevirtual 113, 3) := by decide +kernel
theorem dX3_ring_103 : decode cX3_ring 103 = .ok (.ireturn, 1) := by decide +kernel
theorem dX3_ring_104 : decode cX3_ring 104 = .ok (.aload_n 0, 1) := by decide +kernel
theorem dX3_ring_105 : decode cX3_ring 105 = .ok (.getfield 10, 3) := by decide +kernel
theorem dX3_ring_108 : decode cX3_ring 108 = .ok (.iconst 1, 1) := by decide +kernel
theorem dX3_ring_109 : decode cX3_ring 109 = .ok (.iload_n 1, 1) := by decide +kernel
theorem dX3_ring_110 : decode cX3_ring 110 = .ok (.invokevirtual 113, 3) := by decide +kernel
theorem dX3_ring_113 : decode cX3_ring 113 = .ok (.ireturn, 1) := by decide +kernel
theorem dX3_ring_114 : decode cX3_ring 114 = .ok (.aload_n 0, 1) := by decide +kernel
theorem dX3_ring_115 : decode cX3_ring 115 = .ok (.getfield 10, 3) := by decide +kernel
theorem dX3_ring_118 : decode cX3_ring 118 = .ok (.iconst 2, 1) := by decide +kernel
theorem dX3_ring_119 : decode cX3_ring 119 = .ok (.iload_n 1, 1) := by decide +kernel
theorem dX3_ring_120 : decode cX3_ring 120 = .ok (.invokevirtual 113, 3) := by decide +kernel
theorem dX3_ring_123 : decode cX3_ring 123 = .ok (.ireturn, 1) := by decide +kernel
theorem dX3_ring_124 : decode cX3_ring 124 = .ok (.ldc 53, 2) := by decide +kernel
theorem dX3_ring_126 : decode cX3_ring 126 = .ok (.ireturn, 1) := by decide +kernel
theorem dX3_dye_0 : decode cX3_dye 0 = .ok (.aload_n 0, 1) := by decide +kernel
theorem dX3_dye_1 : decode cX3_dye 1 = .ok (.iload_n 1, 1) := by decide +kernel
theorem dX3_dye_2 : decode cX3_dye 2 = .ok (.iload_n 2, 1) := by decide +kernel
theorem dX3_dye_3 : decode cX3_dye 3 = .ok (.iload_n 3, 1) := by decide +kernel
theorem dX3_dye_4 : decode cX3_dye 4 = .ok (.iload 4, 2) := by decide +kernel
theorem dX3_dye_6 : decode cX3_dye 6 = .ok (.invokevirtual 80, 3) := by decide +kernel
theorem dX3_dye_9 : decode cX3_dye 9 = .ok (.ifCond .ne 5, 3) := by decide +kernel
theorem dX3_dye_12 : decode cX3_dye 12 = .ok (.iconst (-1), 1) := by decide +kernel
theorem dX3_dye_13 : decode cX3_dye 13 = .ok (.ireturn, 1) := by decide +kernel
theorem dX3_dye_14 : decode cX3_dye 14 = .ok (.aload_n 0, 1) := by decide +kernel
theorem dX3_dye_15 : decode cX3_dye 15 = .ok (.getfield 10, 3) := by decide +kernel
theorem dX3_dye_18 : decode cX3_dye 18 = .ok (.getfield 89, 3) := by decide +kernel
theorem dX3_dye_21 : decode cX3_dye 21 = .ok (.iload_n 1, 1) := by decide +kernel
theorem dX3_dye_22 : decode cX3_dye 22 = .ok (.aaload, 1) := by decide +kernel
theorem dX3_dye_23 : decode cX3_dye 23 = .ok (.aload_n 0, 1) := by decide +kernel
theorem dX3_dye_24 : decode cX3_dye 24 = .ok (.getfield 10, 3) := by decide +kernel
theorem dX3_dye_27 : decode cX3_dye 27 = .ok (.iload_n 2, 1) := by decide +kernel
theorem dX3_dye_28 : decode cX3_dye 28 = .ok (.iload_n 3, 1) := by decide +kernel
theorem dX3_dye_29 : decode cX3_dye 29 = .ok (.iload 4, 2) := by decide +kernel
theorem dX3_dye_31 : decode cX3_dye 31 = .ok (.invokevirtual 93, 3) := by decide +kernel
theorem dX3_dye_34 : decode cX3_dye 34 = .ok (.iaload, 1) := by decide +kernel
theorem dX3_dye_35 : decode cX3_dye 35 = .ok (.ireturn, 1) := by decide +kernel
theorem dX3_colour_0 : decode cX3_colour 0 = .ok (.iload_n 1, 1) := by decide +kernel
theorem dX3_colour_1 : decode cX3_colour 1 = .ok (.invokestatic 117, 3) := by decide +kernel
theorem dX3_colour_4 : decode cX3_colour 4 = .ok (.ifCond .ne 7, 3) := by decide +kernel
theorem dX3_colour_7 : decode cX3_colour 7 = .ok (.ldc2_w 120, 3) := by decide +kernel
theorem dX3_colour_10 : decode cX3_colour 10 = .ok (.lreturn, 1) := by decide +kernel
theorem dX3_colour_11 : decode cX3_colour 11 = .ok (.iload_n 2, 1) := by decide +kernel
theorem dX3_colour_12 : decode cX3_colour 12 = .ok (.tableswitch 99 0 5 #[40, 51, 61, 71, 81, 90], 40) := by decide +kernel
theorem dX3_colour_52 : decode cX3_colour 52 = .ok (.aload_n 0, 1) := by decide +kernel
theorem dX3_colour_53 : decode cX3_colour 53 = .ok (.getfield 10, 3) := by decide +kernel
theorem dX3_colour_56 : decode cX3_colour 56 = .ok (.getfield 86, 3) := by decide +kernel
theorem dX3_colour_59 : decode cX3_colour 59 = .ok (.iload_n 1, 1) := by decide +kernel
theorem dX3_colour_60 : decode cX3_colour 60 = .ok (.iaload, 1) := by decide +kernel
theorem dX3_colour_61 : decode cX3_colour 61 = .ok (.i2l, 1) := by decide +kernel
theorem dX3_colour_62 : decode cX3_colour 62 = .ok (.lreturn, 1) := by decide +kernel
theorem dX3_colour_63 : decode cX3_colour 63 = .ok (.aload_n 0, 1) := by decide +kernel
theorem dX3_colour_64 : decode cX3_colour 64 = .ok (.getfield 10, 3) := by decide +kernel
theorem dX3_colour_67 : decode cX3_colour 67 = .ok (.iload_n 1, 1) := by decide +kernel
theorem dX3_colour_68 : decode cX3_colour 68 = .ok (.invokevirtual 122, 3) := by decide +kernel
theorem dX3_colour_71 : decode cX3_colour 71 = .ok (.i2l, 1) := by decide +kernel
theorem dX3_colour_72 : decode cX3_colour 72 = .ok (.lreturn, 1) := by decide +kernel
theorem dX3_colour_73 : decode cX3_colour 73 = .ok (.aload_n 0, 1) := by decide +kernel
theorem dX3_colour_74 : decode cX3_colour 74 = .ok (.getfield 10, 3) := by decide +kernel
theorem dX3_colour_77 : decode cX3_colour 77 = .ok (.iload_n 1, 1) := by decide +kernel
theorem dX3_colour_78 : decode cX3_colour 78 = .ok (.invokevirtual 125, 3) := by decide +kernel
theorem dX3_colour_81 : decode cX3_colour 81 = .ok (.i2l, 1) := by decide +kernel
theorem dX3_colour_82 : decode cX3_colour 82 = .ok (.lreturn, 1) := by decide +kernel
theorem dX3_colour_83 : decode cX3_colour 83 = .ok (.aload_n 0, 1) := by decide +kernel
theorem dX3_colour_84 : decode cX3_colour 84 = .ok (.getfield 10, 3) := by decide +kernel
theorem dX3_colour_87 : decode cX3_colour 87 = .ok (.iload_n 1, 1) := by decide +kernel
theorem dX3_colour_88 : decode cX3_colour 88 = .ok (.invokevirtual 128, 3) := by decide +kernel
theorem dX3_colour_91 : decode cX3_colour 91 = .ok (.i2l, 1) := by decide +kernel
theorem dX3_colour_92 : decode cX3_colour 92 = .ok (.lreturn, 1) := by decide +kernel
theorem dX3_colour_93 : decode cX3_colour 93 = .ok (.aload_n 0, 1) := by decide +kernel
theorem dX3_colour_94 : decode cX3_colour 94 = .ok (.getfield 10, 3) := by decide +kernel
theorem dX3_colour_97 : decode cX3_colour 97 = .ok (.iload_n 1, 1) := by decide +kernel
theorem dX3_colour_98 : decode cX3_colour 98 = .ok (.invokevirtual 131, 3) := by decide +kernel
theorem dX3_colour_101 : decode cX3_colour 101 = .ok (.lreturn, 1) := by decide +kernel
theorem dX3_colour_102 : decode cX3_colour 102 = .ok (.aload_n 0, 1) := by decide +kernel
theorem dX3_colour_103 : decode cX3_colour 103 = .ok (.getfield 10, 3) := by decide +kernel
theorem dX3_colour_106 : decode cX3_colour 106 = .ok (.iload_n 1, 1) := by decide +kernel
theorem dX3_colour_107 : decode cX3_colour 107 = .ok (.invokevirtual 135, 3) := by decide +kernel
theorem dX3_colour_110 : decode cX3_colour 110 = .ok (.lreturn, 1) := by decide +kernel
theorem dX3_colour_111 : decode cX3_colour 111 = .ok (.ldc2_w 138, 3) := by decide +kernel
theorem dX3_colour_114 : decode cX3_colour 114 = .ok (.lreturn, 1) := by decide +kernel
theorem dX3_state_0 : decode cX3_state 0 = .ok (.iload_n 1, 1) := by decide +kernel
theorem dX3_state_1 : decode cX3_state 1 = .ok (.bipush 6, 2) := by decide +kernel
theorem dX3_state_3 : decode cX3_state 3 = .ok (.bipush 12, 2) := by decide +kernel
theorem dX3_state_5 : decode cX3_state 5 = .ok (.invokestatic 34, 3) := by decide +kernel
theorem dX3_state_8 : decode cX3_state 8 = .ok (.ifCond .eq 16, 3) := by decide +kernel
theorem dX3_state_11 : decode cX3_state 11 = .ok (.aload_n 0, 1) := by decide +kernel
theorem dX3_state_12 : decode cX3_state 12 = .ok (.getfield 10, 3) := by decide +kernel
theorem dX3_state_15 : decode cX3_state 15 = .ok (.getfield 54, 3) := by decide +kernel
theorem dX3_state_18 : decode cX3_state 18 = .ok (.iload_n 1, 1) := by decide +kernel
theorem dX3_state_19 : decode cX3_state 19 = .ok (.bipush 6, 2) := by decide +kernel
theorem dX3_state_21 : decode cX3_state 21 = .ok (.isub, 1) := by decide +kernel
theorem dX3_state_22 : decode cX3_state 22 = .ok (.iaload, 1) := by decide +kernel
theorem dX3_state_23 : decode cX3_state 23 = .ok (.ireturn, 1) := by decide +kernel
theorem dX3_state_24 : decode cX3_state 24 = .ok (.iload_n 1, 1) := by decide +kernel
theorem dX3_state_25 : decode cX3_state 25 = .ok (.tableswitch 87 0 5 #[39, 47, 55, 63, 71, 79], 39) := by decide +kernel
theorem dX3_state_64 : decode cX3_state 64 = .ok (.aload_n 0, 1) := by decide +kernel
theorem dX3_state_65 : decode cX3_state 65 = .ok (.getfield 10, 3) := by decide +kernel
theorem dX3_state_68 : decode cX3_state 68 = .ok (.getfield 98, 3) := by decide +kernel
theorem dX3_state_71 : decode cX3_state 71 = .ok (.ireturn, 1) := by decide +kernel
theorem dX3_state_72 : decode cX3_state 72 = .ok (.aload_n 0, 1) := by decide +kernel
theorem dX3_state_73 : decode cX3_state 73 = .ok (.getfield 10, 3) := by decide +kernel
theorem dX3_state_76 : decode cX3_state 76 = .ok (.getfield 38, 3) := by decide +kernel
theorem dX3_state_79 : decode cX3_state 79 = .ok (.ireturn, 1) := by decide +kernel
theorem dX3_state_80 : decode cX3_state 80 = .ok (.aload_n 0, 1) := by decide +kernel
theorem dX3_state_81 : decode cX3_state 81 = .ok (.getfield 10, 3) := by decide +kernel
theorem dX3_state_84 : decode cX3_state 84 = .ok (.getfield 140, 3) := by decide +kernel
theorem dX3_state_87 : decode cX3_state 87 = .ok (.ireturn, 1) := by decide +kernel
theorem dX3_state_88 : decode cX3_state 88 = .ok (.aload_n 0, 1) := by decide +kernel
theorem dX3_state_89 : decode cX3_state 89 = .ok (.getfield 10, 3) := by decide +kernel
theorem dX3_state_92 : decode cX3_state 92 = .ok (.invokevirtual 76, 3) := by decide +kernel
theorem dX3_state_95 : decode cX3_state 95 = .ok (.ireturn, 1) := by decide +kernel
theorem dX3_state_96 : decode cX3_state 96 = .ok (.aload_n 0, 1) := by decide +kernel
theorem dX3_state_97 : decode cX3_state 97 = .ok (.getfield 10, 3) := by decide +kernel
theorem dX3_state_100 : decode cX3_state 100 = .ok (.invokevirtual 143, 3) := by decide +kernel
theorem dX3_state_103 : decode cX3_state 103 = .ok (.ireturn, 1) := by decide +kernel
theorem dX3_state_104 : decode cX3_state 104 = .ok (.aload_n 0, 1) := by decide +kernel
theorem dX3_state_105 : decode cX3_state 105 = .ok (.getfield 30, 3) := by decide +kernel
theorem dX3_state_108 : decode cX3_state 108 = .ok (.getfield 146, 3) := by decide +kernel
theorem dX3_state_111 : decode cX3_state 111 = .ok (.ireturn, 1) := by decide +kernel
theorem dX3_state_112 : decode cX3_state 112 = .ok (.ldc 53, 2) := by decide +kernel
theorem dX3_state_114 : decode cX3_state 114 = .ok (.ireturn, 1) := by decide +kernel
theorem dX3_marker_0 : decode cX3_marker 0 = .ok (.iload_n 1, 1) := by decide +kernel
theorem dX3_marker_1 : decode cX3_marker 1 = .ok (.iconst 0, 1) := by decide +kernel
theorem dX3_marker_2 : decode cX3_marker 2 = .ok (.aload_n 0, 1) := by decide +kernel
theorem dX3_marker_3 : decode cX3_marker 3 = .ok (.getfield 10, 3) := by decide +kernel
theorem dX3_marker_6 : decode cX3_marker 6 = .ok (.invokevirtual 149, 3) := by decide +kernel
theorem dX3_marker_9 : decode cX3_marker 9 = .ok (.invokestatic 34, 3) := by decide +kernel
theorem dX3_marker_12 : decode cX3_marker 12 = .ok (.ifCond .eq 14, 3) := by decide +kernel
theorem dX3_marker_15 : decode cX3_marker 15 = .ok (.iload_n 2, 1) := by decide +kernel
theorem dX3_marker_16 : decode cX3_marker 16 = .ok (.iconst 0, 1) := by decide +kernel
theorem dX3_marker_17 : decode cX3_marker 17 = .ok (.sipush 3599, 3) := by decide +kernel
theorem dX3_marker_20 : decode cX3_marker 20 = .ok (.invokestatic 34, 3) := by decide +kernel
theorem dX3_marker_23 : decode cX3_marker 23 = .ok (.ifCond .ne 6, 3) := by decide +kernel
theorem dX3_marker_26 : decode cX3_marker 26 = .ok (.bipush (-2), 2) := by decide +kernel
theorem dX3_marker_28 : decode cX3_marker 28 = .ok (.ireturn, 1) := by decide +kernel
theorem dX3_marker_29 : decode cX3_marker 29 = .ok (.aload_n 0, 1) := by decide +kernel
theorem dX3_marker_30 : decode cX3_marker 30 = .ok (.getfield 10, 3) := by decide +kernel
theorem dX3_marker_33 : decode cX3_marker 33 = .ok (.getfield 140, 3) := by decide +kernel
theorem dX3_marker_36 : decode cX3_marker 36 = .ok (.istore_n 3, 1) := by decide +kernel
theorem dX3_marker_37 : decode cX3_marker 37 = .ok (.iload_n 3, 1) := by decide +kernel
theorem dX3_marker_38 : decode cX3_marker 38 = .ok (.bipush 6, 2) := by decide +kernel
theorem dX3_marker_40 : decode cX3_marker 40 = .ok (.if_icmp .lt 6, 3) := by decide +kernel
theorem dX3_marker_43 : decode cX3_marker 43 = .ok (.bipush (-4), 2) := by decide +kernel
theorem dX3_marker_45 : decode cX3_marker 45 = .ok (.ireturn, 1) := by decide +kernel
theorem dX3_marker_46 : decode cX3_marker 46 = .ok (.aload_n 0, 1) := by decide +kernel
theorem dX3_marker_47 : decode cX3_marker 47 = .ok (.getfield 10, 3) := by decide +kernel
theorem dX3_marker_50 : decode cX3_marker 50 = .ok (.getfield 152, 3) := by decide +kernel
theorem dX3_marker_53 : decode cX3_marker 53 = .ok (.iload_n 3, 1) := by decide +kernel
theorem dX3_marker_54 : decode cX3_marker 54 = .ok (.aaload, 1) := by decide +kernel
theorem dX3_marker_55 : decode cX3_marker 55 = .ok (.iload_n 1, 1) := by decide +kernel
theorem dX3_marker_56 : decode cX3_marker 56 = .ok (.iload_n 2, 1) := by decide +kernel
theorem dX3_marker_57 : decode cX3_marker 57 = .ok (.invokevirtual 156, 3) := by decide +kernel
theorem dX3_marker_60 : decode cX3_marker 60 = .ok (.aload_n 0, 1) := by decide +kernel
theorem dX3_marker_61 : decode cX3_marker 61 = .ok (.getfield 10, 3) := by decide +kernel
theorem dX3_marker_64 : decode cX3_marker 64 = .ok (.iload_n 3, 1) := by decide +kernel
theorem dX3_marker_65 : decode cX3_marker 65 = .ok (.iconst 1, 1) := by decide +kernel
theorem dX3_marker_66 : decode cX3_marker 66 = .ok (.iadd, 1) := by decide +kernel
theorem dX3_marker_67 : decode cX3_marker 67 = .ok (.putfield 140, 3) := by decide +kernel
theorem dX3_marker_70 : decode cX3_marker 70 = .ok (.iload_n 3, 1) := by decide +kernel
theorem dX3_marker_71 : decode cX3_marker 71 = .ok (.ireturn, 1) := by decide +kernel
theorem dX3_where_0 : decode cX3_where 0 = .ok (.aload_n 0, 1) := by decide +kernel
theorem dX3_where_1 : decode cX3_where 1 = .ok (.getfield 10, 3) := by decide +kernel
theorem dX3_where_4 : decode cX3_where 4 = .ok (.iload_n 1, 1) := by decide +kernel
theorem dX3_where_5 : decode cX3_where 5 = .ok (.invokevirtual 161, 3) := by decide +kernel
theorem dX3_where_8 : decode cX3_where 8 = .ok (.ifCond .ne 5, 3) := by decide +kernel
theorem dX3_where_11 : decode cX3_where 11 = .ok (.iconst (-1), 1) := by decide +kernel
theorem dX3_where_12 : decode cX3_where 12 = .ok (.ireturn, 1) := by decide +kernel
theorem dX3_where_13 : decode cX3_where 13 = .ok (.aload_n 0, 1) := by decide +kernel
theorem dX3_where_14 : decode cX3_where 14 = .ok (.getfield 10, 3) := by decide +kernel
theorem dX3_where_17 : decode cX3_where 17 = .ok (.getfield 152, 3) := by decide +kernel
theorem dX3_where_20 : decode cX3_where 20 = .ok (.iload_n 1, 1) := by decide +kernel
theorem dX3_where_21 : decode cX3_where 21 = .ok (.aaload, 1) := by decide +kernel
theorem dX3_where_22 : decode cX3_where 22 = .ok (.astore_n 3, 1) := by decide +kernel
theorem dX3_where_23 : decode cX3_where 23 = .ok (.iload_n 2, 1) := by decide +kernel
theorem dX3_where_24 : decode cX3_where 24 = .ok (.tableswitch 61 0 4 #[36, 41, 46, 51, 56], 36) := by decide +kernel
theorem dX3_where_60 : decode cX3_where 60 = .ok (.aload_n 3, 1) := by decide +kernel
theorem dX3_where_61 : decode cX3_where 61 = .ok (.getfield 164, 3) := by decide +kernel
theorem dX3_where_64 : decode cX3_where 64 = .ok (.ireturn, 1) := by decide +kernel
theorem dX3_where_65 : decode cX3_where 65 = .ok (.aload_n 3, 1) := by decide +kernel
theorem dX3_where_66 : decode cX3_where 66 = .ok (.getfield 167, 3) := by decide +kernel
theorem dX3_where_69 : decode cX3_where 69 = .ok (.ireturn, 1) := by decide +kernel
theorem dX3_where_70 : decode cX3_where 70 = .ok (.aload_n 3, 1) := by decide +kernel
theorem dX3_where_71 : decode cX3_where 71 = .ok (.invokevirtual 170, 3) := by decide +kernel
theorem dX3_where_74 : decode cX3_where 74 = .ok (.ireturn, 1) := by decide +kernel
theorem dX3_where_75 : decode cX3_where 75 = .ok (.aload_n 3, 1) := by decide +kernel
theorem dX3_where_76 : decode cX3_where 76 = .ok (.getfield 173, 3) := by decide +kernel
theorem dX3_where_79 : decode cX3_where 79 = .ok (.ireturn, 1) := by decide +kernel
theorem dX3_where_80 : decode cX3_where 80 = .ok (.aload_n 3, 1) := by decide +kernel
theorem dX3_where_81 : decode cX3_where 81 = .ok (.getfield 176, 3) := by decide +kernel
theorem dX3_where_84 : decode cX3_where 84 = .ok (.ireturn, 1) := by decide +kernel
theorem dX3_where_85 : decode cX3_where 85 = .ok (.bipush (-2), 2) := by decide +kernel
theorem dX3_where_87 : decode cX3_where 87 = .ok (.ireturn, 1) := by decide +kernel
theorem dX3_path_0 : decode cX3_path 0 = .ok (.aload_n 0, 1) := by decide +kernel
theorem dX3_path_1 : decode cX3_path 1 = .ok (.getfield 10, 3) := by decide +kernel
theorem dX3_path_4 : decode cX3_path 4 = .ok (.iload_n 1, 1) := by decide +kernel
theorem dX3_path_5 : decode cX3_path 5 = .ok (.invokevirtual 161, 3) := by decide +kernel
theorem dX3_path_8 : decode cX3_path 8 = .ok (.ifCond .ne 5, 3) := by decide +kernel
theorem dX3_path_11 : decode cX3_path 11 = .ok (.iconst (-1), 1) := by decide +kernel
theorem dX3_path_12 : decode cX3_path 12 = .ok (.ireturn, 1) := by decide +kernel
theorem dX3_path_13 : decode cX3_path 13 = .ok (.iload_n 3, 1) := by decide +kernel
theorem dX3_path_14 : decode cX3_path 14 = .ok (.iconst 0, 1) := by decide +kernel
theorem dX3_path_15 : decode cX3_path 15 = .ok (.iconst 1, 1) := by decide +kernel
theorem dX3_path_16 : decode cX3_path 16 = .ok (.invokestatic 34, 3) := by decide +kernel
theorem dX3_path_19 : decode cX3_path 19 = .ok (.ifCond .ne 6, 3) := by decide +kernel
theorem dX3_path_22 : decode cX3_path 22 = .ok (.bipush (-2), 2) := by decide +kernel
theorem dX3_path_24 : decode cX3_path 24 = .ok (.ireturn, 1) := by decide +kernel
theorem dX3_path_25 : decode cX3_path 25 = .ok (.aload_n 0, 1) := by decide +kernel
theorem dX3_path_26 : decode cX3_path 26 = .ok (.getfield 10, 3) := by decide +kernel
theorem dX3_path_29 : decode cX3_path 29 = .ok (.getfield 152, 3) := by decide +kernel
theorem dX3_path_32 : decode cX3_path 32 = .ok (.iload_n 1, 1) := by decide +kernel
theorem dX3_path_33 : decode cX3_path 33 = .ok (.aaload, 1) := by decide +kernel
theorem dX3_path_34 : decode cX3_path 34 = .ok (.astore 4, 2) := by decide +kernel
theorem dX3_path_36 : decode cX3_path 36 = .ok (.iload_n 2, 1) := by decide +kernel
theorem dX3_path_37 : decode cX3_path 37 = .ok (.iconst 0, 1) := by decide +kernel
theorem dX3_path_38 : decode cX3_path 38 = .ok (.aload 4, 2) := by decide +kernel
theorem dX3_path_40 : decode cX3_path 40 = .ok (.getfield 173, 3) := by decide +kernel
theorem dX3_path_43 : decode cX3_path 43 = .ok (.iconst 1, 1) := by decide +kernel
theorem dX3_path_44 : decode cX3_path 44 = .ok (.isub, 1) := by decide +kernel
theorem dX3_path_45 : decode cX3_path 45 = .ok (.invokestatic 34, 3) := by decide +kernel
theorem dX3_path_48 : decode cX3_path 48 = .ok (.ifCond .ne 6, 3) := by decide +kernel
theorem dX3_path_51 : decode cX3_path 51 = .ok (.bipush (-6), 2) := by decide +kernel
theorem dX3_path_53 : decode cX3_path 53 = .ok (.ireturn, 1) := by decide +kernel
theorem dX3_path_54 : decode cX3_path 54 = .ok (.iload_n 3, 1) := by decide +kernel
theorem dX3_path_55 : decode cX3_path 55 = .ok (.ifCond .ne 12, 3) := by decide +kernel
theorem dX3_path_58 : decode cX3_path 58 = .ok (.aload 4, 2) := by decide +kernel
theorem dX3_path_60 : decode cX3_path 60 = .ok (.iload_n 2, 1) := by decide +kernel
theorem dX3_path_61 : decode cX3_path 61 = .ok (.invokevirtual 179, 3) := by decide +kernel
theorem dX3_path_64 : decode cX3_path 64 = .ok (.goto 9, 3) := by decide +kernel
theorem dX3_path_67 : decode cX3_path 67 = .ok (.aload 4, 2) := by decide +kernel
theorem dX3_path_69 : decode cX3_path 69 = .ok (.iload_n 2, 1) := by decide +kernel
theorem dX3_path_70 : decode cX3_path 70 = .ok (.invokevirtual 182, 3) := by decide +kernel
theorem dX3_path_73 : decode cX3_path 73 = .ok (.ireturn, 1) := by decide +kernel
theorem dX3_settles_0 : decode cX3_settles 0 = .ok (.iload_n 1, 1) := by decide +kernel
theorem dX3_settles_1 : decode cX3_settles 1 = .ok (.iconst 0, 1) := by decide +kernel
theorem dX3_settles_2 : decode cX3_settles 2 = .ok (.sipush 1000, 3) := by decide +kernel
theorem dX3_settles_5 : decode cX3_settles 5 = .ok (.invokestatic 34, 3) := by decide +kernel
theorem dX3_settles_8 : decode cX3_settles 8 = .ok (.ifCond .eq 14, 3) := by decide +kernel
theorem dX3_settles_11 : decode cX3_settles 11 = .ok (.iload_n 2, 1) := by decide +kernel
theorem dX3_settles_12 : decode cX3_settles 12 = .ok (.iconst 1, 1) := by decide +kernel
theorem dX3_settles_13 : decode cX3_settles 13 = .ok (.sipush 1000, 3) := by decide +kernel
theorem dX3_settles_16 : decode cX3_settles 16 = .ok (.invokestatic 34, 3) := by decide +kernel
theorem dX3_settles_19 : decode cX3_settles 19 = .ok (.ifCond .ne 6, 3) := by decide +kernel
theorem dX3_settles_22 : decode cX3_settles 22 = .ok (.bipush (-2), 2) := by decide +kernel
theorem dX3_settles_24 : decode cX3_settles 24 = .ok (.ireturn, 1) := by decide +kernel
theorem dX3_settles_25 : decode cX3_settles 25 = .ok (.aload_n 0, 1) := by decide +kernel
theorem dX3_settles_26 : decode cX3_settles 26 = .ok (.getfield 16, 3) := by decide +kernel
theorem dX3_settles_29 : decode cX3_settles 29 = .ok (.aload_n 0, 1) := by decide +kernel
theorem dX3_settles_30 : decode cX3_settles 30 = .ok (.getfield 10, 3) := by decide +kernel
theorem dX3_settles_33 : decode cX3_settles 33 = .ok (.invokevirtual 185, 3) := by decide +kernel
theorem dX3_settles_36 : decode cX3_settles 36 = .ok (.iconst 0, 1) := by decide +kernel
theorem dX3_settles_37 : decode cX3_settles 37 = .ok (.istore_n 3, 1) := by decide +kernel
theorem dX3_settles_38 : decode cX3_settles 38 = .ok (.iload_n 3, 1) := by decide +kernel
theorem dX3_settles_39 : decode cX3_settles 39 = .ok (.iload_n 2, 1) := by decide +kernel
theorem dX3_settles_40 : decode cX3_settles 40 = .ok (.if_icmp .gt 29, 3) := by decide +kernel
theorem dX3_settles_43 : decode cX3_settles 43 = .ok (.aload_n 0, 1) := by decide +kernel
theorem dX3_settles_44 : decode cX3_settles 44 = .ok (.getfield 16, 3) := by decide +kernel
theorem dX3_settles_47 : decode cX3_settles 47 = .ok (.iload_n 1, 1) := by decide +kernel
theorem dX3_settles_48 : decode cX3_settles 48 = .ok (.invokevirtual 189, 3) := by decide +kernel
theorem dX3_settles_51 : decode cX3_settles 51 = .ok (.ifCond .eq 5, 3) := by decide +kernel
theorem dX3_settles_54 : decode cX3_settles 54 = .ok (.iload_n 3, 1) := by decide +kernel
theorem dX3_settles_55 : decode cX3_settles 55 = .ok (.ireturn, 1) := by decide +kernel
theorem dX3_settles_56 : decode cX3_settles 56 = .ok (.aload_n 0, 1) := by decide +kernel
theorem dX3_settles_57 : decode cX3_settles 57 = .ok (.getfield 16, 3) := by decide +kernel
theorem dX3_settles_60 : decode cX3_settles 60 = .ok (.invokevirtual 192, 3) := by decide +kernel
theorem dX3_settles_63 : decode cX3_settles 63 = .ok (.iinc 3 1, 3) := by decide +kernel
theorem dX3_settles_66 : decode cX3_settles 66 = .ok (.goto (-28), 3) := by decide +kernel
theorem dX3_settles_69 : decode cX3_settles 69 = .ok (.bipush (-6), 2) := by decide +kernel
theorem dX3_settles_71 : decode cX3_settles 71 = .ok (.ireturn, 1) := by decide +kernel
theorem dX3_arrives_0 : decode cX3_arrives 0 = .ok (.iload_n 1, 1) := by decide +kernel
theorem dX3_arrives_1 : decode cX3_arrives 1 = .ok (.invokestatic 117, 3) := by decide +kernel
theorem dX3_arrives_4 : decode cX3_arrives 4 = .ok (.ifCond .eq 14, 3) := by decide +kernel
theorem dX3_arrives_7 : decode cX3_arrives 7 = .ok (.aload_n 0, 1) := by decide +kernel
theorem dX3_arrives_8 : decode cX3_arrives 8 = .ok (.getfield 10, 3) := by decide +kernel
theorem dX3_arrives_11 : decode cX3_arrives 11 = .ok (.iload_n 2, 1) := by decide +kernel
theorem dX3_arrives_12 : decode cX3_arrives 12 = .ok (.invokevirtual 57, 3) := by decide +kernel
theorem dX3_arrives_15 : decode cX3_arrives 15 = .ok (.ifCond .ne 5, 3) := by decide +kernel
theorem dX3_arrives_18 : decode cX3_arrives 18 = .ok (.iconst (-1), 1) := by decide +kernel
theorem dX3_arrives_19 : decode cX3_arrives 19 = .ok (.ireturn, 1) := by decide +kernel
theorem dX3_arrives_20 : decode cX3_arrives 20 = .ok (.iload_n 3, 1) := by decide +kernel
theorem dX3_arrives_21 : decode cX3_arrives 21 = .ok (.iconst 1, 1) := by decide +kernel
theorem dX3_arrives_22 : decode cX3_arrives 22 = .ok (.sipush 1000, 3) := by decide +kernel
theorem dX3_arrives_25 : decode cX3_arrives 25 = .ok (.invokestatic 34, 3) := by decide +kernel
theorem dX3_arrives_28 : decode cX3_arrives 28 = .ok (.ifCond .eq 15, 3) := by decide +kernel
theorem dX3_arrives_31 : decode cX3_arrives 31 = .ok (.iload 4, 2) := by decide +kernel
theorem dX3_arrives_33 : decode cX3_arrives 33 = .ok (.iconst 1, 1) := by decide +kernel
theorem dX3_arrives_34 : decode cX3_arrives 34 = .ok (.sipush 500, 3) := by decide +kernel
theorem dX3_arrives_37 : decode cX3_arrives 37 = .ok (.invokestatic 34, 3) := by decide +kernel
theorem dX3_arrives_40 : decode cX3_arrives 40 = .ok (.ifCond .ne 6, 3) := by decide +kernel
theorem dX3_arrives_43 : decode cX3_arrives 43 = .ok (.bipush (-2), 2) := by decide +kernel
theorem dX3_arrives_45 : decode cX3_arrives 45 = .ok (.ireturn, 1) := by decide +kernel
theorem dX3_arrives_46 : decode cX3_arrives 46 = .ok (.aload_n 0, 1) := by decide +kernel
theorem dX3_arrives_47 : decode cX3_arrives 47 = .ok (.getfield 10, 3) := by decide +kernel
theorem dX3_arrives_50 : decode cX3_arrives 50 = .ok (.getfield 86, 3) := by decide +kernel
theorem dX3_arrives_53 : decode cX3_arrives 53 = .ok (.iload_n 1, 1) := by decide +kernel
theorem dX3_arrives_54 : decode cX3_arrives 54 = .ok (.iaload, 1) := by decide +kernel
theorem dX3_arrives_55 : decode cX3_arrives 55 = .ok (.ifCond .ne 6, 3) := by decide +kernel
theorem dX3_arrives_58 : decode cX3_arrives 58 = .ok (.bipush (-5), 2) := by decide +kernel
theorem dX3_arrives_60 : decode cX3_arrives 60 = .ok (.ireturn, 1) := by decide +kernel
theorem dX3_arrives_61 : decode cX3_arrives 61 = .ok (.iload_n 3, 1) := by decide +kernel
theorem dX3_arrives_62 : decode cX3_arrives 62 = .ok (.i2l, 1) := by decide +kernel
theorem dX3_arrives_63 : decode cX3_arrives 63 = .ok (.aload_n 0, 1) := by decide +kernel
theorem dX3_arrives_64 : decode cX3_arrives 64 = .ok (.getfield 10, 3) := by decide +kernel
theorem dX3_arrives_67 : decode cX3_arrives 67 = .ok (.getfield 86, 3) := by decide +kernel
theorem dX3_arrives_70 : decode cX3_arrives 70 = .ok (.iload_n 1, 1) := by decide +kernel
theorem dX3_arrives_71 : decode cX3_arrives 71 = .ok (.iaload, 1) := by decide +kernel
theorem dX3_arrives_72 : decode cX3_arrives 72 = .ok (.i2l, 1) := by decide +kernel
theorem dX3_arrives_73 : decode cX3_arrives 73 = .ok (.lmul, 1) := by decide +kernel
theorem dX3_arrives_74 : decode cX3_arrives 74 = .ok (.lstore 5, 2) := by decide +kernel
theorem dX3_arrives_76 : decode cX3_arrives 76 = .ok (.aload_n 0, 1) := by decide +kernel
theorem dX3_arrives_77 : decode cX3_arrives 77 = .ok (.getfield 16, 3) := by decide +kernel
theorem dX3_arrives_80 : decode cX3_arrives 80 = .ok (.aload_n 0, 1) := by decide +kernel
theorem dX3_arrives_81 : decode cX3_arrives 81 = .ok (.getfield 10, 3) := by decide +kernel
theorem dX3_arrives_84 : decode cX3_arrives 84 = .ok (.invokevirtual 185, 3) := by decide +kernel
theorem dX3_arrives_87 : decode cX3_arrives 87 = .ok (.iconst 0, 1) := by decide +kernel
theorem dX3_arrives_88 : decode cX3_arrives 88 = .ok (.istore 7, 2) := by decide +kernel
theorem dX3_arrives_90 : decode cX3_arrives 90 = .ok (.iload 7, 2) := by decide +kernel
theorem dX3_arrives_92 : decode cX3_arrives 92 = .ok (.iload 4, 2) := by decide +kernel
theorem dX3_arrives_94 : decode cX3_arrives 94 = .ok (.if_icmp .gt 47, 3) := by decide +kernel
theorem dX3_arrives_97 : decode cX3_arrives 97 = .ok (.ldc2_w 195, 3) := by decide +kernel
theorem dX3_arrives_100 : decode cX3_arrives 100 = .ok (.aload_n 0, 1) := by decide +kernel
theorem dX3_arrives_101 : decode cX3_arrives 101 = .ok (.getfield 16, 3) := by decide +kernel
theorem dX3_arrives_104 : decode cX3_arrives 104 = .ok (.iload_n 1, 1) := by decide +kernel
theorem dX3_arrives_105 : decode cX3_arrives 105 = .ok (.iload_n 2, 1) := by decide +kernel
theorem dX3_arrives_106 : decode cX3_arrives 106 = .ok (.invokevirtual 113, 3) := by decide +kernel
theorem dX3_arrives_109 : decode cX3_arrives 109 = .ok (.i2l, 1) := by decide +kernel
theorem dX3_arrives_110 : decode cX3_arrives 110 = .ok (.lmul, 1) := by decide +kernel
theorem dX3_arrives_111 : decode cX3_arrives 111 = .ok (.lload 5, 2) := by decide +kernel
theorem dX3_arrives_113 : decode cX3_arrives 113 = .ok (.lcmp, 1) := by decide +kernel
theorem dX3_arrives_114 : decode cX3_arrives 114 = .ok (.ifCond .lt 6, 3) := by decide +kernel
theorem dX3_arrives_117 : decode cX3_arrives 117 = .ok (.iload 7, 2) := by decide +kernel
theorem dX3_arrives_119 : decode cX3_arrives 119 = .ok (.ireturn, 1) := by decide +kernel
theorem dX3_arrives_120 : decode cX3_arrives 120 = .ok (.aload_n 0, 1) := by decide +kernel
theorem dX3_arrives_121 : decode cX3_arrives 121 = .ok (.getfield 16, 3) := by decide +kernel
theorem dX3_arrives_124 : decode cX3_arrives 124 = .ok (.invokevirtual 192, 3) := by decide +kernel
theorem dX3_arrives_127 : decode cX3_arrives 127 = .ok (.aload_n 0, 1) := by decide +kernel
theorem dX3_arrives_128 : decode cX3_arrives 128 = .ok (.getfield 16, 3) := by decide +kernel
theorem dX3_arrives_131 : decode cX3_arrives 131 = .ok (.iload_n 1, 1) := by decide +kernel
theorem dX3_arrives_132 : decode cX3_arrives 132 = .ok (.invokevirtual 197, 3) := by decide +kernel
theorem dX3_arrives_135 : decode cX3_arrives 135 = .ok (.iinc 7 1, 3) := by decide +kernel
theorem dX3_arrives_138 : decode cX3_arrives 138 = .ok (.goto (-48), 3) := by decide +kernel
theorem dX3_arrives_141 : decode cX3_arrives 141 = .ok (.bipush (-6), 2) := by decide +kernel
theorem dX3_arrives_143 : decode cX3_arrives 143 = .ok (.ireturn, 1) := by decide +kernel
theorem dX3_meet_0 : decode cX3_meet 0 = .ok (.aload_n 0, 1) := by decide +kernel
theorem dX3_meet_1 : decode cX3_meet 1 = .ok (.getfield 10, 3) := by decide +kernel
theorem dX3_meet_4 : decode cX3_meet 4 = .ok (.iload_n 1, 1) := by decide +kernel
theorem dX3_meet_5 : decode cX3_meet 5 = .ok (.invokevirtual 161, 3) := by decide +kernel
theorem dX3_meet_8 : decode cX3_meet 8 = .ok (.ifCond .eq 14, 3) := by decide +kernel
theorem dX3_meet_11 : decode cX3_meet 11 = .ok (.aload_n 0, 1) := by decide +kernel
theorem dX3_meet_12 : decode cX3_meet 12 = .ok (.getfield 10, 3) := by decide +kernel
theorem dX3_meet_15 : decode cX3_meet 15 = .ok (.iload_n 2, 1) := by decide +kernel
theorem dX3_meet_16 : decode cX3_meet 16 = .ok (.invokevirtual 161, 3) := by decide +kernel
theorem dX3_meet_19 : decode cX3_meet 19 = .ok (.ifCond .ne 5, 3) := by decide +kernel
theorem dX3_meet_22 : decode cX3_meet 22 = .ok (.iconst (-1), 1) := by decide +kernel
theorem dX3_meet_23 : decode cX3_meet 23 = .ok (.ireturn, 1) := by decide +kernel
theorem dX3_meet_24 : decode cX3_meet 24 = .ok (.iload_n 3, 1) := by decide +kernel
theorem dX3_meet_25 : decode cX3_meet 25 = .ok (.iconst 0, 1) := by decide +kernel
theorem dX3_meet_26 : decode cX3_meet 26 = .ok (.sipush 1800, 3) := by decide +kernel
theorem dX3_meet_29 : decode cX3_meet 29 = .ok (.invokestatic 34, 3) := by decide +kernel
theorem dX3_meet_32 : decode cX3_meet 32 = .ok (.ifCond .eq 15, 3) := by decide +kernel
theorem dX3_meet_35 : decode cX3_meet 35 = .ok (.iload 4, 2) := by decide +kernel
theorem dX3_meet_37 : decode cX3_meet 37 = .ok (.iconst 1, 1) := by decide +kernel
theorem dX3_meet_38 : decode cX3_meet 38 = .ok (.sipush 1000, 3) := by decide +kernel
theorem dX3_meet_41 : decode cX3_meet 41 = .ok (.invokestatic 34, 3) := by decide +kernel
theorem dX3_meet_44 : decode cX3_meet 44 = .ok (.ifCond .ne 6, 3) := by decide +kernel
theorem dX3_meet_47 : decode cX3_meet 47 = .ok (.bipush (-2), 2) := by decide +kernel
theorem dX3_meet_49 : decode cX3_meet 49 = .ok (.ireturn, 1) := by decide +kernel
theorem dX3_meet_50 : decode cX3_meet 50 = .ok (.aload_n 0, 1) := by decide +kernel
theorem dX3_meet_51 : decode cX3_meet 51 = .ok (.getfield 16, 3) := by decide +kernel
theorem dX3_meet_54 : decode cX3_meet 54 = .ok (.aload_n 0, 1) := by decide +kernel
theorem dX3_meet_55 : decode cX3_meet 55 = .ok (.getfield 10, 3) := by decide +kernel
theorem dX3_meet_58 : decode cX3_meet 58 = .ok (.invokevirtual 185, 3) := by decide +kernel
theorem dX3_meet_61 : decode cX3_meet 61 = .ok (.iconst 0, 1) := by decide +kernel
theorem dX3_meet_62 : decode cX3_meet 62 = .ok (.istore 5, 2) := by decide +kernel
theorem dX3_meet_64 : decode cX3_meet 64 = .ok (.iload 5, 2) := by decide +kernel
theorem dX3_meet_66 : decode cX3_meet 66 = .ok (.iload 4, 2) := by decide +kernel
theorem dX3_meet_68 : decode cX3_meet 68 = .ok (.if_icmp .gt 51, 3) := by decide +kernel
theorem dX3_meet_71 : decode cX3_meet 71 = .ok (.aload_n 0, 1) := by decide +kernel
theorem dX3_meet_72 : decode cX3_meet 72 = .ok (.getfield 16, 3) := by decide +kernel
theorem dX3_meet_75 : decode cX3_meet 75 = .ok (.getfield 152, 3) := by decide +kernel
theorem dX3_meet_78 : decode cX3_meet 78 = .ok (.iload_n 1, 1) := by decide +kernel
theorem dX3_meet_79 : decode cX3_meet 79 = .ok (.aaload, 1) := by decide +kernel
theorem dX3_meet_80 : decode cX3_meet 80 = .ok (.aload_n 0, 1) := by decide +kernel
theorem dX3_meet_81 : decode cX3_meet 81 = .ok (.getfield 16, 3) := by decide +kernel
theorem dX3_meet_84 : decode cX3_meet 84 = .ok (.getfield 152, 3) := by decide +kernel
theorem dX3_meet_87 : decode cX3_meet 87 = .ok (.iload_n 2, 1) := by decide +kernel
theorem dX3_meet_88 : decode cX3_meet 88 = .ok (.aaload, 1) := by decide +kernel
theorem dX3_meet_89 : decode cX3_meet 89 = .ok (.iload_n 3, 1) := by decide +kernel
theorem dX3_meet_90 : decode cX3_meet 90 = .ok (.invokevirtual 200, 3) := by decide +kernel
theorem dX3_meet_93 : decode cX3_meet 93 = .ok (.ifCond .eq 6, 3) := by decide +kernel
theorem dX3_meet_96 : decode cX3_meet 96 = .ok (.iload 5, 2) := by decide +kernel
theorem dX3_meet_98 : decode cX3_meet 98 = .ok (.ireturn, 1) := by decide +kernel
theorem dX3_meet_99 : decode cX3_meet 99 = .ok (.aload_n 0, 1) := by decide +kernel
theorem dX3_meet_100 : decode cX3_meet 100 = .ok (.getfield 16, 3) := by decide +kernel
theorem dX3_meet_103 : decode cX3_meet 103 = .ok (.invokevirtual 192, 3) := by decide +kernel
theorem dX3_meet_106 : decode cX3_meet 106 = .ok (.aload_n 0, 1) := by decide +kernel
theorem dX3_meet_107 : decode cX3_meet 107 = .ok (.getfield 16, 3) := by decide +kernel
theorem dX3_meet_110 : decode cX3_meet 110 = .ok (.invokevirtual 204, 3) := by decide +kernel
theorem dX3_meet_113 : decode cX3_meet 113 = .ok (.iinc 5 1, 3) := by decide +kernel
theorem dX3_meet_116 : decode cX3_meet 116 = .ok (.goto (-52), 3) := by decide +kernel
theorem dX3_meet_119 : decode cX3_meet 119 = .ok (.bipush (-6), 2) := by decide +kernel
theorem dX3_meet_121 : decode cX3_meet 121 = .ok (.ireturn, 1) := by decide +kernel
theorem dX3_leastEkman_0 : decode cX3_leastEkman 0 = .ok (.iload_n 1, 1) := by decide +kernel
theorem dX3_leastEkman_1 : decode cX3_leastEkman 1 = .ok (.invokestatic 117, 3) := by decide +kernel
theorem dX3_leastEkman_4 : decode cX3_leastEkman 4 = .ok (.ifCond .ne 5, 3) := by decide +kernel
theorem dX3_leastEkman_7 : decode cX3_leastEkman 7 = .ok (.iconst (-1), 1) := by decide +kernel
theorem dX3_leastEkman_8 : decode cX3_leastEkman 8 = .ok (.ireturn, 1) := by decide +kernel
theorem dX3_leastEkman_9 : decode cX3_leastEkman 9 = .ok (.iload_n 2, 1) := by decide +kernel
theorem dX3_leastEkman_10 : decode cX3_leastEkman 10 = .ok (.iconst 0, 1) := by decide +kernel
theorem dX3_leastEkman_11 : decode cX3_leastEkman 11 = .ok (.sipush 11000, 3) := by decide +kernel
theorem dX3_leastEkman_14 : decode cX3_leastEkman 14 = .ok (.invokestatic 34, 3) := by decide +kernel
theorem dX3_leastEkman_17 : decode cX3_leastEkman 17 = .ok (.ifCond .eq 13, 3) := by decide +kernel
theorem dX3_leastEkman_20 : decode cX3_leastEkman 20 = .ok (.iload_n 3, 1) := by decide +kernel
theorem dX3_leastEkman_21 : decode cX3_leastEkman 21 = .ok (.iconst 1, 1) := by decide +kernel
theorem dX3_leastEkman_22 : decode cX3_leastEkman 22 = .ok (.bipush 50, 2) := by decide +kernel
theorem dX3_leastEkman_24 : decode cX3_leastEkman 24 = .ok (.invokestatic 34, 3) := by decide +kernel
theorem dX3_leastEkman_27 : decode cX3_leastEkman 27 = .ok (.ifCond .ne 6, 3) := by decide +kernel
theorem dX3_leastEkman_30 : decode cX3_leastEkman 30 = .ok (.bipush (-2), 2) := by decide +kernel
theorem dX3_leastEkman_32 : decode cX3_leastEkman 32 = .ok (.ireturn, 1) := by decide +kernel
theorem dX3_leastEkman_33 : decode cX3_leastEkman 33 = .ok (.aload_n 0, 1) := by decide +kernel
theorem dX3_leastEkman_34 : decode cX3_leastEkman 34 = .ok (.getfield 10, 3) := by decide +kernel
theorem dX3_leastEkman_37 : decode cX3_leastEkman 37 = .ok (.getfield 86, 3) := by decide +kernel
theorem dX3_leastEkman_40 : decode cX3_leastEkman 40 = .ok (.iload_n 1, 1) := by decide +kernel
theorem dX3_leastEkman_41 : decode cX3_leastEkman 41 = .ok (.iaload, 1) := by decide +kernel
theorem dX3_leastEkman_42 : decode cX3_leastEkman 42 = .ok (.ifCond .ne 6, 3) := by decide +kernel
theorem dX3_leastEkman_45 : decode cX3_leastEkman 45 = .ok (.bipush (-5), 2) := by decide +kernel
theorem dX3_leastEkman_47 : decode cX3_leastEkman 47 = .ok (.ireturn, 1) := by decide +kernel
theorem dX3_leastEkman_48 : decode cX3_leastEkman 48 = .ok (.iconst 0, 1) := by decide +kernel
theorem dX3_leastEkman_49 : decode cX3_leastEkman 49 = .ok (.istore 4, 2) := by decide +kernel
theorem dX3_leastEkman_51 : decode cX3_leastEkman 51 = .ok (.iload 4, 2) := by decide +kernel
theorem dX3_leastEkman_53 : decode cX3_leastEkman 53 = .ok (.getstatic 50, 3) := by decide +kernel
theorem dX3_leastEkman_56 : decode cX3_leastEkman 56 = .ok (.iconst 5, 1) := by decide +kernel
theorem dX3_leastEkman_57 : decode cX3_leastEkman 57 = .ok (.iaload, 1) := by decide +kernel
theorem dX3_leastEkman_58 : decode cX3_leastEkman 58 = .ok (.if_icmp .gt 26, 3) := by decide +kernel
theorem dX3_leastEkman_61 : decode cX3_leastEkman 61 = .ok (.aload_n 0, 1) := by decide +kernel
theorem dX3_leastEkman_62 : decode cX3_leastEkman 62 = .ok (.iload 4, 2) := by decide +kernel
theorem dX3_leastEkman_64 : decode cX3_leastEkman 64 = .ok (.iload_n 1, 1) := by decide +kernel
theorem dX3_leastEkman_65 : decode cX3_leastEkman 65 = .ok (.iload_n 3, 1) := by decide +kernel
theorem dX3_leastEkman_66 : decode cX3_leastEkman 66 = .ok (.invokevirtual 207, 3) := by decide +kernel
theorem dX3_leastEkman_69 : decode cX3_leastEkman 69 = .ok (.iload_n 2, 1) := by decide +kernel
theorem dX3_leastEkman_70 : decode cX3_leastEkman 70 = .ok (.i2l, 1) := by decide +kernel
theorem dX3_leastEkman_71 : decode cX3_leastEkman 71 = .ok (.lcmp, 1) := by decide +kernel
theorem dX3_leastEkman_72 : decode cX3_leastEkman 72 = .ok (.ifCond .gt 6, 3) := by decide +kernel
theorem dX3_leastEkman_75 : decode cX3_leastEkman 75 = .ok (.iload 4, 2) := by decide +kernel
theorem dX3_leastEkman_77 : decode cX3_leastEkman 77 = .ok (.ireturn, 1) := by decide +kernel
theorem dX3_leastEkman_78 : decode cX3_leastEkman 78 = .ok (.iinc 4 1, 3) := by decide +kernel
theorem dX3_leastEkman_81 : decode cX3_leastEkman 81 = .ok (.goto (-30), 3) := by decide +kernel
theorem dX3_leastEkman_84 : decode cX3_leastEkman 84 = .ok (.bipush (-6), 2) := by decide +kernel
theorem dX3_leastEkman_86 : decode cX3_leastEkman 86 = .ok (.ireturn, 1) := by decide +kernel
theorem dX3_placeWith_0 : decode cX3_placeWith 0 = .ok (.aload_n 0, 1) := by decide +kernel
theorem dX3_placeWith_1 : decode cX3_placeWith 1 = .ok (.getfield 16, 3) := by decide +kernel
theorem dX3_placeWith_4 : decode cX3_placeWith 4 = .ok (.aload_n 0, 1) := by decide +kernel
theorem dX3_placeWith_5 : decode cX3_placeWith 5 = .ok (.getfield 10, 3) := by decide +kernel
theorem dX3_placeWith_8 : decode cX3_placeWith 8 = .ok (.invokevirtual 185, 3) := by decide +kernel
theorem dX3_placeWith_11 : decode cX3_placeWith 11 = .ok (.aload_n 0, 1) := by decide +kernel
theorem dX3_placeWith_12 : decode cX3_placeWith 12 = .ok (.getfield 16, 3) := by decide +kernel
theorem dX3_placeWith_15 : decode cX3_placeWith 15 = .ok (.getfield 54, 3) := by decide +kernel
theorem dX3_placeWith_18 : decode cX3_placeWith 18 = .ok (.iconst 5, 1) := by decide +kernel
theorem dX3_placeWith_19 : decode cX3_placeWith 19 = .ok (.iload_n 1, 1) := by decide +kernel
theorem dX3_placeWith_20 : decode cX3_placeWith 20 = .ok (.iastore, 1) := by decide +kernel
theorem dX3_placeWith_21 : decode cX3_placeWith 21 = .ok (.iconst 0, 1) := by decide +kernel
theorem dX3_placeWith_22 : decode cX3_placeWith 22 = .ok (.istore 4, 2) := by decide +kernel
theorem dX3_placeWith_24 : decode cX3_placeWith 24 = .ok (.iload 4, 2) := by decide +kernel
theorem dX3_placeWith_26 : decode cX3_placeWith 26 = .ok (.iload_n 3, 1) := by decide +kernel
theorem dX3_placeWith_27 : decode cX3_placeWith 27 = .ok (.if_icmp .ge 24, 3) := by decide +kernel
theorem dX3_placeWith_30 : decode cX3_placeWith 30 = .ok (.aload_n 0, 1) := by decide +kernel
theorem dX3_placeWith_31 : decode cX3_placeWith 31 = .ok (.getfield 16, 3) := by decide +kernel
theorem dX3_placeWith_34 : decode cX3_placeWith 34 = .ok (.invokevirtual 192, 3) := by decide +kernel
theorem dX3_placeWith_37 : decode cX3_placeWith 37 = .ok (.aload_n 0, 1) := by decide +kernel
theorem dX3_placeWith_38 : decode cX3_placeWith 38 = .ok (.getfield 16, 3) := by decide +kernel
theorem dX3_placeWith_41 : decode cX3_placeWith 41 = .ok (.iload_n 2, 1) := by decide +kernel
theorem dX3_placeWith_42 : decode cX3_placeWith 42 = .ok (.invokevirtual 197, 3) := by decide +kernel
theorem dX3_placeWith_45 : decode cX3_placeWith 45 = .ok (.iinc 4 1, 3) := by decide +kernel
theorem dX3_placeWith_48 : decode cX3_placeWith 48 = .ok (.goto (-24), 3) := by decide +kernel
theorem dX3_placeWith_51 : decode cX3_placeWith 51 = .ok (.aload_n 0, 1) := by decide +kernel
theorem dX3_placeWith_52 : decode cX3_placeWith 52 = .ok (.getfield 16, 3) := by decide +kernel
theorem dX3_placeWith_55 : decode cX3_placeWith 55 = .ok (.iload_n 2, 1) := by decide +kernel
theorem dX3_placeWith_56 : decode cX3_placeWith 56 = .ok (.invokevirtual 131, 3) := by decide +kernel
theorem dX3_placeWith_59 : decode cX3_placeWith 59 = .ok (.lreturn, 1) := by decide +kernel
theorem dX3_say_0 : decode cX3_say 0 = .ok (.iload_n 1, 1) := by decide +kernel
theorem dX3_say_1 : decode cX3_say 1 = .ok (.bipush 33, 2) := by decide +kernel
theorem dX3_say_3 : decode cX3_say 3 = .ok (.bipush 126, 2) := by decide +kernel
theorem dX3_say_5 : decode cX3_say 5 = .ok (.invokestatic 34, 3) := by decide +kernel
theorem dX3_say_8 : decode cX3_say 8 = .ok (.ifCond .ne 6, 3) := by decide +kernel
theorem dX3_say_11 : decode cX3_say 11 = .ok (.bipush (-2), 2) := by decide +kernel
theorem dX3_say_13 : decode cX3_say 13 = .ok (.ireturn, 1) := by decide +kernel
theorem dX3_say_14 : decode cX3_say 14 = .ok (.aload_n 0, 1) := by decide +kernel
theorem dX3_say_15 : decode cX3_say 15 = .ok (.getfield 30, 3) := by decide +kernel
theorem dX3_say_18 : decode cX3_say 18 = .ok (.getfield 146, 3) := by decide +kernel
theorem dX3_say_21 : decode cX3_say 21 = .ok (.bipush 60, 2) := by decide +kernel
theorem dX3_say_23 : decode cX3_say 23 = .ok (.if_icmp .lt 6, 3) := by decide +kernel
theorem dX3_say_26 : decode cX3_say 26 = .ok (.bipush (-4), 2) := by decide +kernel
theorem dX3_say_28 : decode cX3_say 28 = .ok (.ireturn, 1) := by decide +kernel
theorem dX3_say_29 : decode cX3_say 29 = .ok (.aload_n 0, 1) := by decide +kernel
theorem dX3_say_30 : decode cX3_say 30 = .ok (.getfield 30, 3) := by decide +kernel
theorem dX3_say_33 : decode cX3_say 33 = .ok (.iload_n 1, 1) := by decide +kernel
theorem dX3_say_34 : decode cX3_say 34 = .ok (.i2c, 1) := by decide +kernel
theorem dX3_say_35 : decode cX3_say 35 = .ok (.invokevirtual 211, 3) := by decide +kernel
theorem dX3_say_38 : decode cX3_say 38 = .ok (.aload_n 0, 1) := by decide +kernel
theorem dX3_say_39 : decode cX3_say 39 = .ok (.getfield 30, 3) := by decide +kernel
theorem dX3_say_42 : decode cX3_say 42 = .ok (.getfield 146, 3) := by decide +kernel
theorem dX3_say_45 : decode cX3_say 45 = .ok (.ireturn, 1) := by decide +kernel
theorem dX3_wipe_0 : decode cX3_wipe 0 = .ok (.aload_n 0, 1) := by decide +kernel
theorem dX3_wipe_1 : decode cX3_wipe 1 = .ok (.getfield 30, 3) := by decide +kernel
theorem dX3_wipe_4 : decode cX3_wipe 4 = .ok (.getfield 146, 3) := by decide +kernel
theorem dX3_wipe_7 : decode cX3_wipe 7 = .ok (.istore_n 1, 1) := by decide +kernel
theorem dX3_wipe_8 : decode cX3_wipe 8 = .ok (.aload_n 0, 1) := by decide +kernel
theorem dX3_wipe_9 : decode cX3_wipe 9 = .ok (.getfield 30, 3) := by decide +kernel
theorem dX3_wipe_12 : decode cX3_wipe 12 = .ok (.iconst 0, 1) := by decide +kernel
theorem dX3_wipe_13 : decode cX3_wipe 13 = .ok (.putfield 146, 3) := by decide +kernel
theorem dX3_wipe_16 : decode cX3_wipe 16 = .ok (.iload_n 1, 1) := by decide +kernel
theorem dX3_wipe_17 : decode cX3_wipe 17 = .ok (.ireturn, 1) := by decide +kernel
theorem dX3_fault_0 : decode cX3_fault 0 = .ok (.aload_n 0, 1) := by decide +kernel
theorem dX3_fault_1 : decode cX3_fault 1 = .ok (.getfield 30, 3) := by decide +kernel
theorem dX3_fault_4 : decode cX3_fault 4 = .ok (.invokevirtual 215, 3) := by decide +kernel
theorem dX3_fault_7 : decode cX3_fault 7 = .ok (.ireturn, 1) := by decide +kernel
theorem dX3_carryOut_0 : decode cX3_carryOut 0 = .ok (.aload_n 0, 1) := by decide +kernel
theorem dX3_carryOut_1 : decode cX3_carryOut 1 = .ok (.getfield 30, 3) := by decide +kernel
theorem dX3_carryOut_4 : decode cX3_carryOut 4 = .ok (.invokevirtual 215, 3) := by decide +kernel
theorem dX3_carryOut_7 : decode cX3_carryOut 7 = .ok (.bipush (-6), 2) := by decide +kernel
theorem dX3_carryOut_9 : decode cX3_carryOut 9 = .ok (.if_icmp .eq 6, 3) := by decide +kernel
theorem dX3_carryOut_12 : decode cX3_carryOut 12 = .ok (.bipush (-3), 2) := by decide +kernel
theorem dX3_carryOut_14 : decode cX3_carryOut 14 = .ok (.ireturn, 1) := by decide +kernel
theorem dX3_carryOut_15 : decode cX3_carryOut 15 = .ok (.iconst 0, 1) := by decide +kernel
theorem dX3_carryOut_16 : decode cX3_carryOut 16 = .ok (.istore_n 1, 1) := by decide +kernel
theorem dX3_carryOut_17 : decode cX3_carryOut 17 = .ok (.aload_n 0, 1) := by decide +kernel
theorem dX3_carryOut_18 : decode cX3_carryOut 18 = .ok (.getfield 30, 3) := by decide +kernel
theorem dX3_carryOut_21 : decode cX3_carryOut 21 = .ok (.iconst 0, 1) := by decide +kernel
theorem dX3_carryOut_22 : decode cX3_carryOut 22 = .ok (.putfield 218, 3) := by decide +kernel
theorem dX3_carryOut_25 : decode cX3_carryOut 25 = .ok (.iconst 0, 1) := by decide +kernel
theorem dX3_carryOut_26 : decode cX3_carryOut 26 = .ok (.istore_n 2, 1) := by decide +kernel
theorem dX3_carryOut_27 : decode cX3_carryOut 27 = .ok (.iload_n 2, 1) := by decide +kernel
theorem dX3_carryOut_28 : decode cX3_carryOut 28 = .ok (.bipush 60, 2) := by decide +kernel
theorem dX3_carryOut_30 : decode cX3_carryOut 30 = .ok (.if_icmp .ge 47, 3) := by decide +kernel
theorem dX3_carryOut_33 : decode cX3_carryOut 33 = .ok (.aload_n 0, 1) := by decide +kernel
theorem dX3_carryOut_34 : decode cX3_carryOut 34 = .ok (.getfield 30, 3) := by decide +kernel
theorem dX3_carryOut_37 : decode cX3_carryOut 37 = .ok (.invokevirtual 221, 3) := by decide +kernel
theorem dX3_carryOut_40 : decode cX3_carryOut 40 = .ok (.ifCond .eq 37, 3) := by decide +kernel
theorem dX3_carryOut_43 : decode cX3_carryOut 43 = .ok (.aload_n 0, 1) := by decide +kernel
theorem dX3_carryOut_44 : decode cX3_carryOut 44 = .ok (.invokevirtual 225, 3) := by decide +kernel
theorem dX3_carryOut_47 : decode cX3_carryOut 47 = .ok (.ifCond .ne 6, 3) := by decide +kernel
theorem dX3_carryOut_50 : decode cX3_carryOut 50 = .ok (.goto 27, 3) := by decide +kernel
theorem dX3_carryOut_53 : decode cX3_carryOut 53 = .ok (.iinc 1 1, 3) := by decide +kernel
theorem dX3_carryOut_56 : decode cX3_carryOut 56 = .ok (.aload_n 0, 1) := by decide +kernel
theorem dX3_carryOut_57 : decode cX3_carryOut 57 = .ok (.getfield 30, 3) := by decide +kernel
theorem dX3_carryOut_60 : decode cX3_carryOut 60 = .ok (.bipush 44, 2) := by decide +kernel
theorem dX3_carryOut_62 : decode cX3_carryOut 62 = .ok (.invokevirtual 228, 3) := by decide +kernel
theorem dX3_carryOut_65 : decode cX3_carryOut 65 = .ok (.ifCond .ne 6, 3) := by decide +kernel
theorem dX3_carryOut_68 : decode cX3_carryOut 68 = .ok (.goto 9, 3) := by decide +kernel
theorem dX3_carryOut_71 : decode cX3_carryOut 71 = .ok (.iinc 2 1, 3) := by decide +kernel
theorem dX3_carryOut_74 : decode cX3_carryOut 74 = .ok (.goto (-47), 3) := by decide +kernel
theorem dX3_carryOut_77 : decode cX3_carryOut 77 = .ok (.aload_n 0, 1) := by decide +kernel
theorem dX3_carryOut_78 : decode cX3_carryOut 78 = .ok (.getfield 30, 3) := by decide +kernel
theorem dX3_carryOut_81 : decode cX3_carryOut 81 = .ok (.iconst 0, 1) := by decide +kernel
theorem dX3_carryOut_82 : decode cX3_carryOut 82 = .ok (.putfield 146, 3) := by decide +kernel
theorem dX3_carryOut_85 : decode cX3_carryOut 85 = .ok (.iload_n 1, 1) := by decide +kernel
theorem dX3_carryOut_86 : decode cX3_carryOut 86 = .ok (.ireturn, 1) := by decide +kernel
theorem dX3_carriedOut_0 : decode cX3_carriedOut 0 = .ok (.aload_n 0, 1) := by decide +kernel
theorem dX3_carriedOut_1 : decode cX3_carriedOut 1 = .ok (.getfield 30, 3) := by decide +kernel
theorem dX3_carriedOut_4 : decode cX3_carriedOut 4 = .ok (.getfield 232, 3) := by decide +kernel
theorem dX3_carriedOut_7 : decode cX3_carriedOut 7 = .ok (.bipush 116, 2) := by decide +kernel
theorem dX3_carriedOut_9 : decode cX3_carriedOut 9 = .ok (.if_icmp .ne 23, 3) := by decide +kernel
theorem dX3_carriedOut_12 : decode cX3_carriedOut 12 = .ok (.aload_n 0, 1) := by decide +kernel
theorem dX3_carriedOut_13 : decode cX3_carriedOut 13 = .ok (.aload_n 0, 1) := by decide +kernel
theorem dX3_carriedOut_14 : decode cX3_carriedOut 14 = .ok (.getfield 30, 3) := by decide +kernel
theorem dX3_carriedOut_17 : decode cX3_carriedOut 17 = .ok (.getfield 236, 3) := by decide +kernel
theorem dX3_carriedOut_20 : decode cX3_carriedOut 20 = .ok (.invokevirtual 239, 3) := by decide +kernel
theorem dX3_carriedOut_23 : decode cX3_carriedOut 23 = .ok (.ifCond .lt 7, 3) := by decide +kernel
theorem dX3_carriedOut_26 : decode cX3_carriedOut 26 = .ok (.iconst 1, 1) := by decide +kernel
theorem dX3_carriedOut_27 : decode cX3_carriedOut 27 = .ok (.goto 4, 3) := by decide +kernel
theorem dX3_carriedOut_30 : decode cX3_carriedOut 30 = .ok (.iconst 0, 1) := by decide +kernel
theorem dX3_carriedOut_31 : decode cX3_carriedOut 31 = .ok (.ireturn, 1) := by decide +kernel
theorem dX3_carriedOut_32 : decode cX3_carriedOut 32 = .ok (.aload_n 0, 1) := by decide +kernel
theorem dX3_carriedOut_33 : decode cX3_carriedOut 33 = .ok (.getfield 30, 3) := by decide +kernel
theorem dX3_carriedOut_36 : decode cX3_carriedOut 36 = .ok (.getfield 232, 3) := by decide +kernel
theorem dX3_carriedOut_39 : decode cX3_carriedOut 39 = .ok (.bipush 118, 2) := by decide +kernel
theorem dX3_carriedOut_41 : decode cX3_carriedOut 41 = .ok (.if_icmp .ne 32, 3) := by decide +kernel
theorem dX3_carriedOut_44 : decode cX3_carriedOut 44 = .ok (.aload_n 0, 1) := by decide +kernel
theorem dX3_carriedOut_45 : decode cX3_carriedOut 45 = .ok (.aload_n 0, 1) := by decide +kernel
theorem dX3_carriedOut_46 : decode cX3_carriedOut 46 = .ok (.getfield 30, 3) := by decide +kernel
theorem dX3_carriedOut_49 : decode cX3_carriedOut 49 = .ok (.getfield 242, 3) := by decide +kernel
theorem dX3_carriedOut_52 : decode cX3_carriedOut 52 = .ok (.aload_n 0, 1) := by decide +kernel
theorem dX3_carriedOut_53 : decode cX3_carriedOut 53 = .ok (.getfield 30, 3) := by decide +kernel
theorem dX3_carriedOut_56 : decode cX3_carriedOut 56 = .ok (.getfield 236, 3) := by decide +kernel
theorem dX3_carriedOut_59 : decode cX3_carriedOut 59 = .ok (.invokevirtual 245, 3) := by decide +kernel
theorem dX3_carriedOut_62 : decode cX3_carriedOut 62 = .ok (.ldc 248, 2) := by decide +kernel
theorem dX3_carriedOut_64 : decode cX3_carriedOut 64 = .ok (.if_icmp .le 7, 3) := by decide +kernel
theorem dX3_carriedOut_67 : decode cX3_carriedOut 67 = .ok (.iconst 1, 1) := by decide +kernel
theorem dX3_carriedOut_68 : decode cX3_carriedOut 68 = .ok (.goto 4, 3) := by decide +kernel
theorem dX3_carriedOut_71 : decode cX3_carriedOut 71 = .ok (.iconst 0, 1) := by decide +kernel
theorem dX3_carriedOut_72 : decode cX3_carriedOut 72 = .ok (.ireturn, 1) := by decide +kernel
theorem dX3_carriedOut_73 : decode cX3_carriedOut 73 = .ok (.aload_n 0, 1) := by decide +kernel
theorem dX3_carriedOut_74 : decode cX3_carriedOut 74 = .ok (.aload_n 0, 1) := by decide +kernel
theorem dX3_carriedOut_75 : decode cX3_carriedOut 75 = .ok (.getfield 30, 3) := by decide +kernel
theorem dX3_carriedOut_78 : decode cX3_carriedOut 78 = .ok (.getfield 249, 3) := by decide +kernel
theorem dX3_carriedOut_81 : decode cX3_carriedOut 81 = .ok (.aload_n 0, 1) := by decide +kernel
theorem dX3_carriedOut_82 : decode cX3_carriedOut 82 = .ok (.getfield 30, 3) := by decide +kernel
theorem dX3_carriedOut_85 : decode cX3_carriedOut 85 = .ok (.getfield 252, 3) := by decide +kernel
theorem dX3_carriedOut_88 : decode cX3_carriedOut 88 = .ok (.aload_n 0, 1) := by decide +kernel
theorem dX3_carriedOut_89 : decode cX3_carriedOut 89 = .ok (.getfield 30, 3) := by decide +kernel
theorem dX3_carriedOut_92 : decode cX3_carriedOut 92 = .ok (.getfield 242, 3) := by decide +kernel
theorem dX3_carriedOut_95 : decode cX3_carriedOut 95 = .ok (.aload_n 0, 1) := by decide +kernel
theorem dX3_carriedOut_96 : decode cX3_carriedOut 96 = .ok (.getfield 30, 3) := by decide +kernel
theorem dX3_carriedOut_99 : decode cX3_carriedOut 99 = .ok (.getfield 255, 3) := by decide +kernel
theorem dX3_carriedOut_102 : decode cX3_carriedOut 102 = .ok (.aload_n 0, 1) := by decide +kernel
theorem dX3_carriedOut_103 : decode cX3_carriedOut 103 = .ok (.getfield 30, 3) := by decide +kernel
theorem dX3_carriedOut_106 : decode cX3_carriedOut 106 = .ok (.getfield 236, 3) := by decide +kernel
theorem dX3_carriedOut_109 : decode cX3_carriedOut 109 = .ok (.invokevirtual 258, 3) := by decide +kernel
theorem dX3_carriedOut_112 : decode cX3_carriedOut 112 = .ok (.ifCond .lt 7, 3) := by decide +kernel
theorem dX3_carriedOut_115 : decode cX3_carriedOut 115 = .ok (.iconst 1, 1) := by decide +kernel
theorem dX3_carriedOut_116 : decode cX3_carriedOut 116 = .ok (.goto 4, 3) := by decide +kernel
theorem dX3_carriedOut_119 : decode cX3_carriedOut 119 = .ok (.iconst 0, 1) := by decide +kernel
theorem dX3_carriedOut_120 : decode cX3_carriedOut 120 = .ok (.ireturn, 1) := by decide +kernel
theorem dX3_save_0 : decode cX3_save 0 = .ok (.iload_n 1, 1) := by decide +kernel
theorem dX3_save_1 : decode cX3_save 1 = .ok (.iconst 0, 1) := by decide +kernel
theorem dX3_save_2 : decode cX3_save 2 = .ok (.iconst 1, 1) := by decide +kernel
theorem dX3_save_3 : decode cX3_save 3 = .ok (.invokestatic 34, 3) := by decide +kernel
theorem dX3_save_6 : decode cX3_save 6 = .ok (.ifCond .ne 6, 3) := by decide +kernel
theorem dX3_save_9 : decode cX3_save 9 = .ok (.bipush (-2), 2) := by decide +kernel
theorem dX3_save_11 : decode cX3_save 11 = .ok (.ireturn, 1) := by decide +kernel
theorem dX3_save_12 : decode cX3_save 12 = .ok (.aload_n 0, 1) := by decide +kernel
theorem dX3_save_13 : decode cX3_save 13 = .ok (.getfield 19, 3) := by decide +kernel
theorem dX3_save_16 : decode cX3_save 16 = .ok (.iload_n 1, 1) := by decide +kernel
theorem dX3_save_17 : decode cX3_save 17 = .ok (.aaload, 1) := by decide +kernel
theorem dX3_save_18 : decode cX3_save 18 = .ok (.aload_n 0, 1) := by decide +kernel
theorem dX3_save_19 : decode cX3_save 19 = .ok (.getfield 10, 3) := by decide +kernel
theorem dX3_save_22 : decode cX3_save 22 = .ok (.invokevirtual 185, 3) := by decide +kernel
theorem dX3_save_25 : decode cX3_save 25 = .ok (.aload_n 0, 1) := by decide +kernel
theorem dX3_save_26 : decode cX3_save 26 = .ok (.getfield 23, 3) := by decide +kernel
theorem dX3_save_29 : decode cX3_save 29 = .ok (.iload_n 1, 1) := by decide +kernel
theorem dX3_save_30 : decode cX3_save 30 = .ok (.iconst 1, 1) := by decide +kernel
theorem dX3_save_31 : decode cX3_save 31 = .ok (.bastore, 1) := by decide +kernel
theorem dX3_save_32 : decode cX3_save 32 = .ok (.aload_n 0, 1) := by decide +kernel
theorem dX3_save_33 : decode cX3_save 33 = .ok (.getfield 10, 3) := by decide +kernel
theorem dX3_save_36 : decode cX3_save 36 = .ok (.getfield 98, 3) := by decide +kernel
theorem dX3_save_39 : decode cX3_save 39 = .ok (.ireturn, 1) := by decide +kernel
theorem dX3_restore_0 : decode cX3_restore 0 = .ok (.iload_n 1, 1) := by decide +kernel
theorem dX3_restore_1 : decode cX3_restore 1 = .ok (.iconst 0, 1) := by decide +kernel
theorem dX3_restore_2 : decode cX3_restore 2 = .ok (.iconst 1, 1) := by decide +kernel
theorem dX3_restore_3 : decode cX3_restore 3 = .ok (.invokestatic 34, 3) := by decide +kernel
theorem dX3_restore_6 : decode cX3_restore 6 = .ok (.ifCond .ne 6, 3) := by decide +kernel
theorem dX3_restore_9 : decode cX3_restore 9 = .ok (.bipush (-2), 2) := by decide +kernel
theorem dX3_restore_11 : decode cX3_restore 11 = .ok (.ireturn, 1) := by decide +kernel
theorem dX3_restore_12 : decode cX3_restore 12 = .ok (.aload_n 0, 1) := by decide +kernel
theorem dX3_restore_13 : decode cX3_restore 13 = .ok (.getfield 23, 3) := by decide +kernel
theorem dX3_restore_16 : decode cX3_restore 16 = .ok (.iload_n 1, 1) := by decide +kernel
theorem dX3_restore_17 : decode cX3_restore 17 = .ok (.baload, 1) := by decide +kernel
theorem dX3_restore_18 : decode cX3_restore 18 = .ok (.ifCond .ne 6, 3) := by decide +kernel
theorem dX3_restore_21 : decode cX3_restore 21 = .ok (.bipush (-5), 2) := by decide +kernel
theorem dX3_restore_23 : decode cX3_restore 23 = .ok (.ireturn, 1) := by decide +kernel
theorem dX3_restore_24 : decode cX3_restore 24 = .ok (.aload_n 0, 1) := by decide +kernel
theorem dX3_restore_25 : decode cX3_restore 25 = .ok (.getfield 10, 3) := by decide +kernel
theorem dX3_restore_28 : decode cX3_restore 28 = .ok (.aload_n 0, 1) := by decide +kernel
theorem dX3_restore_29 : decode cX3_restore 29 = .ok (.getfield 19, 3) := by decide +kernel
theorem dX3_restore_32 : decode cX3_restore 32 = .ok (.iload_n 1, 1) := by decide +kernel
theorem dX3_restore_33 : decode cX3_restore 33 = .ok (.aaload, 1) := by decide +kernel
theorem dX3_restore_34 : decode cX3_restore 34 = .ok (.invokevirtual 185, 3) := by decide +kernel
theorem dX3_restore_37 : decode cX3_restore 37 = .ok (.aload_n 0, 1) := by decide +kernel
theorem dX3_restore_38 : decode cX3_restore 38 = .ok (.getfield 10, 3) := by decide +kernel
theorem dX3_restore_41 : decode cX3_restore 41 = .ok (.getfield 98, 3) := by decide +kernel
theorem dX3_restore_44 : decode cX3_restore 44 = .ok (.ireturn, 1) := by decide +kernel
theorem dX3_isPlaceOfDye_0 : decode cX3_isPlaceOfDye 0 = .ok (.iload_n 1, 1) := by decide +kernel
theorem dX3_isPlaceOfDye_1 : decode cX3_isPlaceOfDye 1 = .ok (.invokestatic 117, 3) := by decide +kernel
theorem dX3_isPlaceOfDye_4 : decode cX3_isPlaceOfDye 4 = .ok (.ifCond .eq 38, 3) := by decide +kernel
theorem dX3_isPlaceOfDye_7 : decode cX3_isPlaceOfDye 7 = .ok (.iload_n 2, 1) := by decide +kernel
theorem dX3_isPlaceOfDye_8 : decode cX3_isPlaceOfDye 8 = .ok (.iconst 0, 1) := by decide +kernel
theorem dX3_isPlaceOfDye_9 : decode cX3_isPlaceOfDye 9 = .ok (.iconst 1, 1) := by decide +kernel
theorem dX3_isPlaceOfDye_10 : decode cX3_isPlaceOfDye 10 = .ok (.invokestatic 34, 3) := by decide +kernel
theorem dX3_isPlaceOfDye_13 : decode cX3_isPlaceOfDye 13 = .ok (.ifCond .eq 29, 3) := by decide +kernel
theorem dX3_isPlaceOfDye_16 : decode cX3_isPlaceOfDye 16 = .ok (.aload_n 0, 1) := by decide +kernel
theorem dX3_isPlaceOfDye_17 : decode cX3_isPlaceOfDye 17 = .ok (.getfield 10, 3) := by decide +kernel
theorem dX3_isPlaceOfDye_20 : decode cX3_isPlaceOfDye 20 = .ok (.iload_n 3, 1) := by decide +kernel
theorem dX3_isPlaceOfDye_21 : decode cX3_isPlaceOfDye 21 = .ok (.invokevirtual 57, 3) := by decide +kernel
theorem dX3_isPlaceOfDye_24 : decode cX3_isPlaceOfDye 24 = .ok (.ifCond .eq 18, 3) := by decide +kernel
theorem dX3_isPlaceOfDye_27 : decode cX3_isPlaceOfDye 27 = .ok (.iload 4, 2) := by decide +kernel
theorem dX3_isPlaceOfDye_29 : decode cX3_isPlaceOfDye 29 = .ok (.iconst 0, 1) := by decide +kernel
theorem dX3_isPlaceOfDye_30 : decode cX3_isPlaceOfDye 30 = .ok (.bipush 23, 2) := by decide +kernel
theorem dX3_isPlaceOfDye_32 : decode cX3_isPlaceOfDye 32 = .ok (.invokestatic 34, 3) := by decide +kernel
theorem dX3_isPlaceOfDye_35 : decode cX3_isPlaceOfDye 35 = .ok (.ifCond .eq 7, 3) := by decide +kernel
theorem dX3_isPlaceOfDye_38 : decode cX3_isPlaceOfDye 38 = .ok (.iconst 1, 1) := by decide +kernel
theorem dX3_isPlaceOfDye_39 : decode cX3_isPlaceOfDye 39 = .ok (.goto 4, 3) := by decide +kernel
theorem dX3_isPlaceOfDye_42 : decode cX3_isPlaceOfDye 42 = .ok (.iconst 0, 1) := by decide +kernel
theorem dX3_isPlaceOfDye_43 : decode cX3_isPlaceOfDye 43 = .ok (.ireturn, 1) := by decide +kernel
theorem dX3_isColour_0 : decode cX3_isColour 0 = .ok (.iload_n 0, 1) := by decide +kernel
theorem dX3_isColour_1 : decode cX3_isColour 1 = .ok (.iconst 0, 1) := by decide +kernel
theorem dX3_isColour_2 : decode cX3_isColour 2 = .ok (.iconst 2, 1) := by decide +kernel
theorem dX3_isColour_3 : decode cX3_isColour 3 = .ok (.invokestatic 34, 3) := by decide +kernel
theorem dX3_isColour_6 : decode cX3_isColour 6 = .ok (.ireturn, 1) := by decide +kernel
theorem dX3_isSpeed_0 : decode cX3_isSpeed 0 = .ok (.iload_n 0, 1) := by decide +kernel
theorem dX3_isSpeed_1 : decode cX3_isSpeed 1 = .ok (.sipush (-1500), 3) := by decide +kernel
theorem dX3_isSpeed_4 : decode cX3_isSpeed 4 = .ok (.sipush 1500, 3) := by decide +kernel
theorem dX3_isSpeed_7 : decode cX3_isSpeed 7 = .ok (.invokestatic 34, 3) := by decide +kernel
theorem dX3_isSpeed_10 : decode cX3_isSpeed 10 = .ok (.ireturn, 1) := by decide +kernel
theorem dX3_within_0 : decode cX3_within 0 = .ok (.iload_n 0, 1) := by decide +kernel
theorem dX3_within_1 : decode cX3_within 1 = .ok (.iload_n 1, 1) := by decide +kernel
theorem dX3_within_2 : decode cX3_within 2 = .ok (.if_icmp .lt 12, 3) := by decide +kernel
theorem dX3_within_5 : decode cX3_within 5 = .ok (.iload_n 0, 1) := by decide +kernel
theorem dX3_within_6 : decode cX3_within 6 = .ok (.iload_n 2, 1) := by decide +kernel
theorem dX3_within_7 : decode cX3_within 7 = .ok (.if_icmp .gt 7, 3) := by decide +kernel
theorem dX3_within_10 : decode cX3_within 10 = .ok (.iconst 1, 1) := by decide +kernel
theorem dX3_within_11 : decode cX3_within 11 = .ok (.goto 4, 3) := by decide +kernel
theorem dX3_within_14 : decode cX3_within 14 = .ok (.iconst 0, 1) := by decide +kernel
theorem dX3_within_15 : decode cX3_within 15 = .ok (.ireturn, 1) := by decide +kernel
theorem dX4_init_0 : decode cX4_init 0 = .ok (.aload_n 0, 1) := by decide +kernel
theorem dX4_init_1 : decode cX4_init 1 = .ok (.invokespecial 1, 3) := by decide +kernel
theorem dX4_init_4 : decode cX4_init 4 = .ok (.aload_n 0, 1) := by decide +kernel
theorem dX4_init_5 : decode cX4_init 5 = .ok (.sipush 2386, 3) := by decide +kernel
theorem dX4_init_8 : decode cX4_init 8 = .ok (.newarray .int, 2) := by decide +kernel
theorem dX4_init_10 : decode cX4_init 10 = .ok (.putfield 7, 3) := by decide +kernel
theorem dX4_init_13 : decode cX4_init 13 = .ok (.aload_n 0, 1) := by decide +kernel
theorem dX4_init_14 : decode cX4_init 14 = .ok (.sipush 2386, 3) := by decide +kernel
theorem dX4_init_17 : decode cX4_init 17 = .ok (.newarray .int, 2) := by decide +kernel
theorem dX4_init_19 : decode cX4_init 19 = .ok (.putfield 13, 3) := by decide +kernel
theorem dX4_init_22 : decode cX4_init 22 = .ok (.aload_n 0, 1) := by decide +kernel
theorem dX4_init_23 : decode cX4_init 23 = .ok (.sipush 4772, 3) := by decide +kernel
theorem dX4_init_26 : decode cX4_init 26 = .ok (.newarray .int, 2) := by decide +kernel
theorem dX4_init_28 : decode cX4_init 28 = .ok (.putfield 16, 3) := by decide +kernel
theorem dX4_init_31 : decode cX4_init 31 = .ok (.aload_n 0, 1) := by decide +kernel
theorem dX4_init_32 : decode cX4_init 32 = .ok (.iconst 2, 1) := by decide +kernel
theorem dX4_init_33 : decode cX4_init 33 = .ok (.newarray .boolean, 2) := by decide +kernel
theorem dX4_init_35 : decode cX4_init 35 = .ok (.putfield 19, 3) := by decide +kernel
theorem dX4_init_38 : decode cX4_init 38 = .ok (.aload_n 0, 1) := by decide +kernel
theorem dX4_init_39 : decode cX4_init 39 = .ok (.sipush 1728, 3) := by decide +kernel
theorem dX4_init_42 : decode cX4_init 42 = .ok (.newarray .int, 2) := by decide +kernel
theorem dX4_init_44 : decode cX4_init 44 = .ok (.putfield 23, 3) := by decide +kernel
theorem dX4_init_47 : decode cX4_init 47 = .ok (.aload_n 0, 1) := by decide +kernel
theorem dX4_init_48 : decode cX4_init 48 = .ok (.bipush 12, 2) := by decide +kernel
theorem dX4_init_50 : decode cX4_init 50 = .ok (.newarray .int, 2) := by decide +kernel
theorem dX4_init_52 : decode cX4_init 52 = .ok (.putfield 26, 3) := by decide +kernel
theorem dX4_init_55 : decode cX4_init 55 = .ok (.aload_n 0, 1) := by decide +kernel
theorem dX4_init_56 : decode cX4_init 56 = .ok (.bipush 60, 2) := by decide +kernel
theorem dX4_init_58 : decode cX4_init 58 = .ok (.newarray .int, 2) := by decide +kernel
theorem dX4_init_60 : decode cX4_init 60 = .ok (.putfield 29, 3) := by decide +kernel
theorem dX4_init_63 : decode cX4_init 63 = .ok (.aload_n 0, 1) := by decide +kernel
theorem dX4_init_64 : decode cX4_init 64 = .ok (.sipush 192, 3) := by decide +kernel
theorem dX4_init_67 : decode cX4_init 67 = .ok (.newarray .int, 2) := by decide +kernel
theorem dX4_init_69 : decode cX4_init 69 = .ok (.putfield 32, 3) := by decide +kernel
theorem dX4_init_72 : decode cX4_init 72 = .ok (.aload_n 0, 1) := by decide +kernel
theorem dX4_init_73 : decode cX4_init 73 = .ok (.bipush 6, 2) := by decide +kernel
theorem dX4_init_75 : decode cX4_init 75 = .ok (.invokevirtual 35, 3) := by decide +kernel
theorem dX4_init_78 : decode cX4_init 78 = .ok (.return_, 1) := by decide +kernel
theorem dX4_in_0 : decode cX4_in 0 = .ok (.iload_n 0, 1) := by decide +kernel
theorem dX4_in_1 : decode cX4_in 1 = .ok (.iload_n 1, 1) := by decide +kernel
theorem dX4_in_2 : decode cX4_in 2 = .ok (.if_icmp .lt 12, 3) := by decide +kernel
theorem dX4_in_5 : decode cX4_in 5 = .ok (.iload_n 0, 1) := by decide +kernel
theorem dX4_in_6 : decode cX4_in 6 = .ok (.iload_n 2, 1) := by decide +kernel
theorem dX4_in_7 : decode cX4_in 7 = .ok (.if_icmp .gt 7, 3) := by decide +kernel
theorem dX4_in_10 : decode cX4_in 10 = .ok (.iconst 1, 1) := by decide +kernel
theorem dX4_in_11 : decode cX4_in 11 = .ok (.goto 4, 3) := by decide +kernel
theorem dX4_in_14 : decode cX4_in 14 = .ok (.iconst 0, 1) := by decide +kernel
theorem dX4_in_15 : decode cX4_in 15 = .ok (.ireturn, 1) := by decide +kernel
theorem dX4_down_0 : decode cX4_down 0 = .ok (.iload_n 0, 1) := by decide +kernel
theorem dX4_down_1 : decode cX4_down 1 = .ok (.iload_n 1, 1) := by decide +kernel
theorem dX4_down_2 : decode cX4_down 2 = .ok (.idiv, 1) := by decide +kernel
theorem dX4_down_3 : decode cX4_down 3 = .ok (.iload_n 0, 1) := by decide +kernel
theorem dX4_down_4 : decode cX4_down 4 = .ok (.iload_n 1, 1) := by decide +kernel
theorem dX4_down_5 : decode cX4_down 5 = .ok (.irem, 1) := by decide +kernel
theorem dX4_down_6 : decode cX4_down 6 = .ok (.ifCond .ge 7, 3) := by decide +kernel
theorem dX4_down_9 : decode cX4_down 9 = .ok (.iconst 1, 1) := by decide +kernel
theorem dX4_down_10 : decode cX4_down 10 = .ok (.goto 4, 3) := by decide +kernel
theorem dX4_down_13 : decode cX4_down 13 = .ok (.iconst 0, 1) := by decide +kernel
theorem dX4_down_14 : decode cX4_down 14 = .ok (.isub, 1) := by decide +kernel
theorem dX4_down_15 : decode cX4_down 15 = .ok (.ireturn, 1) := by decide +kernel
theorem dX4_mod_0 : decode cX4_mod 0 = .ok (.iload_n 0, 1) := by decide +kernel
theorem dX4_mod_1 : decode cX4_mod 1 = .ok (.iload_n 1, 1) := by decide +kernel
theorem dX4_mod_2 : decode cX4_mod 2 = .ok (.irem, 1) := by decide +kernel
theorem dX4_mod_3 : decode cX4_mod 3 = .ok (.istore_n 2, 1) := by decide +kernel
theorem dX4_mod_4 : decode cX4_mod 4 = .ok (.iload_n 2, 1) := by decide +kernel
theorem dX4_mod_5 : decode cX4_mod 5 = .ok (.ifCond .ge 9, 3) := by decide +kernel
theorem dX4_mod_8 : decode cX4_mod 8 = .ok (.iload_n 2, 1) := by decide +kernel
theorem dX4_mod_9 : decode cX4_mod 9 = .ok (.iload_n 1, 1) := by decide +kernel
theorem dX4_mod_10 : decode cX4_mod 10 = .ok (.iadd, 1) := by decide +kernel
theorem dX4_mod_11 : decode cX4_mod 11 = .ok (.goto 4, 3) := by decide +kernel
theorem dX4_mod_14 : decode cX4_mod 14 = .ok (.iload_n 2, 1) := by decide +kernel
theorem dX4_mod_15 : decode cX4_mod 15 = .ok (.ireturn, 1) := by decide +kernel
theorem dX4_begin_0 : decode cX4_begin 0 = .ok (.iconst 0, 1) := by decide +kernel
theorem dX4_begin_1 : decode cX4_begin 1 = .ok (.istore_n 2, 1) := by decide +kernel
theorem dX4_begin_2 : decode cX4_begin 2 = .ok (.iload_n 2, 1) := by decide +kernel
theorem dX4_begin_3 : decode cX4_begin 3 = .ok (.sipush 2386, 3) := by decide +kernel
theorem dX4_begin_6 : decode cX4_begin 6 = .ok (.if_icmp .ge 16, 3) := by decide +kernel
theorem dX4_begin_9 : decode cX4_begin 9 = .ok (.aload_n 0, 1) := by decide +kernel
theorem dX4_begin_10 : decode cX4_begin 10 = .ok (.getfield 7, 3) := by decide +kernel
theorem dX4_begin_13 : decode cX4_begin 13 = .ok (.iload_n 2, 1) := by decide +kernel
theorem dX4_begin_14 : decode cX4_begin 14 = .ok (.iconst 0, 1) := by decide +kernel
theorem dX4_begin_15 : decode cX4_begin 15 = .ok (.iastore, 1) := by decide +kernel
theorem dX4_begin_16 : decode cX4_begin 16 = .ok (.iinc 2 1, 3) := by decide +kernel
theorem dX4_begin_19 : decode cX4_begin 19 = .ok (.goto (-17), 3) := by decide +kernel
theorem dX4_begin_22 : decode cX4_begin 22 = .ok (.aload_n 0, 1) := by decide +kernel
theorem dX4_begin_23 : decode cX4_begin 23 = .ok (.getfield 7, 3) := by decide +kernel
theorem dX4_begin_26 : decode cX4_begin 26 = .ok (.iconst 0, 1) := by decide +kernel
theorem dX4_begin_27 : decode cX4_begin 27 = .ok (.iload_n 1, 1) := by decide +kernel
theorem dX4_begin_28 : decode cX4_begin 28 = .ok (.iastore, 1) := by decide +kernel
theorem dX4_begin_29 : decode cX4_begin 29 = .ok (.aload_n 0, 1) := by decide +kernel
theorem dX4_begin_30 : decode cX4_begin 30 = .ok (.getfield 7, 3) := by decide +kernel
theorem dX4_begin_33 : decode cX4_begin 33 = .ok (.iconst 2, 1) := by decide +kernel
theorem dX4_begin_34 : decode cX4_begin 34 = .ok (.bipush 20, 2) := by decide +kernel
theorem dX4_begin_36 : decode cX4_begin 36 = .ok (.iastore, 1) := by decide +kernel
theorem dX4_begin_37 : decode cX4_begin 37 = .ok (.aload_n 0, 1) := by decide +kernel
theorem dX4_begin_38 : decode cX4_begin 38 = .ok (.getfield 7, 3) := by decide +kernel
theorem dX4_begin_41 : decode cX4_begin 41 = .ok (.iconst 3, 1) := by decide +kernel
theorem dX4_begin_42 : decode cX4_begin 42 = .ok (.bipush 10, 2) := by decide +kernel
theorem dX4_begin_44 : decode cX4_begin 44 = .ok (.iastore, 1) := by decide +kernel
theorem dX4_begin_45 : decode cX4_begin 45 = .ok (.aload_n 0, 1) := by decide +kernel
theorem dX4_begin_46 : decode cX4_begin 46 = .ok (.getfield 7, 3) := by decide +kernel
theorem dX4_begin_49 : decode cX4_begin 49 = .ok (.iconst 5, 1) := by decide +kernel
theorem dX4_begin_50 : decode cX4_begin 50 = .ok (.iconst 5, 1) := by decide +kernel
theorem dX4_begin_51 : decode cX4_begin 51 = .ok (.iastore, 1) := by decide +kernel
theorem dX4_begin_52 : decode cX4_begin 52 = .ok (.aload_n 0, 1) := by decide +kernel
theorem dX4_begin_53 : decode cX4_begin 53 = .ok (.getfield 7, 3) := by decide +kernel
theorem dX4_begin_56 : decode cX4_begin 56 = .ok (.bipush 7, 2) := by decide +kernel
theorem dX4_begin_58 : decode cX4_begin 58 = .ok (.bipush 50, 2) := by decide +kernel
theorem dX4_begin_60 : decode cX4_begin 60 = .ok (.iastore, 1) := by decide +kernel
theorem dX4_begin_61 : decode cX4_begin 61 = .ok (.aload_n 0, 1) := by decide +kernel
theorem dX4_begin_62 : decode cX4_begin 62 = .ok (.getfield 7, 3) := by decide +kernel
theorem dX4_begin_65 : decode cX4_begin 65 = .ok (.bipush 8, 2) := by decide +kernel
theorem dX4_begin_67 : decode cX4_begin 67 = .ok (.bipush 20, 2) := by decide +kernel
theorem dX4_begin_69 : decode cX4_begin 69 = .ok (.iastore, 1) := by decide +kernel
theorem dX4_begin_70 : decode cX4_begin 70 = .ok (.return_, 1) := by decide +kernel
theorem dX4_putAside_0 : decode cX4_putAside 0 = .ok (.iconst 0, 1) := by decide +kernel
theorem dX4_putAside_1 : decode cX4_putAside 1 = .ok (.istore_n 1, 1) := by decide +kernel
theorem dX4_putAside_2 : decode cX4_putAside 2 = .ok (.iload_n 1, 1) := by decide +kernel
theorem dX4_putAside_3 : decode cX4_putAside 3 = .ok (.sipush 2386, 3) := by decide +kernel
theorem dX4_putAside_6 : decode cX4_putAside 6 = .ok (.if_icmp .ge 21, 3) := by decide +kernel
theorem dX4_putAside_9 : decode cX4_putAside 9 = .ok (.aload_n 0, 1) := by decide +kernel
theorem dX4_putAside_10 : decode cX4_putAside 10 = .ok (.getfield 13, 3) := by decide +kernel
theorem dX4_putAside_13 : decode cX4_putAside 13 = .ok (.iload_n 1, 1) := by decide +kernel
theorem dX4_putAside_14 : decode cX4_putAside 14 = .ok (.aload_n 0, 1) := by decide +kernel
theorem dX4_putAside_15 : decode cX4_putAside 15 = .ok (.getfield 7, 3) := by decide +kernel
theorem dX4_putAside_18 : decode cX4_putAside 18 = .ok (.iload_n 1, 1) := by decide +kernel
theorem dX4_putAside_19 : decode cX4_putAside 19 = .ok (.iaload, 1) := by decide +kernel
theorem dX4_putAside_20 : decode cX4_putAside 20 = .ok (.iastore, 1) := by decide +kernel
theorem dX4_putAside_21 : decode cX4_putAside 21 = .ok (.iinc 1 1, 3) := by decide +kernel
theorem dX4_putAside_24 : decode cX4_putAside 24 = .ok (.goto (-22), 3) := by decide +kernel
theorem dX4_putAside_27 : decode cX4_putAside 27 = .ok (.return_, 1) := by decide +kernel
theorem dX4_putBack_0 : decode cX4_putBack 0 = .ok (.iconst 0, 1) := by decide +kernel
theorem dX4_putBack_1 : decode cX4_putBack 1 = .ok (.istore_n 1, 1) := by decide +kernel
theorem dX4_putBack_2 : decode cX4_putBack 2 = .ok (.iload_n 1, 1) := by decide +kernel
theorem dX4_putBack_3 : decode cX4_putBack 3 = .ok (.sipush 2386, 3) := by decide +kernel
theorem dX4_putBack_6 : decode cX4_putBack 6 = .ok (.if_icmp .ge 21, 3) := by decide +kernel
theorem dX4_putBack_9 : decode cX4_putBack 9 = .ok (.aload_n 0, 1) := by decide +kernel
theorem dX4_putBack_10 : decode cX4_putBack 10 = .ok (.getfield 7, 3) := by decide +kernel
theorem dX4_putBack_13 : decode cX4_putBack 13 = .ok (.iload_n 1, 1) := by decide +kernel
theorem dX4_putBack_14 : decode cX4_putBack 14 = .ok (.aload_n 0, 1) := by decide +kernel
theorem dX4_putBack_15 : decode cX4_putBack 15 = .ok (.getfield 13, 3) := by decide +kernel
theorem dX4_putBack_18 : decode cX4_putBack 18 = .ok (.iload_n 1, 1) := by decide +kernel
theorem dX4_putBack_19 : decode cX4_putBack 19 = .ok (.iaload, 1) := by decide +kernel
theorem dX4_putBack_20 : decode cX4_putBack 20 = .ok (.iastore, 1) := by decide +kernel
theorem dX4_putBack_21 : decode cX4_putBack 21 = .ok (.iinc 1 1, 3) := by decide +kernel
theorem dX4_putBack_24 : decode cX4_putBack 24 = .ok (.goto (-22), 3) := by decide +kernel
theorem dX4_putBack_27 : decode cX4_putBack 27 = .ok (.return_, 1) := by decide +kernel
theorem dX4_isRing_0 : decode cX4_isRing 0 = .ok (.iload_n 1, 1) := by decide +kernel
theorem dX4_isRing_1 : decode cX4_isRing 1 = .ok (.iconst 0, 1) := by decide +kernel
theorem dX4_isRing_2 : decode cX4_isRing 2 = .ok (.aload_n 0, 1) := by decide +kernel
theorem dX4_isRing_3 : decode cX4_isRing 3 = .ok (.getfield 7, 3) := by decide +kernel
theorem dX4_isRing_6 : decode cX4_isRing 6 = .ok (.iconst 0, 1) := by decide +kernel
theorem dX4_isRing_7 : decode cX4_isRing 7 = .ok (.iaload, 1) := by decide +kernel
theorem dX4_isRing_8 : decode cX4_isRing 8 = .ok (.iconst 1, 1) := by decide +kernel
theorem dX4_isRing_9 : decode cX4_isRing 9 = .ok (.isub, 1) := by decide +kernel
theorem dX4_isRing_10 : decode cX4_isRing 10 = .ok (.invokestatic 39, 3) := by decide +kernel
theorem dX4_isRing_13 : decode cX4_isRing 13 = .ok (.ireturn, 1) := by decide +kernel
theorem dX4_velocity_0 : decode cX4_velocity 0 = .ok (.aload_n 0, 1) := by decide +kernel
theorem dX4_velocity_1 : decode cX4_velocity 1 = .ok (.getfield 7, 3) := by decide +kernel
theorem dX4_velocity_4 : decode cX4_velocity 4 = .ok (.bipush 9, 2) := by decide +kernel
theorem dX4_velocity_6 : decode cX4_velocity 6 = .ok (.iload_n 1, 1) := by decide +kernel
theorem dX4_velocity_7 : decode cX4_velocity 7 = .ok (.iadd, 1) := by decide +kernel
theorem dX4_velocity_8 : decode cX4_velocity 8 = .ok (.iaload, 1) := by decide +kernel
theorem dX4_velocity_9 : decode cX4_velocity 9 = .ok (.iconst 2, 1) := by decide +kernel
theorem dX4_velocity_10 : decode cX4_velocity 10 = .ok (.iload_n 1, 1) := by decide +kernel
theorem dX4_velocity_11 : decode cX4_velocity 11 = .ok (.imul, 1) := by decide +kernel
theorem dX4_velocity_12 : decode cX4_velocity 12 = .ok (.iconst 1, 1) := by decide +kernel
theorem dX4_velocity_13 : decode cX4_velocity 13 = .ok (.iadd, 1) := by decide +kernel
theorem dX4_velocity_14 : decode cX4_velocity 14 = .ok (.invokestatic 43, 3) := by decide +kernel
theorem dX4_velocity_17 : decode cX4_velocity 17 = .ok (.ireturn, 1) := by decide +kernel
theorem dX4_setUp_0 : decode cX4_setUp 0 = .ok (.iload_n 1, 1) := by decide +kernel
theorem dX4_setUp_1 : decode cX4_setUp 1 = .ok (.iconst 2, 1) := by decide +kernel
theorem dX4_setUp_2 : decode cX4_setUp 2 = .ok (.bipush 12, 2) := by decide +kernel
theorem dX4_setUp_4 : decode cX4_setUp 4 = .ok (.invokestatic 39, 3) := by decide +kernel
theorem dX4_setUp_7 : decode cX4_setUp 7 = .ok (.ifCond .ne 6, 3) := by decide +kernel
theorem dX4_setUp_10 : decode cX4_setUp 10 = .ok (.bipush (-2), 2) := by decide +kernel
theorem dX4_setUp_12 : decode cX4_setUp 12 = .ok (.ireturn, 1) := by decide +kernel
theorem dX4_setUp_13 : decode cX4_setUp 13 = .ok (.aload_n 0, 1) := by decide +kernel
theorem dX4_setUp_14 : decode cX4_setUp 14 = .ok (.getfield 7, 3) := by decide +kernel
theorem dX4_setUp_17 : decode cX4_setUp 17 = .ok (.iconst 0, 1) := by decide +kernel
theorem dX4_setUp_18 : decode cX4_setUp 18 = .ok (.iaload, 1) := by decide +kernel
theorem dX4_setUp_19 : decode cX4_setUp 19 = .ok (.istore_n 2, 1) := by decide +kernel
theorem dX4_setUp_20 : decode cX4_setUp 20 = .ok (.aload_n 0, 1) := by decide +kernel
theorem dX4_setUp_21 : decode cX4_setUp 21 = .ok (.iload_n 1, 1) := by decide +kernel
theorem dX4_setUp_22 : decode cX4_setUp 22 = .ok (.invokevirtual 35, 3) := by decide +kernel
theorem dX4_setUp_25 : decode cX4_setUp 25 = .ok (.iload_n 2, 1) := by decide +kernel
theorem dX4_setUp_26 : decode cX4_setUp 26 = .ok (.ireturn, 1) := by decide +kernel
theorem dX4_takes_0 : decode cX4_takes 0 = .ok (.iload_n 0, 1) := by decide +kernel
theorem dX4_takes_1 : decode cX4_takes 1 = .ok (.tableswitch 67 0 5 #[39, 39, 47, 39, 47, 58], 39) := by decide +kernel
theorem dX4_takes_40 : decode cX4_takes 40 = .ok (.iload_n 1, 1) := by decide +kernel
theorem dX4_takes_41 : decode cX4_takes 41 = .ok (.iconst 0, 1) := by decide +kernel
theorem dX4_takes_42 : decode cX4_takes 42 = .ok (.bipush 100, 2) := by decide +kernel
theorem dX4_takes_44 : decode cX4_takes 44 = .ok (.invokestatic 39, 3) := by decide +kernel
theorem dX4_takes_47 : decode cX4_takes 47 = .ok (.ireturn, 1) := by decide +kernel
theorem dX4_takes_48 : decode cX4_takes 48 = .ok (.iload_n 1, 1) := by decide +kernel
theorem dX4_takes_49 : decode cX4_takes 49 = .ok (.sipush (-1500), 3) := by decide +kernel
theorem dX4_takes_52 : decode cX4_takes 52 = .ok (.sipush 1500, 3) := by decide +kernel
theorem dX4_takes_55 : decode cX4_takes 55 = .ok (.invokestatic 39, 3) := by decide +kernel
theorem dX4_takes_58 : decode cX4_takes 58 = .ok (.ireturn, 1) := by decide +kernel
theorem dX4_takes_59 : decode cX4_takes 59 = .ok (.iload_n 1, 1) := by decide +kernel
theorem dX4_takes_60 : decode cX4_takes 60 = .ok (.iconst 0, 1) := by decide +kernel
theorem dX4_takes_61 : decode cX4_takes 61 = .ok (.sipush 200, 3) := by decide +kernel
theorem dX4_takes_64 : decode cX4_takes 64 = .ok (.invokestatic 39, 3) := by decide +kernel
theorem dX4_takes_67 : decode cX4_takes 67 = .ok (.ireturn, 1) := by decide +kernel
theorem dX4_takes_68 : decode cX4_takes 68 = .ok (.iload_n 0, 1) := by decide +kernel
theorem dX4_takes_69 : decode cX4_takes 69 = .ok (.bipush 6, 2) := by decide +kernel
theorem dX4_takes_71 : decode cX4_takes 71 = .ok (.if_icmp .ne 18, 3) := by decide +kernel
theorem dX4_takes_74 : decode cX4_takes 74 = .ok (.iload_n 1, 1) := by decide +kernel
theorem dX4_takes_75 : decode cX4_takes 75 = .ok (.iconst 0, 1) := by decide +kernel
theorem dX4_takes_76 : decode cX4_takes 76 = .ok (.sipush 500, 3) := by decide +kernel
theorem dX4_takes_79 : decode cX4_takes 79 = .ok (.invokestatic 39, 3) := by decide +kernel
theorem dX4_takes_82 : decode cX4_takes 82 = .ok (.ifCond .eq 7, 3) := by decide +kernel
theorem dX4_takes_85 : decode cX4_takes 85 = .ok (.iconst 1, 1) := by decide +kernel
theorem dX4_takes_86 : decode cX4_takes 86 = .ok (.goto 4, 3) := by decide +kernel
theorem dX4_takes_89 : decode cX4_takes 89 = .ok (.iconst 0, 1) := by decide +kernel
theorem dX4_takes_90 : decode cX4_takes 90 = .ok (.ireturn, 1) := by decide +kernel
theorem dX4_set_0 : decode cX4_set 0 = .ok (.iload_n 1, 1) := by decide +kernel
theorem dX4_set_1 : decode cX4_set 1 = .ok (.iload_n 2, 1) := by decide +kernel
theorem dX4_set_2 : decode cX4_set 2 = .ok (.invokestatic 47, 3) := by decide +kernel
theorem dX4_set_5 : decode cX4_set 5 = .ok (.ifCond .ne 6, 3) := by decide +kernel
theorem dX4_set_8 : decode cX4_set 8 = .ok (.ldc 51, 2) := by decide +kernel
theorem dX4_set_10 : decode cX4_set 10 = .ok (.ireturn, 1) := by decide +kernel
theorem dX4_set_11 : decode cX4_set 11 = .ok (.aload_n 0, 1) := by decide +kernel
theorem dX4_set_12 : decode cX4_set 12 = .ok (.getfield 7, 3) := by decide +kernel
theorem dX4_set_15 : decode cX4_set 15 = .ok (.iconst 2, 1) := by decide +kernel
theorem dX4_set_16 : decode cX4_set 16 = .ok (.iload_n 1, 1) := by decide +kernel
theorem dX4_set_17 : decode cX4_set 17 = .ok (.iadd, 1) := by decide +kernel
theorem dX4_set_18 : decode cX4_set 18 = .ok (.iaload, 1) := by decide +kernel
theorem dX4_set_19 : decode cX4_set 19 = .ok (.istore_n 3, 1) := by decide +kernel
theorem dX4_set_20 : decode cX4_set 20 = .ok (.aload_n 0, 1) := by decide +kernel
theorem dX4_set_21 : decode cX4_set 21 = .ok (.getfield 7, 3) := by decide +kernel
theorem dX4_set_24 : decode cX4_set 24 = .ok (.iconst 2, 1) := by decide +kernel
theorem dX4_set_25 : decode cX4_set 25 = .ok (.iload_n 1, 1) := by decide +kernel
theorem dX4_set_26 : decode cX4_set 26 = .ok (.iadd, 1) := by decide +kernel
theorem dX4_set_27 : decode cX4_set 27 = .ok (.iload_n 2, 1) := by decide +kernel
theorem dX4_set_28 : decode cX4_set 28 = .ok (.iastore, 1) := by decide +kernel
theorem dX4_set_29 : decode cX4_set 29 = .ok (.iload_n 3, 1) := by decide +kernel
theorem dX4_set_30 : decode cX4_set 30 = .ok (.ireturn, 1) := by decide +kernel
theorem dX4_isVelocity_0 : decode cX4_isVelocity 0 = .ok (.iload_n 0, 1) := by decide +kernel
theorem dX4_isVelocity_1 : decode cX4_isVelocity 1 = .ok (.sipush (-1500), 3) := by decide +kernel
theorem dX4_isVelocity_4 : decode cX4_isVelocity 4 = .ok (.sipush 1500, 3) := by decide +kernel
theorem dX4_isVelocity_7 : decode cX4_isVelocity 7 = .ok (.invokestatic 39, 3) := by decide +kernel
theorem dX4_isVelocity_10 : decode cX4_isVelocity 10 = .ok (.ireturn, 1) := by decide +kernel
theorem dX4_spin_0 : decode cX4_spin 0 = .ok (.aload_n 0, 1) := by decide +kernel
theorem dX4_spin_1 : decode cX4_spin 1 = .ok (.iload_n 1, 1) := by decide +kernel
theorem dX4_spin_2 : decode cX4_spin 2 = .ok (.invokevirtual 52, 3) := by decide +kernel
theorem dX4_spin_5 : decode cX4_spin 5 = .ok (.ifCond .ne 6, 3) := by decide +kernel
theorem dX4_spin_8 : decode cX4_spin 8 = .ok (.ldc 56, 2) := by decide +kernel
theorem dX4_spin_10 : decode cX4_spin 10 = .ok (.ireturn, 1) := by decide +kernel
theorem dX4_spin_11 : decode cX4_spin 11 = .ok (.iload_n 2, 1) := by decide +kernel
theorem dX4_spin_12 : decode cX4_spin 12 = .ok (.invokestatic 57, 3) := by decide +kernel
theorem dX4_spin_15 : decode cX4_spin 15 = .ok (.ifCond .ne 6, 3) := by decide +kernel
theorem dX4_spin_18 : decode cX4_spin 18 = .ok (.ldc 51, 2) := by decide +kernel
theorem dX4_spin_20 : decode cX4_spin 20 = .ok (.ireturn, 1) := by decide +kernel
theorem dX4_spin_21 : decode cX4_spin 21 = .ok (.aload_n 0, 1) := by decide +kernel
theorem dX4_spin_22 : decode cX4_spin 22 = .ok (.iload_n 1, 1) := by decide +kernel
theorem dX4_spin_23 : decode cX4_spin 23 = .ok (.invokevirtual 60, 3) := by decide +kernel
theorem dX4_spin_26 : decode cX4_spin 26 = .ok (.istore_n 3, 1) := by decide +kernel
theorem dX4_spin_27 : decode cX4_spin 27 = .ok (.aload_n 0, 1) := by decide +kernel
theorem dX4_spin_28 : decode cX4_spin 28 = .ok (.getfield 7, 3) := by decide +kernel
theorem dX4_spin_31 : decode cX4_spin 31 = .ok (.bipush 9, 2) := by decide +kernel
theorem dX4_spin_33 : decode cX4_spin 33 = .ok (.iload_n 1, 1) := by decide +kernel
theorem dX4_spin_34 : decode cX4_spin 34 = .ok (.iadd, 1) := by decide +kernel
theorem dX4_spin_35 : decode cX4_spin 35 = .ok (.iload_n 2, 1) := by decide +kernel
theorem dX4_spin_36 : decode cX4_spin 36 = .ok (.iconst 2, 1) := by decide +kernel
theorem dX4_spin_37 : decode cX4_spin 37 = .ok (.iload_n 1, 1) := by decide +kernel
theorem dX4_spin_38 : decode cX4_spin 38 = .ok (.imul, 1) := by decide +kernel
theorem dX4_spin_39 : decode cX4_spin 39 = .ok (.iconst 1, 1) := by decide +kernel
theorem dX4_spin_40 : decode cX4_spin 40 = .ok (.iadd, 1) := by decide +kernel
theorem dX4_spin_41 : decode cX4_spin 41 = .ok (.imul, 1) := by decide +kernel
theorem dX4_spin_42 : decode cX4_spin 42 = .ok (.iastore, 1) := by decide +kernel
theorem dX4_spin_43 : decode cX4_spin 43 = .ok (.iload_n 3, 1) := by decide +kernel
theorem dX4_spin_44 : decode cX4_spin 44 = .ok (.ireturn, 1) := by decide +kernel
theorem dX4_momenta_0 : decode cX4_momenta 0 = .ok (.iconst 0, 1) := by decide +kernel
theorem dX4_momenta_1 : decode cX4_momenta 1 = .ok (.istore_n 1, 1) := by decide +kernel
theorem dX4_momenta_2 : decode cX4_momenta 2 = .ok (.iconst 0, 1) := by decide +kernel
theorem dX4_momenta_3 : decode cX4_momenta 3 = .ok (.istore_n 2, 1) := by decide +kernel
theorem dX4_momenta_4 : decode cX4_momenta 4 = .ok (.iload_n 2, 1) := by decide +kernel
theorem dX4_momenta_5 : decode cX4_momenta 5 = .ok (.aload_n 0, 1) := by decide +kernel
theorem dX4_momenta_6 : decode cX4_momenta 6 = .ok (.getfield 7, 3) := by decide +kernel
theorem dX4_momenta_9 : decode cX4_momenta 9 = .ok (.iconst 0, 1) := by decide +kernel
theorem dX4_momenta_10 : decode cX4_momenta 10 = .ok (.iaload, 1) := by decide +kernel
theorem dX4_momenta_11 : decode cX4_momenta 11 = .ok (.if_icmp .ge 21, 3) := by decide +kernel
theorem dX4_momenta_14 : decode cX4_momenta 14 = .ok (.iload_n 1, 1) := by decide +kernel
theorem dX4_momenta_15 : decode cX4_momenta 15 = .ok (.aload_n 0, 1) := by decide +kernel
theorem dX4_momenta_16 : decode cX4_momenta 16 = .ok (.getfield 7, 3) := by decide +kernel
theorem dX4_momenta_19 : decode cX4_momenta 19 = .ok (.bipush 9, 2) := by decide +kernel
theorem dX4_momenta_21 : decode cX4_momenta 21 = .ok (.iload_n 2, 1) := by decide +kernel
theorem dX4_momenta_22 : decode cX4_momenta 22 = .ok (.iadd, 1) := by decide +kernel
theorem dX4_momenta_23 : decode cX4_momenta 23 = .ok (.iaload, 1) := by decide +kernel
theorem dX4_momenta_24 : decode cX4_momenta 24 = .ok (.iadd, 1) := by decide +kernel
theorem dX4_momenta_25 : decode cX4_momenta 25 = .ok (.istore_n 1, 1) := by decide +kernel
theorem dX4_momenta_26 : decode cX4_momenta 26 = .ok (.iinc 2 1, 3) := by decide +kernel
theorem dX4_momenta_29 : decode cX4_momenta 29 = .ok (.goto (-25), 3) := by decide +kernel
theorem dX4_momenta_32 : decode cX4_momenta 32 = .ok (.iload_n 1, 1) := by decide +kernel
theorem dX4_momenta_33 : decode cX4_momenta 33 = .ok (.ireturn, 1) := by decide +kernel
theorem dX4_spinAll_0 : decode cX4_spinAll 0 = .ok (.iload_n 1, 1) := by decide +kernel
theorem dX4_spinAll_1 : decode cX4_spinAll 1 = .ok (.invokestatic 57, 3) := by decide +kernel
theorem dX4_spinAll_4 : decode cX4_spinAll 4 = .ok (.ifCond .eq 10, 3) := by decide +kernel
theorem dX4_spinAll_7 : decode cX4_spinAll 7 = .ok (.iload_n 2, 1) := by decide +kernel
theorem dX4_spinAll_8 : decode cX4_spinAll 8 = .ok (.invokestatic 57, 3) := by decide +kernel
theorem dX4_spinAll_11 : decode cX4_spinAll 11 = .ok (.ifCond .ne 6, 3) := by decide +kernel
theorem dX4_spinAll_14 : decode cX4_spinAll 14 = .ok (.ldc 51, 2) := by decide +kernel
theorem dX4_spinAll_16 : decode cX4_spinAll 16 = .ok (.ireturn, 1) := by decide +kernel
theorem dX4_spinAll_17 : decode cX4_spinAll 17 = .ok (.iconst 0, 1) := by decide +kernel
theorem dX4_spinAll_18 : decode cX4_spinAll 18 = .ok (.istore_n 3, 1) := by decide +kernel
theorem dX4_spinAll_19 : decode cX4_spinAll 19 = .ok (.iload_n 3, 1) := by decide +kernel
theorem dX4_spinAll_20 : decode cX4_spinAll 20 = .ok (.aload_n 0, 1) := by decide +kernel
theorem dX4_spinAll_21 : decode cX4_spinAll 21 = .ok (.getfield 7, 3) := by decide +kernel
theorem dX4_spinAll_24 : decode cX4_spinAll 24 = .ok (.iconst 0, 1) := by decide +kernel
theorem dX4_spinAll_25 : decode cX4_spinAll 25 = .ok (.iaload, 1) := by decide +kernel
theorem dX4_spinAll_26 : decode cX4_spinAll 26 = .ok (.if_icmp .ge 40, 3) := by decide +kernel
theorem dX4_spinAll_29 : decode cX4_spinAll 29 = .ok (.aload_n 0, 1) := by decide +kernel
theorem dX4_spinAll_30 : decode cX4_spinAll 30 = .ok (.getfield 7, 3) := by decide +kernel
theorem dX4_spinAll_33 : decode cX4_spinAll 33 = .ok (.bipush 9, 2) := by decide +kernel
theorem dX4_spinAll_35 : decode cX4_spinAll 35 = .ok (.iload_n 3, 1) := by decide +kernel
theorem dX4_spinAll_36 : decode cX4_spinAll 36 = .ok (.iadd, 1) := by decide +kernel
theorem dX4_spinAll_37 : decode cX4_spinAll 37 = .ok (.iload_n 1, 1) := by decide +kernel
theorem dX4_spinAll_38 : decode cX4_spinAll 38 = .ok (.iload_n 2, 1) := by decide +kernel
theorem dX4_spinAll_39 : decode cX4_spinAll 39 = .ok (.iload_n 1, 1) := by decide +kernel
theorem dX4_spinAll_40 : decode cX4_spinAll 40 = .ok (.isub, 1) := by decide +kernel
theorem dX4_spinAll_41 : decode cX4_spinAll 41 = .ok (.iload_n 3, 1) := by decide +kernel
theorem dX4_spinAll_42 : decode cX4_spinAll 42 = .ok (.imul, 1) := by decide +kernel
theorem dX4_spinAll_43 : decode cX4_spinAll 43 = .ok (.aload_n 0, 1) := by decide +kernel
theorem dX4_spinAll_44 : decode cX4_spinAll 44 = .ok (.getfield 7, 3) := by decide +kernel
theorem dX4_spinAll_47 : decode cX4_spinAll 47 = .ok (.iconst 0, 1) := by decide +kernel
theorem dX4_spinAll_48 : decode cX4_spinAll 48 = .ok (.iaload, 1) := by decide +kernel
theorem dX4_spinAll_49 : decode cX4_spinAll 49 = .ok (.iconst 1, 1) := by decide +kernel
theorem dX4_spinAll_50 : decode cX4_spinAll 50 = .ok (.isub, 1) := by decide +kernel
theorem dX4_spinAll_51 : decode cX4_spinAll 51 = .ok (.idiv, 1) := by decide +kernel
theorem dX4_spinAll_52 : decode cX4_spinAll 52 = .ok (.iadd, 1) := by decide +kernel
theorem dX4_spinAll_53 : decode cX4_spinAll 53 = .ok (.iconst 2, 1) := by decide +kernel
theorem dX4_spinAll_54 : decode cX4_spinAll 54 = .ok (.iload_n 3, 1) := by decide +kernel
theorem dX4_spinAll_55 : decode cX4_spinAll 55 = .ok (.imul, 1) := by decide +kernel
theorem dX4_spinAll_56 : decode cX4_spinAll 56 = .ok (.iconst 1, 1) := by decide +kernel
theorem dX4_spinAll_57 : decode cX4_spinAll 57 = .ok (.iadd, 1) := by decide +kernel
theorem dX4_spinAll_58 : decode cX4_spinAll 58 = .ok (.imul, 1) := by decide +kernel
theorem dX4_spinAll_59 : decode cX4_spinAll 59 = .ok (.iastore, 1) := by decide +kernel
theorem dX4_spinAll_60 : decode cX4_spinAll 60 = .ok (.iinc 3 1, 3) := by decide +kernel
theorem dX4_spinAll_63 : decode cX4_spinAll 63 = .ok (.goto (-44), 3) := by decide +kernel
theorem dX4_spinAll_66 : decode cX4_spinAll 66 = .ok (.aload_n 0, 1) := by decide +kernel
theorem dX4_spinAll_67 : decode cX4_spinAll 67 = .ok (.invokevirtual 64, 3) := by decide +kernel
theorem dX4_spinAll_70 : decode cX4_spinAll 70 = .ok (.ireturn, 1) := by decide +kernel
theorem dX4_dyeAt_0 : decode cX4_dyeAt 0 = .ok (.bipush 24, 2) := by decide +kernel
theorem dX4_dyeAt_2 : decode cX4_dyeAt 2 = .ok (.bipush 12, 2) := by decide +kernel
theorem dX4_dyeAt_4 : decode cX4_dyeAt 4 = .ok (.iconst 2, 1) := by decide +kernel
theorem dX4_dyeAt_5 : decode cX4_dyeAt 5 = .ok (.iload_n 0, 1) := by decide +kernel
theorem dX4_dyeAt_6 : decode cX4_dyeAt 6 = .ok (.imul, 1) := by decide +kernel
theorem dX4_dyeAt_7 : decode cX4_dyeAt 7 = .ok (.iload_n 1, 1) := by decide +kernel
theorem dX4_dyeAt_8 : decode cX4_dyeAt 8 = .ok (.iadd, 1) := by decide +kernel
theorem dX4_dyeAt_9 : decode cX4_dyeAt 9 = .ok (.imul, 1) := by decide +kernel
theorem dX4_dyeAt_10 : decode cX4_dyeAt 10 = .ok (.iload_n 2, 1) := by decide +kernel
theorem dX4_dyeAt_11 : decode cX4_dyeAt 11 = .ok (.iadd, 1) := by decide +kernel
theorem dX4_dyeAt_12 : decode cX4_dyeAt 12 = .ok (.imul, 1) := by decide +kernel
theorem dX4_dyeAt_13 : decode cX4_dyeAt 13 = .ok (.iload_n 3, 1) := by decide +kernel
theorem dX4_dyeAt_14 : decode cX4_dyeAt 14 = .ok (.iadd, 1) := by decide +kernel
theorem dX4_dyeAt_15 : decode cX4_dyeAt 15 = .ok (.ireturn, 1) := by decide +kernel
theorem dX4_cellIn_0 : decode cX4_cellIn 0 = .ok (.iload_n 2, 1) := by decide +kernel
theorem dX4_cellIn_1 : decode cX4_cellIn 1 = .ok (.aload_n 0, 1) := by decide +kernel
theorem dX4_cellIn_2 : decode cX4_cellIn 2 = .ok (.getfield 7, 3) := by decide +kernel
theorem dX4_cellIn_5 : decode cX4_cellIn 5 = .ok (.bipush 21, 2) := by decide +kernel
theorem dX4_cellIn_7 : decode cX4_cellIn 7 = .ok (.iload_n 1, 1) := by decide +kernel
theorem dX4_cellIn_8 : decode cX4_cellIn 8 = .ok (.iadd, 1) := by decide +kernel
theorem dX4_cellIn_9 : decode cX4_cellIn 9 = .ok (.iaload, 1) := by decide +kernel
theorem dX4_cellIn_10 : decode cX4_cellIn 10 = .ok (.sipush 150, 3) := by decide +kernel
theorem dX4_cellIn_13 : decode cX4_cellIn 13 = .ok (.idiv, 1) := by decide +kernel
theorem dX4_cellIn_14 : decode cX4_cellIn 14 = .ok (.isub, 1) := by decide +kernel
theorem dX4_cellIn_15 : decode cX4_cellIn 15 = .ok (.bipush 24, 2) := by decide +kernel
theorem dX4_cellIn_17 : decode cX4_cellIn 17 = .ok (.invokestatic 68, 3) := by decide +kernel
theorem dX4_cellIn_20 : decode cX4_cellIn 20 = .ok (.ireturn, 1) := by decide +kernel
theorem dX4_isPlace_0 : decode cX4_isPlace 0 = .ok (.iload_n 1, 1) := by decide +kernel
theorem dX4_isPlace_1 : decode cX4_isPlace 1 = .ok (.iconst 0, 1) := by decide +kernel
theorem dX4_isPlace_2 : decode cX4_isPlace 2 = .ok (.iconst 2, 1) := by decide +kernel
theorem dX4_isPlace_3 : decode cX4_isPlace 3 = .ok (.invokestatic 39, 3) := by decide +kernel
theorem dX4_isPlace_6 : decode cX4_isPlace 6 = .ok (.ifCond .eq 35, 3) := by decide +kernel
theorem dX4_isPlace_9 : decode cX4_isPlace 9 = .ok (.iload_n 2, 1) := by decide +kernel
theorem dX4_isPlace_10 : decode cX4_isPlace 10 = .ok (.iconst 0, 1) := by decide +kernel
theorem dX4_isPlace_11 : decode cX4_isPlace 11 = .ok (.iconst 1, 1) := by decide +kernel
theorem dX4_isPlace_12 : decode cX4_isPlace 12 = .ok (.invokestatic 39, 3) := by decide +kernel
theorem dX4_isPlace_15 : decode cX4_isPlace 15 = .ok (.ifCond .eq 26, 3) := by decide +kernel
theorem dX4_isPlace_18 : decode cX4_isPlace 18 = .ok (.aload_n 0, 1) := by decide +kernel
theorem dX4_isPlace_19 : decode cX4_isPlace 19 = .ok (.iload_n 3, 1) := by decide +kernel
theorem dX4_isPlace_20 : decode cX4_isPlace 20 = .ok (.invokevirtual 52, 3) := by decide +kernel
theorem dX4_isPlace_23 : decode cX4_isPlace 23 = .ok (.ifCond .eq 18, 3) := by decide +kernel
theorem dX4_isPlace_26 : decode cX4_isPlace 26 = .ok (.iload 4, 2) := by decide +kernel
theorem dX4_isPlace_28 : decode cX4_isPlace 28 = .ok (.iconst 0, 1) := by decide +kernel
theorem dX4_isPlace_29 : decode cX4_isPlace 29 = .ok (.bipush 23, 2) := by decide +kernel
theorem dX4_isPlace_31 : decode cX4_isPlace 31 = .ok (.invokestatic 39, 3) := by decide +kernel
theorem dX4_isPlace_34 : decode cX4_isPlace 34 = .ok (.ifCond .eq 7, 3) := by decide +kernel
theorem dX4_isPlace_37 : decode cX4_isPlace 37 = .ok (.iconst 1, 1) := by decide +kernel
theorem dX4_isPlace_38 : decode cX4_isPlace 38 = .ok (.goto 4, 3) := by decide +kernel
theorem dX4_isPlace_41 : decode cX4_isPlace 41 = .ok (.iconst 0, 1) := by decide +kernel
theorem dX4_isPlace_42 : decode cX4_isPlace 42 = .ok (.ireturn, 1) := by decide +kernel
theorem dX4_amountOf_0 : decode cX4_amountOf 0 = .ok (.iconst 0, 1) := by decide +kernel
theorem dX4_amountOf_1 : decode cX4_amountOf 1 = .ok (.istore 5, 2) := by decide +kernel
theorem dX4_amountOf_3 : decode cX4_amountOf 3 = .ok (.iload_n 3, 1) := by decide +kernel
theorem dX4_amountOf_4 : decode cX4_amountOf 4 = .ok (.istore 6, 2) := by decide +kernel
theorem dX4_amountOf_6 : decode cX4_amountOf 6 = .ok (.iload 6, 2) := by decide +kernel
theorem dX4_amountOf_8 : decode cX4_amountOf 8 = .ok (.iload 4, 2) := by decide +kernel
theorem dX4_amountOf_10 : decode cX4_amountOf 10 = .ok (.if_icmp .gt 48, 3) := by decide +kernel
theorem dX4_amountOf_13 : decode cX4_amountOf 13 = .ok (.iconst 0, 1) := by decide +kernel
theorem dX4_amountOf_14 : decode cX4_amountOf 14 = .ok (.istore 7, 2) := by decide +kernel
theorem dX4_amountOf_16 : decode cX4_amountOf 16 = .ok (.iload 7, 2) := by decide +kernel
theorem dX4_amountOf_18 : decode cX4_amountOf 18 = .ok (.bipush 24, 2) := by decide +kernel
theorem dX4_amountOf_20 : decode cX4_amountOf 20 = .ok (.if_icmp .ge 32, 3) := by decide +kernel
theorem dX4_amountOf_23 : decode cX4_amountOf 23 = .ok (.iload 5, 2) := by decide +kernel
theorem dX4_amountOf_25 : decode cX4_amountOf 25 = .ok (.aload_n 0, 1) := by decide +kernel
theorem dX4_amountOf_26 : decode cX4_amountOf 26 = .ok (.getfield 7, 3) := by decide +kernel
theorem dX4_amountOf_29 : decode cX4_amountOf 29 = .ok (.sipush 658, 3) := by decide +kernel
theorem dX4_amountOf_32 : decode cX4_amountOf 32 = .ok (.iload_n 1, 1) := by decide +kernel
theorem dX4_amountOf_33 : decode cX4_amountOf 33 = .ok (.iload_n 2, 1) := by decide +kernel
theorem dX4_amountOf_34 : decode cX4_amountOf 34 = .ok (.iload 6, 2) := by decide +kernel
theorem dX4_amountOf_36 : decode cX4_amountOf 36 = .ok (.iload 7, 2) := by decide +kernel
theorem dX4_amountOf_38 : decode cX4_amountOf 38 = .ok (.invokestatic 71, 3) := by decide +kernel
theorem dX4_amountOf_41 : decode cX4_amountOf 41 = .ok (.iadd, 1) := by decide +kernel
theorem dX4_amountOf_42 : decode cX4_amountOf 42 = .ok (.iaload, 1) := by decide +kernel
theorem dX4_amountOf_43 : decode cX4_amountOf 43 = .ok (.iadd, 1) := by decide +kernel
theorem dX4_amountOf_44 : decode cX4_amountOf 44 = .ok (.istore 5, 2) := by decide +kernel
theorem dX4_amountOf_46 : decode cX4_amountOf 46 = .ok (.iinc 7 1, 3) := by decide +kernel
theorem dX4_amountOf_49 : decode cX4_amountOf 49 = .ok (.goto (-33), 3) := by decide +kernel
theorem dX4_amountOf_52 : decode cX4_amountOf 52 = .ok (.iinc 6 1, 3) := by decide +kernel
theorem dX4_amountOf_55 : decode cX4_amountOf 55 = .ok (.goto (-49), 3) := by decide +kernel
theorem dX4_amountOf_58 : decode cX4_amountOf 58 = .ok (.iload 5, 2) := by decide +kernel
theorem dX4_amountOf_60 : decode cX4_amountOf 60 = .ok (.ireturn, 1) := by decide +kernel
theorem dX4_allOf_0 : decode cX4_allOf 0 = .ok (.aload_n 0, 1) := by decide +kernel
theorem dX4_allOf_1 : decode cX4_allOf 1 = .ok (.iload_n 1, 1) := by decide +kernel
theorem dX4_allOf_2 : decode cX4_allOf 2 = .ok (.iconst 0, 1) := by decide +kernel
theorem dX4_allOf_3 : decode cX4_allOf 3 = .ok (.iconst 0, 1) := by decide +kernel
theorem dX4_allOf_4 : decode cX4_allOf 4 = .ok (.aload_n 0, 1) := by decide +kernel
theorem dX4_allOf_5 : decode cX4_allOf 5 = .ok (.getfield 7, 3) := by decide +kernel
theorem dX4_allOf_8 : decode cX4_allOf 8 = .ok (.iconst 0, 1) := by decide +kernel
theorem dX4_allOf_9 : decode cX4_allOf 9 = .ok (.iaload, 1) := by decide +kernel
theorem dX4_allOf_10 : decode cX4_allOf 10 = .ok (.iconst 1, 1) := by decide +kernel
theorem dX4_allOf_11 : decode cX4_allOf 11 = .ok (.isub, 1) := by decide +kernel
theorem dX4_allOf_12 : decode cX4_allOf 12 = .ok (.invokevirtual 75, 3) := by decide +kernel
theorem dX4_allOf_15 : decode cX4_allOf 15 = .ok (.aload_n 0, 1) := by decide +kernel
theorem dX4_allOf_16 : decode cX4_allOf 16 = .ok (.iload_n 1, 1) := by decide +kernel
theorem dX4_allOf_17 : decode cX4_allOf 17 = .ok (.iconst 1, 1) := by decide +kernel
theorem dX4_allOf_18 : decode cX4_allOf 18 = .ok (.iconst 0, 1) := by decide +kernel
theorem dX4_allOf_19 : decode cX4_allOf 19 = .ok (.aload_n 0, 1) := by decide +kernel
theorem dX4_allOf_20 : decode cX4_allOf 20 = .ok (.getfield 7, 3) := by decide +kernel
theorem dX4_allOf_23 : decode cX4_allOf 23 = .ok (.iconst 0, 1) := by decide +kernel
theorem dX4_allOf_24 : decode cX4_allOf 24 = .ok (.iaload, 1) := by decide +kernel
theorem dX4_allOf_25 : decode cX4_allOf 25 = .ok (.iconst 1, 1) := by decide +kernel
theorem dX4_allOf_26 : decode cX4_allOf 26 = .ok (.isub, 1) := by decide +kernel
theorem dX4_allOf_27 : decode cX4_allOf 27 = .ok (.invokevirtual 75, 3) := by decide +kernel
theorem dX4_allOf_30 : decode cX4_allOf 30 = .ok (.iadd, 1) := by decide +kernel
theorem dX4_allOf_31 : decode cX4_allOf 31 = .ok (.ireturn, 1) := by decide +kernel
theorem dX4_pour_0 : decode cX4_pour 0 = .ok (.aload_n 0, 1) := by decide +kernel
theorem dX4_pour_1 : decode cX4_pour 1 = .ok (.iload_n 1, 1) := by decide +kernel
theorem dX4_pour_2 : decode cX4_pour 2 = .ok (.iload_n 2, 1) := by decide +kernel
theorem dX4_pour_3 : decode cX4_pour 3 = .ok (.iload_n 3, 1) := by decide +kernel
theorem dX4_pour_4 : decode cX4_pour 4 = .ok (.iload 4, 2) := by decide +kernel
theorem dX4_pour_6 : decode cX4_pour 6 = .ok (.invokevirtual 78, 3) := by decide +kernel
theorem dX4_pour_9 : decode cX4_pour 9 = .ok (.ifCond .ne 5, 3) := by decide +kernel
theorem dX4_pour_12 : decode cX4_pour 12 = .ok (.iconst (-1), 1) := by decide +kernel
theorem dX4_pour_13 : decode cX4_pour 13 = .ok (.ireturn, 1) := by decide +kernel
theorem dX4_pour_14 : decode cX4_pour 14 = .ok (.iload 5, 2) := by decide +kernel
theorem dX4_pour_16 : decode cX4_pour 16 = .ok (.iconst 1, 1) := by decide +kernel
theorem dX4_pour_17 : decode cX4_pour 17 = .ok (.ldc 82, 2) := by decide +kernel
theorem dX4_pour_19 : decode cX4_pour 19 = .ok (.invokestatic 39, 3) := by decide +kernel
theorem dX4_pour_22 : decode cX4_pour 22 = .ok (.ifCond .ne 6, 3) := by decide +kernel
theorem dX4_pour_25 : decode cX4_pour 25 = .ok (.bipush (-2), 2) := by decide +kernel
theorem dX4_pour_27 : decode cX4_pour 27 = .ok (.ireturn, 1) := by decide +kernel
theorem dX4_pour_28 : decode cX4_pour 28 = .ok (.aload_n 0, 1) := by decide +kernel
theorem dX4_pour_29 : decode cX4_pour 29 = .ok (.iload_n 1, 1) := by decide +kernel
theorem dX4_pour_30 : decode cX4_pour 30 = .ok (.invokevirtual 83, 3) := by decide +kernel
theorem dX4_pour_33 : decode cX4_pour 33 = .ok (.iload 5, 2) := by decide +kernel
theorem dX4_pour_35 : decode cX4_pour 35 = .ok (.iadd, 1) := by decide +kernel
theorem dX4_pour_36 : decode cX4_pour 36 = .ok (.istore 6, 2) := by decide +kernel
theorem dX4_pour_38 : decode cX4_pour 38 = .ok (.iload 6, 2) := by decide +kernel
theorem dX4_pour_40 : decode cX4_pour 40 = .ok (.ldc 86, 2) := by decide +kernel
theorem dX4_pour_42 : decode cX4_pour 42 = .ok (.if_icmp .le 6, 3) := by decide +kernel
theorem dX4_pour_45 : decode cX4_pour 45 = .ok (.bipush (-4), 2) := by decide +kernel
theorem dX4_pour_47 : decode cX4_pour 47 = .ok (.ireturn, 1) := by decide +kernel
theorem dX4_pour_48 : decode cX4_pour 48 = .ok (.aload_n 0, 1) := by decide +kernel
theorem dX4_pour_49 : decode cX4_pour 49 = .ok (.getfield 7, 3) := by decide +kernel
theorem dX4_pour_52 : decode cX4_pour 52 = .ok (.sipush 658, 3) := by decide +kernel
theorem dX4_pour_55 : decode cX4_pour 55 = .ok (.iload_n 1, 1) := by decide +kernel
theorem dX4_pour_56 : decode cX4_pour 56 = .ok (.iload_n 2, 1) := by decide +kernel
theorem dX4_pour_57 : decode cX4_pour 57 = .ok (.iload_n 3, 1) := by decide +kernel
theorem dX4_pour_58 : decode cX4_pour 58 = .ok (.aload_n 0, 1) := by decide +kernel
theorem dX4_pour_59 : decode cX4_pour 59 = .ok (.iload_n 3, 1) := by decide +kernel
theorem dX4_pour_60 : decode cX4_pour 60 = .ok (.iload 4, 2) := by decide +kernel
theorem dX4_pour_62 : decode cX4_pour 62 = .ok (.invokevirtual 87, 3) := by decide +kernel
theorem dX4_pour_65 : decode cX4_pour 65 = .ok (.invokestatic 71, 3) := by decide +kernel
theorem dX4_pour_68 : decode cX4_pour 68 = .ok (.iadd, 1) := by decide +kernel
theorem dX4_pour_69 : decode cX4_pour 69 = .ok (.dup2, 1) := by decide +kernel
theorem dX4_pour_70 : decode cX4_pour 70 = .ok (.iaload, 1) := by decide +kernel
theorem dX4_pour_71 : decode cX4_pour 71 = .ok (.iload 5, 2) := by decide +kernel
theorem dX4_pour_73 : decode cX4_pour 73 = .ok (.iadd, 1) := by decide +kernel
theorem dX4_pour_74 : decode cX4_pour 74 = .ok (.iastore, 1) := by decide +kernel
theorem dX4_pour_75 : decode cX4_pour 75 = .ok (.iload 6, 2) := by decide +kernel
theorem dX4_pour_77 : decode cX4_pour 77 = .ok (.ireturn, 1) := by decide +kernel
theorem dX4_stepMomenta_0 : decode cX4_stepMomenta 0 = .ok (.aload_n 0, 1) := by decide +kernel
theorem dX4_stepMomenta_1 : decode cX4_stepMomenta 1 = .ok (.getfield 7, 3) := by decide +kernel
theorem dX4_stepMomenta_4 : decode cX4_stepMomenta 4 = .ok (.iconst 0, 1) := by decide +kernel
theorem dX4_stepMomenta_5 : decode cX4_stepMomenta 5 = .ok (.iaload, 1) := by decide +kernel
theorem dX4_stepMomenta_6 : decode cX4_stepMomenta 6 = .ok (.istore_n 1, 1) := by decide +kernel
theorem dX4_stepMomenta_7 : decode cX4_stepMomenta 7 = .ok (.iconst 0, 1) := by decide +kernel
theorem dX4_stepMomenta_8 : decode cX4_stepMomenta 8 = .ok (.istore_n 2, 1) := by decide +kernel
theorem dX4_stepMomenta_9 : decode cX4_stepMomenta 9 = .ok (.iload_n 2, 1) := by decide +kernel
theorem dX4_stepMomenta_10 : decode cX4_stepMomenta 10 = .ok (.iload_n 1, 1) := by decide +kernel
theorem dX4_stepMomenta_11 : decode cX4_stepMomenta 11 = .ok (.if_icmp .ge 20, 3) := by decide +kernel
theorem dX4_stepMomenta_14 : decode cX4_stepMomenta 14 = .ok (.aload_n 0, 1) := by decide +kernel
theorem dX4_stepMomenta_15 : decode cX4_stepMomenta 15 = .ok (.getfield 26, 3) := by decide +kernel
theorem dX4_stepMomenta_18 : decode cX4_stepMomenta 18 = .ok (.iload_n 2, 1) := by decide +kernel
theorem dX4_stepMomenta_19 : decode cX4_stepMomenta 19 = .ok (.aload_n 0, 1) := by decide +kernel
theorem dX4_stepMomenta_20 : decode cX4_stepMomenta 20 = .ok (.iload_n 2, 1) := by decide +kernel
theorem dX4_stepMomenta_21 : decode cX4_stepMomenta 21 = .ok (.invokevirtual 60, 3) := by decide +kernel
theorem dX4_stepMomenta_24 : decode cX4_stepMomenta 24 = .ok (.iastore, 1) := by decide +kernel
theorem dX4_stepMomenta_25 : decode cX4_stepMomenta 25 = .ok (.iinc 2 1, 3) := by decide +kernel
theorem dX4_stepMomenta_28 : decode cX4_stepMomenta 28 = .ok (.goto (-19), 3) := by decide +kernel
theorem dX4_stepMomenta_31 : decode cX4_stepMomenta 31 = .ok (.iconst 0, 1) := by decide +kernel
theorem dX4_stepMomenta_32 : decode cX4_stepMomenta 32 = .ok (.istore_n 2, 1) := by decide +kernel
theorem dX4_stepMomenta_33 : decode cX4_stepMomenta 33 = .ok (.iload_n 2, 1) := by decide +kernel
theorem dX4_stepMomenta_34 : decode cX4_stepMomenta 34 = .ok (.iload_n 1, 1) := by decide +kernel
theorem dX4_stepMomenta_35 : decode cX4_stepMomenta 35 = .ok (.if_icmp .ge 113, 3) := by decide +kernel
theorem dX4_stepMomenta_38 : decode cX4_stepMomenta 38 = .ok (.iload_n 2, 1) := by decide +kernel
theorem dX4_stepMomenta_39 : decode cX4_stepMomenta 39 = .ok (.iconst 1, 1) := by decide +kernel
theorem dX4_stepMomenta_40 : decode cX4_stepMomenta 40 = .ok (.iadd, 1) := by decide +kernel
theorem dX4_stepMomenta_41 : decode cX4_stepMomenta 41 = .ok (.iload_n 1, 1) := by decide +kernel
theorem dX4_stepMomenta_42 : decode cX4_stepMomenta 42 = .ok (.if_icmp .ge 57, 3) := by decide +kernel
theorem dX4_stepMomenta_45 : decode cX4_stepMomenta 45 = .ok (.aload_n 0, 1) := by decide +kernel
theorem dX4_stepMomenta_46 : decode cX4_stepMomenta 46 = .ok (.getfield 7, 3) := by decide +kernel
theorem dX4_stepMomenta_49 : decode cX4_stepMomenta 49 = .ok (.iconst 2, 1) := by decide +kernel
theorem dX4_stepMomenta_50 : decode cX4_stepMomenta 50 = .ok (.iaload, 1) := by decide +kernel
theorem dX4_stepMomenta_51 : decode cX4_stepMomenta 51 = .ok (.aload_n 0, 1) := by decide +kernel
theorem dX4_stepMomenta_52 : decode cX4_stepMomenta 52 = .ok (.getfield 26, 3) := by decide +kernel
theorem dX4_stepMomenta_55 : decode cX4_stepMomenta 55 = .ok (.iload_n 2, 1) := by decide +kernel
theorem dX4_stepMomenta_56 : decode cX4_stepMomenta 56 = .ok (.iaload, 1) := by decide +kernel
theorem dX4_stepMomenta_57 : decode cX4_stepMomenta 57 = .ok (.aload_n 0, 1) := by decide +kernel
theorem dX4_stepMomenta_58 : decode cX4_stepMomenta 58 = .ok (.getfield 26, 3) := by decide +kernel
theorem dX4_stepMomenta_61 : decode cX4_stepMomenta 61 = .ok (.iload_n 2, 1) := by decide +kernel
theorem dX4_stepMomenta_62 : decode cX4_stepMomenta 62 = .ok (.iconst 1, 1) := by decide +kernel
theorem dX4_stepMomenta_63 : decode cX4_stepMomenta 63 = .ok (.iadd, 1) := by decide +kernel
theorem dX4_stepMomenta_64 : decode cX4_stepMomenta 64 = .ok (.iaload, 1) := by decide +kernel
theorem dX4_stepMomenta_65 : decode cX4_stepMomenta 65 = .ok (.isub, 1) := by decide +kernel
theorem dX4_stepMomenta_66 : decode cX4_stepMomenta 66 = .ok (.imul, 1) := by decide +kernel
theorem dX4_stepMomenta_67 : decode cX4_stepMomenta 67 = .ok (.bipush 100, 2) := by decide +kernel
theorem dX4_stepMomenta_69 : decode cX4_stepMomenta 69 = .ok (.idiv, 1) := by decide +kernel
theorem dX4_stepMomenta_70 : decode cX4_stepMomenta 70 = .ok (.istore_n 3, 1) := by decide +kernel
theorem dX4_stepMomenta_71 : decode cX4_stepMomenta 71 = .ok (.aload_n 0, 1) := by decide +kernel
theorem dX4_stepMomenta_72 : decode cX4_stepMomenta 72 = .ok (.getfield 7, 3) := by decide +kernel
theorem dX4_stepMomenta_75 : decode cX4_stepMomenta 75 = .ok (.bipush 9, 2) := by decide +kernel
theorem dX4_stepMomenta_77 : decode cX4_stepMomenta 77 = .ok (.iload_n 2, 1) := by decide +kernel
theorem dX4_stepMomenta_78 : decode cX4_stepMomenta 78 = .ok (.iadd, 1) := by decide +kernel
theorem dX4_stepMomenta_79 : decode cX4_stepMomenta 79 = .ok (.dup2, 1) := by decide +kernel
theorem dX4_stepMomenta_80 : decode cX4_stepMomenta 80 = .ok (.iaload, 1) := by decide +kernel
theorem dX4_stepMomenta_81 : decode cX4_stepMomenta 81 = .ok (.iload_n 3, 1) := by decide +kernel
theorem dX4_stepMomenta_82 : decode cX4_stepMomenta 82 = .ok (.isub, 1) := by decide +kernel
theorem dX4_stepMomenta_83 : decode cX4_stepMomenta 83 = .ok (.iastore, 1) := by decide +kernel
theorem dX4_stepMomenta_84 : decode cX4_stepMomenta 84 = .ok (.aload_n 0, 1) := by decide +kernel
theorem dX4_stepMomenta_85 : decode cX4_stepMomenta 85 = .ok (.getfield 7, 3) := by decide +kernel
theorem dX4_stepMomenta_88 : decode cX4_stepMomenta 88 = .ok (.bipush 9, 2) := by decide +kernel
theorem dX4_stepMomenta_90 : decode cX4_stepMomenta 90 = .ok (.iload_n 2, 1) := by decide +kernel
theorem dX4_stepMomenta_91 : decode cX4_stepMomenta 91 = .ok (.iadd, 1) := by decide +kernel
theorem dX4_stepMomenta_92 : decode cX4_stepMomenta 92 = .ok (.iconst 1, 1) := by decide +kernel
theorem dX4_stepMomenta_93 : decode cX4_stepMomenta 93 = .ok (.iadd, 1) := by decide +kernel
theorem dX4_stepMomenta_94 : decode cX4_stepMomenta 94 = .ok (.dup2, 1) := by decide +kernel
theorem dX4_stepMomenta_95 : decode cX4_stepMomenta 95 = .ok (.iaload, 1) := by decide +kernel
theorem dX4_stepMomenta_96 : decode cX4_stepMomenta 96 = .ok (.iload_n 3, 1) := by decide +kernel
theorem dX4_stepMomenta_97 : decode cX4_stepMomenta 97 = .ok (.iadd, 1) := by decide +kernel
theorem dX4_stepMomenta_98 : decode cX4_stepMomenta 98 = .ok (.iastore, 1) := by decide +kernel
theorem dX4_stepMomenta_99 : decode cX4_stepMomenta 99 = .ok (.aload_n 0, 1) := by decide +kernel
theorem dX4_stepMomenta_100 : decode cX4_stepMomenta 100 = .ok (.getfield 7, 3) := by decide +kernel
theorem dX4_stepMomenta_103 : decode cX4_stepMomenta 103 = .ok (.bipush 9, 2) := by decide +kernel
theorem dX4_stepMomenta_105 : decode cX4_stepMomenta 105 = .ok (.iload_n 2, 1) := by decide +kernel
theorem dX4_stepMomenta_106 : decode cX4_stepMomenta 106 = .ok (.iadd, 1) := by decide +kernel
theorem dX4_stepMomenta_107 : decode cX4_stepMomenta 107 = .ok (.dup2, 1) := by decide +kernel
theorem dX4_stepMomenta_108 : decode cX4_stepMomenta 108 = .ok (.iaload, 1) := by decide +kernel
theorem dX4_stepMomenta_109 : decode cX4_stepMomenta 109 = .ok (.aload_n 0, 1) := by decide +kernel
theorem dX4_stepMomenta_110 : decode cX4_stepMomenta 110 = .ok (.getfield 7, 3) := by decide +kernel
theorem dX4_stepMomenta_113 : decode cX4_stepMomenta 113 = .ok (.iconst 5, 1) := by decide +kernel
theorem dX4_stepMomenta_114 : decode cX4_stepMomenta 114 = .ok (.iaload, 1) := by decide +kernel
theorem dX4_stepMomenta_115 : decode cX4_stepMomenta 115 = .ok (.aload_n 0, 1) := by decide +kernel
theorem dX4_stepMomenta_116 : decode cX4_stepMomenta 116 = .ok (.getfield 7, 3) := by decide +kernel
theorem dX4_stepMomenta_119 : decode cX4_stepMomenta 119 = .ok (.bipush 6, 2) := by decide +kernel
theorem dX4_stepMomenta_121 : decode cX4_stepMomenta 121 = .ok (.iaload, 1) := by decide +kernel
theorem dX4_stepMomenta_122 : decode cX4_stepMomenta 122 = .ok (.aload_n 0, 1) := by decide +kernel
theorem dX4_stepMomenta_123 : decode cX4_stepMomenta 123 = .ok (.getfield 26, 3) := by decide +kernel
theorem dX4_stepMomenta_126 : decode cX4_stepMomenta 126 = .ok (.iload_n 2, 1) := by decide +kernel
theorem dX4_stepMomenta_127 : decode cX4_stepMomenta 127 = .ok (.iaload, 1) := by decide +kernel
theorem dX4_stepMomenta_128 : decode cX4_stepMomenta 128 = .ok (.isub, 1) := by decide +kernel
theorem dX4_stepMomenta_129 : decode cX4_stepMomenta 129 = .ok (.imul, 1) := by decide +kernel
theorem dX4_stepMomenta_130 : decode cX4_stepMomenta 130 = .ok (.iconst 2, 1) := by decide +kernel
theorem dX4_stepMomenta_131 : decode cX4_stepMomenta 131 = .ok (.iload_n 2, 1) := by decide +kernel
theorem dX4_stepMomenta_132 : decode cX4_stepMomenta 132 = .ok (.imul, 1) := by decide +kernel
theorem dX4_stepMomenta_133 : decode cX4_stepMomenta 133 = .ok (.iconst 1, 1) := by decide +kernel
theorem dX4_stepMomenta_134 : decode cX4_stepMomenta 134 = .ok (.iadd, 1) := by decide +kernel
theorem dX4_stepMomenta_135 : decode cX4_stepMomenta 135 = .ok (.imul, 1) := by decide +kernel
theorem dX4_stepMomenta_136 : decode cX4_stepMomenta 136 = .ok (.sipush 1000, 3) := by decide +kernel
theorem dX4_stepMomenta_139 : decode cX4_stepMomenta 139 = .ok (.idiv, 1) := by decide +kernel
theorem dX4_stepMomenta_140 : decode cX4_stepMomenta 140 = .ok (.iadd, 1) := by decide +kernel
theorem dX4_stepMomenta_141 : decode cX4_stepMomenta 141 = .ok (.iastore, 1) := by decide +kernel
theorem dX4_stepMomenta_142 : decode cX4_stepMomenta 142 = .ok (.iinc 2 1, 3) := by decide +kernel
theorem dX4_stepMomenta_145 : decode cX4_stepMomenta 145 = .ok (.goto (-112), 3) := by decide +kernel
theorem dX4_stepMomenta_148 : decode cX4_stepMomenta 148 = .ok (.aload_n 0, 1) := by decide +kernel
theorem dX4_stepMomenta_149 : decode cX4_stepMomenta 149 = .ok (.getfield 7, 3) := by decide +kernel
theorem dX4_stepMomenta_152 : decode cX4_stepMomenta 152 = .ok (.bipush 9, 2) := by decide +kernel
theorem dX4_stepMomenta_154 : decode cX4_stepMomenta 154 = .ok (.iload_n 1, 1) := by decide +kernel
theorem dX4_stepMomenta_155 : decode cX4_stepMomenta 155 = .ok (.iadd, 1) := by decide +kernel
theorem dX4_stepMomenta_156 : decode cX4_stepMomenta 156 = .ok (.iconst 1, 1) := by decide +kernel
theorem dX4_stepMomenta_157 : decode cX4_stepMomenta 157 = .ok (.isub, 1) := by decide +kernel
theorem dX4_stepMomenta_158 : decode cX4_stepMomenta 158 = .ok (.dup2, 1) := by decide +kernel
theorem dX4_stepMomenta_159 : decode cX4_stepMomenta 159 = .ok (.iaload, 1) := by decide +kernel
theorem dX4_stepMomenta_160 : decode cX4_stepMomenta 160 = .ok (.aload_n 0, 1) := by decide +kernel
theorem dX4_stepMomenta_161 : decode cX4_stepMomenta 161 = .ok (.getfield 7, 3) := by decide +kernel
theorem dX4_stepMomenta_164 : decode cX4_stepMomenta 164 = .ok (.iconst 3, 1) := by decide +kernel
theorem dX4_stepMomenta_165 : decode cX4_stepMomenta 165 = .ok (.iaload, 1) := by decide +kernel
theorem dX4_stepMomenta_166 : decode cX4_stepMomenta 166 = .ok (.aload_n 0, 1) := by decide +kernel
theorem dX4_stepMomenta_167 : decode cX4_stepMomenta 167 = .ok (.getfield 7, 3) := by decide +kernel
theorem dX4_stepMomenta_170 : decode cX4_stepMomenta 170 = .ok (.iconst 4, 1) := by decide +kernel
theorem dX4_stepMomenta_171 : decode cX4_stepMomenta 171 = .ok (.iaload, 1) := by decide +kernel
theorem dX4_stepMomenta_172 : decode cX4_stepMomenta 172 = .ok (.aload_n 0, 1) := by decide +kernel
theorem dX4_stepMomenta_173 : decode cX4_stepMomenta 173 = .ok (.getfield 26, 3) := by decide +kernel
theorem dX4_stepMomenta_176 : decode cX4_stepMomenta 176 = .ok (.iload_n 1, 1) := by decide +kernel
theorem dX4_stepMomenta_177 : decode cX4_stepMomenta 177 = .ok (.iconst 1, 1) := by decide +kernel
theorem dX4_stepMomenta_178 : decode cX4_stepMomenta 178 = .ok (.isub, 1) := by decide +kernel
theorem dX4_stepMomenta_179 : decode cX4_stepMomenta 179 = .ok (.iaload, 1) := by decide +kernel
theorem dX4_stepMomenta_180 : decode cX4_stepMomenta 180 = .ok (.isub, 1) := by decide +kernel
theorem dX4_stepMomenta_181 : decode cX4_stepMomenta 181 = .ok (.imul, 1) := by decide +kernel
theorem dX4_stepMomenta_182 : decode cX4_stepMomenta 182 = .ok (.bipush 100, 2) := by decide +kernel
theorem dX4_stepMomenta_184 : decode cX4_stepMomenta 184 = .ok (.idiv, 1) := by decide +kernel
theorem dX4_stepMomenta_185 : decode cX4_stepMomenta 185 = .ok (.iadd, 1) := by decide +kernel
theorem dX4_stepMomenta_186 : decode cX4_stepMomenta 186 = .ok (.iastore, 1) := by decide +kernel
theorem dX4_stepMomenta_187 : decode cX4_stepMomenta 187 = .ok (.return_, 1) := by decide +kernel
theorem dX4_push_0 : decode cX4_push 0 = .ok (.aload_n 0, 1) := by decide +kernel
theorem dX4_push_1 : decode cX4_push 1 = .ok (.getfield 7, 3) := by decide +kernel
theorem dX4_push_4 : decode cX4_push 4 = .ok (.bipush 7, 2) := by decide +kernel
theorem dX4_push_6 : decode cX4_push 6 = .ok (.iaload, 1) := by decide +kernel
theorem dX4_push_7 : decode cX4_push 7 = .ok (.aload_n 0, 1) := by decide +kernel
theorem dX4_push_8 : decode cX4_push 8 = .ok (.iload_n 1, 1) := by decide +kernel
theorem dX4_push_9 : decode cX4_push 9 = .ok (.invokevirtual 60, 3) := by decide +kernel
theorem dX4_push_12 : decode cX4_push 12 = .ok (.aload_n 0, 1) := by decide +kernel
theorem dX4_push_13 : decode cX4_push 13 = .ok (.getfield 7, 3) := by decide +kernel
theorem dX4_push_16 : decode cX4_push 16 = .ok (.bipush 6, 2) := by decide +kernel
theorem dX4_push_18 : decode cX4_push 18 = .ok (.iaload, 1) := by decide +kernel
theorem dX4_push_19 : decode cX4_push 19 = .ok (.isub, 1) := by decide +kernel
theorem dX4_push_20 : decode cX4_push 20 = .ok (.imul, 1) := by decide +kernel
theorem dX4_push_21 : decode cX4_push 21 = .ok (.bipush 100, 2) := by decide +kernel
theorem dX4_push_23 : decode cX4_push 23 = .ok (.idiv, 1) := by decide +kernel
theorem dX4_push_24 : decode cX4_push 24 = .ok (.istore_n 2, 1) := by decide +kernel
theorem dX4_push_25 : decode cX4_push 25 = .ok (.iload_n 2, 1) := by decide +kernel
theorem dX4_push_26 : decode cX4_push 26 = .ok (.sipush (-500), 3) := by decide +kernel
theorem dX4_push_29 : decode cX4_push 29 = .ok (.if_icmp .ge 9, 3) := by decide +kernel
theorem dX4_push_32 : decode cX4_push 32 = .ok (.sipush (-500), 3) := by decide +kernel
theorem dX4_push_35 : decode cX4_push 35 = .ok (.goto 17, 3) := by decide +kernel
theorem dX4_push_38 : decode cX4_push 38 = .ok (.iload_n 2, 1) := by decide +kernel
theorem dX4_push_39 : decode cX4_push 39 = .ok (.sipush 500, 3) := by decide +kernel
theorem dX4_push_42 : decode cX4_push 42 = .ok (.if_icmp .le 9, 3) := by decide +kernel
theorem dX4_push_45 : decode cX4_push 45 = .ok (.sipush 500, 3) := by decide +kernel
theorem dX4_push_48 : decode cX4_push 48 = .ok (.goto 4, 3) := by decide +kernel
theorem dX4_push_51 : decode cX4_push 51 = .ok (.iload_n 2, 1) := by decide +kernel
theorem dX4_push_52 : decode cX4_push 52 = .ok (.ireturn, 1) := by decide +kernel
theorem dX4_stepRing_0 : decode cX4_stepRing 0 = .ok (.iload_n 3, 1) := by decide +kernel
theorem dX4_stepRing_1 : decode cX4_stepRing 1 = .ok (.ifCond .le 7, 3) := by decide +kernel
theorem dX4_stepRing_4 : decode cX4_stepRing 4 = .ok (.iconst 1, 1) := by decide +kernel
theorem dX4_stepRing_5 : decode cX4_stepRing 5 = .ok (.goto 4, 3) := by decide +kernel
theorem dX4_stepRing_8 : decode cX4_stepRing 8 = .ok (.iconst 0, 1) := by decide +kernel
theorem dX4_stepRing_9 : decode cX4_stepRing 9 = .ok (.iload_n 2, 1) := by decide +kernel
theorem dX4_stepRing_10 : decode cX4_stepRing 10 = .ok (.iconst 1, 1) := by decide +kernel
theorem dX4_stepRing_11 : decode cX4_stepRing 11 = .ok (.if_icmp .ne 7, 3) := by decide +kernel
theorem dX4_stepRing_14 : decode cX4_stepRing 14 = .ok (.iconst 1, 1) := by decide +kernel
theorem dX4_stepRing_15 : decode cX4_stepRing 15 = .ok (.goto 4, 3) := by decide +kernel
theorem dX4_stepRing_18 : decode cX4_stepRing 18 = .ok (.iconst 0, 1) := by decide +kernel
theorem dX4_stepRing_19 : decode cX4_stepRing 19 = .ok (.if_icmp .ne 7, 3) := by decide +kernel
theorem dX4_stepRing_22 : decode cX4_stepRing 22 = .ok (.iconst 1, 1) := by decide +kernel
theorem dX4_stepRing_23 : decode cX4_stepRing 23 = .ok (.goto 4, 3) := by decide +kernel
theorem dX4_stepRing_26 : decode cX4_stepRing 26 = .ok (.iconst 0, 1) := by decide +kernel
theorem dX4_stepRing_27 : decode cX4_stepRing 27 = .ok (.istore 4, 2) := by decide +kernel
theorem dX4_stepRing_29 : decode cX4_stepRing 29 = .ok (.iload 4, 2) := by decide +kernel
theorem dX4_stepRing_31 : decode cX4_stepRing 31 = .ok (.ifCond .eq 9, 3) := by decide +kernel
theorem dX4_stepRing_34 : decode cX4_stepRing 34 = .ok (.iload_n 1, 1) := by decide +kernel
theorem dX4_stepRing_35 : decode cX4_stepRing 35 = .ok (.iconst 1, 1) := by decide +kernel
theorem dX4_stepRing_36 : decode cX4_stepRing 36 = .ok (.isub, 1) := by decide +kernel
theorem dX4_stepRing_37 : decode cX4_stepRing 37 = .ok (.goto 6, 3) := by decide +kernel
theorem dX4_stepRing_40 : decode cX4_stepRing 40 = .ok (.iload_n 1, 1) := by decide +kernel
theorem dX4_stepRing_41 : decode cX4_stepRing 41 = .ok (.iconst 1, 1) := by decide +kernel
theorem dX4_stepRing_42 : decode cX4_stepRing 42 = .ok (.iadd, 1) := by decide +kernel
theorem dX4_stepRing_43 : decode cX4_stepRing 43 = .ok (.istore 5, 2) := by decide +kernel
theorem dX4_stepRing_45 : decode cX4_stepRing 45 = .ok (.iload_n 3, 1) := by decide +kernel
theorem dX4_stepRing_46 : decode cX4_stepRing 46 = .ok (.ifCond .eq 12, 3) := by decide +kernel
theorem dX4_stepRing_49 : decode cX4_stepRing 49 = .ok (.aload_n 0, 1) := by decide +kernel
theorem dX4_stepRing_50 : decode cX4_stepRing 50 = .ok (.iload 5, 2) := by decide +kernel
theorem dX4_stepRing_52 : decode cX4_stepRing 52 = .ok (.invokevirtual 52, 3) := by decide +kernel
theorem dX4_stepRing_55 : decode cX4_stepRing 55 = .ok (.ifCond .ne 4, 3) := by decide +kernel
theorem dX4_stepRing_58 : decode cX4_stepRing 58 = .ok (.return_, 1) := by decide +kernel
theorem dX4_stepRing_59 : decode cX4_stepRing 59 = .ok (.iload_n 3, 1) := by decide +kernel
theorem dX4_stepRing_60 : decode cX4_stepRing 60 = .ok (.ifCond .ge 8, 3) := by decide +kernel
theorem dX4_stepRing_63 : decode cX4_stepRing 63 = .ok (.iload_n 3, 1) := by decide +kernel
theorem dX4_stepRing_64 : decode cX4_stepRing 64 = .ok (.ineg, 1) := by decide +kernel
theorem dX4_stepRing_65 : decode cX4_stepRing 65 = .ok (.goto 4, 3) := by decide +kernel
theorem dX4_stepRing_68 : decode cX4_stepRing 68 = .ok (.iload_n 3, 1) := by decide +kernel
theorem dX4_stepRing_69 : decode cX4_stepRing 69 = .ok (.istore 6, 2) := by decide +kernel
theorem dX4_stepRing_71 : decode cX4_stepRing 71 = .ok (.iconst 0, 1) := by decide +kernel
theorem dX4_stepRing_72 : decode cX4_stepRing 72 = .ok (.istore 7, 2) := by decide +kernel
theorem dX4_stepRing_74 : decode cX4_stepRing 74 = .ok (.iload 7, 2) := by decide +kernel
theorem dX4_stepRing_76 : decode cX4_stepRing 76 = .ok (.bipush 24, 2) := by decide +kernel
theorem dX4_stepRing_78 : decode cX4_stepRing 78 = .ok (.if_icmp .ge 121, 3) := by decide +kernel
theorem dX4_stepRing_81 : decode cX4_stepRing 81 = .ok (.aload_n 0, 1) := by decide +kernel
theorem dX4_stepRing_82 : decode cX4_stepRing 82 = .ok (.iload 5, 2) := by decide +kernel
theorem dX4_stepRing_84 : decode cX4_stepRing 84 = .ok (.iload 7, 2) := by decide +kernel
theorem dX4_stepRing_86 : decode cX4_stepRing 86 = .ok (.aload_n 0, 1) := by decide +kernel
theorem dX4_stepRing_87 : decode cX4_stepRing 87 = .ok (.getfield 7, 3) := by decide +kernel
theorem dX4_stepRing_90 : decode cX4_stepRing 90 = .ok (.bipush 21, 2) := by decide +kernel
theorem dX4_stepRing_92 : decode cX4_stepRing 92 = .ok (.iload_n 1, 1) := by decide +kernel
theorem dX4_stepRing_93 : decode cX4_stepRing 93 = .ok (.iadd, 1) := by decide +kernel
theorem dX4_stepRing_94 : decode cX4_stepRing 94 = .ok (.iaload, 1) := by decide +kernel
theorem dX4_stepRing_95 : decode cX4_stepRing 95 = .ok (.sipush 150, 3) := by decide +kernel
theorem dX4_stepRing_98 : decode cX4_stepRing 98 = .ok (.idiv, 1) := by decide +kernel
theorem dX4_stepRing_99 : decode cX4_stepRing 99 = .ok (.iadd, 1) := by decide +kernel
theorem dX4_stepRing_100 : decode cX4_stepRing 100 = .ok (.bipush 24, 2) := by decide +kernel
theorem dX4_stepRing_102 : decode cX4_stepRing 102 = .ok (.irem, 1) := by decide +kernel
theorem dX4_stepRing_103 : decode cX4_stepRing 103 = .ok (.invokevirtual 87, 3) := by decide +kernel
theorem dX4_stepRing_106 : decode cX4_stepRing 106 = .ok (.istore 8, 2) := by decide +kernel
theorem dX4_stepRing_108 : decode cX4_stepRing 108 = .ok (.iconst 0, 1) := by decide +kernel
theorem dX4_stepRing_109 : decode cX4_stepRing 109 = .ok (.istore 9, 2) := by decide +kernel
theorem dX4_stepRing_111 : decode cX4_stepRing 111 = .ok (.iload 9, 2) := by decide +kernel
theorem dX4_stepRing_113 : decode cX4_stepRing 113 = .ok (.iconst 3, 1) := by decide +kernel
theorem dX4_stepRing_114 : decode cX4_stepRing 114 = .ok (.if_icmp .ge 79, 3) := by decide +kernel
theorem dX4_stepRing_117 : decode cX4_stepRing 117 = .ok (.iload 9, 2) := by decide +kernel
theorem dX4_stepRing_119 : decode cX4_stepRing 119 = .ok (.iload_n 2, 1) := by decide +kernel
theorem dX4_stepRing_120 : decode cX4_stepRing 120 = .ok (.iload_n 1, 1) := by decide +kernel
theorem dX4_stepRing_121 : decode cX4_stepRing 121 = .ok (.iload 7, 2) := by decide +kernel
theorem dX4_stepRing_123 : decode cX4_stepRing 123 = .ok (.invokestatic 71, 3) := by decide +kernel
theorem dX4_stepRing_126 : decode cX4_stepRing 126 = .ok (.istore 10, 2) := by decide +kernel
theorem dX4_stepRing_128 : decode cX4_stepRing 128 = .ok (.aload_n 0, 1) := by decide +kernel
theorem dX4_stepRing_129 : decode cX4_stepRing 129 = .ok (.getfield 23, 3) := by decide +kernel
theorem dX4_stepRing_132 : decode cX4_stepRing 132 = .ok (.iload 10, 2) := by decide +kernel
theorem dX4_stepRing_134 : decode cX4_stepRing 134 = .ok (.iaload, 1) := by decide +kernel
theorem dX4_stepRing_135 : decode cX4_stepRing 135 = .ok (.i2l, 1) := by decide +kernel
theorem dX4_stepRing_136 : decode cX4_stepRing 136 = .ok (.iload 6, 2) := by decide +kernel
theorem dX4_stepRing_138 : decode cX4_stepRing 138 = .ok (.i2l, 1) := by decide +kernel
theorem dX4_stepRing_139 : decode cX4_stepRing 139 = .ok (.lmul, 1) := by decide +kernel
theorem dX4_stepRing_140 : decode cX4_stepRing 140 = .ok (.ldc2_w 90, 3) := by decide +kernel
theorem dX4_stepRing_143 : decode cX4_stepRing 143 = .ok (.ldiv, 1) := by decide +kernel
theorem dX4_stepRing_144 : decode cX4_stepRing 144 = .ok (.l2i, 1) := by decide +kernel
theorem dX4_stepRing_145 : decode cX4_stepRing 145 = .ok (.istore 11, 2) := by decide +kernel
theorem dX4_stepRing_147 : decode cX4_stepRing 147 = .ok (.aload_n 0, 1) := by decide +kernel
theorem dX4_stepRing_148 : decode cX4_stepRing 148 = .ok (.getfield 7, 3) := by decide +kernel
theorem dX4_stepRing_151 : decode cX4_stepRing 151 = .ok (.sipush 658, 3) := by decide +kernel
theorem dX4_stepRing_154 : decode cX4_stepRing 154 = .ok (.iload 10, 2) := by decide +kernel
theorem dX4_stepRing_156 : decode cX4_stepRing 156 = .ok (.iadd, 1) := by decide +kernel
theorem dX4_stepRing_157 : decode cX4_stepRing 157 = .ok (.dup2, 1) := by decide +kernel
theorem dX4_stepRing_158 : decode cX4_stepRing 158 = .ok (.iaload, 1) := by decide +kernel
theorem dX4_stepRing_159 : decode cX4_stepRing 159 = .ok (.iload 11, 2) := by decide +kernel
theorem dX4_stepRing_161 : decode cX4_stepRing 161 = .ok (.isub, 1) := by decide +kernel
theorem dX4_stepRing_162 : decode cX4_stepRing 162 = .ok (.iastore, 1) := by decide +kernel
theorem dX4_stepRing_163 : decode cX4_stepRing 163 = .ok (.aload_n 0, 1) := by decide +kernel
theorem dX4_stepRing_164 : decode cX4_stepRing 164 = .ok (.getfield 7, 3) := by decide +kernel
theorem dX4_stepRing_167 : decode cX4_stepRing 167 = .ok (.sipush 658, 3) := by decide +kernel
theorem dX4_stepRing_170 : decode cX4_stepRing 170 = .ok (.iload 9, 2) := by decide +kernel
theorem dX4_stepRing_172 : decode cX4_stepRing 172 = .ok (.iload_n 2, 1) := by decide +kernel
theorem dX4_stepRing_173 : decode cX4_stepRing 173 = .ok (.iload 5, 2) := by decide +kernel
theorem dX4_stepRing_175 : decode cX4_stepRing 175 = .ok (.iload 8, 2) := by decide +kernel
theorem dX4_stepRing_177 : decode cX4_stepRing 177 = .ok (.invokestatic 71, 3) := by decide +kernel
theorem dX4_stepRing_180 : decode cX4_stepRing 180 = .ok (.iadd, 1) := by decide +kernel
theorem dX4_stepRing_181 : decode cX4_stepRing 181 = .ok (.dup2, 1) := by decide +kernel
theorem dX4_stepRing_182 : decode cX4_stepRing 182 = .ok (.iaload, 1) := by decide +kernel
theorem dX4_stepRing_183 : decode cX4_stepRing 183 = .ok (.iload 11, 2) := by decide +kernel
theorem dX4_stepRing_185 : decode cX4_stepRing 185 = .ok (.iadd, 1) := by decide +kernel
theorem dX4_stepRing_186 : decode cX4_stepRing 186 = .ok (.iastore, 1) := by decide +kernel
theorem dX4_stepRing_187 : decode cX4_stepRing 187 = .ok (.iinc 9 1, 3) := by decide +kernel
theorem dX4_stepRing_190 : decode cX4_stepRing 190 = .ok (.goto (-79), 3) := by decide +kernel
theorem dX4_stepRing_193 : decode cX4_stepRing 193 = .ok (.iinc 7 1, 3) := by decide +kernel
theorem dX4_stepRing_196 : decode cX4_stepRing 196 = .ok (.goto (-122), 3) := by decide +kernel
theorem dX4_stepRing_199 : decode cX4_stepRing 199 = .ok (.return_, 1) := by decide +kernel
theorem dX4_stepDyes_0 : decode cX4_stepDyes 0 = .ok (.iconst 0, 1) := by decide +kernel
theorem dX4_stepDyes_1 : decode cX4_stepDyes 1 = .ok (.istore_n 1, 1) := by decide +kernel
theorem dX4_stepDyes_2 : decode cX4_stepDyes 2 = .ok (.iload_n 1, 1) := by decide +kernel
theorem dX4_stepDyes_3 : decode cX4_stepDyes 3 = .ok (.sipush 1728, 3) := by decide +kernel
theorem dX4_stepDyes_6 : decode cX4_stepDyes 6 = .ok (.if_icmp .ge 25, 3) := by decide +kernel
theorem dX4_stepDyes_9 : decode cX4_stepDyes 9 = .ok (.aload_n 0, 1) := by decide +kernel
theorem dX4_stepDyes_10 : decode cX4_stepDyes 10 = .ok (.getfield 23, 3) := by decide +kernel
theorem dX4_stepDyes_13 : decode cX4_stepDyes 13 = .ok (.iload_n 1, 1) := by decide +kernel
theorem dX4_stepDyes_14 : decode cX4_stepDyes 14 = .ok (.aload_n 0, 1) := by decide +kernel
theorem dX4_stepDyes_15 : decode cX4_stepDyes 15 = .ok (.getfield 7, 3) := by decide +kernel
theorem dX4_stepDyes_18 : decode cX4_stepDyes 18 = .ok (.sipush 658, 3) := by decide +kernel
theorem dX4_stepDyes_21 : decode cX4_stepDyes 21 = .ok (.iload_n 1, 1) := by decide +kernel
theorem dX4_stepDyes_22 : decode cX4_stepDyes 22 = .ok (.iadd, 1) := by decide +kernel
theorem dX4_stepDyes_23 : decode cX4_stepDyes 23 = .ok (.iaload, 1) := by decide +kernel
theorem dX4_stepDyes_24 : decode cX4_stepDyes 24 = .ok (.iastore, 1) := by decide +kernel
theorem dX4_stepDyes_25 : decode cX4_stepDyes 25 = .ok (.iinc 1 1, 3) := by decide +kernel
theorem dX4_stepDyes_28 : decode cX4_stepDyes 28 = .ok (.goto (-26), 3) := by decide +kernel
theorem dX4_stepDyes_31 : decode cX4_stepDyes 31 = .ok (.iconst 0, 1) := by decide +kernel
theorem dX4_stepDyes_32 : decode cX4_stepDyes 32 = .ok (.istore_n 1, 1) := by decide +kernel
theorem dX4_stepDyes_33 : decode cX4_stepDyes 33 = .ok (.iload_n 1, 1) := by decide +kernel
theorem dX4_stepDyes_34 : decode cX4_stepDyes 34 = .ok (.aload_n 0, 1) := by decide +kernel
theorem dX4_stepDyes_35 : decode cX4_stepDyes 35 = .ok (.getfield 7, 3) := by decide +kernel
theorem dX4_stepDyes_38 : decode cX4_stepDyes 38 = .ok (.iconst 0, 1) := by decide +kernel
theorem dX4_stepDyes_39 : decode cX4_stepDyes 39 = .ok (.iaload, 1) := by decide +kernel
theorem dX4_stepDyes_40 : decode cX4_stepDyes 40 = .ok (.if_icmp .ge 31, 3) := by decide +kernel
theorem dX4_stepDyes_43 : decode cX4_stepDyes 43 = .ok (.aload_n 0, 1) := by decide +kernel
theorem dX4_stepDyes_44 : decode cX4_stepDyes 44 = .ok (.iload_n 1, 1) := by decide +kernel
theorem dX4_stepDyes_45 : decode cX4_stepDyes 45 = .ok (.iconst 0, 1) := by decide +kernel
theorem dX4_stepDyes_46 : decode cX4_stepDyes 46 = .ok (.aload_n 0, 1) := by decide +kernel
theorem dX4_stepDyes_47 : decode cX4_stepDyes 47 = .ok (.iload_n 1, 1) := by decide +kernel
theorem dX4_stepDyes_48 : decode cX4_stepDyes 48 = .ok (.invokevirtual 92, 3) := by decide +kernel
theorem dX4_stepDyes_51 : decode cX4_stepDyes 51 = .ok (.invokevirtual 95, 3) := by decide +kernel
theorem dX4_stepDyes_54 : decode cX4_stepDyes 54 = .ok (.aload_n 0, 1) := by decide +kernel
theorem dX4_stepDyes_55 : decode cX4_stepDyes 55 = .ok (.iload_n 1, 1) := by decide +kernel
theorem dX4_stepDyes_56 : decode cX4_stepDyes 56 = .ok (.iconst 1, 1) := by decide +kernel
theorem dX4_stepDyes_57 : decode cX4_stepDyes 57 = .ok (.aload_n 0, 1) := by decide +kernel
theorem dX4_stepDyes_58 : decode cX4_stepDyes 58 = .ok (.iload_n 1, 1) := by decide +kernel
theorem dX4_stepDyes_59 : decode cX4_stepDyes 59 = .ok (.invokevirtual 92, 3) := by decide +kernel
theorem dX4_stepDyes_62 : decode cX4_stepDyes 62 = .ok (.invokevirtual 95, 3) := by decide +kernel
theorem dX4_stepDyes_65 : decode cX4_stepDyes 65 = .ok (.iinc 1 1, 3) := by decide +kernel
theorem dX4_stepDyes_68 : decode cX4_stepDyes 68 = .ok (.goto (-35), 3) := by decide +kernel
theorem dX4_stepDyes_71 : decode cX4_stepDyes 71 = .ok (.return_, 1) := by decide +kernel
theorem dX4_mix_0 : decode cX4_mix 0 = .ok (.iconst 0, 1) := by decide +kernel
theorem dX4_mix_1 : decode cX4_mix 1 = .ok (.istore_n 1, 1) := by decide +kernel
theorem dX4_mix_2 : decode cX4_mix 2 = .ok (.iload_n 1, 1) := by decide +kernel
theorem dX4_mix_3 : decode cX4_mix 3 = .ok (.iconst 3, 1) := by decide +kernel
theorem dX4_mix_4 : decode cX4_mix 4 = .ok (.if_icmp .ge 113, 3) := by decide +kernel
theorem dX4_mix_7 : decode cX4_mix 7 = .ok (.iconst 0, 1) := by decide +kernel
theorem dX4_mix_8 : decode cX4_mix 8 = .ok (.istore_n 2, 1) := by decide +kernel
theorem dX4_mix_9 : decode cX4_mix 9 = .ok (.iload_n 2, 1) := by decide +kernel
theorem dX4_mix_10 : decode cX4_mix 10 = .ok (.bipush 24, 2) := by decide +kernel
theorem dX4_mix_12 : decode cX4_mix 12 = .ok (.aload_n 0, 1) := by decide +kernel
theorem dX4_mix_13 : decode cX4_mix 13 = .ok (.getfield 7, 3) := by decide +kernel
theorem dX4_mix_16 : decode cX4_mix 16 = .ok (.iconst 0, 1) := by decide +kernel
theorem dX4_mix_17 : decode cX4_mix 17 = .ok (.iaload, 1) := by decide +kernel
theorem dX4_mix_18 : decode cX4_mix 18 = .ok (.imul, 1) := by decide +kernel
theorem dX4_mix_19 : decode cX4_mix 19 = .ok (.if_icmp .ge 92, 3) := by decide +kernel
theorem dX4_mix_22 : decode cX4_mix 22 = .ok (.sipush 658, 3) := by decide +kernel
theorem dX4_mix_25 : decode cX4_mix 25 = .ok (.iload_n 1, 1) := by decide +kernel
theorem dX4_mix_26 : decode cX4_mix 26 = .ok (.iconst 0, 1) := by decide +kernel
theorem dX4_mix_27 : decode cX4_mix 27 = .ok (.iconst 0, 1) := by decide +kernel
theorem dX4_mix_28 : decode cX4_mix 28 = .ok (.iconst 0, 1) := by decide +kernel
theorem dX4_mix_29 : decode cX4_mix 29 = .ok (.invokestatic 71, 3) := by decide +kernel
theorem dX4_mix_32 : decode cX4_mix 32 = .ok (.iadd, 1) := by decide +kernel
theorem dX4_mix_33 : decode cX4_mix 33 = .ok (.iload_n 2, 1) := by decide +kernel
theorem dX4_mix_34 : decode cX4_mix 34 = .ok (.iadd, 1) := by decide +kernel
theorem dX4_mix_35 : decode cX4_mix 35 = .ok (.istore_n 3, 1) := by decide +kernel
theorem dX4_mix_36 : decode cX4_mix 36 = .ok (.sipush 658, 3) := by decide +kernel
theorem dX4_mix_39 : decode cX4_mix 39 = .ok (.iload_n 1, 1) := by decide +kernel
theorem dX4_mix_40 : decode cX4_mix 40 = .ok (.iconst 1, 1) := by decide +kernel
theorem dX4_mix_41 : decode cX4_mix 41 = .ok (.iconst 0, 1) := by decide +kernel
theorem dX4_mix_42 : decode cX4_mix 42 = .ok (.iconst 0, 1) := by decide +kernel
theorem dX4_mix_43 : decode cX4_mix 43 = .ok (.invokestatic 71, 3) := by decide +kernel
theorem dX4_mix_46 : decode cX4_mix 46 = .ok (.iadd, 1) := by decide +kernel
theorem dX4_mix_47 : decode cX4_mix 47 = .ok (.iload_n 2, 1) := by decide +kernel
theorem dX4_mix_48 : decode cX4_mix 48 = .ok (.iadd, 1) := by decide +kernel
theorem dX4_mix_49 : decode cX4_mix 49 = .ok (.istore 4, 2) := by decide +kernel
theorem dX4_mix_51 : decode cX4_mix 51 = .ok (.aload_n 0, 1) := by decide +kernel
theorem dX4_mix_52 : decode cX4_mix 52 = .ok (.getfield 7, 3) := by decide +kernel
theorem dX4_mix_55 : decode cX4_mix 55 = .ok (.iload_n 3, 1) := by decide +kernel
theorem dX4_mix_56 : decode cX4_mix 56 = .ok (.iaload, 1) := by decide +kernel
theorem dX4_mix_57 : decode cX4_mix 57 = .ok (.aload_n 0, 1) := by decide +kernel
theorem dX4_mix_58 : decode cX4_mix 58 = .ok (.getfield 7, 3) := by decide +kernel
theorem dX4_mix_61 : decode cX4_mix 61 = .ok (.iload 4, 2) := by decide +kernel
theorem dX4_mix_63 : decode cX4_mix 63 = .ok (.iaload, 1) := by decide +kernel
theorem dX4_mix_64 : decode cX4_mix 64 = .ok (.isub, 1) := by decide +kernel
theorem dX4_mix_65 : decode cX4_mix 65 = .ok (.i2l, 1) := by decide +kernel
theorem dX4_mix_66 : decode cX4_mix 66 = .ok (.aload_n 0, 1) := by decide +kernel
theorem dX4_mix_67 : decode cX4_mix 67 = .ok (.getfield 7, 3) := by decide +kernel
theorem dX4_mix_70 : decode cX4_mix 70 = .ok (.bipush 8, 2) := by decide +kernel
theorem dX4_mix_72 : decode cX4_mix 72 = .ok (.iaload, 1) := by decide +kernel
theorem dX4_mix_73 : decode cX4_mix 73 = .ok (.i2l, 1) := by decide +kernel
theorem dX4_mix_74 : decode cX4_mix 74 = .ok (.lmul, 1) := by decide +kernel
theorem dX4_mix_75 : decode cX4_mix 75 = .ok (.ldc2_w 99, 3) := by decide +kernel
theorem dX4_mix_78 : decode cX4_mix 78 = .ok (.ldiv, 1) := by decide +kernel
theorem dX4_mix_79 : decode cX4_mix 79 = .ok (.l2i, 1) := by decide +kernel
theorem dX4_mix_80 : decode cX4_mix 80 = .ok (.istore 5, 2) := by decide +kernel
theorem dX4_mix_82 : decode cX4_mix 82 = .ok (.aload_n 0, 1) := by decide +kernel
theorem dX4_mix_83 : decode cX4_mix 83 = .ok (.getfield 7, 3) := by decide +kernel
theorem dX4_mix_86 : decode cX4_mix 86 = .ok (.iload_n 3, 1) := by decide +kernel
theorem dX4_mix_87 : decode cX4_mix 87 = .ok (.dup2, 1) := by decide +kernel
theorem dX4_mix_88 : decode cX4_mix 88 = .ok (.iaload, 1) := by decide +kernel
theorem dX4_mix_89 : decode cX4_mix 89 = .ok (.iload 5, 2) := by decide +kernel
theorem dX4_mix_91 : decode cX4_mix 91 = .ok (.isub, 1) := by decide +kernel
theorem dX4_mix_92 : decode cX4_mix 92 = .ok (.iastore, 1) := by decide +kernel
theorem dX4_mix_93 : decode cX4_mix 93 = .ok (.aload_n 0, 1) := by decide +kernel
theorem dX4_mix_94 : decode cX4_mix 94 = .ok (.getfield 7, 3) := by decide +kernel
theorem dX4_mix_97 : decode cX4_mix 97 = .ok (.iload 4, 2) := by decide +kernel
theorem dX4_mix_99 : decode cX4_mix 99 = .ok (.dup2, 1) := by decide +kernel
theorem dX4_mix_100 : decode cX4_mix 100 = .ok (.iaload, 1) := by decide +kernel
theorem dX4_mix_101 : decode cX4_mix 101 = .ok (.iload 5, 2) := by decide +kernel
theorem dX4_mix_103 : decode cX4_mix 103 = .ok (.iadd, 1) := by decide +kernel
theorem dX4_mix_104 : decode cX4_mix 104 = .ok (.iastore, 1) := by decide +kernel
theorem dX4_mix_105 : decode cX4_mix 105 = .ok (.iinc 2 1, 3) := by decide +kernel
theorem dX4_mix_108 : decode cX4_mix 108 = .ok (.goto (-99), 3) := by decide +kernel
theorem dX4_mix_111 : decode cX4_mix 111 = .ok (.iinc 1 1, 3) := by decide +kernel
theorem dX4_mix_114 : decode cX4_mix 114 = .ok (.goto (-112), 3) := by decide +kernel
theorem dX4_mix_117 : decode cX4_mix 117 = .ok (.return_, 1) := by decide +kernel
theorem dX4_stepMarker_0 : decode cX4_stepMarker 0 = .ok (.bipush 34, 2) := by decide +kernel
theorem dX4_stepMarker_2 : decode cX4_stepMarker 2 = .ok (.bipush 104, 2) := by decide +kernel
theorem dX4_stepMarker_4 : decode cX4_stepMarker 4 = .ok (.iload_n 1, 1) := by decide +kernel
theorem dX4_stepMarker_5 : decode cX4_stepMarker 5 = .ok (.imul, 1) := by decide +kernel
theorem dX4_stepMarker_6 : decode cX4_stepMarker 6 = .ok (.iadd, 1) := by decide +kernel
theorem dX4_stepMarker_7 : decode cX4_stepMarker 7 = .ok (.istore_n 2, 1) := by decide +kernel
theorem dX4_stepMarker_8 : decode cX4_stepMarker 8 = .ok (.aload_n 0, 1) := by decide +kernel
theorem dX4_stepMarker_9 : decode cX4_stepMarker 9 = .ok (.getfield 7, 3) := by decide +kernel
theorem dX4_stepMarker_12 : decode cX4_stepMarker 12 = .ok (.iload_n 2, 1) := by decide +kernel
theorem dX4_stepMarker_13 : decode cX4_stepMarker 13 = .ok (.iconst 0, 1) := by decide +kernel
theorem dX4_stepMarker_14 : decode cX4_stepMarker 14 = .ok (.iadd, 1) := by decide +kernel
theorem dX4_stepMarker_15 : decode cX4_stepMarker 15 = .ok (.iaload, 1) := by decide +kernel
theorem dX4_stepMarker_16 : decode cX4_stepMarker 16 = .ok (.sipush 1000, 3) := by decide +kernel
theorem dX4_stepMarker_19 : decode cX4_stepMarker 19 = .ok (.idiv, 1) := by decide +kernel
theorem dX4_stepMarker_20 : decode cX4_stepMarker 20 = .ok (.istore_n 3, 1) := by decide +kernel
theorem dX4_stepMarker_21 : decode cX4_stepMarker 21 = .ok (.aload_n 0, 1) := by decide +kernel
theorem dX4_stepMarker_22 : decode cX4_stepMarker 22 = .ok (.getfield 7, 3) := by decide +kernel
theorem dX4_stepMarker_25 : decode cX4_stepMarker 25 = .ok (.iload_n 2, 1) := by decide +kernel
theorem dX4_stepMarker_26 : decode cX4_stepMarker 26 = .ok (.iconst 0, 1) := by decide +kernel
theorem dX4_stepMarker_27 : decode cX4_stepMarker 27 = .ok (.iadd, 1) := by decide +kernel
theorem dX4_stepMarker_28 : decode cX4_stepMarker 28 = .ok (.iaload, 1) := by decide +kernel
theorem dX4_stepMarker_29 : decode cX4_stepMarker 29 = .ok (.aload_n 0, 1) := by decide +kernel
theorem dX4_stepMarker_30 : decode cX4_stepMarker 30 = .ok (.iload_n 3, 1) := by decide +kernel
theorem dX4_stepMarker_31 : decode cX4_stepMarker 31 = .ok (.invokevirtual 92, 3) := by decide +kernel
theorem dX4_stepMarker_34 : decode cX4_stepMarker 34 = .ok (.iadd, 1) := by decide +kernel
theorem dX4_stepMarker_35 : decode cX4_stepMarker 35 = .ok (.istore 4, 2) := by decide +kernel
theorem dX4_stepMarker_37 : decode cX4_stepMarker 37 = .ok (.iload 4, 2) := by decide +kernel
theorem dX4_stepMarker_39 : decode cX4_stepMarker 39 = .ok (.ifCond .ge 7, 3) := by decide +kernel
theorem dX4_stepMarker_42 : decode cX4_stepMarker 42 = .ok (.iconst 0, 1) := by decide +kernel
theorem dX4_stepMarker_43 : decode cX4_stepMarker 43 = .ok (.goto 37, 3) := by decide +kernel
theorem dX4_stepMarker_46 : decode cX4_stepMarker 46 = .ok (.iload 4, 2) := by decide +kernel
theorem dX4_stepMarker_48 : decode cX4_stepMarker 48 = .ok (.sipush 1000, 3) := by decide +kernel
theorem dX4_stepMarker_51 : decode cX4_stepMarker 51 = .ok (.aload_n 0, 1) := by decide +kernel
theorem dX4_stepMarker_52 : decode cX4_stepMarker 52 = .ok (.getfield 7, 3) := by decide +kernel
theorem dX4_stepMarker_55 : decode cX4_stepMarker 55 = .ok (.iconst 0, 1) := by decide +kernel
theorem dX4_stepMarker_56 : decode cX4_stepMarker 56 = .ok (.iaload, 1) := by decide +kernel
theorem dX4_stepMarker_57 : decode cX4_stepMarker 57 = .ok (.imul, 1) := by decide +kernel
theorem dX4_stepMarker_58 : decode cX4_stepMarker 58 = .ok (.iconst 1, 1) := by decide +kernel
theorem dX4_stepMarker_59 : decode cX4_stepMarker 59 = .ok (.isub, 1) := by decide +kernel
theorem dX4_stepMarker_60 : decode cX4_stepMarker 60 = .ok (.if_icmp .le 18, 3) := by decide +kernel
theorem dX4_stepMarker_63 : decode cX4_stepMarker 63 = .ok (.sipush 1000, 3) := by decide +kernel
theorem dX4_stepMarker_66 : decode cX4_stepMarker 66 = .ok (.aload_n 0, 1) := by decide +kernel
theorem dX4_stepMarker_67 : decode cX4_stepMarker 67 = .ok (.getfield 7, 3) := by decide +kernel
theorem dX4_stepMarker_70 : decode cX4_stepMarker 70 = .ok (.iconst 0, 1) := by decide +kernel
theorem dX4_stepMarker_71 : decode cX4_stepMarker 71 = .ok (.iaload, 1) := by decide +kernel
theorem dX4_stepMarker_72 : decode cX4_stepMarker 72 = .ok (.imul, 1) := by decide +kernel
theorem dX4_stepMarker_73 : decode cX4_stepMarker 73 = .ok (.iconst 1, 1) := by decide +kernel
theorem dX4_stepMarker_74 : decode cX4_stepMarker 74 = .ok (.isub, 1) := by decide +kernel
theorem dX4_stepMarker_75 : decode cX4_stepMarker 75 = .ok (.goto 5, 3) := by decide +kernel
theorem dX4_stepMarker_78 : decode cX4_stepMarker 78 = .ok (.iload 4, 2) := by decide +kernel
theorem dX4_stepMarker_80 : decode cX4_stepMarker 80 = .ok (.istore 4, 2) := by decide +kernel
theorem dX4_stepMarker_82 : decode cX4_stepMarker 82 = .ok (.aload_n 0, 1) := by decide +kernel
theorem dX4_stepMarker_83 : decode cX4_stepMarker 83 = .ok (.getfield 7, 3) := by decide +kernel
theorem dX4_stepMarker_86 : decode cX4_stepMarker 86 = .ok (.iload_n 2, 1) := by decide +kernel
theorem dX4_stepMarker_87 : decode cX4_stepMarker 87 = .ok (.iconst 1, 1) := by decide +kernel
theorem dX4_stepMarker_88 : decode cX4_stepMarker 88 = .ok (.iadd, 1) := by decide +kernel
theorem dX4_stepMarker_89 : decode cX4_stepMarker 89 = .ok (.aload_n 0, 1) := by decide +kernel
theorem dX4_stepMarker_90 : decode cX4_stepMarker 90 = .ok (.getfield 7, 3) := by decide +kernel
theorem dX4_stepMarker_93 : decode cX4_stepMarker 93 = .ok (.iload_n 2, 1) := by decide +kernel
theorem dX4_stepMarker_94 : decode cX4_stepMarker 94 = .ok (.iconst 1, 1) := by decide +kernel
theorem dX4_stepMarker_95 : decode cX4_stepMarker 95 = .ok (.iadd, 1) := by decide +kernel
theorem dX4_stepMarker_96 : decode cX4_stepMarker 96 = .ok (.iaload, 1) := by decide +kernel
theorem dX4_stepMarker_97 : decode cX4_stepMarker 97 = .ok (.aload_n 0, 1) := by decide +kernel
theorem dX4_stepMarker_98 : decode cX4_stepMarker 98 = .ok (.iload_n 3, 1) := by decide +kernel
theorem dX4_stepMarker_99 : decode cX4_stepMarker 99 = .ok (.invokevirtual 60, 3) := by decide +kernel
theorem dX4_stepMarker_102 : decode cX4_stepMarker 102 = .ok (.iadd, 1) := by decide +kernel
theorem dX4_stepMarker_103 : decode cX4_stepMarker 103 = .ok (.sipush 3600, 3) := by decide +kernel
theorem dX4_stepMarker_106 : decode cX4_stepMarker 106 = .ok (.invokestatic 68, 3) := by decide +kernel
theorem dX4_stepMarker_109 : decode cX4_stepMarker 109 = .ok (.iastore, 1) := by decide +kernel
theorem dX4_stepMarker_110 : decode cX4_stepMarker 110 = .ok (.aload_n 0, 1) := by decide +kernel
theorem dX4_stepMarker_111 : decode cX4_stepMarker 111 = .ok (.getfield 7, 3) := by decide +kernel
theorem dX4_stepMarker_114 : decode cX4_stepMarker 114 = .ok (.iload_n 2, 1) := by decide +kernel
theorem dX4_stepMarker_115 : decode cX4_stepMarker 115 = .ok (.iconst 0, 1) := by decide +kernel
theorem dX4_stepMarker_116 : decode cX4_stepMarker 116 = .ok (.iadd, 1) := by decide +kernel
theorem dX4_stepMarker_117 : decode cX4_stepMarker 117 = .ok (.iload 4, 2) := by decide +kernel
theorem dX4_stepMarker_119 : decode cX4_stepMarker 119 = .ok (.iastore, 1) := by decide +kernel
theorem dX4_stepMarker_120 : decode cX4_stepMarker 120 = .ok (.aload_n 0, 1) := by decide +kernel
theorem dX4_stepMarker_121 : decode cX4_stepMarker 121 = .ok (.getfield 7, 3) := by decide +kernel
theorem dX4_stepMarker_124 : decode cX4_stepMarker 124 = .ok (.iload_n 2, 1) := by decide +kernel
theorem dX4_stepMarker_125 : decode cX4_stepMarker 125 = .ok (.iconst 3, 1) := by decide +kernel
theorem dX4_stepMarker_126 : decode cX4_stepMarker 126 = .ok (.iadd, 1) := by decide +kernel
theorem dX4_stepMarker_127 : decode cX4_stepMarker 127 = .ok (.dup2, 1) := by decide +kernel
theorem dX4_stepMarker_128 : decode cX4_stepMarker 128 = .ok (.iaload, 1) := by decide +kernel
theorem dX4_stepMarker_129 : decode cX4_stepMarker 129 = .ok (.iload 4, 2) := by decide +kernel
theorem dX4_stepMarker_131 : decode cX4_stepMarker 131 = .ok (.sipush 1000, 3) := by decide +kernel
theorem dX4_stepMarker_134 : decode cX4_stepMarker 134 = .ok (.idiv, 1) := by decide +kernel
theorem dX4_stepMarker_135 : decode cX4_stepMarker 135 = .ok (.iload_n 3, 1) := by decide +kernel
theorem dX4_stepMarker_136 : decode cX4_stepMarker 136 = .ok (.if_icmp .eq 7, 3) := by decide +kernel
theorem dX4_stepMarker_139 : decode cX4_stepMarker 139 = .ok (.iconst 1, 1) := by decide +kernel
theorem dX4_stepMarker_140 : decode cX4_stepMarker 140 = .ok (.goto 4, 3) := by decide +kernel
theorem dX4_stepMarker_143 : decode cX4_stepMarker 143 = .ok (.iconst 0, 1) := by decide +kernel
theorem dX4_stepMarker_144 : decode cX4_stepMarker 144 = .ok (.iadd, 1) := by decide +kernel
theorem dX4_stepMarker_145 : decode cX4_stepMarker 145 = .ok (.iastore, 1) := by decide +kernel
theorem dX4_stepMarker_146 : decode cX4_stepMarker 146 = .ok (.iload_n 2, 1) := by decide +kernel
theorem dX4_stepMarker_147 : decode cX4_stepMarker 147 = .ok (.iconst 4, 1) := by decide +kernel
theorem dX4_stepMarker_148 : decode cX4_stepMarker 148 = .ok (.iadd, 1) := by decide +kernel
theorem dX4_stepMarker_149 : decode cX4_stepMarker 149 = .ok (.iconst 2, 1) := by decide +kernel
theorem dX4_stepMarker_150 : decode cX4_stepMarker 150 = .ok (.aload_n 0, 1) := by decide +kernel
theorem dX4_stepMarker_151 : decode cX4_stepMarker 151 = .ok (.getfield 7, 3) := by decide +kernel
theorem dX4_stepMarker_154 : decode cX4_stepMarker 154 = .ok (.iload_n 2, 1) := by decide +kernel
theorem dX4_stepMarker_155 : decode cX4_stepMarker 155 = .ok (.iconst 2, 1) := by decide +kernel
theorem dX4_stepMarker_156 : decode cX4_stepMarker 156 = .ok (.iadd, 1) := by decide +kernel
theorem dX4_stepMarker_157 : decode cX4_stepMarker 157 = .ok (.iaload, 1) := by decide +kernel
theorem dX4_stepMarker_158 : decode cX4_stepMarker 158 = .ok (.bipush 50, 2) := by decide +kernel
theorem dX4_stepMarker_160 : decode cX4_stepMarker 160 = .ok (.irem, 1) := by decide +kernel
theorem dX4_stepMarker_161 : decode cX4_stepMarker 161 = .ok (.imul, 1) := by decide +kernel
theorem dX4_stepMarker_162 : decode cX4_stepMarker 162 = .ok (.iadd, 1) := by decide +kernel
theorem dX4_stepMarker_163 : decode cX4_stepMarker 163 = .ok (.istore 5, 2) := by decide +kernel
theorem dX4_stepMarker_165 : decode cX4_stepMarker 165 = .ok (.aload_n 0, 1) := by decide +kernel
theorem dX4_stepMarker_166 : decode cX4_stepMarker 166 = .ok (.getfield 7, 3) := by decide +kernel
theorem dX4_stepMarker_169 : decode cX4_stepMarker 169 = .ok (.iload 5, 2) := by decide +kernel
theorem dX4_stepMarker_171 : decode cX4_stepMarker 171 = .ok (.iload 4, 2) := by decide +kernel
theorem dX4_stepMarker_173 : decode cX4_stepMarker 173 = .ok (.iastore, 1) := by decide +kernel
theorem dX4_stepMarker_174 : decode cX4_stepMarker 174 = .ok (.aload_n 0, 1) := by decide +kernel
theorem dX4_stepMarker_175 : decode cX4_stepMarker 175 = .ok (.getfield 7, 3) := by decide +kernel
theorem dX4_stepMarker_178 : decode cX4_stepMarker 178 = .ok (.iload 5, 2) := by decide +kernel
theorem dX4_stepMarker_180 : decode cX4_stepMarker 180 = .ok (.iconst 1, 1) := by decide +kernel
theorem dX4_stepMarker_181 : decode cX4_stepMarker 181 = .ok (.iadd, 1) := by decide +kernel
theorem dX4_stepMarker_182 : decode cX4_stepMarker 182 = .ok (.aload_n 0, 1) := by decide +kernel
theorem dX4_stepMarker_183 : decode cX4_stepMarker 183 = .ok (.getfield 7, 3) := by decide +kernel
theorem dX4_stepMarker_186 : decode cX4_stepMarker 186 = .ok (.iload_n 2, 1) := by decide +kernel
theorem dX4_stepMarker_187 : decode cX4_stepMarker 187 = .ok (.iconst 1, 1) := by decide +kernel
theorem dX4_stepMarker_188 : decode cX4_stepMarker 188 = .ok (.iadd, 1) := by decide +kernel
theorem dX4_stepMarker_189 : decode cX4_stepMarker 189 = .ok (.iaload, 1) := by decide +kernel
theorem dX4_stepMarker_190 : decode cX4_stepMarker 190 = .ok (.iastore, 1) := by decide +kernel
theorem dX4_stepMarker_191 : decode cX4_stepMarker 191 = .ok (.aload_n 0, 1) := by decide +kernel
theorem dX4_stepMarker_192 : decode cX4_stepMarker 192 = .ok (.getfield 7, 3) := by decide +kernel
theorem dX4_stepMarker_195 : decode cX4_stepMarker 195 = .ok (.iload_n 2, 1) := by decide +kernel
theorem dX4_stepMarker_196 : decode cX4_stepMarker 196 = .ok (.iconst 2, 1) := by decide +kernel
theorem dX4_stepMarker_197 : decode cX4_stepMarker 197 = .ok (.iadd, 1) := by decide +kernel
theorem dX4_stepMarker_198 : decode cX4_stepMarker 198 = .ok (.dup2, 1) := by decide +kernel
theorem dX4_stepMarker_199 : decode cX4_stepMarker 199 = .ok (.iaload, 1) := by decide +kernel
theorem dX4_stepMarker_200 : decode cX4_stepMarker 200 = .ok (.iconst 1, 1) := by decide +kernel
theorem dX4_stepMarker_201 : decode cX4_stepMarker 201 = .ok (.iadd, 1) := by decide +kernel
theorem dX4_stepMarker_202 : decode cX4_stepMarker 202 = .ok (.iastore, 1) := by decide +kernel
theorem dX4_stepMarker_203 : decode cX4_stepMarker 203 = .ok (.return_, 1) := by decide +kernel
theorem dX4_makeTick_0 : decode cX4_makeTick 0 = .ok (.aload_n 0, 1) := by decide +kernel
theorem dX4_makeTick_1 : decode cX4_makeTick 1 = .ok (.invokevirtual 101, 3) := by decide +kernel
theorem dX4_makeTick_4 : decode cX4_makeTick 4 = .ok (.iconst 0, 1) := by decide +kernel
theorem dX4_makeTick_5 : decode cX4_makeTick 5 = .ok (.istore_n 1, 1) := by decide +kernel
theorem dX4_makeTick_6 : decode cX4_makeTick 6 = .ok (.iload_n 1, 1) := by decide +kernel
theorem dX4_makeTick_7 : decode cX4_makeTick 7 = .ok (.aload_n 0, 1) := by decide +kernel
theorem dX4_makeTick_8 : decode cX4_makeTick 8 = .ok (.getfield 7, 3) := by decide +kernel
theorem dX4_makeTick_11 : decode cX4_makeTick 11 = .ok (.iconst 0, 1) := by decide +kernel
theorem dX4_makeTick_12 : decode cX4_makeTick 12 = .ok (.iaload, 1) := by decide +kernel
theorem dX4_makeTick_13 : decode cX4_makeTick 13 = .ok (.if_icmp .ge 39, 3) := by decide +kernel
theorem dX4_makeTick_16 : decode cX4_makeTick 16 = .ok (.aload_n 0, 1) := by decide +kernel
theorem dX4_makeTick_17 : decode cX4_makeTick 17 = .ok (.getfield 7, 3) := by decide +kernel
theorem dX4_makeTick_20 : decode cX4_makeTick 20 = .ok (.bipush 21, 2) := by decide +kernel
theorem dX4_makeTick_22 : decode cX4_makeTick 22 = .ok (.iload_n 1, 1) := by decide +kernel
theorem dX4_makeTick_23 : decode cX4_makeTick 23 = .ok (.iadd, 1) := by decide +kernel
theorem dX4_makeTick_24 : decode cX4_makeTick 24 = .ok (.aload_n 0, 1) := by decide +kernel
theorem dX4_makeTick_25 : decode cX4_makeTick 25 = .ok (.getfield 7, 3) := by decide +kernel
theorem dX4_makeTick_28 : decode cX4_makeTick 28 = .ok (.bipush 21, 2) := by decide +kernel
theorem dX4_makeTick_30 : decode cX4_makeTick 30 = .ok (.iload_n 1, 1) := by decide +kernel
theorem dX4_makeTick_31 : decode cX4_makeTick 31 = .ok (.iadd, 1) := by decide +kernel
theorem dX4_makeTick_32 : decode cX4_makeTick 32 = .ok (.iaload, 1) := by decide +kernel
theorem dX4_makeTick_33 : decode cX4_makeTick 33 = .ok (.aload_n 0, 1) := by decide +kernel
theorem dX4_makeTick_34 : decode cX4_makeTick 34 = .ok (.iload_n 1, 1) := by decide +kernel
theorem dX4_makeTick_35 : decode cX4_makeTick 35 = .ok (.invokevirtual 60, 3) := by decide +kernel
theorem dX4_makeTick_38 : decode cX4_makeTick 38 = .ok (.iadd, 1) := by decide +kernel
theorem dX4_makeTick_39 : decode cX4_makeTick 39 = .ok (.sipush 3600, 3) := by decide +kernel
theorem dX4_makeTick_42 : decode cX4_makeTick 42 = .ok (.invokestatic 68, 3) := by decide +kernel
theorem dX4_makeTick_45 : decode cX4_makeTick 45 = .ok (.iastore, 1) := by decide +kernel
theorem dX4_makeTick_46 : decode cX4_makeTick 46 = .ok (.iinc 1 1, 3) := by decide +kernel
theorem dX4_makeTick_49 : decode cX4_makeTick 49 = .ok (.goto (-43), 3) := by decide +kernel
theorem dX4_makeTick_52 : decode cX4_makeTick 52 = .ok (.aload_n 0, 1) := by decide +kernel
theorem dX4_makeTick_53 : decode cX4_makeTick 53 = .ok (.invokevirtual 104, 3) := by decide +kernel
theorem dX4_makeTick_56 : decode cX4_makeTick 56 = .ok (.aload_n 0, 1) := by decide +kernel
theorem dX4_makeTick_57 : decode cX4_makeTick 57 = .ok (.invokevirtual 107, 3) := by decide +kernel
theorem dX4_makeTick_60 : decode cX4_makeTick 60 = .ok (.iconst 0, 1) := by decide +kernel
theorem dX4_makeTick_61 : decode cX4_makeTick 61 = .ok (.istore_n 1, 1) := by decide +kernel
theorem dX4_makeTick_62 : decode cX4_makeTick 62 = .ok (.iload_n 1, 1) := by decide +kernel
theorem dX4_makeTick_63 : decode cX4_makeTick 63 = .ok (.aload_n 0, 1) := by decide +kernel
theorem dX4_makeTick_64 : decode cX4_makeTick 64 = .ok (.getfield 7, 3) := by decide +kernel
theorem dX4_makeTick_67 : decode cX4_makeTick 67 = .ok (.bipush 33, 2) := by decide +kernel
theorem dX4_makeTick_69 : decode cX4_makeTick 69 = .ok (.iaload, 1) := by decide +kernel
theorem dX4_makeTick_70 : decode cX4_makeTick 70 = .ok (.if_icmp .ge 14, 3) := by decide +kernel
theorem dX4_makeTick_73 : decode cX4_makeTick 73 = .ok (.aload_n 0, 1) := by decide +kernel
theorem dX4_makeTick_74 : decode cX4_makeTick 74 = .ok (.iload_n 1, 1) := by decide +kernel
theorem dX4_makeTick_75 : decode cX4_makeTick 75 = .ok (.invokevirtual 110, 3) := by decide +kernel
theorem dX4_makeTick_78 : decode cX4_makeTick 78 = .ok (.iinc 1 1, 3) := by decide +kernel
theorem dX4_makeTick_81 : decode cX4_makeTick 81 = .ok (.goto (-19), 3) := by decide +kernel
theorem dX4_makeTick_84 : decode cX4_makeTick 84 = .ok (.aload_n 0, 1) := by decide +kernel
theorem dX4_makeTick_85 : decode cX4_makeTick 85 = .ok (.getfield 7, 3) := by decide +kernel
theorem dX4_makeTick_88 : decode cX4_makeTick 88 = .ok (.iconst 1, 1) := by decide +kernel
theorem dX4_makeTick_89 : decode cX4_makeTick 89 = .ok (.dup2, 1) := by decide +kernel
theorem dX4_makeTick_90 : decode cX4_makeTick 90 = .ok (.iaload, 1) := by decide +kernel
theorem dX4_makeTick_91 : decode cX4_makeTick 91 = .ok (.iconst 1, 1) := by decide +kernel
theorem dX4_makeTick_92 : decode cX4_makeTick 92 = .ok (.iadd, 1) := by decide +kernel
theorem dX4_makeTick_93 : decode cX4_makeTick 93 = .ok (.iastore, 1) := by decide +kernel
theorem dX4_makeTick_94 : decode cX4_makeTick 94 = .ok (.return_, 1) := by decide +kernel
theorem dX4_tick_0 : decode cX4_tick 0 = .ok (.iload_n 1, 1) := by decide +kernel
theorem dX4_tick_1 : decode cX4_tick 1 = .ok (.iconst 1, 1) := by decide +kernel
theorem dX4_tick_2 : decode cX4_tick 2 = .ok (.sipush 1000, 3) := by decide +kernel
theorem dX4_tick_5 : decode cX4_tick 5 = .ok (.invokestatic 39, 3) := by decide +kernel
theorem dX4_tick_8 : decode cX4_tick 8 = .ok (.ifCond .ne 6, 3) := by decide +kernel
theorem dX4_tick_11 : decode cX4_tick 11 = .ok (.bipush (-2), 2) := by decide +kernel
theorem dX4_tick_13 : decode cX4_tick 13 = .ok (.ireturn, 1) := by decide +kernel
theorem dX4_tick_14 : decode cX4_tick 14 = .ok (.aload_n 0, 1) := by decide +kernel
theorem dX4_tick_15 : decode cX4_tick 15 = .ok (.getfield 7, 3) := by decide +kernel
theorem dX4_tick_18 : decode cX4_tick 18 = .ok (.iconst 1, 1) := by decide +kernel
theorem dX4_tick_19 : decode cX4_tick 19 = .ok (.iaload, 1) := by decide +kernel
theorem dX4_tick_20 : decode cX4_tick 20 = .ok (.iload_n 1, 1) := by decide +kernel
theorem dX4_tick_21 : decode cX4_tick 21 = .ok (.iadd, 1) := by decide +kernel
theorem dX4_tick_22 : decode cX4_tick 22 = .ok (.ldc 113, 2) := by decide +kernel
theorem dX4_tick_24 : decode cX4_tick 24 = .ok (.if_icmp .le 6, 3) := by decide +kernel
theorem dX4_tick_27 : decode cX4_tick 27 = .ok (.bipush (-5), 2) := by decide +kernel
theorem dX4_tick_29 : decode cX4_tick 29 = .ok (.ireturn, 1) := by decide +kernel
theorem dX4_tick_30 : decode cX4_tick 30 = .ok (.iconst 0, 1) := by decide +kernel
theorem dX4_tick_31 : decode cX4_tick 31 = .ok (.istore_n 2, 1) := by decide +kernel
theorem dX4_tick_32 : decode cX4_tick 32 = .ok (.iload_n 2, 1) := by decide +kernel
theorem dX4_tick_33 : decode cX4_tick 33 = .ok (.iload_n 1, 1) := by decide +kernel
theorem dX4_tick_34 : decode cX4_tick 34 = .ok (.if_icmp .ge 13, 3) := by decide +kernel
theorem dX4_tick_37 : decode cX4_tick 37 = .ok (.aload_n 0, 1) := by decide +kernel
theorem dX4_tick_38 : decode cX4_tick 38 = .ok (.invokevirtual 114, 3) := by decide +kernel
theorem dX4_tick_41 : decode cX4_tick 41 = .ok (.iinc 2 1, 3) := by decide +kernel
theorem dX4_tick_44 : decode cX4_tick 44 = .ok (.goto (-12), 3) := by decide +kernel
theorem dX4_tick_47 : decode cX4_tick 47 = .ok (.aload_n 0, 1) := by decide +kernel
theorem dX4_tick_48 : decode cX4_tick 48 = .ok (.getfield 7, 3) := by decide +kernel
theorem dX4_tick_51 : decode cX4_tick 51 = .ok (.iconst 1, 1) := by decide +kernel
theorem dX4_tick_52 : decode cX4_tick 52 = .ok (.iaload, 1) := by decide +kernel
theorem dX4_tick_53 : decode cX4_tick 53 = .ok (.ireturn, 1) := by decide +kernel
theorem dX4_ring_0 : decode cX4_ring 0 = .ok (.aload_n 0, 1) := by decide +kernel
theorem dX4_ring_1 : decode cX4_ring 1 = .ok (.iload_n 1, 1) := by decide +kernel
theorem dX4_ring_2 : decode cX4_ring 2 = .ok (.invokevirtual 52, 3) := by decide +kernel
theorem dX4_ring_5 : decode cX4_ring 5 = .ok (.ifCond .ne 6, 3) := by decide +kernel
theorem dX4_ring_8 : decode cX4_ring 8 = .ok (.ldc 56, 2) := by decide +kernel
theorem dX4_ring_10 : decode cX4_ring 10 = .ok (.ireturn, 1) := by decide +kernel
theorem dX4_ring_11 : decode cX4_ring 11 = .ok (.iload_n 2, 1) := by decide +kernel
theorem dX4_ring_12 : decode cX4_ring 12 = .ok (.tableswitch 98 0 6 #[44, 50, 60, 70, 76, 76, 76], 44) := by decide +kernel
theorem dX4_ring_56 : decode cX4_ring 56 = .ok (.aload_n 0, 1) := by decide +kernel
theorem dX4_ring_57 : decode cX4_ring 57 = .ok (.iload_n 1, 1) := by decide +kernel
theorem dX4_ring_58 : decode cX4_ring 58 = .ok (.invokevirtual 60, 3) := by decide +kernel
theorem dX4_ring_61 : decode cX4_ring 61 = .ok (.ireturn, 1) := by decide +kernel
theorem dX4_ring_62 : decode cX4_ring 62 = .ok (.aload_n 0, 1) := by decide +kernel
theorem dX4_ring_63 : decode cX4_ring 63 = .ok (.getfield 7, 3) := by decide +kernel
theorem dX4_ring_66 : decode cX4_ring 66 = .ok (.bipush 9, 2) := by decide +kernel
theorem dX4_ring_68 : decode cX4_ring 68 = .ok (.iload_n 1, 1) := by decide +kernel
theorem dX4_ring_69 : decode cX4_ring 69 = .ok (.iadd, 1) := by decide +kernel
theorem dX4_ring_70 : decode cX4_ring 70 = .ok (.iaload, 1) := by decide +kernel
theorem dX4_ring_71 : decode cX4_ring 71 = .ok (.ireturn, 1) := by decide +kernel
theorem dX4_ring_72 : decode cX4_ring 72 = .ok (.aload_n 0, 1) := by decide +kernel
theorem dX4_ring_73 : decode cX4_ring 73 = .ok (.getfield 7, 3) := by decide +kernel
theorem dX4_ring_76 : decode cX4_ring 76 = .ok (.bipush 21, 2) := by decide +kernel
theorem dX4_ring_78 : decode cX4_ring 78 = .ok (.iload_n 1, 1) := by decide +kernel
theorem dX4_ring_79 : decode cX4_ring 79 = .ok (.iadd, 1) := by decide +kernel
theorem dX4_ring_80 : decode cX4_ring 80 = .ok (.iaload, 1) := by decide +kernel
theorem dX4_ring_81 : decode cX4_ring 81 = .ok (.ireturn, 1) := by decide +kernel
theorem dX4_ring_82 : decode cX4_ring 82 = .ok (.aload_n 0, 1) := by decide +kernel
theorem dX4_ring_83 : decode cX4_ring 83 = .ok (.iload_n 1, 1) := by decide +kernel
theorem dX4_ring_84 : decode cX4_ring 84 = .ok (.invokevirtual 92, 3) := by decide +kernel
theorem dX4_ring_87 : decode cX4_ring 87 = .ok (.ireturn, 1) := by decide +kernel
theorem dX4_ring_88 : decode cX4_ring 88 = .ok (.aload_n 0, 1) := by decide +kernel
theorem dX4_ring_89 : decode cX4_ring 89 = .ok (.iload_n 2, 1) := by decide +kernel
theorem dX4_ring_90 : decode cX4_ring 90 = .ok (.iconst 4, 1) := by decide +kernel
theorem dX4_ring_91 : decode cX4_ring 91 = .ok (.isub, 1) := by decide +kernel
theorem dX4_ring_92 : decode cX4_ring 92 = .ok (.iconst 0, 1) := by decide +kernel
theorem dX4_ring_93 : decode cX4_ring 93 = .ok (.iload_n 1, 1) := by decide +kernel
theorem dX4_ring_94 : decode cX4_ring 94 = .ok (.iload_n 1, 1) := by decide +kernel
theorem dX4_ring_95 : decode cX4_ring 95 = .ok (.invokevirtual 75, 3) := by decide +kernel
theorem dX4_ring_98 : decode cX4_ring 98 = .ok (.aload_n 0, 1) := by decide +kernel
theorem dX4_ring_99 : decode cX4_ring 99 = .ok (.iload_n 2, 1) := by decide +kernel
theorem dX4_ring_100 : decode cX4_ring 100 = .ok (.iconst 4, 1) := by decide +kernel
theorem dX4_ring_101 : decode cX4_ring 101 = .ok (.isub, 1) := by decide +kernel
theorem dX4_ring_102 : decode cX4_ring 102 = .ok (.iconst 1, 1) := by decide +kernel
theorem dX4_ring_103 : decode cX4_ring 103 = .ok (.iload_n 1, 1) := by decide +kernel
theorem dX4_ring_104 : decode cX4_ring 104 = .ok (.iload_n 1, 1) := by decide +kernel
theorem dX4_ring_105 : decode cX4_ring 105 = .ok (.invokevirtual 75, 3) := by decide +kernel
theorem dX4_ring_108 : decode cX4_ring 108 = .ok (.iadd, 1) := by decide +kernel
theorem dX4_ring_109 : decode cX4_ring 109 = .ok (.ireturn, 1) := by decide +kernel
theorem dX4_ring_110 : decode cX4_ring 110 = .ok (.ldc 51, 2) := by decide +kernel
theorem dX4_ring_112 : decode cX4_ring 112 = .ok (.ireturn, 1) := by decide +kernel
theorem dX4_dye_0 : decode cX4_dye 0 = .ok (.aload_n 0, 1) := by decide +kernel
theorem dX4_dye_1 : decode cX4_dye 1 = .ok (.iload_n 1, 1) := by decide +kernel
theorem dX4_dye_2 : decode cX4_dye 2 = .ok (.iload_n 2, 1) := by decide +kernel
theorem dX4_dye_3 : decode cX4_dye 3 = .ok (.iload_n 3, 1) := by decide +kernel
theorem dX4_dye_4 : decode cX4_dye 4 = .ok (.iload 4, 2) := by decide +kernel
theorem dX4_dye_6 : decode cX4_dye 6 = .ok (.invokevirtual 78, 3) := by decide +kernel
theorem dX4_dye_9 : decode cX4_dye 9 = .ok (.ifCond .eq 28, 3) := by decide +kernel
theorem dX4_dye_12 : decode cX4_dye 12 = .ok (.aload_n 0, 1) := by decide +kernel
theorem dX4_dye_13 : decode cX4_dye 13 = .ok (.getfield 7, 3) := by decide +kernel
theorem dX4_dye_16 : decode cX4_dye 16 = .ok (.sipush 658, 3) := by decide +kernel
theorem dX4_dye_19 : decode cX4_dye 19 = .ok (.iload_n 1, 1) := by decide +kernel
theorem dX4_dye_20 : decode cX4_dye 20 = .ok (.iload_n 2, 1) := by decide +kernel
theorem dX4_dye_21 : decode cX4_dye 21 = .ok (.iload_n 3, 1) := by decide +kernel
theorem dX4_dye_22 : decode cX4_dye 22 = .ok (.aload_n 0, 1) := by decide +kernel
theorem dX4_dye_23 : decode cX4_dye 23 = .ok (.iload_n 3, 1) := by decide +kernel
theorem dX4_dye_24 : decode cX4_dye 24 = .ok (.iload 4, 2) := by decide +kernel
theorem dX4_dye_26 : decode cX4_dye 26 = .ok (.invokevirtual 87, 3) := by decide +kernel
theorem dX4_dye_29 : decode cX4_dye 29 = .ok (.invokestatic 71, 3) := by decide +kernel
theorem dX4_dye_32 : decode cX4_dye 32 = .ok (.iadd, 1) := by decide +kernel
theorem dX4_dye_33 : decode cX4_dye 33 = .ok (.iaload, 1) := by decide +kernel
theorem dX4_dye_34 : decode cX4_dye 34 = .ok (.goto 4, 3) := by decide +kernel
theorem dX4_dye_37 : decode cX4_dye 37 = .ok (.iconst (-1), 1) := by decide +kernel
theorem dX4_dye_38 : decode cX4_dye 38 = .ok (.ireturn, 1) := by decide +kernel
theorem dX4_cellsWith_0 : decode cX4_cellsWith 0 = .ok (.iconst 0, 1) := by decide +kernel
theorem dX4_cellsWith_1 : decode cX4_cellsWith 1 = .ok (.istore_n 2, 1) := by decide +kernel
theorem dX4_cellsWith_2 : decode cX4_cellsWith 2 = .ok (.iconst 0, 1) := by decide +kernel
theorem dX4_cellsWith_3 : decode cX4_cellsWith 3 = .ok (.istore_n 3, 1) := by decide +kernel
theorem dX4_cellsWith_4 : decode cX4_cellsWith 4 = .ok (.iload_n 3, 1) := by decide +kernel
theorem dX4_cellsWith_5 : decode cX4_cellsWith 5 = .ok (.sipush 576, 3) := by decide +kernel
theorem dX4_cellsWith_8 : decode cX4_cellsWith 8 = .ok (.if_icmp .ge 38, 3) := by decide +kernel
theorem dX4_cellsWith_11 : decode cX4_cellsWith 11 = .ok (.iload_n 2, 1) := by decide +kernel
theorem dX4_cellsWith_12 : decode cX4_cellsWith 12 = .ok (.aload_n 0, 1) := by decide +kernel
theorem dX4_cellsWith_13 : decode cX4_cellsWith 13 = .ok (.getfield 7, 3) := by decide +kernel
theorem dX4_cellsWith_16 : decode cX4_cellsWith 16 = .ok (.sipush 658, 3) := by decide +kernel
theorem dX4_cellsWith_19 : decode cX4_cellsWith 19 = .ok (.iload_n 1, 1) := by decide +kernel
theorem dX4_cellsWith_20 : decode cX4_cellsWith 20 = .ok (.iconst 0, 1) := by decide +kernel
theorem dX4_cellsWith_21 : decode cX4_cellsWith 21 = .ok (.iconst 0, 1) := by decide +kernel
theorem dX4_cellsWith_22 : decode cX4_cellsWith 22 = .ok (.iconst 0, 1) := by decide +kernel
theorem dX4_cellsWith_23 : decode cX4_cellsWith 23 = .ok (.invokestatic 71, 3) := by decide +kernel
theorem dX4_cellsWith_26 : decode cX4_cellsWith 26 = .ok (.iadd, 1) := by decide +kernel
theorem dX4_cellsWith_27 : decode cX4_cellsWith 27 = .ok (.iload_n 3, 1) := by decide +kernel
theorem dX4_cellsWith_28 : decode cX4_cellsWith 28 = .ok (.iadd, 1) := by decide +kernel
theorem dX4_cellsWith_29 : decode cX4_cellsWith 29 = .ok (.iaload, 1) := by decide +kernel
theorem dX4_cellsWith_30 : decode cX4_cellsWith 30 = .ok (.ifCond .le 7, 3) := by decide +kernel
theorem dX4_cellsWith_33 : decode cX4_cellsWith 33 = .ok (.iconst 1, 1) := by decide +kernel
theorem dX4_cellsWith_34 : decode cX4_cellsWith 34 = .ok (.goto 4, 3) := by decide +kernel
theorem dX4_cellsWith_37 : decode cX4_cellsWith 37 = .ok (.iconst 0, 1) := by decide +kernel
theorem dX4_cellsWith_38 : decode cX4_cellsWith 38 = .ok (.iadd, 1) := by decide +kernel
theorem dX4_cellsWith_39 : decode cX4_cellsWith 39 = .ok (.istore_n 2, 1) := by decide +kernel
theorem dX4_cellsWith_40 : decode cX4_cellsWith 40 = .ok (.iinc 3 1, 3) := by decide +kernel
theorem dX4_cellsWith_43 : decode cX4_cellsWith 43 = .ok (.goto (-39), 3) := by decide +kernel
theorem dX4_cellsWith_46 : decode cX4_cellsWith 46 = .ok (.iload_n 2, 1) := by decide +kernel
theorem dX4_cellsWith_47 : decode cX4_cellsWith 47 = .ok (.ireturn, 1) := by decide +kernel
theorem dX4_greatest_0 : decode cX4_greatest 0 = .ok (.iconst 0, 1) := by decide +kernel
theorem dX4_greatest_1 : decode cX4_greatest 1 = .ok (.istore_n 2, 1) := by decide +kernel
theorem dX4_greatest_2 : decode cX4_greatest 2 = .ok (.iconst 0, 1) := by decide +kernel
theorem dX4_greatest_3 : decode cX4_greatest 3 = .ok (.istore_n 3, 1) := by decide +kernel
theorem dX4_greatest_4 : decode cX4_greatest 4 = .ok (.iload_n 3, 1) := by decide +kernel
theorem dX4_greatest_5 : decode cX4_greatest 5 = .ok (.sipush 576, 3) := by decide +kernel
theorem dX4_greatest_8 : decode cX4_greatest 8 = .ok (.if_icmp .ge 42, 3) := by decide +kernel
theorem dX4_greatest_11 : decode cX4_greatest 11 = .ok (.aload_n 0, 1) := by decide +kernel
theorem dX4_greatest_12 : decode cX4_greatest 12 = .ok (.getfield 7, 3) := by decide +kernel
theorem dX4_greatest_15 : decode cX4_greatest 15 = .ok (.sipush 658, 3) := by decide +kernel
theorem dX4_greatest_18 : decode cX4_greatest 18 = .ok (.iload_n 1, 1) := by decide +kernel
theorem dX4_greatest_19 : decode cX4_greatest 19 = .ok (.iconst 0, 1) := by decide +kernel
theorem dX4_greatest_20 : decode cX4_greatest 20 = .ok (.iconst 0, 1) := by decide +kernel
theorem dX4_greatest_21 : decode cX4_greatest 21 = .ok (.iconst 0, 1) := by decide +kernel
theorem dX4_greatest_22 : decode cX4_greatest 22 = .ok (.invokestatic 71, 3) := by decide +kernel
theorem dX4_greatest_25 : decode cX4_greatest 25 = .ok (.iadd, 1) := by decide +kernel
theorem dX4_greatest_26 : decode cX4_greatest 26 = .ok (.iload_n 3, 1) := by decide +kernel
theorem dX4_greatest_27 : decode cX4_greatest 27 = .ok (.iadd, 1) := by decide +kernel
theorem dX4_greatest_28 : decode cX4_greatest 28 = .ok (.iaload, 1) := by decide +kernel
theorem dX4_greatest_29 : decode cX4_greatest 29 = .ok (.istore 4, 2) := by decide +kernel
theorem dX4_greatest_31 : decode cX4_greatest 31 = .ok (.iload 4, 2) := by decide +kernel
theorem dX4_greatest_33 : decode cX4_greatest 33 = .ok (.iload_n 2, 1) := by decide +kernel
theorem dX4_greatest_34 : decode cX4_greatest 34 = .ok (.if_icmp .le 8, 3) := by decide +kernel
theorem dX4_greatest_37 : decode cX4_greatest 37 = .ok (.iload 4, 2) := by decide +kernel
theorem dX4_greatest_39 : decode cX4_greatest 39 = .ok (.goto 4, 3) := by decide +kernel
theorem dX4_greatest_42 : decode cX4_greatest 42 = .ok (.iload_n 2, 1) := by decide +kernel
theorem dX4_greatest_43 : decode cX4_greatest 43 = .ok (.istore_n 2, 1) := by decide +kernel
theorem dX4_greatest_44 : decode cX4_greatest 44 = .ok (.iinc 3 1, 3) := by decide +kernel
theorem dX4_greatest_47 : decode cX4_greatest 47 = .ok (.goto (-43), 3) := by decide +kernel
theorem dX4_greatest_50 : decode cX4_greatest 50 = .ok (.iload_n 2, 1) := by decide +kernel
theorem dX4_greatest_51 : decode cX4_greatest 51 = .ok (.ireturn, 1) := by decide +kernel
theorem dX4_meanPlace_0 : decode cX4_meanPlace 0 = .ok (.lconst 0, 1) := by decide +kernel
theorem dX4_meanPlace_1 : decode cX4_meanPlace 1 = .ok (.lstore_n 2, 1) := by decide +kernel
theorem dX4_meanPlace_2 : decode cX4_meanPlace 2 = .ok (.iconst 0, 1) := by decide +kernel
theorem dX4_meanPlace_3 : decode cX4_meanPlace 3 = .ok (.istore 4, 2) := by decide +kernel
theorem dX4_meanPlace_5 : decode cX4_meanPlace 5 = .ok (.iload 4, 2) := by decide +kernel
theorem dX4_meanPlace_7 : decode cX4_meanPlace 7 = .ok (.aload_n 0, 1) := by decide +kernel
theorem dX4_meanPlace_8 : decode cX4_meanPlace 8 = .ok (.getfield 7, 3) := by decide +kernel
theorem dX4_meanPlace_11 : decode cX4_meanPlace 11 = .ok (.iconst 0, 1) := by decide +kernel
theorem dX4_meanPlace_12 : decode cX4_meanPlace 12 = .ok (.iaload, 1) := by decide +kernel
theorem dX4_meanPlace_13 : decode cX4_meanPlace 13 = .ok (.if_icmp .ge 38, 3) := by decide +kernel
theorem dX4_meanPlace_16 : decode cX4_meanPlace 16 = .ok (.lload_n 2, 1) := by decide +kernel
theorem dX4_meanPlace_17 : decode cX4_meanPlace 17 = .ok (.iload 4, 2) := by decide +kernel
theorem dX4_meanPlace_19 : decode cX4_meanPlace 19 = .ok (.i2l, 1) := by decide +kernel
theorem dX4_meanPlace_20 : decode cX4_meanPlace 20 = .ok (.aload_n 0, 1) := by decide +kernel
theorem dX4_meanPlace_21 : decode cX4_meanPlace 21 = .ok (.iload_n 1, 1) := by decide +kernel
theorem dX4_meanPlace_22 : decode cX4_meanPlace 22 = .ok (.iconst 0, 1) := by decide +kernel
theorem dX4_meanPlace_23 : decode cX4_meanPlace 23 = .ok (.iload 4, 2) := by decide +kernel
theorem dX4_meanPlace_25 : decode cX4_meanPlace 25 = .ok (.iload 4, 2) := by decide +kernel
theorem dX4_meanPlace_27 : decode cX4_meanPlace 27 = .ok (.invokevirtual 75, 3) := by decide +kernel
theorem dX4_meanPlace_30 : decode cX4_meanPlace 30 = .ok (.aload_n 0, 1) := by decide +kernel
theorem dX4_meanPlace_31 : decode cX4_meanPlace 31 = .ok (.iload_n 1, 1) := by decide +kernel
theorem dX4_meanPlace_32 : decode cX4_meanPlace 32 = .ok (.iconst 1, 1) := by decide +kernel
theorem dX4_meanPlace_33 : decode cX4_meanPlace 33 = .ok (.iload 4, 2) := by decide +kernel
theorem dX4_meanPlace_35 : decode cX4_meanPlace 35 = .ok (.iload 4, 2) := by decide +kernel
theorem dX4_meanPlace_37 : decode cX4_meanPlace 37 = .ok (.invokevirtual 75, 3) := by decide +kernel
theorem dX4_meanPlace_40 : decode cX4_meanPlace 40 = .ok (.iadd, 1) := by decide +kernel
theorem dX4_meanPlace_41 : decode cX4_meanPlace 41 = .ok (.i2l, 1) := by decide +kernel
theorem dX4_meanPlace_42 : decode cX4_meanPlace 42 = .ok (.lmul, 1) := by decide +kernel
theorem dX4_meanPlace_43 : decode cX4_meanPlace 43 = .ok (.ladd, 1) := by decide +kernel
theorem dX4_meanPlace_44 : decode cX4_meanPlace 44 = .ok (.lstore_n 2, 1) := by decide +kernel
theorem dX4_meanPlace_45 : decode cX4_meanPlace 45 = .ok (.iinc 4 1, 3) := by decide +kernel
theorem dX4_meanPlace_48 : decode cX4_meanPlace 48 = .ok (.goto (-43), 3) := by decide +kernel
theorem dX4_meanPlace_51 : decode cX4_meanPlace 51 = .ok (.aload_n 0, 1) := by decide +kernel
theorem dX4_meanPlace_52 : decode cX4_meanPlace 52 = .ok (.iload_n 1, 1) := by decide +kernel
theorem dX4_meanPlace_53 : decode cX4_meanPlace 53 = .ok (.invokevirtual 83, 3) := by decide +kernel
theorem dX4_meanPlace_56 : decode cX4_meanPlace 56 = .ok (.istore 4, 2) := by decide +kernel
theorem dX4_meanPlace_58 : decode cX4_meanPlace 58 = .ok (.iload 4, 2) := by decide +kernel
theorem dX4_meanPlace_60 : decode cX4_meanPlace 60 = .ok (.ifCond .ne 9, 3) := by decide +kernel
theorem dX4_meanPlace_63 : decode cX4_meanPlace 63 = .ok (.ldc2_w 117, 3) := by decide +kernel
theorem dX4_meanPlace_66 : decode cX4_meanPlace 66 = .ok (.goto 12, 3) := by decide +kernel
theorem dX4_meanPlace_69 : decode cX4_meanPlace 69 = .ok (.ldc2_w 90, 3) := by decide +kernel
theorem dX4_meanPlace_72 : decode cX4_meanPlace 72 = .ok (.lload_n 2, 1) := by decide +kernel
theorem dX4_meanPlace_73 : decode cX4_meanPlace 73 = .ok (.lmul, 1) := by decide +kernel
theorem dX4_meanPlace_74 : decode cX4_meanPlace 74 = .ok (.iload 4, 2) := by decide +kernel
theorem dX4_meanPlace_76 : decode cX4_meanPlace 76 = .ok (.i2l, 1) := by decide +kernel
theorem dX4_meanPlace_77 : decode cX4_meanPlace 77 = .ok (.ldiv, 1) := by decide +kernel
theorem dX4_meanPlace_78 : decode cX4_meanPlace 78 = .ok (.lreturn, 1) := by decide +kernel
theorem dX4_unevenness_0 : decode cX4_unevenness 0 = .ok (.aload_n 0, 1) := by decide +kernel
theorem dX4_unevenness_1 : decode cX4_unevenness 1 = .ok (.iload_n 1, 1) := by decide +kernel
theorem dX4_unevenness_2 : decode cX4_unevenness 2 = .ok (.invokevirtual 83, 3) := by decide +kernel
theorem dX4_unevenness_5 : decode cX4_unevenness 5 = .ok (.i2l, 1) := by decide +kernel
theorem dX4_unevenness_6 : decode cX4_unevenness 6 = .ok (.lstore_n 2, 1) := by decide +kernel
theorem dX4_unevenness_7 : decode cX4_unevenness 7 = .ok (.ldc2_w 119, 3) := by decide +kernel
theorem dX4_unevenness_10 : decode cX4_unevenness 10 = .ok (.aload_n 0, 1) := by decide +kernel
theorem dX4_unevenness_11 : decode cX4_unevenness 11 = .ok (.getfield 7, 3) := by decide +kernel
theorem dX4_unevenness_14 : decode cX4_unevenness 14 = .ok (.iconst 0, 1) := by decide +kernel
theorem dX4_unevenness_15 : decode cX4_unevenness 15 = .ok (.iaload, 1) := by decide +kernel
theorem dX4_unevenness_16 : decode cX4_unevenness 16 = .ok (.i2l, 1) := by decide +kernel
theorem dX4_unevenness_17 : decode cX4_unevenness 17 = .ok (.lmul, 1) := by decide +kernel
theorem dX4_unevenness_18 : decode cX4_unevenness 18 = .ok (.lstore 4, 2) := by decide +kernel
theorem dX4_unevenness_20 : decode cX4_unevenness 20 = .ok (.lconst 0, 1) := by decide +kernel
theorem dX4_unevenness_21 : decode cX4_unevenness 21 = .ok (.lstore 6, 2) := by decide +kernel
theorem dX4_unevenness_23 : decode cX4_unevenness 23 = .ok (.iconst 0, 1) := by decide +kernel
theorem dX4_unevenness_24 : decode cX4_unevenness 24 = .ok (.istore 8, 2) := by decide +kernel
theorem dX4_unevenness_26 : decode cX4_unevenness 26 = .ok (.iload 8, 2) := by decide +kernel
theorem dX4_unevenness_28 : decode cX4_unevenness 28 = .ok (.iconst 2, 1) := by decide +kernel
theorem dX4_unevenness_29 : decode cX4_unevenness 29 = .ok (.if_icmp .ge 80, 3) := by decide +kernel
theorem dX4_unevenness_32 : decode cX4_unevenness 32 = .ok (.iconst 0, 1) := by decide +kernel
theorem dX4_unevenness_33 : decode cX4_unevenness 33 = .ok (.istore 9, 2) := by decide +kernel
theorem dX4_unevenness_35 : decode cX4_unevenness 35 = .ok (.iload 9, 2) := by decide +kernel
theorem dX4_unevenness_37 : decode cX4_unevenness 37 = .ok (.bipush 24, 2) := by decide +kernel
theorem dX4_unevenness_39 : decode cX4_unevenness 39 = .ok (.aload_n 0, 1) := by decide +kernel
theorem dX4_unevenness_40 : decode cX4_unevenness 40 = .ok (.getfield 7, 3) := by decide +kernel
theorem dX4_unevenness_43 : decode cX4_unevenness 43 = .ok (.iconst 0, 1) := by decide +kernel
theorem dX4_unevenness_44 : decode cX4_unevenness 44 = .ok (.iaload, 1) := by decide +kernel
theorem dX4_unevenness_45 : decode cX4_unevenness 45 = .ok (.imul, 1) := by decide +kernel
theorem dX4_unevenness_46 : decode cX4_unevenness 46 = .ok (.if_icmp .ge 57, 3) := by decide +kernel
theorem dX4_unevenness_49 : decode cX4_unevenness 49 = .ok (.aload_n 0, 1) := by decide +kernel
theorem dX4_unevenness_50 : decode cX4_unevenness 50 = .ok (.getfield 7, 3) := by decide +kernel
theorem dX4_unevenness_53 : decode cX4_unevenness 53 = .ok (.sipush 658, 3) := by decide +kernel
theorem dX4_unevenness_56 : decode cX4_unevenness 56 = .ok (.iload_n 1, 1) := by decide +kernel
theorem dX4_unevenness_57 : decode cX4_unevenness 57 = .ok (.iload 8, 2) := by decide +kernel
theorem dX4_unevenness_59 : decode cX4_unevenness 59 = .ok (.iconst 0, 1) := by decide +kernel
theorem dX4_unevenness_60 : decode cX4_unevenness 60 = .ok (.iconst 0, 1) := by decide +kernel
theorem dX4_unevenness_61 : decode cX4_unevenness 61 = .ok (.invokestatic 71, 3) := by decide +kernel
theorem dX4_unevenness_64 : decode cX4_unevenness 64 = .ok (.iadd, 1) := by decide +kernel
theorem dX4_unevenness_65 : decode cX4_unevenness 65 = .ok (.iload 9, 2) := by decide +kernel
theorem dX4_unevenness_67 : decode cX4_unevenness 67 = .ok (.iadd, 1) := by decide +kernel
theorem dX4_unevenness_68 : decode cX4_unevenness 68 = .ok (.iaload, 1) := by decide +kernel
theorem dX4_unevenness_69 : decode cX4_unevenness 69 = .ok (.i2l, 1) := by decide +kernel
theorem dX4_unevenness_70 : decode cX4_unevenness 70 = .ok (.lload 4, 2) := by decide +kernel
theorem dX4_unevenness_72 : decode cX4_unevenness 72 = .ok (.lmul, 1) := by decide +kernel
theorem dX4_unevenness_73 : decode cX4_unevenness 73 = .ok (.lload_n 2, 1) := by decide +kernel
theorem dX4_unevenness_74 : decode cX4_unevenness 74 = .ok (.lsub, 1) := by decide +kernel
theorem dX4_unevenness_75 : decode cX4_unevenness 75 = .ok (.lstore 10, 2) := by decide +kernel
theorem dX4_unevenness_77 : decode cX4_unevenness 77 = .ok (.lload 6, 2) := by decide +kernel
theorem dX4_unevenness_79 : decode cX4_unevenness 79 = .ok (.lload 10, 2) := by decide +kernel
theorem dX4_unevenness_81 : decode cX4_unevenness 81 = .ok (.lconst 0, 1) := by decide +kernel
theorem dX4_unevenness_82 : decode cX4_unevenness 82 = .ok (.lcmp, 1) := by decide +kernel
theorem dX4_unevenness_83 : decode cX4_unevenness 83 = .ok (.ifCond .ge 9, 3) := by decide +kernel
theorem dX4_unevenness_86 : decode cX4_unevenness 86 = .ok (.lload 10, 2) := by decide +kernel
theorem dX4_unevenness_88 : decode cX4_unevenness 88 = .ok (.lneg, 1) := by decide +kernel
theorem dX4_unevenness_89 : decode cX4_unevenness 89 = .ok (.goto 5, 3) := by decide +kernel
theorem dX4_unevenness_92 : decode cX4_unevenness 92 = .ok (.lload 10, 2) := by decide +kernel
theorem dX4_unevenness_94 : decode cX4_unevenness 94 = .ok (.ladd, 1) := by decide +kernel
theorem dX4_unevenness_95 : decode cX4_unevenness 95 = .ok (.lstore 6, 2) := by decide +kernel
theorem dX4_unevenness_97 : decode cX4_unevenness 97 = .ok (.iinc 9 1, 3) := by decide +kernel
theorem dX4_unevenness_100 : decode cX4_unevenness 100 = .ok (.goto (-65), 3) := by decide +kernel
theorem dX4_unevenness_103 : decode cX4_unevenness 103 = .ok (.iinc 8 1, 3) := by decide +kernel
theorem dX4_unevenness_106 : decode cX4_unevenness 106 = .ok (.goto (-80), 3) := by decide +kernel
theorem dX4_unevenness_109 : decode cX4_unevenness 109 = .ok (.lload 6, 2) := by decide +kernel
theorem dX4_unevenness_111 : decode cX4_unevenness 111 = .ok (.lload 4, 2) := by decide +kernel
theorem dX4_unevenness_113 : decode cX4_unevenness 113 = .ok (.ldiv, 1) := by decide +kernel
theorem dX4_unevenness_114 : decode cX4_unevenness 114 = .ok (.lreturn, 1) := by decide +kernel
theorem dX4_isColour_0 : decode cX4_isColour 0 = .ok (.iload_n 0, 1) := by decide +kernel
theorem dX4_isColour_1 : decode cX4_isColour 1 = .ok (.iconst 0, 1) := by decide +kernel
theorem dX4_isColour_2 : decode cX4_isColour 2 = .ok (.iconst 2, 1) := by decide +kernel
theorem dX4_isColour_3 : decode cX4_isColour 3 = .ok (.invokestatic 39, 3) := by decide +kernel
theorem dX4_isColour_6 : decode cX4_isColour 6 = .ok (.ireturn, 1) := by decide +kernel
theorem dX4_colour_0 : decode cX4_colour 0 = .ok (.iload_n 1, 1) := by decide +kernel
theorem dX4_colour_1 : decode cX4_colour 1 = .ok (.invokestatic 121, 3) := by decide +kernel
theorem dX4_colour_4 : decode cX4_colour 4 = .ok (.ifCond .ne 7, 3) := by decide +kernel
theorem dX4_colour_7 : decode cX4_colour 7 = .ok (.ldc2_w 124, 3) := by decide +kernel
theorem dX4_colour_10 : decode cX4_colour 10 = .ok (.lreturn, 1) := by decide +kernel
theorem dX4_colour_11 : decode cX4_colour 11 = .ok (.iload_n 2, 1) := by decide +kernel
theorem dX4_colour_12 : decode cX4_colour 12 = .ok (.tableswitch 90 0 5 #[40, 47, 64, 71, 78, 84], 40) := by decide +kernel
theorem dX4_colour_52 : decode cX4_colour 52 = .ok (.aload_n 0, 1) := by decide +kernel
theorem dX4_colour_53 : decode cX4_colour 53 = .ok (.iload_n 1, 1) := by decide +kernel
theorem dX4_colour_54 : decode cX4_colour 54 = .ok (.invokevirtual 83, 3) := by decide +kernel
theorem dX4_colour_57 : decode cX4_colour 57 = .ok (.i2l, 1) := by decide +kernel
theorem dX4_colour_58 : decode cX4_colour 58 = .ok (.lreturn, 1) := by decide +kernel
theorem dX4_colour_59 : decode cX4_colour 59 = .ok (.aload_n 0, 1) := by decide +kernel
theorem dX4_colour_60 : decode cX4_colour 60 = .ok (.iload_n 1, 1) := by decide +kernel
theorem dX4_colour_61 : decode cX4_colour 61 = .ok (.iconst 0, 1) := by decide +kernel
theorem dX4_colour_62 : decode cX4_colour 62 = .ok (.iconst 0, 1) := by decide +kernel
theorem dX4_colour_63 : decode cX4_colour 63 = .ok (.aload_n 0, 1) := by decide +kernel
theorem dX4_colour_64 : decode cX4_colour 64 = .ok (.getfield 7, 3) := by decide +kernel
theorem dX4_colour_67 : decode cX4_colour 67 = .ok (.iconst 0, 1) := by decide +kernel
theorem dX4_colour_68 : decode cX4_colour 68 = .ok (.iaload, 1) := by decide +kernel
theorem dX4_colour_69 : decode cX4_colour 69 = .ok (.iconst 1, 1) := by decide +kernel
theorem dX4_colour_70 : decode cX4_colour 70 = .ok (.isub, 1) := by decide +kernel
theorem dX4_colour_71 : decode cX4_colour 71 = .ok (.invokevirtual 75, 3) := by decide +kernel
theorem dX4_colour_74 : decode cX4_colour 74 = .ok (.i2l, 1) := by decide +kernel
theorem dX4_colour_75 : decode cX4_colour 75 = .ok (.lreturn, 1) := by decide +kernel
theorem dX4_colour_76 : decode cX4_colour 76 = .ok (.aload_n 0, 1) := by decide +kernel
theorem dX4_colour_77 : decode cX4_colour 77 = .ok (.iload_n 1, 1) := by decide +kernel
theorem dX4_colour_78 : decode cX4_colour 78 = .ok (.invokevirtual 126, 3) := by decide +kernel
theorem dX4_colour_81 : decode cX4_colour 81 = .ok (.i2l, 1) := by decide +kernel
theorem dX4_colour_82 : decode cX4_colour 82 = .ok (.lreturn, 1) := by decide +kernel
theorem dX4_colour_83 : decode cX4_colour 83 = .ok (.aload_n 0, 1) := by decide +kernel
theorem dX4_colour_84 : decode cX4_colour 84 = .ok (.iload_n 1, 1) := by decide +kernel
theorem dX4_colour_85 : decode cX4_colour 85 = .ok (.invokevirtual 129, 3) := by decide +kernel
theorem dX4_colour_88 : decode cX4_colour 88 = .ok (.i2l, 1) := by decide +kernel
theorem dX4_colour_89 : decode cX4_colour 89 = .ok (.lreturn, 1) := by decide +kernel
theorem dX4_colour_90 : decode cX4_colour 90 = .ok (.aload_n 0, 1) := by decide +kernel
theorem dX4_colour_91 : decode cX4_colour 91 = .ok (.iload_n 1, 1) := by decide +kernel
theorem dX4_colour_92 : decode cX4_colour 92 = .ok (.invokevirtual 132, 3) := by decide +kernel
theorem dX4_colour_95 : decode cX4_colour 95 = .ok (.lreturn, 1) := by decide +kernel
theorem dX4_colour_96 : decode cX4_colour 96 = .ok (.aload_n 0, 1) := by decide +kernel
theorem dX4_colour_97 : decode cX4_colour 97 = .ok (.iload_n 1, 1) := by decide +kernel
theorem dX4_colour_98 : decode cX4_colour 98 = .ok (.invokevirtual 136, 3) := by decide +kernel
theorem dX4_colour_101 : decode cX4_colour 101 = .ok (.lreturn, 1) := by decide +kernel
theorem dX4_colour_102 : decode cX4_colour 102 = .ok (.ldc2_w 139, 3) := by decide +kernel
theorem dX4_colour_105 : decode cX4_colour 105 = .ok (.lreturn, 1) := by decide +kernel
theorem dX4_greatestShear_0 : decode cX4_greatestShear 0 = .ok (.iconst 0, 1) := by decide +kernel
theorem dX4_greatestShear_1 : decode cX4_greatestShear 1 = .ok (.istore_n 1, 1) := by decide +kernel
theorem dX4_greatestShear_2 : decode cX4_greatestShear 2 = .ok (.iconst 0, 1) := by decide +kernel
theorem dX4_greatestShear_3 : decode cX4_greatestShear 3 = .ok (.istore_n 2, 1) := by decide +kernel
theorem dX4_greatestShear_4 : decode cX4_greatestShear 4 = .ok (.iload_n 2, 1) := by decide +kernel
theorem dX4_greatestShear_5 : decode cX4_greatestShear 5 = .ok (.iconst 1, 1) := by decide +kernel
theorem dX4_greatestShear_6 : decode cX4_greatestShear 6 = .ok (.iadd, 1) := by decide +kernel
theorem dX4_greatestShear_7 : decode cX4_greatestShear 7 = .ok (.aload_n 0, 1) := by decide +kernel
theorem dX4_greatestShear_8 : decode cX4_greatestShear 8 = .ok (.getfield 7, 3) := by decide +kernel
theorem dX4_greatestShear_11 : decode cX4_greatestShear 11 = .ok (.iconst 0, 1) := by decide +kernel
theorem dX4_greatestShear_12 : decode cX4_greatestShear 12 = .ok (.iaload, 1) := by decide +kernel
theorem dX4_greatestShear_13 : decode cX4_greatestShear 13 = .ok (.if_icmp .ge 45, 3) := by decide +kernel
theorem dX4_greatestShear_16 : decode cX4_greatestShear 16 = .ok (.aload_n 0, 1) := by decide +kernel
theorem dX4_greatestShear_17 : decode cX4_greatestShear 17 = .ok (.iload_n 2, 1) := by decide +kernel
theorem dX4_greatestShear_18 : decode cX4_greatestShear 18 = .ok (.invokevirtual 60, 3) := by decide +kernel
theorem dX4_greatestShear_21 : decode cX4_greatestShear 21 = .ok (.aload_n 0, 1) := by decide +kernel
theorem dX4_greatestShear_22 : decode cX4_greatestShear 22 = .ok (.iload_n 2, 1) := by decide +kernel
theorem dX4_greatestShear_23 : decode cX4_greatestShear 23 = .ok (.iconst 1, 1) := by decide +kernel
theorem dX4_greatestShear_24 : decode cX4_greatestShear 24 = .ok (.iadd, 1) := by decide +kernel
theorem dX4_greatestShear_25 : decode cX4_greatestShear 25 = .ok (.invokevirtual 60, 3) := by decide +kernel
theorem dX4_greatestShear_28 : decode cX4_greatestShear 28 = .ok (.isub, 1) := by decide +kernel
theorem dX4_greatestShear_29 : decode cX4_greatestShear 29 = .ok (.istore_n 3, 1) := by decide +kernel
theorem dX4_greatestShear_30 : decode cX4_greatestShear 30 = .ok (.iload_n 3, 1) := by decide +kernel
theorem dX4_greatestShear_31 : decode cX4_greatestShear 31 = .ok (.ifCond .ge 8, 3) := by decide +kernel
theorem dX4_greatestShear_34 : decode cX4_greatestShear 34 = .ok (.iload_n 3, 1) := by decide +kernel
theorem dX4_greatestShear_35 : decode cX4_greatestShear 35 = .ok (.ineg, 1) := by decide +kernel
theorem dX4_greatestShear_36 : decode cX4_greatestShear 36 = .ok (.goto 4, 3) := by decide +kernel
theorem dX4_greatestShear_39 : decode cX4_greatestShear 39 = .ok (.iload_n 3, 1) := by decide +kernel
theorem dX4_greatestShear_40 : decode cX4_greatestShear 40 = .ok (.istore_n 3, 1) := by decide +kernel
theorem dX4_greatestShear_41 : decode cX4_greatestShear 41 = .ok (.iload_n 3, 1) := by decide +kernel
theorem dX4_greatestShear_42 : decode cX4_greatestShear 42 = .ok (.iload_n 1, 1) := by decide +kernel
theorem dX4_greatestShear_43 : decode cX4_greatestShear 43 = .ok (.if_icmp .le 7, 3) := by decide +kernel
theorem dX4_greatestShear_46 : decode cX4_greatestShear 46 = .ok (.iload_n 3, 1) := by decide +kernel
theorem dX4_greatestShear_47 : decode cX4_greatestShear 47 = .ok (.goto 4, 3) := by decide +kernel
theorem dX4_greatestShear_50 : decode cX4_greatestShear 50 = .ok (.iload_n 1, 1) := by decide +kernel
theorem dX4_greatestShear_51 : decode cX4_greatestShear 51 = .ok (.istore_n 1, 1) := by decide +kernel
theorem dX4_greatestShear_52 : decode cX4_greatestShear 52 = .ok (.iinc 2 1, 3) := by decide +kernel
theorem dX4_greatestShear_55 : decode cX4_greatestShear 55 = .ok (.goto (-51), 3) := by decide +kernel
theorem dX4_greatestShear_58 : decode cX4_greatestShear 58 = .ok (.iload_n 1, 1) := by decide +kernel
theorem dX4_greatestShear_59 : decode cX4_greatestShear 59 = .ok (.ireturn, 1) := by decide +kernel
theorem dX4_state_0 : decode cX4_state 0 = .ok (.iload_n 1, 1) := by decide +kernel
theorem dX4_state_1 : decode cX4_state 1 = .ok (.bipush 6, 2) := by decide +kernel
theorem dX4_state_3 : decode cX4_state 3 = .ok (.bipush 12, 2) := by decide +kernel
theorem dX4_state_5 : decode cX4_state 5 = .ok (.invokestatic 39, 3) := by decide +kernel
theorem dX4_state_8 : decode cX4_state 8 = .ok (.ifCond .eq 15, 3) := by decide +kernel
theorem dX4_state_11 : decode cX4_state 11 = .ok (.aload_n 0, 1) := by decide +kernel
theorem dX4_state_12 : decode cX4_state 12 = .ok (.getfield 7, 3) := by decide +kernel
theorem dX4_state_15 : decode cX4_state 15 = .ok (.iconst 2, 1) := by decide +kernel
theorem dX4_state_16 : decode cX4_state 16 = .ok (.iload_n 1, 1) := by decide +kernel
theorem dX4_state_17 : decode cX4_state 17 = .ok (.iadd, 1) := by decide +kernel
theorem dX4_state_18 : decode cX4_state 18 = .ok (.bipush 6, 2) := by decide +kernel
theorem dX4_state_20 : decode cX4_state 20 = .ok (.isub, 1) := by decide +kernel
theorem dX4_state_21 : decode cX4_state 21 = .ok (.iaload, 1) := by decide +kernel
theorem dX4_state_22 : decode cX4_state 22 = .ok (.ireturn, 1) := by decide +kernel
theorem dX4_state_23 : decode cX4_state 23 = .ok (.iload_n 1, 1) := by decide +kernel
theorem dX4_state_24 : decode cX4_state 24 = .ok (.tableswitch 77 0 5 #[40, 47, 54, 62, 67, 72], 40) := by decide +kernel
theorem dX4_state_64 : decode cX4_state 64 = .ok (.aload_n 0, 1) := by decide +kernel
theorem dX4_state_65 : decode cX4_state 65 = .ok (.getfield 7, 3) := by decide +kernel
theorem dX4_state_68 : decode cX4_state 68 = .ok (.iconst 1, 1) := by decide +kernel
theorem dX4_state_69 : decode cX4_state 69 = .ok (.iaload, 1) := by decide +kernel
theorem dX4_state_70 : decode cX4_state 70 = .ok (.ireturn, 1) := by decide +kernel
theorem dX4_state_71 : decode cX4_state 71 = .ok (.aload_n 0, 1) := by decide +kernel
theorem dX4_state_72 : decode cX4_state 72 = .ok (.getfield 7, 3) := by decide +kernel
theorem dX4_state_75 : decode cX4_state 75 = .ok (.iconst 0, 1) := by decide +kernel
theorem dX4_state_76 : decode cX4_state 76 = .ok (.iaload, 1) := by decide +kernel
theorem dX4_state_77 : decode cX4_state 77 = .ok (.ireturn, 1) := by decide +kernel
theorem dX4_state_78 : decode cX4_state 78 = .ok (.aload_n 0, 1) := by decide +kernel
theorem dX4_state_79 : decode cX4_state 79 = .ok (.getfield 7, 3) := by decide +kernel
theorem dX4_state_82 : decode cX4_state 82 = .ok (.bipush 33, 2) := by decide +kernel
theorem dX4_state_84 : decode cX4_state 84 = .ok (.iaload, 1) := by decide +kernel
theorem dX4_state_85 : decode cX4_state 85 = .ok (.ireturn, 1) := by decide +kernel
theorem dX4_state_86 : decode cX4_state 86 = .ok (.aload_n 0, 1) := by decide +kernel
theorem dX4_state_87 : decode cX4_state 87 = .ok (.invokevirtual 64, 3) := by decide +kernel
theorem dX4_state_90 : decode cX4_state 90 = .ok (.ireturn, 1) := by decide +kernel
theorem dX4_state_91 : decode cX4_state 91 = .ok (.aload_n 0, 1) := by decide +kernel
theorem dX4_state_92 : decode cX4_state 92 = .ok (.invokevirtual 141, 3) := by decide +kernel
theorem dX4_state_95 : decode cX4_state 95 = .ok (.ireturn, 1) := by decide +kernel
theorem dX4_state_96 : decode cX4_state 96 = .ok (.aload_n 0, 1) := by decide +kernel
theorem dX4_state_97 : decode cX4_state 97 = .ok (.getfield 144, 3) := by decide +kernel
theorem dX4_state_100 : decode cX4_state 100 = .ok (.ireturn, 1) := by decide +kernel
theorem dX4_state_101 : decode cX4_state 101 = .ok (.ldc 51, 2) := by decide +kernel
theorem dX4_state_103 : decode cX4_state 103 = .ok (.ireturn, 1) := by decide +kernel
theorem dX4_marker_0 : decode cX4_marker 0 = .ok (.iload_n 1, 1) := by decide +kernel
theorem dX4_marker_1 : decode cX4_marker 1 = .ok (.iconst 0, 1) := by decide +kernel
theorem dX4_marker_2 : decode cX4_marker 2 = .ok (.sipush 1000, 3) := by decide +kernel
theorem dX4_marker_5 : decode cX4_marker 5 = .ok (.aload_n 0, 1) := by decide +kernel
theorem dX4_marker_6 : decode cX4_marker 6 = .ok (.getfield 7, 3) := by decide +kernel
theorem dX4_marker_9 : decode cX4_marker 9 = .ok (.iconst 0, 1) := by decide +kernel
theorem dX4_marker_10 : decode cX4_marker 10 = .ok (.iaload, 1) := by decide +kernel
theorem dX4_marker_11 : decode cX4_marker 11 = .ok (.imul, 1) := by decide +kernel
theorem dX4_marker_12 : decode cX4_marker 12 = .ok (.iconst 1, 1) := by decide +kernel
theorem dX4_marker_13 : decode cX4_marker 13 = .ok (.isub, 1) := by decide +kernel
theorem dX4_marker_14 : decode cX4_marker 14 = .ok (.invokestatic 39, 3) := by decide +kernel
theorem dX4_marker_17 : decode cX4_marker 17 = .ok (.ifCond .eq 14, 3) := by decide +kernel
theorem dX4_marker_20 : decode cX4_marker 20 = .ok (.iload_n 2, 1) := by decide +kernel
theorem dX4_marker_21 : decode cX4_marker 21 = .ok (.iconst 0, 1) := by decide +kernel
theorem dX4_marker_22 : decode cX4_marker 22 = .ok (.sipush 3599, 3) := by decide +kernel
theorem dX4_marker_25 : decode cX4_marker 25 = .ok (.invokestatic 39, 3) := by decide +kernel
theorem dX4_marker_28 : decode cX4_marker 28 = .ok (.ifCond .ne 6, 3) := by decide +kernel
theorem dX4_marker_31 : decode cX4_marker 31 = .ok (.bipush (-2), 2) := by decide +kernel
theorem dX4_marker_33 : decode cX4_marker 33 = .ok (.ireturn, 1) := by decide +kernel
theorem dX4_marker_34 : decode cX4_marker 34 = .ok (.aload_n 0, 1) := by decide +kernel
theorem dX4_marker_35 : decode cX4_marker 35 = .ok (.getfield 7, 3) := by decide +kernel
theorem dX4_marker_38 : decode cX4_marker 38 = .ok (.bipush 33, 2) := by decide +kernel
theorem dX4_marker_40 : decode cX4_marker 40 = .ok (.iaload, 1) := by decide +kernel
theorem dX4_marker_41 : decode cX4_marker 41 = .ok (.bipush 6, 2) := by decide +kernel
theorem dX4_marker_43 : decode cX4_marker 43 = .ok (.if_icmp .ne 6, 3) := by decide +kernel
theorem dX4_marker_46 : decode cX4_marker 46 = .ok (.bipush (-4), 2) := by decide +kernel
theorem dX4_marker_48 : decode cX4_marker 48 = .ok (.ireturn, 1) := by decide +kernel
theorem dX4_marker_49 : decode cX4_marker 49 = .ok (.bipush 34, 2) := by decide +kernel
theorem dX4_marker_51 : decode cX4_marker 51 = .ok (.bipush 104, 2) := by decide +kernel
theorem dX4_marker_53 : decode cX4_marker 53 = .ok (.aload_n 0, 1) := by decide +kernel
theorem dX4_marker_54 : decode cX4_marker 54 = .ok (.getfield 7, 3) := by decide +kernel
theorem dX4_marker_57 : decode cX4_marker 57 = .ok (.bipush 33, 2) := by decide +kernel
theorem dX4_marker_59 : decode cX4_marker 59 = .ok (.iaload, 1) := by decide +kernel
theorem dX4_marker_60 : decode cX4_marker 60 = .ok (.imul, 1) := by decide +kernel
theorem dX4_marker_61 : decode cX4_marker 61 = .ok (.iadd, 1) := by decide +kernel
theorem dX4_marker_62 : decode cX4_marker 62 = .ok (.istore_n 3, 1) := by decide +kernel
theorem dX4_marker_63 : decode cX4_marker 63 = .ok (.aload_n 0, 1) := by decide +kernel
theorem dX4_marker_64 : decode cX4_marker 64 = .ok (.getfield 7, 3) := by decide +kernel
theorem dX4_marker_67 : decode cX4_marker 67 = .ok (.iload_n 3, 1) := by decide +kernel
theorem dX4_marker_68 : decode cX4_marker 68 = .ok (.iconst 0, 1) := by decide +kernel
theorem dX4_marker_69 : decode cX4_marker 69 = .ok (.iadd, 1) := by decide +kernel
theorem dX4_marker_70 : decode cX4_marker 70 = .ok (.iload_n 1, 1) := by decide +kernel
theorem dX4_marker_71 : decode cX4_marker 71 = .ok (.iastore, 1) := by decide +kernel
theorem dX4_marker_72 : decode cX4_marker 72 = .ok (.aload_n 0, 1) := by decide +kernel
theorem dX4_marker_73 : decode cX4_marker 73 = .ok (.getfield 7, 3) := by decide +kernel
theorem dX4_marker_76 : decode cX4_marker 76 = .ok (.iload_n 3, 1) := by decide +kernel
theorem dX4_marker_77 : decode cX4_marker 77 = .ok (.iconst 1, 1) := by decide +kernel
theorem dX4_marker_78 : decode cX4_marker 78 = .ok (.iadd, 1) := by decide +kernel
theorem dX4_marker_79 : decode cX4_marker 79 = .ok (.iload_n 2, 1) := by decide +kernel
theorem dX4_marker_80 : decode cX4_marker 80 = .ok (.iastore, 1) := by decide +kernel
theorem dX4_marker_81 : decode cX4_marker 81 = .ok (.aload_n 0, 1) := by decide +kernel
theorem dX4_marker_82 : decode cX4_marker 82 = .ok (.getfield 7, 3) := by decide +kernel
theorem dX4_marker_85 : decode cX4_marker 85 = .ok (.iload_n 3, 1) := by decide +kernel
theorem dX4_marker_86 : decode cX4_marker 86 = .ok (.iconst 2, 1) := by decide +kernel
theorem dX4_marker_87 : decode cX4_marker 87 = .ok (.iadd, 1) := by decide +kernel
theorem dX4_marker_88 : decode cX4_marker 88 = .ok (.iconst 0, 1) := by decide +kernel
theorem dX4_marker_89 : decode cX4_marker 89 = .ok (.iastore, 1) := by decide +kernel
theorem dX4_marker_90 : decode cX4_marker 90 = .ok (.aload_n 0, 1) := by decide +kernel
theorem dX4_marker_91 : decode cX4_marker 91 = .ok (.getfield 7, 3) := by decide +kernel
theorem dX4_marker_94 : decode cX4_marker 94 = .ok (.iload_n 3, 1) := by decide +kernel
theorem dX4_marker_95 : decode cX4_marker 95 = .ok (.iconst 3, 1) := by decide +kernel
theorem dX4_marker_96 : decode cX4_marker 96 = .ok (.iadd, 1) := by decide +kernel
theorem dX4_marker_97 : decode cX4_marker 97 = .ok (.iconst 0, 1) := by decide +kernel
theorem dX4_marker_98 : decode cX4_marker 98 = .ok (.iastore, 1) := by decide +kernel
theorem dX4_marker_99 : decode cX4_marker 99 = .ok (.aload_n 0, 1) := by decide +kernel
theorem dX4_marker_100 : decode cX4_marker 100 = .ok (.getfield 7, 3) := by decide +kernel
theorem dX4_marker_103 : decode cX4_marker 103 = .ok (.bipush 33, 2) := by decide +kernel
theorem dX4_marker_105 : decode cX4_marker 105 = .ok (.dup2, 1) := by decide +kernel
theorem dX4_marker_106 : decode cX4_marker 106 = .ok (.iaload, 1) := by decide +kernel
theorem dX4_marker_107 : decode cX4_marker 107 = .ok (.iconst 1, 1) := by decide +kernel
theorem dX4_marker_108 : decode cX4_marker 108 = .ok (.iadd, 1) := by decide +kernel
theorem dX4_marker_109 : decode cX4_marker 109 = .ok (.iastore, 1) := by decide +kernel
theorem dX4_marker_110 : decode cX4_marker 110 = .ok (.aload_n 0, 1) := by decide +kernel
theorem dX4_marker_111 : decode cX4_marker 111 = .ok (.getfield 7, 3) := by decide +kernel
theorem dX4_marker_114 : decode cX4_marker 114 = .ok (.bipush 33, 2) := by decide +kernel
theorem dX4_marker_116 : decode cX4_marker 116 = .ok (.iaload, 1) := by decide +kernel
theorem dX4_marker_117 : decode cX4_marker 117 = .ok (.iconst 1, 1) := by decide +kernel
theorem dX4_marker_118 : decode cX4_marker 118 = .ok (.isub, 1) := by decide +kernel
theorem dX4_marker_119 : decode cX4_marker 119 = .ok (.ireturn, 1) := by decide +kernel
theorem dX4_isMarker_0 : decode cX4_isMarker 0 = .ok (.iload_n 1, 1) := by decide +kernel
theorem dX4_isMarker_1 : decode cX4_isMarker 1 = .ok (.iconst 0, 1) := by decide +kernel
theorem dX4_isMarker_2 : decode cX4_isMarker 2 = .ok (.aload_n 0, 1) := by decide +kernel
theorem dX4_isMarker_3 : decode cX4_isMarker 3 = .ok (.getfield 7, 3) := by decide +kernel
theorem dX4_isMarker_6 : decode cX4_isMarker 6 = .ok (.bipush 33, 2) := by decide +kernel
theorem dX4_isMarker_8 : decode cX4_isMarker 8 = .ok (.iaload, 1) := by decide +kernel
theorem dX4_isMarker_9 : decode cX4_isMarker 9 = .ok (.iconst 1, 1) := by decide +kernel
theorem dX4_isMarker_10 : decode cX4_isMarker 10 = .ok (.isub, 1) := by decide +kernel
theorem dX4_isMarker_11 : decode cX4_isMarker 11 = .ok (.invokestatic 39, 3) := by decide +kernel
theorem dX4_isMarker_14 : decode cX4_isMarker 14 = .ok (.ireturn, 1) := by decide +kernel
theorem dX4_keptOf_0 : decode cX4_keptOf 0 = .ok (.aload_n 0, 1) := by decide +kernel
theorem dX4_keptOf_1 : decode cX4_keptOf 1 = .ok (.getfield 7, 3) := by decide +kernel
theorem dX4_keptOf_4 : decode cX4_keptOf 4 = .ok (.bipush 34, 2) := by decide +kernel
theorem dX4_keptOf_6 : decode cX4_keptOf 6 = .ok (.bipush 104, 2) := by decide +kernel
theorem dX4_keptOf_8 : decode cX4_keptOf 8 = .ok (.iload_n 1, 1) := by decide +kernel
theorem dX4_keptOf_9 : decode cX4_keptOf 9 = .ok (.imul, 1) := by decide +kernel
theorem dX4_keptOf_10 : decode cX4_keptOf 10 = .ok (.iadd, 1) := by decide +kernel
theorem dX4_keptOf_11 : decode cX4_keptOf 11 = .ok (.iconst 2, 1) := by decide +kernel
theorem dX4_keptOf_12 : decode cX4_keptOf 12 = .ok (.iadd, 1) := by decide +kernel
theorem dX4_keptOf_13 : decode cX4_keptOf 13 = .ok (.iaload, 1) := by decide +kernel
theorem dX4_keptOf_14 : decode cX4_keptOf 14 = .ok (.istore_n 2, 1) := by decide +kernel
theorem dX4_keptOf_15 : decode cX4_keptOf 15 = .ok (.iload_n 2, 1) := by decide +kernel
theorem dX4_keptOf_16 : decode cX4_keptOf 16 = .ok (.bipush 50, 2) := by decide +kernel
theorem dX4_keptOf_18 : decode cX4_keptOf 18 = .ok (.if_icmp .ge 7, 3) := by decide +kernel
theorem dX4_keptOf_21 : decode cX4_keptOf 21 = .ok (.iload_n 2, 1) := by decide +kernel
theorem dX4_keptOf_22 : decode cX4_keptOf 22 = .ok (.goto 5, 3) := by decide +kernel
theorem dX4_keptOf_25 : decode cX4_keptOf 25 = .ok (.bipush 50, 2) := by decide +kernel
theorem dX4_keptOf_27 : decode cX4_keptOf 27 = .ok (.ireturn, 1) := by decide +kernel
theorem dX4_where_0 : decode cX4_where 0 = .ok (.aload_n 0, 1) := by decide +kernel
theorem dX4_where_1 : decode cX4_where 1 = .ok (.iload_n 1, 1) := by decide +kernel
theorem dX4_where_2 : decode cX4_where 2 = .ok (.invokevirtual 148, 3) := by decide +kernel
theorem dX4_where_5 : decode cX4_where 5 = .ok (.ifCond .ne 5, 3) := by decide +kernel
theorem dX4_where_8 : decode cX4_where 8 = .ok (.iconst (-1), 1) := by decide +kernel
theorem dX4_where_9 : decode cX4_where 9 = .ok (.ireturn, 1) := by decide +kernel
theorem dX4_where_10 : decode cX4_where 10 = .ok (.bipush 34, 2) := by decide +kernel
theorem dX4_where_12 : decode cX4_where 12 = .ok (.bipush 104, 2) := by decide +kernel
theorem dX4_where_14 : decode cX4_where 14 = .ok (.iload_n 1, 1) := by decide +kernel
theorem dX4_where_15 : decode cX4_where 15 = .ok (.imul, 1) := by decide +kernel
theorem dX4_where_16 : decode cX4_where 16 = .ok (.iadd, 1) := by decide +kernel
theorem dX4_where_17 : decode cX4_where 17 = .ok (.istore_n 3, 1) := by decide +kernel
theorem dX4_where_18 : decode cX4_where 18 = .ok (.iload_n 2, 1) := by decide +kernel
theorem dX4_where_19 : decode cX4_where 19 = .ok (.tableswitch 79 0 4 #[33, 42, 51, 64, 70], 33) := by decide +kernel
theorem dX4_where_52 : decode cX4_where 52 = .ok (.aload_n 0, 1) := by decide +kernel
theorem dX4_where_53 : decode cX4_where 53 = .ok (.getfield 7, 3) := by decide +kernel
theorem dX4_where_56 : decode cX4_where 56 = .ok (.iload_n 3, 1) := by decide +kernel
theorem dX4_where_57 : decode cX4_where 57 = .ok (.iconst 0, 1) := by decide +kernel
theorem dX4_where_58 : decode cX4_where 58 = .ok (.iadd, 1) := by decide +kernel
theorem dX4_where_59 : decode cX4_where 59 = .ok (.iaload, 1) := by decide +kernel
theorem dX4_where_60 : decode cX4_where 60 = .ok (.ireturn, 1) := by decide +kernel
theorem dX4_where_61 : decode cX4_where 61 = .ok (.aload_n 0, 1) := by decide +kernel
theorem dX4_where_62 : decode cX4_where 62 = .ok (.getfield 7, 3) := by decide +kernel
theorem dX4_where_65 : decode cX4_where 65 = .ok (.iload_n 3, 1) := by decide +kernel
theorem dX4_where_66 : decode cX4_where 66 = .ok (.iconst 1, 1) := by decide +kernel
theorem dX4_where_67 : decode cX4_where 67 = .ok (.iadd, 1) := by decide +kernel
theorem dX4_where_68 : decode cX4_where 68 = .ok (.iaload, 1) := by decide +kernel
theorem dX4_where_69 : decode cX4_where 69 = .ok (.ireturn, 1) := by decide +kernel
theorem dX4_where_70 : decode cX4_where 70 = .ok (.aload_n 0, 1) := by decide +kernel
theorem dX4_where_71 : decode cX4_where 71 = .ok (.getfield 7, 3) := by decide +kernel
theorem dX4_where_74 : decode cX4_where 74 = .ok (.iload_n 3, 1) := by decide +kernel
theorem dX4_where_75 : decode cX4_where 75 = .ok (.iconst 0, 1) := by decide +kernel
theorem dX4_where_76 : decode cX4_where 76 = .ok (.iadd, 1) := by decide +kernel
theorem dX4_where_77 : decode cX4_where 77 = .ok (.iaload, 1) := by decide +kernel
theorem dX4_where_78 : decode cX4_where 78 = .ok (.sipush 1000, 3) := by decide +kernel
theorem dX4_where_81 : decode cX4_where 81 = .ok (.idiv, 1) := by decide +kernel
theorem dX4_where_82 : decode cX4_where 82 = .ok (.ireturn, 1) := by decide +kernel
theorem dX4_where_83 : decode cX4_where 83 = .ok (.aload_n 0, 1) := by decide +kernel
theorem dX4_where_84 : decode cX4_where 84 = .ok (.iload_n 1, 1) := by decide +kernel
theorem dX4_where_85 : decode cX4_where 85 = .ok (.invokevirtual 151, 3) := by decide +kernel
theorem dX4_where_88 : decode cX4_where 88 = .ok (.ireturn, 1) := by decide +kernel
theorem dX4_where_89 : decode cX4_where 89 = .ok (.aload_n 0, 1) := by decide +kernel
theorem dX4_where_90 : decode cX4_where 90 = .ok (.getfield 7, 3) := by decide +kernel
theorem dX4_where_93 : decode cX4_where 93 = .ok (.iload_n 3, 1) := by decide +kernel
theorem dX4_where_94 : decode cX4_where 94 = .ok (.iconst 3, 1) := by decide +kernel
theorem dX4_where_95 : decode cX4_where 95 = .ok (.iadd, 1) := by decide +kernel
theorem dX4_where_96 : decode cX4_where 96 = .ok (.iaload, 1) := by decide +kernel
theorem dX4_where_97 : decode cX4_where 97 = .ok (.ireturn, 1) := by decide +kernel
theorem dX4_where_98 : decode cX4_where 98 = .ok (.bipush (-2), 2) := by decide +kernel
theorem dX4_where_100 : decode cX4_where 100 = .ok (.ireturn, 1) := by decide +kernel
theorem dX4_path_0 : decode cX4_path 0 = .ok (.aload_n 0, 1) := by decide +kernel
theorem dX4_path_1 : decode cX4_path 1 = .ok (.iload_n 1, 1) := by decide +kernel
theorem dX4_path_2 : decode cX4_path 2 = .ok (.invokevirtual 148, 3) := by decide +kernel
theorem dX4_path_5 : decode cX4_path 5 = .ok (.ifCond .ne 5, 3) := by decide +kernel
theorem dX4_path_8 : decode cX4_path 8 = .ok (.iconst (-1), 1) := by decide +kernel
theorem dX4_path_9 : decode cX4_path 9 = .ok (.ireturn, 1) := by decide +kernel
theorem dX4_path_10 : decode cX4_path 10 = .ok (.iload_n 3, 1) := by decide +kernel
theorem dX4_path_11 : decode cX4_path 11 = .ok (.iconst 0, 1) := by decide +kernel
theorem dX4_path_12 : decode cX4_path 12 = .ok (.iconst 1, 1) := by decide +kernel
theorem dX4_path_13 : decode cX4_path 13 = .ok (.invokestatic 39, 3) := by decide +kernel
theorem dX4_path_16 : decode cX4_path 16 = .ok (.ifCond .ne 6, 3) := by decide +kernel
theorem dX4_path_19 : decode cX4_path 19 = .ok (.bipush (-2), 2) := by decide +kernel
theorem dX4_path_21 : decode cX4_path 21 = .ok (.ireturn, 1) := by decide +kernel
theorem dX4_path_22 : decode cX4_path 22 = .ok (.iload_n 2, 1) := by decide +kernel
theorem dX4_path_23 : decode cX4_path 23 = .ok (.iconst 0, 1) := by decide +kernel
theorem dX4_path_24 : decode cX4_path 24 = .ok (.aload_n 0, 1) := by decide +kernel
theorem dX4_path_25 : decode cX4_path 25 = .ok (.iload_n 1, 1) := by decide +kernel
theorem dX4_path_26 : decode cX4_path 26 = .ok (.invokevirtual 151, 3) := by decide +kernel
theorem dX4_path_29 : decode cX4_path 29 = .ok (.iconst 1, 1) := by decide +kernel
theorem dX4_path_30 : decode cX4_path 30 = .ok (.isub, 1) := by decide +kernel
theorem dX4_path_31 : decode cX4_path 31 = .ok (.invokestatic 39, 3) := by decide +kernel
theorem dX4_path_34 : decode cX4_path 34 = .ok (.ifCond .ne 6, 3) := by decide +kernel
theorem dX4_path_37 : decode cX4_path 37 = .ok (.bipush (-6), 2) := by decide +kernel
theorem dX4_path_39 : decode cX4_path 39 = .ok (.ireturn, 1) := by decide +kernel
theorem dX4_path_40 : decode cX4_path 40 = .ok (.bipush 34, 2) := by decide +kernel
theorem dX4_path_42 : decode cX4_path 42 = .ok (.bipush 104, 2) := by decide +kernel
theorem dX4_path_44 : decode cX4_path 44 = .ok (.iload_n 1, 1) := by decide +kernel
theorem dX4_path_45 : decode cX4_path 45 = .ok (.imul, 1) := by decide +kernel
theorem dX4_path_46 : decode cX4_path 46 = .ok (.iadd, 1) := by decide +kernel
theorem dX4_path_47 : decode cX4_path 47 = .ok (.istore 4, 2) := by decide +kernel
theorem dX4_path_49 : decode cX4_path 49 = .ok (.aload_n 0, 1) := by decide +kernel
theorem dX4_path_50 : decode cX4_path 50 = .ok (.getfield 7, 3) := by decide +kernel
theorem dX4_path_53 : decode cX4_path 53 = .ok (.iload 4, 2) := by decide +kernel
theorem dX4_path_55 : decode cX4_path 55 = .ok (.iconst 4, 1) := by decide +kernel
theorem dX4_path_56 : decode cX4_path 56 = .ok (.iadd, 1) := by decide +kernel
theorem dX4_path_57 : decode cX4_path 57 = .ok (.iconst 2, 1) := by decide +kernel
theorem dX4_path_58 : decode cX4_path 58 = .ok (.aload_n 0, 1) := by decide +kernel
theorem dX4_path_59 : decode cX4_path 59 = .ok (.getfield 7, 3) := by decide +kernel
theorem dX4_path_62 : decode cX4_path 62 = .ok (.iload 4, 2) := by decide +kernel
theorem dX4_path_64 : decode cX4_path 64 = .ok (.iconst 2, 1) := by decide +kernel
theorem dX4_path_65 : decode cX4_path 65 = .ok (.iadd, 1) := by decide +kernel
theorem dX4_path_66 : decode cX4_path 66 = .ok (.iaload, 1) := by decide +kernel
theorem dX4_path_67 : decode cX4_path 67 = .ok (.iconst 1, 1) := by decide +kernel
theorem dX4_path_68 : decode cX4_path 68 = .ok (.isub, 1) := by decide +kernel
theorem dX4_path_69 : decode cX4_path 69 = .ok (.iload_n 2, 1) := by decide +kernel
theorem dX4_path_70 : decode cX4_path 70 = .ok (.isub, 1) := by decide +kernel
theorem dX4_path_71 : decode cX4_path 71 = .ok (.bipush 50, 2) := by decide +kernel
theorem dX4_path_73 : decode cX4_path 73 = .ok (.irem, 1) := by decide +kernel
theorem dX4_path_74 : decode cX4_path 74 = .ok (.imul, 1) := by decide +kernel
theorem dX4_path_75 : decode cX4_path 75 = .ok (.iadd, 1) := by decide +kernel
theorem dX4_path_76 : decode cX4_path 76 = .ok (.iload_n 3, 1) := by decide +kernel
theorem dX4_path_77 : decode cX4_path 77 = .ok (.iadd, 1) := by decide +kernel
theorem dX4_path_78 : decode cX4_path 78 = .ok (.iaload, 1) := by decide +kernel
theorem dX4_path_79 : decode cX4_path 79 = .ok (.ireturn, 1) := by decide +kernel
theorem dX4_isSettled_0 : decode cX4_isSettled 0 = .ok (.iconst 1, 1) := by decide +kernel
theorem dX4_isSettled_1 : decode cX4_isSettled 1 = .ok (.istore_n 2, 1) := by decide +kernel
theorem dX4_isSettled_2 : decode cX4_isSettled 2 = .ok (.iconst 0, 1) := by decide +kernel
theorem dX4_isSettled_3 : decode cX4_isSettled 3 = .ok (.istore_n 3, 1) := by decide +kernel
theorem dX4_isSettled_4 : decode cX4_isSettled 4 = .ok (.iload_n 3, 1) := by decide +kernel
theorem dX4_isSettled_5 : decode cX4_isSettled 5 = .ok (.aload_n 0, 1) := by decide +kernel
theorem dX4_isSettled_6 : decode cX4_isSettled 6 = .ok (.getfield 7, 3) := by decide +kernel
theorem dX4_isSettled_9 : decode cX4_isSettled 9 = .ok (.iconst 0, 1) := by decide +kernel
theorem dX4_isSettled_10 : decode cX4_isSettled 10 = .ok (.iaload, 1) := by decide +kernel
theorem dX4_isSettled_11 : decode cX4_isSettled 11 = .ok (.if_icmp .ge 41, 3) := by decide +kernel
theorem dX4_isSettled_14 : decode cX4_isSettled 14 = .ok (.iload_n 2, 1) := by decide +kernel
theorem dX4_isSettled_15 : decode cX4_isSettled 15 = .ok (.ifCond .eq 29, 3) := by decide +kernel
theorem dX4_isSettled_18 : decode cX4_isSettled 18 = .ok (.aload_n 0, 1) := by decide +kernel
theorem dX4_isSettled_19 : decode cX4_isSettled 19 = .ok (.iload_n 3, 1) := by decide +kernel
theorem dX4_isSettled_20 : decode cX4_isSettled 20 = .ok (.invokevirtual 60, 3) := by decide +kernel
theorem dX4_isSettled_23 : decode cX4_isSettled 23 = .ok (.aload_n 0, 1) := by decide +kernel
theorem dX4_isSettled_24 : decode cX4_isSettled 24 = .ok (.getfield 7, 3) := by decide +kernel
theorem dX4_isSettled_27 : decode cX4_isSettled 27 = .ok (.bipush 6, 2) := by decide +kernel
theorem dX4_isSettled_29 : decode cX4_isSettled 29 = .ok (.iaload, 1) := by decide +kernel
theorem dX4_isSettled_30 : decode cX4_isSettled 30 = .ok (.isub, 1) := by decide +kernel
theorem dX4_isSettled_31 : decode cX4_isSettled 31 = .ok (.iload_n 1, 1) := by decide +kernel
theorem dX4_isSettled_32 : decode cX4_isSettled 32 = .ok (.ineg, 1) := by decide +kernel
theorem dX4_isSettled_33 : decode cX4_isSettled 33 = .ok (.iload_n 1, 1) := by decide +kernel
theorem dX4_isSettled_34 : decode cX4_isSettled 34 = .ok (.invokestatic 39, 3) := by decide +kernel
theorem dX4_isSettled_37 : decode cX4_isSettled 37 = .ok (.ifCond .eq 7, 3) := by decide +kernel
theorem dX4_isSettled_40 : decode cX4_isSettled 40 = .ok (.iconst 1, 1) := by decide +kernel
theorem dX4_isSettled_41 : decode cX4_isSettled 41 = .ok (.goto 4, 3) := by decide +kernel
theorem dX4_isSettled_44 : decode cX4_isSettled 44 = .ok (.iconst 0, 1) := by decide +kernel
theorem dX4_isSettled_45 : decode cX4_isSettled 45 = .ok (.istore_n 2, 1) := by decide +kernel
theorem dX4_isSettled_46 : decode cX4_isSettled 46 = .ok (.iinc 3 1, 3) := by decide +kernel
theorem dX4_isSettled_49 : decode cX4_isSettled 49 = .ok (.goto (-45), 3) := by decide +kernel
theorem dX4_isSettled_52 : decode cX4_isSettled 52 = .ok (.iload_n 2, 1) := by decide +kernel
theorem dX4_isSettled_53 : decode cX4_isSettled 53 = .ok (.ireturn, 1) := by decide +kernel
theorem dX4_hasPart_0 : decode cX4_hasPart 0 = .ok (.aload_n 0, 1) := by decide +kernel
theorem dX4_hasPart_1 : decode cX4_hasPart 1 = .ok (.iload_n 1, 1) := by decide +kernel
theorem dX4_hasPart_2 : decode cX4_hasPart 2 = .ok (.iconst 0, 1) := by decide +kernel
theorem dX4_hasPart_3 : decode cX4_hasPart 3 = .ok (.iload_n 2, 1) := by decide +kernel
theorem dX4_hasPart_4 : decode cX4_hasPart 4 = .ok (.iload_n 2, 1) := by decide +kernel
theorem dX4_hasPart_5 : decode cX4_hasPart 5 = .ok (.invokevirtual 75, 3) := by decide +kernel
theorem dX4_hasPart_8 : decode cX4_hasPart 8 = .ok (.aload_n 0, 1) := by decide +kernel
theorem dX4_hasPart_9 : decode cX4_hasPart 9 = .ok (.iload_n 1, 1) := by decide +kernel
theorem dX4_hasPart_10 : decode cX4_hasPart 10 = .ok (.iconst 1, 1) := by decide +kernel
theorem dX4_hasPart_11 : decode cX4_hasPart 11 = .ok (.iload_n 2, 1) := by decide +kernel
theorem dX4_hasPart_12 : decode cX4_hasPart 12 = .ok (.iload_n 2, 1) := by decide +kernel
theorem dX4_hasPart_13 : decode cX4_hasPart 13 = .ok (.invokevirtual 75, 3) := by decide +kernel
theorem dX4_hasPart_16 : decode cX4_hasPart 16 = .ok (.iadd, 1) := by decide +kernel
theorem dX4_hasPart_17 : decode cX4_hasPart 17 = .ok (.i2l, 1) := by decide +kernel
theorem dX4_hasPart_18 : decode cX4_hasPart 18 = .ok (.lstore 4, 2) := by decide +kernel
theorem dX4_hasPart_20 : decode cX4_hasPart 20 = .ok (.ldc2_w 90, 3) := by decide +kernel
theorem dX4_hasPart_23 : decode cX4_hasPart 23 = .ok (.lload 4, 2) := by decide +kernel
theorem dX4_hasPart_25 : decode cX4_hasPart 25 = .ok (.lmul, 1) := by decide +kernel
theorem dX4_hasPart_26 : decode cX4_hasPart 26 = .ok (.iload_n 3, 1) := by decide +kernel
theorem dX4_hasPart_27 : decode cX4_hasPart 27 = .ok (.i2l, 1) := by decide +kernel
theorem dX4_hasPart_28 : decode cX4_hasPart 28 = .ok (.aload_n 0, 1) := by decide +kernel
theorem dX4_hasPart_29 : decode cX4_hasPart 29 = .ok (.iload_n 1, 1) := by decide +kernel
theorem dX4_hasPart_30 : decode cX4_hasPart 30 = .ok (.invokevirtual 83, 3) := by decide +kernel
theorem dX4_hasPart_33 : decode cX4_hasPart 33 = .ok (.i2l, 1) := by decide +kernel
theorem dX4_hasPart_34 : decode cX4_hasPart 34 = .ok (.lmul, 1) := by decide +kernel
theorem dX4_hasPart_35 : decode cX4_hasPart 35 = .ok (.lcmp, 1) := by decide +kernel
theorem dX4_hasPart_36 : decode cX4_hasPart 36 = .ok (.ifCond .lt 7, 3) := by decide +kernel
theorem dX4_hasPart_39 : decode cX4_hasPart 39 = .ok (.iconst 1, 1) := by decide +kernel
theorem dX4_hasPart_40 : decode cX4_hasPart 40 = .ok (.goto 4, 3) := by decide +kernel
theorem dX4_hasPart_43 : decode cX4_hasPart 43 = .ok (.iconst 0, 1) := by decide +kernel
theorem dX4_hasPart_44 : decode cX4_hasPart 44 = .ok (.ireturn, 1) := by decide +kernel
theorem dX4_areNear_0 : decode cX4_areNear 0 = .ok (.bipush 34, 2) := by decide +kernel
theorem dX4_areNear_2 : decode cX4_areNear 2 = .ok (.bipush 104, 2) := by decide +kernel
theorem dX4_areNear_4 : decode cX4_areNear 4 = .ok (.iload_n 1, 1) := by decide +kernel
theorem dX4_areNear_5 : decode cX4_areNear 5 = .ok (.imul, 1) := by decide +kernel
theorem dX4_areNear_6 : decode cX4_areNear 6 = .ok (.iadd, 1) := by decide +kernel
theorem dX4_areNear_7 : decode cX4_areNear 7 = .ok (.istore 4, 2) := by decide +kernel
theorem dX4_areNear_9 : decode cX4_areNear 9 = .ok (.bipush 34, 2) := by decide +kernel
theorem dX4_areNear_11 : decode cX4_areNear 11 = .ok (.bipush 104, 2) := by decide +kernel
theorem dX4_areNear_13 : decode cX4_areNear 13 = .ok (.iload_n 2, 1) := by decide +kernel
theorem dX4_areNear_14 : decode cX4_areNear 14 = .ok (.imul, 1) := by decide +kernel
theorem dX4_areNear_15 : decode cX4_areNear 15 = .ok (.iadd, 1) := by decide +kernel
theorem dX4_areNear_16 : decode cX4_areNear 16 = .ok (.istore 5, 2) := by decide +kernel
theorem dX4_areNear_18 : decode cX4_areNear 18 = .ok (.aload_n 0, 1) := by decide +kernel
theorem dX4_areNear_19 : decode cX4_areNear 19 = .ok (.getfield 7, 3) := by decide +kernel
theorem dX4_areNear_22 : decode cX4_areNear 22 = .ok (.iload 4, 2) := by decide +kernel
theorem dX4_areNear_24 : decode cX4_areNear 24 = .ok (.iconst 1, 1) := by decide +kernel
theorem dX4_areNear_25 : decode cX4_areNear 25 = .ok (.iadd, 1) := by decide +kernel
theorem dX4_areNear_26 : decode cX4_areNear 26 = .ok (.iaload, 1) := by decide +kernel
theorem dX4_areNear_27 : decode cX4_areNear 27 = .ok (.aload_n 0, 1) := by decide +kernel
theorem dX4_areNear_28 : decode cX4_areNear 28 = .ok (.getfield 7, 3) := by decide +kernel
theorem dX4_areNear_31 : decode cX4_areNear 31 = .ok (.iload 5, 2) := by decide +kernel
theorem dX4_areNear_33 : decode cX4_areNear 33 = .ok (.iconst 1, 1) := by decide +kernel
theorem dX4_areNear_34 : decode cX4_areNear 34 = .ok (.iadd, 1) := by decide +kernel
theorem dX4_areNear_35 : decode cX4_areNear 35 = .ok (.iaload, 1) := by decide +kernel
theorem dX4_areNear_36 : decode cX4_areNear 36 = .ok (.isub, 1) := by decide +kernel
theorem dX4_areNear_37 : decode cX4_areNear 37 = .ok (.sipush 3600, 3) := by decide +kernel
theorem dX4_areNear_40 : decode cX4_areNear 40 = .ok (.invokestatic 68, 3) := by decide +kernel
theorem dX4_areNear_43 : decode cX4_areNear 43 = .ok (.istore 6, 2) := by decide +kernel
theorem dX4_areNear_45 : decode cX4_areNear 45 = .ok (.iload 6, 2) := by decide +kernel
theorem dX4_areNear_47 : decode cX4_areNear 47 = .ok (.sipush 1800, 3) := by decide +kernel
theorem dX4_areNear_50 : decode cX4_areNear 50 = .ok (.if_icmp .le 12, 3) := by decide +kernel
theorem dX4_areNear_53 : decode cX4_areNear 53 = .ok (.sipush 3600, 3) := by decide +kernel
theorem dX4_areNear_56 : decode cX4_areNear 56 = .ok (.iload 6, 2) := by decide +kernel
theorem dX4_areNear_58 : decode cX4_areNear 58 = .ok (.isub, 1) := by decide +kernel
theorem dX4_areNear_59 : decode cX4_areNear 59 = .ok (.goto 5, 3) := by decide +kernel
theorem dX4_areNear_62 : decode cX4_areNear 62 = .ok (.iload 6, 2) := by decide +kernel
theorem dX4_areNear_64 : decode cX4_areNear 64 = .ok (.istore 6, 2) := by decide +kernel
theorem dX4_areNear_66 : decode cX4_areNear 66 = .ok (.aload_n 0, 1) := by decide +kernel
theorem dX4_areNear_67 : decode cX4_areNear 67 = .ok (.getfield 7, 3) := by decide +kernel
theorem dX4_areNear_70 : decode cX4_areNear 70 = .ok (.iload 4, 2) := by decide +kernel
theorem dX4_areNear_72 : decode cX4_areNear 72 = .ok (.iconst 0, 1) := by decide +kernel
theorem dX4_areNear_73 : decode cX4_areNear 73 = .ok (.iadd, 1) := by decide +kernel
theorem dX4_areNear_74 : decode cX4_areNear 74 = .ok (.iaload, 1) := by decide +kernel
theorem dX4_areNear_75 : decode cX4_areNear 75 = .ok (.sipush 1000, 3) := by decide +kernel
theorem dX4_areNear_78 : decode cX4_areNear 78 = .ok (.idiv, 1) := by decide +kernel
theorem dX4_areNear_79 : decode cX4_areNear 79 = .ok (.aload_n 0, 1) := by decide +kernel
theorem dX4_areNear_80 : decode cX4_areNear 80 = .ok (.getfield 7, 3) := by decide +kernel
theorem dX4_areNear_83 : decode cX4_areNear 83 = .ok (.iload 5, 2) := by decide +kernel
theorem dX4_areNear_85 : decode cX4_areNear 85 = .ok (.iconst 0, 1) := by decide +kernel
theorem dX4_areNear_86 : decode cX4_areNear 86 = .ok (.iadd, 1) := by decide +kernel
theorem dX4_areNear_87 : decode cX4_areNear 87 = .ok (.iaload, 1) := by decide +kernel
theorem dX4_areNear_88 : decode cX4_areNear 88 = .ok (.sipush 1000, 3) := by decide +kernel
theorem dX4_areNear_91 : decode cX4_areNear 91 = .ok (.idiv, 1) := by decide +kernel
theorem dX4_areNear_92 : decode cX4_areNear 92 = .ok (.if_icmp .ne 13, 3) := by decide +kernel
theorem dX4_areNear_95 : decode cX4_areNear 95 = .ok (.iload 6, 2) := by decide +kernel
theorem dX4_areNear_97 : decode cX4_areNear 97 = .ok (.iload_n 3, 1) := by decide +kernel
theorem dX4_areNear_98 : decode cX4_areNear 98 = .ok (.if_icmp .gt 7, 3) := by decide +kernel
theorem dX4_areNear_101 : decode cX4_areNear 101 = .ok (.iconst 1, 1) := by decide +kernel
theorem dX4_areNear_102 : decode cX4_areNear 102 = .ok (.goto 4, 3) := by decide +kernel
theorem dX4_areNear_105 : decode cX4_areNear 105 = .ok (.iconst 0, 1) := by decide +kernel
theorem dX4_areNear_106 : decode cX4_areNear 106 = .ok (.ireturn, 1) := by decide +kernel
theorem dX4_holds_0 : decode cX4_holds 0 = .ok (.iload_n 1, 1) := by decide +kernel
theorem dX4_holds_1 : decode cX4_holds 1 = .ok (.ifCond .ne 11, 3) := by decide +kernel
theorem dX4_holds_4 : decode cX4_holds 4 = .ok (.aload_n 0, 1) := by decide +kernel
theorem dX4_holds_5 : decode cX4_holds 5 = .ok (.iload_n 2, 1) := by decide +kernel
theorem dX4_holds_6 : decode cX4_holds 6 = .ok (.invokevirtual 154, 3) := by decide +kernel
theorem dX4_holds_9 : decode cX4_holds 9 = .ok (.goto 27, 3) := by decide +kernel
theorem dX4_holds_12 : decode cX4_holds 12 = .ok (.iload_n 1, 1) := by decide +kernel
theorem dX4_holds_13 : decode cX4_holds 13 = .ok (.iconst 1, 1) := by decide +kernel
theorem dX4_holds_14 : decode cX4_holds 14 = .ok (.if_icmp .ne 14, 3) := by decide +kernel
theorem dX4_holds_17 : decode cX4_holds 17 = .ok (.aload_n 0, 1) := by decide +kernel
theorem dX4_holds_18 : decode cX4_holds 18 = .ok (.iload_n 2, 1) := by decide +kernel
theorem dX4_holds_19 : decode cX4_holds 19 = .ok (.iload_n 3, 1) := by decide +kernel
theorem dX4_holds_20 : decode cX4_holds 20 = .ok (.iload 4, 2) := by decide +kernel
theorem dX4_holds_22 : decode cX4_holds 22 = .ok (.invokevirtual 157, 3) := by decide +kernel
theorem dX4_holds_25 : decode cX4_holds 25 = .ok (.goto 11, 3) := by decide +kernel
theorem dX4_holds_28 : decode cX4_holds 28 = .ok (.aload_n 0, 1) := by decide +kernel
theorem dX4_holds_29 : decode cX4_holds 29 = .ok (.iload_n 2, 1) := by decide +kernel
theorem dX4_holds_30 : decode cX4_holds 30 = .ok (.iload_n 3, 1) := by decide +kernel
theorem dX4_holds_31 : decode cX4_holds 31 = .ok (.iload 4, 2) := by decide +kernel
theorem dX4_holds_33 : decode cX4_holds 33 = .ok (.invokevirtual 160, 3) := by decide +kernel
theorem dX4_holds_36 : decode cX4_holds 36 = .ok (.ireturn, 1) := by decide +kernel
theorem dX4_whenHolds_0 : decode cX4_whenHolds 0 = .ok (.aload_n 0, 1) := by decide +kernel
theorem dX4_whenHolds_1 : decode cX4_whenHolds 1 = .ok (.invokevirtual 163, 3) := by decide +kernel
theorem dX4_whenHolds_4 : decode cX4_whenHolds 4 = .ok (.aload_n 0, 1) := by decide +kernel
theorem dX4_whenHolds_5 : decode cX4_whenHolds 5 = .ok (.iload_n 1, 1) := by decide +kernel
theorem dX4_whenHolds_6 : decode cX4_whenHolds 6 = .ok (.iload_n 2, 1) := by decide +kernel
theorem dX4_whenHolds_7 : decode cX4_whenHolds 7 = .ok (.iload_n 3, 1) := by decide +kernel
theorem dX4_whenHolds_8 : decode cX4_whenHolds 8 = .ok (.iload 4, 2) := by decide +kernel
theorem dX4_whenHolds_10 : decode cX4_whenHolds 10 = .ok (.invokevirtual 166, 3) := by decide +kernel
theorem dX4_whenHolds_13 : decode cX4_whenHolds 13 = .ok (.ifCond .eq 7, 3) := by decide +kernel
theorem dX4_whenHolds_16 : decode cX4_whenHolds 16 = .ok (.iconst 0, 1) := by decide +kernel
theorem dX4_whenHolds_17 : decode cX4_whenHolds 17 = .ok (.goto 5, 3) := by decide +kernel
theorem dX4_whenHolds_20 : decode cX4_whenHolds 20 = .ok (.bipush (-6), 2) := by decide +kernel
theorem dX4_whenHolds_22 : decode cX4_whenHolds 22 = .ok (.istore 6, 2) := by decide +kernel
theorem dX4_whenHolds_24 : decode cX4_whenHolds 24 = .ok (.iconst 1, 1) := by decide +kernel
theorem dX4_whenHolds_25 : decode cX4_whenHolds 25 = .ok (.istore 7, 2) := by decide +kernel
theorem dX4_whenHolds_27 : decode cX4_whenHolds 27 = .ok (.iload 7, 2) := by decide +kernel
theorem dX4_whenHolds_29 : decode cX4_whenHolds 29 = .ok (.iload 5, 2) := by decide +kernel
theorem dX4_whenHolds_31 : decode cX4_whenHolds 31 = .ok (.if_icmp .gt 39, 3) := by decide +kernel
theorem dX4_whenHolds_34 : decode cX4_whenHolds 34 = .ok (.iload 6, 2) := by decide +kernel
theorem dX4_whenHolds_36 : decode cX4_whenHolds 36 = .ok (.ifCond .ge 34, 3) := by decide +kernel
theorem dX4_whenHolds_39 : decode cX4_whenHolds 39 = .ok (.aload_n 0, 1) := by decide +kernel
theorem dX4_whenHolds_40 : decode cX4_whenHolds 40 = .ok (.invokevirtual 114, 3) := by decide +kernel
theorem dX4_whenHolds_43 : decode cX4_whenHolds 43 = .ok (.aload_n 0, 1) := by decide +kernel
theorem dX4_whenHolds_44 : decode cX4_whenHolds 44 = .ok (.iload_n 1, 1) := by decide +kernel
theorem dX4_whenHolds_45 : decode cX4_whenHolds 45 = .ok (.iload_n 2, 1) := by decide +kernel
theorem dX4_whenHolds_46 : decode cX4_whenHolds 46 = .ok (.iload_n 3, 1) := by decide +kernel
theorem dX4_whenHolds_47 : decode cX4_whenHolds 47 = .ok (.iload 4, 2) := by decide +kernel
theorem dX4_whenHolds_49 : decode cX4_whenHolds 49 = .ok (.invokevirtual 166, 3) := by decide +kernel
theorem dX4_whenHolds_52 : decode cX4_whenHolds 52 = .ok (.ifCond .eq 8, 3) := by decide +kernel
theorem dX4_whenHolds_55 : decode cX4_whenHolds 55 = .ok (.iload 7, 2) := by decide +kernel
theorem dX4_whenHolds_57 : decode cX4_whenHolds 57 = .ok (.goto 5, 3) := by decide +kernel
theorem dX4_whenHolds_60 : decode cX4_whenHolds 60 = .ok (.bipush (-6), 2) := by decide +kernel
theorem dX4_whenHolds_62 : decode cX4_whenHolds 62 = .ok (.istore 6, 2) := by decide +kernel
theorem dX4_whenHolds_64 : decode cX4_whenHolds 64 = .ok (.iinc 7 1, 3) := by decide +kernel
theorem dX4_whenHolds_67 : decode cX4_whenHolds 67 = .ok (.goto (-40), 3) := by decide +kernel
theorem dX4_whenHolds_70 : decode cX4_whenHolds 70 = .ok (.aload_n 0, 1) := by decide +kernel
theorem dX4_whenHolds_71 : decode cX4_whenHolds 71 = .ok (.invokevirtual 169, 3) := by decide +kernel
theorem dX4_whenHolds_74 : decode cX4_whenHolds 74 = .ok (.iload 6, 2) := by decide +kernel
theorem dX4_whenHolds_76 : decode cX4_whenHolds 76 = .ok (.ireturn, 1) := by decide +kernel
theorem dX4_settles_0 : decode cX4_settles 0 = .ok (.iload_n 1, 1) := by decide +kernel
theorem dX4_settles_1 : decode cX4_settles 1 = .ok (.iconst 0, 1) := by decide +kernel
theorem dX4_settles_2 : decode cX4_settles 2 = .ok (.sipush 1000, 3) := by decide +kernel
theorem dX4_settles_5 : decode cX4_settles 5 = .ok (.invokestatic 39, 3) := by decide +kernel
theorem dX4_settles_8 : decode cX4_settles 8 = .ok (.ifCond .eq 26, 3) := by decide +kernel
theorem dX4_settles_11 : decode cX4_settles 11 = .ok (.iload_n 2, 1) := by decide +kernel
theorem dX4_settles_12 : decode cX4_settles 12 = .ok (.iconst 1, 1) := by decide +kernel
theorem dX4_settles_13 : decode cX4_settles 13 = .ok (.sipush 1000, 3) := by decide +kernel
theorem dX4_settles_16 : decode cX4_settles 16 = .ok (.invokestatic 39, 3) := by decide +kernel
theorem dX4_settles_19 : decode cX4_settles 19 = .ok (.ifCond .eq 15, 3) := by decide +kernel
theorem dX4_settles_22 : decode cX4_settles 22 = .ok (.aload_n 0, 1) := by decide +kernel
theorem dX4_settles_23 : decode cX4_settles 23 = .ok (.iconst 0, 1) := by decide +kernel
theorem dX4_settles_24 : decode cX4_settles 24 = .ok (.iload_n 1, 1) := by decide +kernel
theorem dX4_settles_25 : decode cX4_settles 25 = .ok (.iconst 0, 1) := by decide +kernel
theorem dX4_settles_26 : decode cX4_settles 26 = .ok (.iconst 0, 1) := by decide +kernel
theorem dX4_settles_27 : decode cX4_settles 27 = .ok (.iload_n 2, 1) := by decide +kernel
theorem dX4_settles_28 : decode cX4_settles 28 = .ok (.invokevirtual 172, 3) := by decide +kernel
theorem dX4_settles_31 : decode cX4_settles 31 = .ok (.goto 5, 3) := by decide +kernel
theorem dX4_settles_34 : decode cX4_settles 34 = .ok (.bipush (-2), 2) := by decide +kernel
theorem dX4_settles_36 : decode cX4_settles 36 = .ok (.ireturn, 1) := by decide +kernel
theorem dX4_arrives_0 : decode cX4_arrives 0 = .ok (.iload_n 1, 1) := by decide +kernel
theorem dX4_arrives_1 : decode cX4_arrives 1 = .ok (.invokestatic 121, 3) := by decide +kernel
theorem dX4_arrives_4 : decode cX4_arrives 4 = .ok (.ifCond .eq 11, 3) := by decide +kernel
theorem dX4_arrives_7 : decode cX4_arrives 7 = .ok (.aload_n 0, 1) := by decide +kernel
theorem dX4_arrives_8 : decode cX4_arrives 8 = .ok (.iload_n 2, 1) := by decide +kernel
theorem dX4_arrives_9 : decode cX4_arrives 9 = .ok (.invokevirtual 52, 3) := by decide +kernel
theorem dX4_arrives_12 : decode cX4_arrives 12 = .ok (.ifCond .ne 5, 3) := by decide +kernel
theorem dX4_arrives_15 : decode cX4_arrives 15 = .ok (.iconst (-1), 1) := by decide +kernel
theorem dX4_arrives_16 : decode cX4_arrives 16 = .ok (.ireturn, 1) := by decide +kernel
theorem dX4_arrives_17 : decode cX4_arrives 17 = .ok (.iload_n 3, 1) := by decide +kernel
theorem dX4_arrives_18 : decode cX4_arrives 18 = .ok (.iconst 1, 1) := by decide +kernel
theorem dX4_arrives_19 : decode cX4_arrives 19 = .ok (.sipush 1000, 3) := by decide +kernel
theorem dX4_arrives_22 : decode cX4_arrives 22 = .ok (.invokestatic 39, 3) := by decide +kernel
theorem dX4_arrives_25 : decode cX4_arrives 25 = .ok (.ifCond .eq 15, 3) := by decide +kernel
theorem dX4_arrives_28 : decode cX4_arrives 28 = .ok (.iload 4, 2) := by decide +kernel
theorem dX4_arrives_30 : decode cX4_arrives 30 = .ok (.iconst 1, 1) := by decide +kernel
theorem dX4_arrives_31 : decode cX4_arrives 31 = .ok (.sipush 500, 3) := by decide +kernel
theorem dX4_arrives_34 : decode cX4_arrives 34 = .ok (.invokestatic 39, 3) := by decide +kernel
theorem dX4_arrives_37 : decode cX4_arrives 37 = .ok (.ifCond .ne 6, 3) := by decide +kernel
theorem dX4_arrives_40 : decode cX4_arrives 40 = .ok (.bipush (-2), 2) := by decide +kernel
theorem dX4_arrives_42 : decode cX4_arrives 42 = .ok (.ireturn, 1) := by decide +kernel
theorem dX4_arrives_43 : decode cX4_arrives 43 = .ok (.aload_n 0, 1) := by decide +kernel
theorem dX4_arrives_44 : decode cX4_arrives 44 = .ok (.iload_n 1, 1) := by decide +kernel
theorem dX4_arrives_45 : decode cX4_arrives 45 = .ok (.invokevirtual 83, 3) := by decide +kernel
theorem dX4_arrives_48 : decode cX4_arrives 48 = .ok (.ifCond .ne 8, 3) := by decide +kernel
theorem dX4_arrives_51 : decode cX4_arrives 51 = .ok (.bipush (-5), 2) := by decide +kernel
theorem dX4_arrives_53 : decode cX4_arrives 53 = .ok (.goto 13, 3) := by decide +kernel
theorem dX4_arrives_56 : decode cX4_arrives 56 = .ok (.aload_n 0, 1) := by decide +kernel
theorem dX4_arrives_57 : decode cX4_arrives 57 = .ok (.iconst 1, 1) := by decide +kernel
theorem dX4_arrives_58 : decode cX4_arrives 58 = .ok (.iload_n 1, 1) := by decide +kernel
theorem dX4_arrives_59 : decode cX4_arrives 59 = .ok (.iload_n 2, 1) := by decide +kernel
theorem dX4_arrives_60 : decode cX4_arrives 60 = .ok (.iload_n 3, 1) := by decide +kernel
theorem dX4_arrives_61 : decode cX4_arrives 61 = .ok (.iload 4, 2) := by decide +kernel
theorem dX4_arrives_63 : decode cX4_arrives 63 = .ok (.invokevirtual 172, 3) := by decide +kernel
theorem dX4_arrives_66 : decode cX4_arrives 66 = .ok (.ireturn, 1) := by decide +kernel
theorem dX4_meet_0 : decode cX4_meet 0 = .ok (.aload_n 0, 1) := by decide +kernel
theorem dX4_meet_1 : decode cX4_meet 1 = .ok (.iload_n 1, 1) := by decide +kernel
theorem dX4_meet_2 : decode cX4_meet 2 = .ok (.invokevirtual 148, 3) := by decide +kernel
theorem dX4_meet_5 : decode cX4_meet 5 = .ok (.ifCond .eq 11, 3) := by decide +kernel
theorem dX4_meet_8 : decode cX4_meet 8 = .ok (.aload_n 0, 1) := by decide +kernel
theorem dX4_meet_9 : decode cX4_meet 9 = .ok (.iload_n 2, 1) := by decide +kernel
theorem dX4_meet_10 : decode cX4_meet 10 = .ok (.invokevirtual 148, 3) := by decide +kernel
theorem dX4_meet_13 : decode cX4_meet 13 = .ok (.ifCond .ne 5, 3) := by decide +kernel
theorem dX4_meet_16 : decode cX4_meet 16 = .ok (.iconst (-1), 1) := by decide +kernel
theorem dX4_meet_17 : decode cX4_meet 17 = .ok (.ireturn, 1) := by decide +kernel
theorem dX4_meet_18 : decode cX4_meet 18 = .ok (.iload_n 3, 1) := by decide +kernel
theorem dX4_meet_19 : decode cX4_meet 19 = .ok (.iconst 0, 1) := by decide +kernel
theorem dX4_meet_20 : decode cX4_meet 20 = .ok (.sipush 1800, 3) := by decide +kernel
theorem dX4_meet_23 : decode cX4_meet 23 = .ok (.invokestatic 39, 3) := by decide +kernel
theorem dX4_meet_26 : decode cX4_meet 26 = .ok (.ifCond .eq 28, 3) := by decide +kernel
theorem dX4_meet_29 : decode cX4_meet 29 = .ok (.iload 4, 2) := by decide +kernel
theorem dX4_meet_31 : decode cX4_meet 31 = .ok (.iconst 1, 1) := by decide +kernel
theorem dX4_meet_32 : decode cX4_meet 32 = .ok (.sipush 1000, 3) := by decide +kernel
theorem dX4_meet_35 : decode cX4_meet 35 = .ok (.invokestatic 39, 3) := by decide +kernel
theorem dX4_meet_38 : decode cX4_meet 38 = .ok (.ifCond .eq 16, 3) := by decide +kernel
theorem dX4_meet_41 : decode cX4_meet 41 = .ok (.aload_n 0, 1) := by decide +kernel
theorem dX4_meet_42 : decode cX4_meet 42 = .ok (.iconst 2, 1) := by decide +kernel
theorem dX4_meet_43 : decode cX4_meet 43 = .ok (.iload_n 1, 1) := by decide +kernel
theorem dX4_meet_44 : decode cX4_meet 44 = .ok (.iload_n 2, 1) := by decide +kernel
theorem dX4_meet_45 : decode cX4_meet 45 = .ok (.iload_n 3, 1) := by decide +kernel
theorem dX4_meet_46 : decode cX4_meet 46 = .ok (.iload 4, 2) := by decide +kernel
theorem dX4_meet_48 : decode cX4_meet 48 = .ok (.invokevirtual 172, 3) := by decide +kernel
theorem dX4_meet_51 : decode cX4_meet 51 = .ok (.goto 5, 3) := by decide +kernel
theorem dX4_meet_54 : decode cX4_meet 54 = .ok (.bipush (-2), 2) := by decide +kernel
theorem dX4_meet_56 : decode cX4_meet 56 = .ok (.ireturn, 1) := by decide +kernel
theorem dX4_leastEkman_0 : decode cX4_leastEkman 0 = .ok (.iload_n 1, 1) := by decide +kernel
theorem dX4_leastEkman_1 : decode cX4_leastEkman 1 = .ok (.invokestatic 121, 3) := by decide +kernel
theorem dX4_leastEkman_4 : decode cX4_leastEkman 4 = .ok (.ifCond .ne 5, 3) := by decide +kernel
theorem dX4_leastEkman_7 : decode cX4_leastEkman 7 = .ok (.iconst (-1), 1) := by decide +kernel
theorem dX4_leastEkman_8 : decode cX4_leastEkman 8 = .ok (.ireturn, 1) := by decide +kernel
theorem dX4_leastEkman_9 : decode cX4_leastEkman 9 = .ok (.iload_n 2, 1) := by decide +kernel
theorem dX4_leastEkman_10 : decode cX4_leastEkman 10 = .ok (.iconst 0, 1) := by decide +kernel
theorem dX4_leastEkman_11 : decode cX4_leastEkman 11 = .ok (.sipush 11000, 3) := by decide +kernel
theorem dX4_leastEkman_14 : decode cX4_leastEkman 14 = .ok (.invokestatic 39, 3) := by decide +kernel
theorem dX4_leastEkman_17 : decode cX4_leastEkman 17 = .ok (.ifCond .eq 13, 3) := by decide +kernel
theorem dX4_leastEkman_20 : decode cX4_leastEkman 20 = .ok (.iload_n 3, 1) := by decide +kernel
theorem dX4_leastEkman_21 : decode cX4_leastEkman 21 = .ok (.iconst 1, 1) := by decide +kernel
theorem dX4_leastEkman_22 : decode cX4_leastEkman 22 = .ok (.bipush 50, 2) := by decide +kernel
theorem dX4_leastEkman_24 : decode cX4_leastEkman 24 = .ok (.invokestatic 39, 3) := by decide +kernel
theorem dX4_leastEkman_27 : decode cX4_leastEkman 27 = .ok (.ifCond .ne 6, 3) := by decide +kernel
theorem dX4_leastEkman_30 : decode cX4_leastEkman 30 = .ok (.bipush (-2), 2) := by decide +kernel
theorem dX4_leastEkman_32 : decode cX4_leastEkman 32 = .ok (.ireturn, 1) := by decide +kernel
theorem dX4_leastEkman_33 : decode cX4_leastEkman 33 = .ok (.aload_n 0, 1) := by decide +kernel
theorem dX4_leastEkman_34 : decode cX4_leastEkman 34 = .ok (.iload_n 1, 1) := by decide +kernel
theorem dX4_leastEkman_35 : decode cX4_leastEkman 35 = .ok (.invokevirtual 83, 3) := by decide +kernel
theorem dX4_leastEkman_38 : decode cX4_leastEkman 38 = .ok (.ifCond .ne 6, 3) := by decide +kernel
theorem dX4_leastEkman_41 : decode cX4_leastEkman 41 = .ok (.bipush (-5), 2) := by decide +kernel
theorem dX4_leastEkman_43 : decode cX4_leastEkman 43 = .ok (.ireturn, 1) := by decide +kernel
theorem dX4_leastEkman_44 : decode cX4_leastEkman 44 = .ok (.aload_n 0, 1) := by decide +kernel
theorem dX4_leastEkman_45 : decode cX4_leastEkman 45 = .ok (.invokevirtual 163, 3) := by decide +kernel
theorem dX4_leastEkman_48 : decode cX4_leastEkman 48 = .ok (.bipush (-6), 2) := by decide +kernel
theorem dX4_leastEkman_50 : decode cX4_leastEkman 50 = .ok (.istore 4, 2) := by decide +kernel
theorem dX4_leastEkman_52 : decode cX4_leastEkman 52 = .ok (.iconst 0, 1) := by decide +kernel
theorem dX4_leastEkman_53 : decode cX4_leastEkman 53 = .ok (.istore 5, 2) := by decide +kernel
theorem dX4_leastEkman_55 : decode cX4_leastEkman 55 = .ok (.iload 5, 2) := by decide +kernel
theorem dX4_leastEkman_57 : decode cX4_leastEkman 57 = .ok (.sipush 200, 3) := by decide +kernel
theorem dX4_leastEkman_60 : decode cX4_leastEkman 60 = .ok (.if_icmp .gt 66, 3) := by decide +kernel
theorem dX4_leastEkman_63 : decode cX4_leastEkman 63 = .ok (.iload 4, 2) := by decide +kernel
theorem dX4_leastEkman_65 : decode cX4_leastEkman 65 = .ok (.ifCond .ge 61, 3) := by decide +kernel
theorem dX4_leastEkman_68 : decode cX4_leastEkman 68 = .ok (.aload_n 0, 1) := by decide +kernel
theorem dX4_leastEkman_69 : decode cX4_leastEkman 69 = .ok (.getfield 7, 3) := by decide +kernel
theorem dX4_leastEkman_72 : decode cX4_leastEkman 72 = .ok (.bipush 7, 2) := by decide +kernel
theorem dX4_leastEkman_74 : decode cX4_leastEkman 74 = .ok (.iload 5, 2) := by decide +kernel
theorem dX4_leastEkman_76 : decode cX4_leastEkman 76 = .ok (.iastore, 1) := by decide +kernel
theorem dX4_leastEkman_77 : decode cX4_leastEkman 77 = .ok (.iconst 0, 1) := by decide +kernel
theorem dX4_leastEkman_78 : decode cX4_leastEkman 78 = .ok (.istore 6, 2) := by decide +kernel
theorem dX4_leastEkman_80 : decode cX4_leastEkman 80 = .ok (.iload 6, 2) := by decide +kernel
theorem dX4_leastEkman_82 : decode cX4_leastEkman 82 = .ok (.iload_n 3, 1) := by decide +kernel
theorem dX4_leastEkman_83 : decode cX4_leastEkman 83 = .ok (.if_icmp .ge 13, 3) := by decide +kernel
theorem dX4_leastEkman_86 : decode cX4_leastEkman 86 = .ok (.aload_n 0, 1) := by decide +kernel
theorem dX4_leastEkman_87 : decode cX4_leastEkman 87 = .ok (.invokevirtual 114, 3) := by decide +kernel
theorem dX4_leastEkman_90 : decode cX4_leastEkman 90 = .ok (.iinc 6 1, 3) := by decide +kernel
theorem dX4_leastEkman_93 : decode cX4_leastEkman 93 = .ok (.goto (-13), 3) := by decide +kernel
theorem dX4_leastEkman_96 : decode cX4_leastEkman 96 = .ok (.aload_n 0, 1) := by decide +kernel
theorem dX4_leastEkman_97 : decode cX4_leastEkman 97 = .ok (.iload_n 1, 1) := by decide +kernel
theorem dX4_leastEkman_98 : decode cX4_leastEkman 98 = .ok (.invokevirtual 132, 3) := by decide +kernel
theorem dX4_leastEkman_101 : decode cX4_leastEkman 101 = .ok (.iload_n 2, 1) := by decide +kernel
theorem dX4_leastEkman_102 : decode cX4_leastEkman 102 = .ok (.i2l, 1) := by decide +kernel
theorem dX4_leastEkman_103 : decode cX4_leastEkman 103 = .ok (.lcmp, 1) := by decide +kernel
theorem dX4_leastEkman_104 : decode cX4_leastEkman 104 = .ok (.ifCond .gt 8, 3) := by decide +kernel
theorem dX4_leastEkman_107 : decode cX4_leastEkman 107 = .ok (.iload 5, 2) := by decide +kernel
theorem dX4_leastEkman_109 : decode cX4_leastEkman 109 = .ok (.goto 5, 3) := by decide +kernel
theorem dX4_leastEkman_112 : decode cX4_leastEkman 112 = .ok (.bipush (-6), 2) := by decide +kernel
theorem dX4_leastEkman_114 : decode cX4_leastEkman 114 = .ok (.istore 4, 2) := by decide +kernel
theorem dX4_leastEkman_116 : decode cX4_leastEkman 116 = .ok (.aload_n 0, 1) := by decide +kernel
theorem dX4_leastEkman_117 : decode cX4_leastEkman 117 = .ok (.invokevirtual 169, 3) := by decide +kernel
theorem dX4_leastEkman_120 : decode cX4_leastEkman 120 = .ok (.iinc 5 1, 3) := by decide +kernel
theorem dX4_leastEkman_123 : decode cX4_leastEkman 123 = .ok (.goto (-68), 3) := by decide +kernel
theorem dX4_leastEkman_126 : decode cX4_leastEkman 126 = .ok (.iload 4, 2) := by decide +kernel
theorem dX4_leastEkman_128 : decode cX4_leastEkman 128 = .ok (.ireturn, 1) := by decide +kernel
theorem dX4_say_0 : decode cX4_say 0 = .ok (.iload_n 1, 1) := by decide +kernel
theorem dX4_say_1 : decode cX4_say 1 = .ok (.bipush 33, 2) := by decide +kernel
theorem dX4_say_3 : decode cX4_say 3 = .ok (.bipush 126, 2) := by decide +kernel
theorem dX4_say_5 : decode cX4_say 5 = .ok (.invokestatic 39, 3) := by decide +kernel
theorem dX4_say_8 : decode cX4_say 8 = .ok (.ifCond .ne 6, 3) := by decide +kernel
theorem dX4_say_11 : decode cX4_say 11 = .ok (.bipush (-2), 2) := by decide +kernel
theorem dX4_say_13 : decode cX4_say 13 = .ok (.ireturn, 1) := by decide +kernel
theorem dX4_say_14 : decode cX4_say 14 = .ok (.aload_n 0, 1) := by decide +kernel
theorem dX4_say_15 : decode cX4_say 15 = .ok (.getfield 144, 3) := by decide +kernel
theorem dX4_say_18 : decode cX4_say 18 = .ok (.bipush 60, 2) := by decide +kernel
theorem dX4_say_20 : decode cX4_say 20 = .ok (.if_icmp .ne 6, 3) := by decide +kernel
theorem dX4_say_23 : decode cX4_say 23 = .ok (.bipush (-4), 2) := by decide +kernel
theorem dX4_say_25 : decode cX4_say 25 = .ok (.ireturn, 1) := by decide +kernel
theorem dX4_say_26 : decode cX4_say 26 = .ok (.aload_n 0, 1) := by decide +kernel
theorem dX4_say_27 : decode cX4_say 27 = .ok (.getfield 29, 3) := by decide +kernel
theorem dX4_say_30 : decode cX4_say 30 = .ok (.aload_n 0, 1) := by decide +kernel
theorem dX4_say_31 : decode cX4_say 31 = .ok (.getfield 144, 3) := by decide +kernel
theorem dX4_say_34 : decode cX4_say 34 = .ok (.iload_n 1, 1) := by decide +kernel
theorem dX4_say_35 : decode cX4_say 35 = .ok (.iastore, 1) := by decide +kernel
theorem dX4_say_36 : decode cX4_say 36 = .ok (.aload_n 0, 1) := by decide +kernel
theorem dX4_say_37 : decode cX4_say 37 = .ok (.dup, 1) := by decide +kernel
theorem dX4_say_38 : decode cX4_say 38 = .ok (.getfield 144, 3) := by decide +kernel
theorem dX4_say_41 : decode cX4_say 41 = .ok (.iconst 1, 1) := by decide +kernel
theorem dX4_say_42 : decode cX4_say 42 = .ok (.iadd, 1) := by decide +kernel
theorem dX4_say_43 : decode cX4_say 43 = .ok (.putfield 144, 3) := by decide +kernel
theorem dX4_say_46 : decode cX4_say 46 = .ok (.aload_n 0, 1) := by decide +kernel
theorem dX4_say_47 : decode cX4_say 47 = .ok (.getfield 144, 3) := by decide +kernel
theorem dX4_say_50 : decode cX4_say 50 = .ok (.ireturn, 1) := by decide +kernel
theorem dX4_wipe_0 : decode cX4_wipe 0 = .ok (.aload_n 0, 1) := by decide +kernel
theorem dX4_wipe_1 : decode cX4_wipe 1 = .ok (.getfield 144, 3) := by decide +kernel
theorem dX4_wipe_4 : decode cX4_wipe 4 = .ok (.istore_n 1, 1) := by decide +kernel
theorem dX4_wipe_5 : decode cX4_wipe 5 = .ok (.aload_n 0, 1) := by decide +kernel
theorem dX4_wipe_6 : decode cX4_wipe 6 = .ok (.iconst 0, 1) := by decide +kernel
theorem dX4_wipe_7 : decode cX4_wipe 7 = .ok (.putfield 144, 3) := by decide +kernel
theorem dX4_wipe_10 : decode cX4_wipe 10 = .ok (.iload_n 1, 1) := by decide +kernel
theorem dX4_wipe_11 : decode cX4_wipe 11 = .ok (.ireturn, 1) := by decide +kernel
theorem dX4_next_0 : decode cX4_next 0 = .ok (.aload_n 0, 1) := by decide +kernel
theorem dX4_next_1 : decode cX4_next 1 = .ok (.getfield 176, 3) := by decide +kernel
theorem dX4_next_4 : decode cX4_next 4 = .ok (.aload_n 0, 1) := by decide +kernel
theorem dX4_next_5 : decode cX4_next 5 = .ok (.getfield 144, 3) := by decide +kernel
theorem dX4_next_8 : decode cX4_next 8 = .ok (.if_icmp .ge 15, 3) := by decide +kernel
theorem dX4_next_11 : decode cX4_next 11 = .ok (.aload_n 0, 1) := by decide +kernel
theorem dX4_next_12 : decode cX4_next 12 = .ok (.getfield 29, 3) := by decide +kernel
theorem dX4_next_15 : decode cX4_next 15 = .ok (.aload_n 0, 1) := by decide +kernel
theorem dX4_next_16 : decode cX4_next 16 = .ok (.getfield 176, 3) := by decide +kernel
theorem dX4_next_19 : decode cX4_next 19 = .ok (.iaload, 1) := by decide +kernel
theorem dX4_next_20 : decode cX4_next 20 = .ok (.goto 4, 3) := by decide +kernel
theorem dX4_next_23 : decode cX4_next 23 = .ok (.iconst 0, 1) := by decide +kernel
theorem dX4_next_24 : decode cX4_next 24 = .ok (.ireturn, 1) := by decide +kernel
theorem dX4_takeNumber_0 : decode cX4_takeNumber 0 = .ok (.bipush 48, 2) := by decide +kernel
theorem dX4_takeNumber_2 : decode cX4_takeNumber 2 = .ok (.iload_n 1, 1) := by decide +kernel
theorem dX4_takeNumber_3 : decode cX4_takeNumber 3 = .ok (.ifCond .le 7, 3) := by decide +kernel
theorem dX4_takeNumber_6 : decode cX4_takeNumber 6 = .ok (.iconst 1, 1) := by decide +kernel
theorem dX4_takeNumber_7 : decode cX4_takeNumber 7 = .ok (.goto 4, 3) := by decide +kernel
theorem dX4_takeNumber_10 : decode cX4_takeNumber 10 = .ok (.iconst 0, 1) := by decide +kernel
theorem dX4_takeNumber_11 : decode cX4_takeNumber 11 = .ok (.iadd, 1) := by decide +kernel
theorem dX4_takeNumber_12 : decode cX4_takeNumber 12 = .ok (.istore_n 3, 1) := by decide +kernel
theorem dX4_takeNumber_13 : decode cX4_takeNumber 13 = .ok (.aload_n 0, 1) := by decide +kernel
theorem dX4_takeNumber_14 : decode cX4_takeNumber 14 = .ok (.aload_n 0, 1) := by decide +kernel
theorem dX4_takeNumber_15 : decode cX4_takeNumber 15 = .ok (.getfield 179, 3) := by decide +kernel
theorem dX4_takeNumber_18 : decode cX4_takeNumber 18 = .ok (.ifCond .ne 16, 3) := by decide +kernel
theorem dX4_takeNumber_21 : decode cX4_takeNumber 21 = .ok (.aload_n 0, 1) := by decide +kernel
theorem dX4_takeNumber_22 : decode cX4_takeNumber 22 = .ok (.invokevirtual 183, 3) := by decide +kernel
theorem dX4_takeNumber_25 : decode cX4_takeNumber 25 = .ok (.iload_n 3, 1) := by decide +kernel
theorem dX4_takeNumber_26 : decode cX4_takeNumber 26 = .ok (.bipush 57, 2) := by decide +kernel
theorem dX4_takeNumber_28 : decode cX4_takeNumber 28 = .ok (.invokestatic 39, 3) := by decide +kernel
theorem dX4_takeNumber_31 : decode cX4_takeNumber 31 = .ok (.ifCond .ne 7, 3) := by decide +kernel
theorem dX4_takeNumber_34 : decode cX4_takeNumber 34 = .ok (.iconst 1, 1) := by decide +kernel
theorem dX4_takeNumber_35 : decode cX4_takeNumber 35 = .ok (.goto 4, 3) := by decide +kernel
theorem dX4_takeNumber_38 : decode cX4_takeNumber 38 = .ok (.iconst 0, 1) := by decide +kernel
theorem dX4_takeNumber_39 : decode cX4_takeNumber 39 = .ok (.putfield 179, 3) := by decide +kernel
theorem dX4_takeNumber_42 : decode cX4_takeNumber 42 = .ok (.iconst 0, 1) := by decide +kernel
theorem dX4_takeNumber_43 : decode cX4_takeNumber 43 = .ok (.istore 4, 2) := by decide +kernel
theorem dX4_takeNumber_45 : decode cX4_takeNumber 45 = .ok (.aload_n 0, 1) := by decide +kernel
theorem dX4_takeNumber_46 : decode cX4_takeNumber 46 = .ok (.getfield 179, 3) := by decide +kernel
theorem dX4_takeNumber_49 : decode cX4_takeNumber 49 = .ok (.ifCond .ne 7, 3) := by decide +kernel
theorem dX4_takeNumber_52 : decode cX4_takeNumber 52 = .ok (.iconst 1, 1) := by decide +kernel
theorem dX4_takeNumber_53 : decode cX4_takeNumber 53 = .ok (.goto 4, 3) := by decide +kernel
theorem dX4_takeNumber_56 : decode cX4_takeNumber 56 = .ok (.iconst 0, 1) := by decide +kernel
theorem dX4_takeNumber_57 : decode cX4_takeNumber 57 = .ok (.istore 5, 2) := by decide +kernel
theorem dX4_takeNumber_59 : decode cX4_takeNumber 59 = .ok (.iload 5, 2) := by decide +kernel
theorem dX4_takeNumber_61 : decode cX4_takeNumber 61 = .ok (.ifCond .eq 74, 3) := by decide +kernel
theorem dX4_takeNumber_64 : decode cX4_takeNumber 64 = .ok (.bipush 10, 2) := by decide +kernel
theorem dX4_takeNumber_66 : decode cX4_takeNumber 66 = .ok (.iload 4, 2) := by decide +kernel
theorem dX4_takeNumber_68 : decode cX4_takeNumber 68 = .ok (.imul, 1) := by decide +kernel
theorem dX4_takeNumber_69 : decode cX4_takeNumber 69 = .ok (.aload_n 0, 1) := by decide +kernel
theorem dX4_takeNumber_70 : decode cX4_takeNumber 70 = .ok (.invokevirtual 183, 3) := by decide +kernel
theorem dX4_takeNumber_73 : decode cX4_takeNumber 73 = .ok (.iadd, 1) := by decide +kernel
theorem dX4_takeNumber_74 : decode cX4_takeNumber 74 = .ok (.bipush 48, 2) := by decide +kernel
theorem dX4_takeNumber_76 : decode cX4_takeNumber 76 = .ok (.isub, 1) := by decide +kernel
theorem dX4_takeNumber_77 : decode cX4_takeNumber 77 = .ok (.istore 4, 2) := by decide +kernel
theorem dX4_takeNumber_79 : decode cX4_takeNumber 79 = .ok (.aload_n 0, 1) := by decide +kernel
theorem dX4_takeNumber_80 : decode cX4_takeNumber 80 = .ok (.dup, 1) := by decide +kernel
theorem dX4_takeNumber_81 : decode cX4_takeNumber 81 = .ok (.getfield 176, 3) := by decide +kernel
theorem dX4_takeNumber_84 : decode cX4_takeNumber 84 = .ok (.iconst 1, 1) := by decide +kernel
theorem dX4_takeNumber_85 : decode cX4_takeNumber 85 = .ok (.iadd, 1) := by decide +kernel
theorem dX4_takeNumber_86 : decode cX4_takeNumber 86 = .ok (.putfield 176, 3) := by decide +kernel
theorem dX4_takeNumber_89 : decode cX4_takeNumber 89 = .ok (.iload 4, 2) := by decide +kernel
theorem dX4_takeNumber_91 : decode cX4_takeNumber 91 = .ok (.ifCond .le 38, 3) := by decide +kernel
theorem dX4_takeNumber_94 : decode cX4_takeNumber 94 = .ok (.aload_n 0, 1) := by decide +kernel
theorem dX4_takeNumber_95 : decode cX4_takeNumber 95 = .ok (.invokevirtual 183, 3) := by decide +kernel
theorem dX4_takeNumber_98 : decode cX4_takeNumber 98 = .ok (.bipush 48, 2) := by decide +kernel
theorem dX4_takeNumber_100 : decode cX4_takeNumber 100 = .ok (.bipush 57, 2) := by decide +kernel
theorem dX4_takeNumber_102 : decode cX4_takeNumber 102 = .ok (.invokestatic 39, 3) := by decide +kernel
theorem dX4_takeNumber_105 : decode cX4_takeNumber 105 = .ok (.ifCond .eq 24, 3) := by decide +kernel
theorem dX4_takeNumber_108 : decode cX4_takeNumber 108 = .ok (.bipush 10, 2) := by decide +kernel
theorem dX4_takeNumber_110 : decode cX4_takeNumber 110 = .ok (.iload 4, 2) := by decide +kernel
theorem dX4_takeNumber_112 : decode cX4_takeNumber 112 = .ok (.imul, 1) := by decide +kernel
theorem dX4_takeNumber_113 : decode cX4_takeNumber 113 = .ok (.aload_n 0, 1) := by decide +kernel
theorem dX4_takeNumber_114 : decode cX4_takeNumber 114 = .ok (.invokevirtual 183, 3) := by decide +kernel
theorem dX4_takeNumber_117 : decode cX4_takeNumber 117 = .ok (.iadd, 1) := by decide +kernel
theorem dX4_takeNumber_118 : decode cX4_takeNumber 118 = .ok (.bipush 48, 2) := by decide +kernel
theorem dX4_takeNumber_120 : decode cX4_takeNumber 120 = .ok (.isub, 1) := by decide +kernel
theorem dX4_takeNumber_121 : decode cX4_takeNumber 121 = .ok (.iload_n 2, 1) := by decide +kernel
theorem dX4_takeNumber_122 : decode cX4_takeNumber 122 = .ok (.if_icmp .gt 7, 3) := by decide +kernel
theorem dX4_takeNumber_125 : decode cX4_takeNumber 125 = .ok (.iconst 1, 1) := by decide +kernel
theorem dX4_takeNumber_126 : decode cX4_takeNumber 126 = .ok (.goto 4, 3) := by decide +kernel
theorem dX4_takeNumber_129 : decode cX4_takeNumber 129 = .ok (.iconst 0, 1) := by decide +kernel
theorem dX4_takeNumber_130 : decode cX4_takeNumber 130 = .ok (.istore 5, 2) := by decide +kernel
theorem dX4_takeNumber_132 : decode cX4_takeNumber 132 = .ok (.goto (-73), 3) := by decide +kernel
theorem dX4_takeNumber_135 : decode cX4_takeNumber 135 = .ok (.iload 4, 2) := by decide +kernel
theorem dX4_takeNumber_137 : decode cX4_takeNumber 137 = .ok (.ireturn, 1) := by decide +kernel
theorem dX4_need_0 : decode cX4_need 0 = .ok (.aload_n 0, 1) := by decide +kernel
theorem dX4_need_1 : decode cX4_need 1 = .ok (.aload_n 0, 1) := by decide +kernel
theorem dX4_need_2 : decode cX4_need 2 = .ok (.getfield 179, 3) := by decide +kernel
theorem dX4_need_5 : decode cX4_need 5 = .ok (.ifCond .ne 11, 3) := by decide +kernel
theorem dX4_need_8 : decode cX4_need 8 = .ok (.aload_n 0, 1) := by decide +kernel
theorem dX4_need_9 : decode cX4_need 9 = .ok (.invokevirtual 183, 3) := by decide +kernel
theorem dX4_need_12 : decode cX4_need 12 = .ok (.iload_n 1, 1) := by decide +kernel
theorem dX4_need_13 : decode cX4_need 13 = .ok (.if_icmp .eq 7, 3) := by decide +kernel
theorem dX4_need_16 : decode cX4_need 16 = .ok (.iconst 1, 1) := by decide +kernel
theorem dX4_need_17 : decode cX4_need 17 = .ok (.goto 4, 3) := by decide +kernel
theorem dX4_need_20 : decode cX4_need 20 = .ok (.iconst 0, 1) := by decide +kernel
theorem dX4_need_21 : decode cX4_need 21 = .ok (.putfield 179, 3) := by decide +kernel
theorem dX4_need_24 : decode cX4_need 24 = .ok (.aload_n 0, 1) := by decide +kernel
theorem dX4_need_25 : decode cX4_need 25 = .ok (.dup, 1) := by decide +kernel
theorem dX4_need_26 : decode cX4_need 26 = .ok (.getfield 176, 3) := by decide +kernel
theorem dX4_need_29 : decode cX4_need 29 = .ok (.aload_n 0, 1) := by decide +kernel
theorem dX4_need_30 : decode cX4_need 30 = .ok (.getfield 179, 3) := by decide +kernel
theorem dX4_need_33 : decode cX4_need 33 = .ok (.ifCond .eq 7, 3) := by decide +kernel
theorem dX4_need_36 : decode cX4_need 36 = .ok (.iconst 0, 1) := by decide +kernel
theorem dX4_need_37 : decode cX4_need 37 = .ok (.goto 4, 3) := by decide +kernel
theorem dX4_need_40 : decode cX4_need 40 = .ok (.iconst 1, 1) := by decide +kernel
theorem dX4_need_41 : decode cX4_need 41 = .ok (.iadd, 1) := by decide +kernel
theorem dX4_need_42 : decode cX4_need 42 = .ok (.putfield 176, 3) := by decide +kernel
theorem dX4_need_45 : decode cX4_need 45 = .ok (.return_, 1) := by decide +kernel
theorem dX4_takeOne_0 : decode cX4_takeOne 0 = .ok (.aload_n 0, 1) := by decide +kernel
theorem dX4_takeOne_1 : decode cX4_takeOne 1 = .ok (.aload_n 0, 1) := by decide +kernel
theorem dX4_takeOne_2 : decode cX4_takeOne 2 = .ok (.getfield 179, 3) := by decide +kernel
theorem dX4_takeOne_5 : decode cX4_takeOne 5 = .ok (.ifCond .ne 15, 3) := by decide +kernel
theorem dX4_takeOne_8 : decode cX4_takeOne 8 = .ok (.aload_n 0, 1) := by decide +kernel
theorem dX4_takeOne_9 : decode cX4_takeOne 9 = .ok (.invokevirtual 183, 3) := by decide +kernel
theorem dX4_takeOne_12 : decode cX4_takeOne 12 = .ok (.iload_n 1, 1) := by decide +kernel
theorem dX4_takeOne_13 : decode cX4_takeOne 13 = .ok (.iload_n 2, 1) := by decide +kernel
theorem dX4_takeOne_14 : decode cX4_takeOne 14 = .ok (.invokestatic 39, 3) := by decide +kernel
theorem dX4_takeOne_17 : decode cX4_takeOne 17 = .ok (.ifCond .ne 7, 3) := by decide +kernel
theorem dX4_takeOne_20 : decode cX4_takeOne 20 = .ok (.iconst 1, 1) := by decide +kernel
theorem dX4_takeOne_21 : decode cX4_takeOne 21 = .ok (.goto 4, 3) := by decide +kernel
theorem dX4_takeOne_24 : decode cX4_takeOne 24 = .ok (.iconst 0, 1) := by decide +kernel
theorem dX4_takeOne_25 : decode cX4_takeOne 25 = .ok (.putfield 179, 3) := by decide +kernel
theorem dX4_takeOne_28 : decode cX4_takeOne 28 = .ok (.aload_n 0, 1) := by decide +kernel
theorem dX4_takeOne_29 : decode cX4_takeOne 29 = .ok (.invokevirtual 183, 3) := by decide +kernel
theorem dX4_takeOne_32 : decode cX4_takeOne 32 = .ok (.istore_n 3, 1) := by decide +kernel
theorem dX4_takeOne_33 : decode cX4_takeOne 33 = .ok (.aload_n 0, 1) := by decide +kernel
theorem dX4_takeOne_34 : decode cX4_takeOne 34 = .ok (.dup, 1) := by decide +kernel
theorem dX4_takeOne_35 : decode cX4_takeOne 35 = .ok (.getfield 176, 3) := by decide +kernel
theorem dX4_takeOne_38 : decode cX4_takeOne 38 = .ok (.aload_n 0, 1) := by decide +kernel
theorem dX4_takeOne_39 : decode cX4_takeOne 39 = .ok (.getfield 179, 3) := by decide +kernel
theorem dX4_takeOne_42 : decode cX4_takeOne 42 = .ok (.ifCond .eq 7, 3) := by decide +kernel
theorem dX4_takeOne_45 : decode cX4_takeOne 45 = .ok (.iconst 0, 1) := by decide +kernel
theorem dX4_takeOne_46 : decode cX4_takeOne 46 = .ok (.goto 4, 3) := by decide +kernel
theorem dX4_takeOne_49 : decode cX4_takeOne 49 = .ok (.iconst 1, 1) := by decide +kernel
theorem dX4_takeOne_50 : decode cX4_takeOne 50 = .ok (.iadd, 1) := by decide +kernel
theorem dX4_takeOne_51 : decode cX4_takeOne 51 = .ok (.putfield 176, 3) := by decide +kernel
theorem dX4_takeOne_54 : decode cX4_takeOne 54 = .ok (.iload_n 3, 1) := by decide +kernel
theorem dX4_takeOne_55 : decode cX4_takeOne 55 = .ok (.ireturn, 1) := by decide +kernel
theorem dX4_takeVelocity_0 : decode cX4_takeVelocity 0 = .ok (.aload_n 0, 1) := by decide +kernel
theorem dX4_takeVelocity_1 : decode cX4_takeVelocity 1 = .ok (.getfield 32, 3) := by decide +kernel
theorem dX4_takeVelocity_4 : decode cX4_takeVelocity 4 = .ok (.iload_n 1, 1) := by decide +kernel
theorem dX4_takeVelocity_5 : decode cX4_takeVelocity 5 = .ok (.iconst 1, 1) := by decide +kernel
theorem dX4_takeVelocity_6 : decode cX4_takeVelocity 6 = .ok (.iadd, 1) := by decide +kernel
theorem dX4_takeVelocity_7 : decode cX4_takeVelocity 7 = .ok (.aload_n 0, 1) := by decide +kernel
theorem dX4_takeVelocity_8 : decode cX4_takeVelocity 8 = .ok (.iconst 0, 1) := by decide +kernel
theorem dX4_takeVelocity_9 : decode cX4_takeVelocity 9 = .ok (.bipush 11, 2) := by decide +kernel
theorem dX4_takeVelocity_11 : decode cX4_takeVelocity 11 = .ok (.invokevirtual 186, 3) := by decide +kernel
theorem dX4_takeVelocity_14 : decode cX4_takeVelocity 14 = .ok (.iastore, 1) := by decide +kernel
theorem dX4_takeVelocity_15 : decode cX4_takeVelocity 15 = .ok (.aload_n 0, 1) := by decide +kernel
theorem dX4_takeVelocity_16 : decode cX4_takeVelocity 16 = .ok (.bipush 58, 2) := by decide +kernel
theorem dX4_takeVelocity_18 : decode cX4_takeVelocity 18 = .ok (.invokevirtual 189, 3) := by decide +kernel
theorem dX4_takeVelocity_21 : decode cX4_takeVelocity 21 = .ok (.aload_n 0, 1) := by decide +kernel
theorem dX4_takeVelocity_22 : decode cX4_takeVelocity 22 = .ok (.getfield 179, 3) := by decide +kernel
theorem dX4_takeVelocity_25 : decode cX4_takeVelocity 25 = .ok (.ifCond .ne 16, 3) := by decide +kernel
theorem dX4_takeVelocity_28 : decode cX4_takeVelocity 28 = .ok (.aload_n 0, 1) := by decide +kernel
theorem dX4_takeVelocity_29 : decode cX4_takeVelocity 29 = .ok (.invokevirtual 183, 3) := by decide +kernel
theorem dX4_takeVelocity_32 : decode cX4_takeVelocity 32 = .ok (.bipush 45, 2) := by decide +kernel
theorem dX4_takeVelocity_34 : decode cX4_takeVelocity 34 = .ok (.if_icmp .ne 7, 3) := by decide +kernel
theorem dX4_takeVelocity_37 : decode cX4_takeVelocity 37 = .ok (.iconst 1, 1) := by decide +kernel
theorem dX4_takeVelocity_38 : decode cX4_takeVelocity 38 = .ok (.goto 4, 3) := by decide +kernel
theorem dX4_takeVelocity_41 : decode cX4_takeVelocity 41 = .ok (.iconst 0, 1) := by decide +kernel
theorem dX4_takeVelocity_42 : decode cX4_takeVelocity 42 = .ok (.istore_n 2, 1) := by decide +kernel
theorem dX4_takeVelocity_43 : decode cX4_takeVelocity 43 = .ok (.aload_n 0, 1) := by decide +kernel
theorem dX4_takeVelocity_44 : decode cX4_takeVelocity 44 = .ok (.dup, 1) := by decide +kernel
theorem dX4_takeVelocity_45 : decode cX4_takeVelocity 45 = .ok (.getfield 176, 3) := by decide +kernel
theorem dX4_takeVelocity_48 : decode cX4_takeVelocity 48 = .ok (.iload_n 2, 1) := by decide +kernel
theorem dX4_takeVelocity_49 : decode cX4_takeVelocity 49 = .ok (.ifCond .eq 7, 3) := by decide +kernel
theorem dX4_takeVelocity_52 : decode cX4_takeVelocity 52 = .ok (.iconst 1, 1) := by decide +kernel
theorem dX4_takeVelocity_53 : decode cX4_takeVelocity 53 = .ok (.goto 4, 3) := by decide +kernel
theorem dX4_takeVelocity_56 : decode cX4_takeVelocity 56 = .ok (.iconst 0, 1) := by decide +kernel
theorem dX4_takeVelocity_57 : decode cX4_takeVelocity 57 = .ok (.iadd, 1) := by decide +kernel
theorem dX4_takeVelocity_58 : decode cX4_takeVelocity 58 = .ok (.putfield 176, 3) := by decide +kernel
theorem dX4_takeVelocity_61 : decode cX4_takeVelocity 61 = .ok (.aload_n 0, 1) := by decide +kernel
theorem dX4_takeVelocity_62 : decode cX4_takeVelocity 62 = .ok (.iconst 0, 1) := by decide +kernel
theorem dX4_takeVelocity_63 : decode cX4_takeVelocity 63 = .ok (.sipush 1500, 3) := by decide +kernel
theorem dX4_takeVelocity_66 : decode cX4_takeVelocity 66 = .ok (.invokevirtual 186, 3) := by decide +kernel
theorem dX4_takeVelocity_69 : decode cX4_takeVelocity 69 = .ok (.istore_n 3, 1) := by decide +kernel
theorem dX4_takeVelocity_70 : decode cX4_takeVelocity 70 = .ok (.aload_n 0, 1) := by decide +kernel
theorem dX4_takeVelocity_71 : decode cX4_takeVelocity 71 = .ok (.getfield 32, 3) := by decide +kernel
theorem dX4_takeVelocity_74 : decode cX4_takeVelocity 74 = .ok (.iload_n 1, 1) := by decide +kernel
theorem dX4_takeVelocity_75 : decode cX4_takeVelocity 75 = .ok (.iconst 2, 1) := by decide +kernel
theorem dX4_takeVelocity_76 : decode cX4_takeVelocity 76 = .ok (.iadd, 1) := by decide +kernel
theorem dX4_takeVelocity_77 : decode cX4_takeVelocity 77 = .ok (.iload_n 2, 1) := by decide +kernel
theorem dX4_takeVelocity_78 : decode cX4_takeVelocity 78 = .ok (.ifCond .eq 8, 3) := by decide +kernel
theorem dX4_takeVelocity_81 : decode cX4_takeVelocity 81 = .ok (.iload_n 3, 1) := by decide +kernel
theorem dX4_takeVelocity_82 : decode cX4_takeVelocity 82 = .ok (.ineg, 1) := by decide +kernel
theorem dX4_takeVelocity_83 : decode cX4_takeVelocity 83 = .ok (.goto 4, 3) := by decide +kernel
theorem dX4_takeVelocity_86 : decode cX4_takeVelocity 86 = .ok (.iload_n 3, 1) := by decide +kernel
theorem dX4_takeVelocity_87 : decode cX4_takeVelocity 87 = .ok (.iastore, 1) := by decide +kernel
theorem dX4_takeVelocity_88 : decode cX4_takeVelocity 88 = .ok (.return_, 1) := by decide +kernel
theorem dX4_takeDye_0 : decode cX4_takeDye 0 = .ok (.aload_n 0, 1) := by decide +kernel
theorem dX4_takeDye_1 : decode cX4_takeDye 1 = .ok (.getfield 32, 3) := by decide +kernel
theorem dX4_takeDye_4 : decode cX4_takeDye 4 = .ok (.iload_n 1, 1) := by decide +kernel
theorem dX4_takeDye_5 : decode cX4_takeDye 5 = .ok (.iconst 1, 1) := by decide +kernel
theorem dX4_takeDye_6 : decode cX4_takeDye 6 = .ok (.iadd, 1) := by decide +kernel
theorem dX4_takeDye_7 : decode cX4_takeDye 7 = .ok (.aload_n 0, 1) := by decide +kernel
theorem dX4_takeDye_8 : decode cX4_takeDye 8 = .ok (.bipush 97, 2) := by decide +kernel
theorem dX4_takeDye_10 : decode cX4_takeDye 10 = .ok (.bipush 99, 2) := by decide +kernel
theorem dX4_takeDye_12 : decode cX4_takeDye 12 = .ok (.invokevirtual 192, 3) := by decide +kernel
theorem dX4_takeDye_15 : decode cX4_takeDye 15 = .ok (.bipush 97, 2) := by decide +kernel
theorem dX4_takeDye_17 : decode cX4_takeDye 17 = .ok (.isub, 1) := by decide +kernel
theorem dX4_takeDye_18 : decode cX4_takeDye 18 = .ok (.iastore, 1) := by decide +kernel
theorem dX4_takeDye_19 : decode cX4_takeDye 19 = .ok (.aload_n 0, 1) := by decide +kernel
theorem dX4_takeDye_20 : decode cX4_takeDye 20 = .ok (.getfield 32, 3) := by decide +kernel
theorem dX4_takeDye_23 : decode cX4_takeDye 23 = .ok (.iload_n 1, 1) := by decide +kernel
theorem dX4_takeDye_24 : decode cX4_takeDye 24 = .ok (.iconst 2, 1) := by decide +kernel
theorem dX4_takeDye_25 : decode cX4_takeDye 25 = .ok (.iadd, 1) := by decide +kernel
theorem dX4_takeDye_26 : decode cX4_takeDye 26 = .ok (.aload_n 0, 1) := by decide +kernel
theorem dX4_takeDye_27 : decode cX4_takeDye 27 = .ok (.bipush 94, 2) := by decide +kernel
theorem dX4_takeDye_29 : decode cX4_takeDye 29 = .ok (.bipush 95, 2) := by decide +kernel
theorem dX4_takeDye_31 : decode cX4_takeDye 31 = .ok (.invokevirtual 192, 3) := by decide +kernel
theorem dX4_takeDye_34 : decode cX4_takeDye 34 = .ok (.bipush 94, 2) := by decide +kernel
theorem dX4_takeDye_36 : decode cX4_takeDye 36 = .ok (.isub, 1) := by decide +kernel
theorem dX4_takeDye_37 : decode cX4_takeDye 37 = .ok (.iastore, 1) := by decide +kernel
theorem dX4_takeDye_38 : decode cX4_takeDye 38 = .ok (.aload_n 0, 1) := by decide +kernel
theorem dX4_takeDye_39 : decode cX4_takeDye 39 = .ok (.getfield 32, 3) := by decide +kernel
theorem dX4_takeDye_42 : decode cX4_takeDye 42 = .ok (.iload_n 1, 1) := by decide +kernel
theorem dX4_takeDye_43 : decode cX4_takeDye 43 = .ok (.iconst 3, 1) := by decide +kernel
theorem dX4_takeDye_44 : decode cX4_takeDye 44 = .ok (.iadd, 1) := by decide +kernel
theorem dX4_takeDye_45 : decode cX4_takeDye 45 = .ok (.aload_n 0, 1) := by decide +kernel
theorem dX4_takeDye_46 : decode cX4_takeDye 46 = .ok (.iconst 0, 1) := by decide +kernel
theorem dX4_takeDye_47 : decode cX4_takeDye 47 = .ok (.bipush 11, 2) := by decide +kernel
theorem dX4_takeDye_49 : decode cX4_takeDye 49 = .ok (.invokevirtual 186, 3) := by decide +kernel
theorem dX4_takeDye_52 : decode cX4_takeDye 52 = .ok (.iastore, 1) := by decide +kernel
theorem dX4_takeDye_53 : decode cX4_takeDye 53 = .ok (.aload_n 0, 1) := by decide +kernel
theorem dX4_takeDye_54 : decode cX4_takeDye 54 = .ok (.bipush 58, 2) := by decide +kernel
theorem dX4_takeDye_56 : decode cX4_takeDye 56 = .ok (.invokevirtual 189, 3) := by decide +kernel
theorem dX4_takeDye_59 : decode cX4_takeDye 59 = .ok (.aload_n 0, 1) := by decide +kernel
theorem dX4_takeDye_60 : decode cX4_takeDye 60 = .ok (.getfield 32, 3) := by decide +kernel
theorem dX4_takeDye_63 : decode cX4_takeDye 63 = .ok (.iload_n 1, 1) := by decide +kernel
theorem dX4_takeDye_64 : decode cX4_takeDye 64 = .ok (.iconst 4, 1) := by decide +kernel
theorem dX4_takeDye_65 : decode cX4_takeDye 65 = .ok (.iadd, 1) := by decide +kernel
theorem dX4_takeDye_66 : decode cX4_takeDye 66 = .ok (.aload_n 0, 1) := by decide +kernel
theorem dX4_takeDye_67 : decode cX4_takeDye 67 = .ok (.iconst 0, 1) := by decide +kernel
theorem dX4_takeDye_68 : decode cX4_takeDye 68 = .ok (.bipush 23, 2) := by decide +kernel
theorem dX4_takeDye_70 : decode cX4_takeDye 70 = .ok (.invokevirtual 186, 3) := by decide +kernel
theorem dX4_takeDye_73 : decode cX4_takeDye 73 = .ok (.iastore, 1) := by decide +kernel
theorem dX4_takeDye_74 : decode cX4_takeDye 74 = .ok (.aload_n 0, 1) := by decide +kernel
theorem dX4_takeDye_75 : decode cX4_takeDye 75 = .ok (.bipush 61, 2) := by decide +kernel
theorem dX4_takeDye_77 : decode cX4_takeDye 77 = .ok (.invokevirtual 189, 3) := by decide +kernel
theorem dX4_takeDye_80 : decode cX4_takeDye 80 = .ok (.aload_n 0, 1) := by decide +kernel
theorem dX4_takeDye_81 : decode cX4_takeDye 81 = .ok (.getfield 32, 3) := by decide +kernel
theorem dX4_takeDye_84 : decode cX4_takeDye 84 = .ok (.iload_n 1, 1) := by decide +kernel
theorem dX4_takeDye_85 : decode cX4_takeDye 85 = .ok (.iconst 5, 1) := by decide +kernel
theorem dX4_takeDye_86 : decode cX4_takeDye 86 = .ok (.iadd, 1) := by decide +kernel
theorem dX4_takeDye_87 : decode cX4_takeDye 87 = .ok (.aload_n 0, 1) := by decide +kernel
theorem dX4_takeDye_88 : decode cX4_takeDye 88 = .ok (.iconst 1, 1) := by decide +kernel
theorem dX4_takeDye_89 : decode cX4_takeDye 89 = .ok (.ldc 195, 2) := by decide +kernel
theorem dX4_takeDye_91 : decode cX4_takeDye 91 = .ok (.invokevirtual 186, 3) := by decide +kernel
theorem dX4_takeDye_94 : decode cX4_takeDye 94 = .ok (.iastore, 1) := by decide +kernel
theorem dX4_takeDye_95 : decode cX4_takeDye 95 = .ok (.return_, 1) := by decide +kernel
theorem dX4_takeStep_0 : decode cX4_takeStep 0 = .ok (.bipush 6, 2) := by decide +kernel
theorem dX4_takeStep_2 : decode cX4_takeStep 2 = .ok (.aload_n 0, 1) := by decide +kernel
theorem dX4_takeStep_3 : decode cX4_takeStep 3 = .ok (.getfield 196, 3) := by decide +kernel
theorem dX4_takeStep_6 : decode cX4_takeStep 6 = .ok (.imul, 1) := by decide +kernel
theorem dX4_takeStep_7 : decode cX4_takeStep 7 = .ok (.istore_n 1, 1) := by decide +kernel
theorem dX4_takeStep_8 : decode cX4_takeStep 8 = .ok (.aload_n 0, 1) := by decide +kernel
theorem dX4_takeStep_9 : decode cX4_takeStep 9 = .ok (.invokevirtual 183, 3) := by decide +kernel
theorem dX4_takeStep_12 : decode cX4_takeStep 12 = .ok (.istore_n 2, 1) := by decide +kernel
theorem dX4_takeStep_13 : decode cX4_takeStep 13 = .ok (.aload_n 0, 1) := by decide +kernel
theorem dX4_takeStep_14 : decode cX4_takeStep 14 = .ok (.aload_n 0, 1) := by decide +kernel
theorem dX4_takeStep_15 : decode cX4_takeStep 15 = .ok (.getfield 179, 3) := by decide +kernel
theorem dX4_takeStep_18 : decode cX4_takeStep 18 = .ok (.ifCond .ne 21, 3) := by decide +kernel
theorem dX4_takeStep_21 : decode cX4_takeStep 21 = .ok (.iload_n 2, 1) := by decide +kernel
theorem dX4_takeStep_22 : decode cX4_takeStep 22 = .ok (.bipush 116, 2) := by decide +kernel
theorem dX4_takeStep_24 : decode cX4_takeStep 24 = .ok (.if_icmp .eq 19, 3) := by decide +kernel
theorem dX4_takeStep_27 : decode cX4_takeStep 27 = .ok (.iload_n 2, 1) := by decide +kernel
theorem dX4_takeStep_28 : decode cX4_takeStep 28 = .ok (.bipush 118, 2) := by decide +kernel
theorem dX4_takeStep_30 : decode cX4_takeStep 30 = .ok (.if_icmp .eq 13, 3) := by decide +kernel
theorem dX4_takeStep_33 : decode cX4_takeStep 33 = .ok (.iload_n 2, 1) := by decide +kernel
theorem dX4_takeStep_34 : decode cX4_takeStep 34 = .ok (.bipush 100, 2) := by decide +kernel
theorem dX4_takeStep_36 : decode cX4_takeStep 36 = .ok (.if_icmp .eq 7, 3) := by decide +kernel
theorem dX4_takeStep_39 : decode cX4_takeStep 39 = .ok (.iconst 1, 1) := by decide +kernel
theorem dX4_takeStep_40 : decode cX4_takeStep 40 = .ok (.goto 4, 3) := by decide +kernel
theorem dX4_takeStep_43 : decode cX4_takeStep 43 = .ok (.iconst 0, 1) := by decide +kernel
theorem dX4_takeStep_44 : decode cX4_takeStep 44 = .ok (.putfield 179, 3) := by decide +kernel
theorem dX4_takeStep_47 : decode cX4_takeStep 47 = .ok (.aload_n 0, 1) := by decide +kernel
theorem dX4_takeStep_48 : decode cX4_takeStep 48 = .ok (.getfield 32, 3) := by decide +kernel
theorem dX4_takeStep_51 : decode cX4_takeStep 51 = .ok (.iload_n 1, 1) := by decide +kernel
theorem dX4_takeStep_52 : decode cX4_takeStep 52 = .ok (.iload_n 2, 1) := by decide +kernel
theorem dX4_takeStep_53 : decode cX4_takeStep 53 = .ok (.iastore, 1) := by decide +kernel
theorem dX4_takeStep_54 : decode cX4_takeStep 54 = .ok (.aload_n 0, 1) := by decide +kernel
theorem dX4_takeStep_55 : decode cX4_takeStep 55 = .ok (.dup, 1) := by decide +kernel
theorem dX4_takeStep_56 : decode cX4_takeStep 56 = .ok (.getfield 176, 3) := by decide +kernel
theorem dX4_takeStep_59 : decode cX4_takeStep 59 = .ok (.aload_n 0, 1) := by decide +kernel
theorem dX4_takeStep_60 : decode cX4_takeStep 60 = .ok (.getfield 179, 3) := by decide +kernel
theorem dX4_takeStep_63 : decode cX4_takeStep 63 = .ok (.ifCond .eq 7, 3) := by decide +kernel
theorem dX4_takeStep_66 : decode cX4_takeStep 66 = .ok (.iconst 0, 1) := by decide +kernel
theorem dX4_takeStep_67 : decode cX4_takeStep 67 = .ok (.goto 4, 3) := by decide +kernel
theorem dX4_takeStep_70 : decode cX4_takeStep 70 = .ok (.iconst 1, 1) := by decide +kernel
theorem dX4_takeStep_71 : decode cX4_takeStep 71 = .ok (.iadd, 1) := by decide +kernel
theorem dX4_takeStep_72 : decode cX4_takeStep 72 = .ok (.putfield 176, 3) := by decide +kernel
theorem dX4_takeStep_75 : decode cX4_takeStep 75 = .ok (.iload_n 2, 1) := by decide +kernel
theorem dX4_takeStep_76 : decode cX4_takeStep 76 = .ok (.bipush 116, 2) := by decide +kernel
theorem dX4_takeStep_78 : decode cX4_takeStep 78 = .ok (.if_icmp .ne 22, 3) := by decide +kernel
theorem dX4_takeStep_81 : decode cX4_takeStep 81 = .ok (.aload_n 0, 1) := by decide +kernel
theorem dX4_takeStep_82 : decode cX4_takeStep 82 = .ok (.getfield 32, 3) := by decide +kernel
theorem dX4_takeStep_85 : decode cX4_takeStep 85 = .ok (.iload_n 1, 1) := by decide +kernel
theorem dX4_takeStep_86 : decode cX4_takeStep 86 = .ok (.iconst 1, 1) := by decide +kernel
theorem dX4_takeStep_87 : decode cX4_takeStep 87 = .ok (.iadd, 1) := by decide +kernel
theorem dX4_takeStep_88 : decode cX4_takeStep 88 = .ok (.aload_n 0, 1) := by decide +kernel
theorem dX4_takeStep_89 : decode cX4_takeStep 89 = .ok (.iconst 1, 1) := by decide +kernel
theorem dX4_takeStep_90 : decode cX4_takeStep 90 = .ok (.sipush 999, 3) := by decide +kernel
theorem dX4_takeStep_93 : decode cX4_takeStep 93 = .ok (.invokevirtual 186, 3) := by decide +kernel
theorem dX4_takeStep_96 : decode cX4_takeStep 96 = .ok (.iastore, 1) := by decide +kernel
theorem dX4_takeStep_97 : decode cX4_takeStep 97 = .ok (.goto 22, 3) := by decide +kernel
theorem dX4_takeStep_100 : decode cX4_takeStep 100 = .ok (.iload_n 2, 1) := by decide +kernel
theorem dX4_takeStep_101 : decode cX4_takeStep 101 = .ok (.bipush 118, 2) := by decide +kernel
theorem dX4_takeStep_103 : decode cX4_takeStep 103 = .ok (.if_icmp .ne 11, 3) := by decide +kernel
theorem dX4_takeStep_106 : decode cX4_takeStep 106 = .ok (.aload_n 0, 1) := by decide +kernel
theorem dX4_takeStep_107 : decode cX4_takeStep 107 = .ok (.iload_n 1, 1) := by decide +kernel
theorem dX4_takeStep_108 : decode cX4_takeStep 108 = .ok (.invokevirtual 199, 3) := by decide +kernel
theorem dX4_takeStep_111 : decode cX4_takeStep 111 = .ok (.goto 8, 3) := by decide +kernel
theorem dX4_takeStep_114 : decode cX4_takeStep 114 = .ok (.aload_n 0, 1) := by decide +kernel
theorem dX4_takeStep_115 : decode cX4_takeStep 115 = .ok (.iload_n 1, 1) := by decide +kernel
theorem dX4_takeStep_116 : decode cX4_takeStep 116 = .ok (.invokevirtual 202, 3) := by decide +kernel
theorem dX4_takeStep_119 : decode cX4_takeStep 119 = .ok (.aload_n 0, 1) := by decide +kernel
theorem dX4_takeStep_120 : decode cX4_takeStep 120 = .ok (.dup, 1) := by decide +kernel
theorem dX4_takeStep_121 : decode cX4_takeStep 121 = .ok (.getfield 196, 3) := by decide +kernel
theorem dX4_takeStep_124 : decode cX4_takeStep 124 = .ok (.iconst 1, 1) := by decide +kernel
theorem dX4_takeStep_125 : decode cX4_takeStep 125 = .ok (.iadd, 1) := by decide +kernel
theorem dX4_takeStep_126 : decode cX4_takeStep 126 = .ok (.putfield 196, 3) := by decide +kernel
theorem dX4_takeStep_129 : decode cX4_takeStep 129 = .ok (.return_, 1) := by decide +kernel
theorem dX4_fault_0 : decode cX4_fault 0 = .ok (.aload_n 0, 1) := by decide +kernel
theorem dX4_fault_1 : decode cX4_fault 1 = .ok (.iconst 0, 1) := by decide +kernel
theorem dX4_fault_2 : decode cX4_fault 2 = .ok (.putfield 176, 3) := by decide +kernel
theorem dX4_fault_5 : decode cX4_fault 5 = .ok (.aload_n 0, 1) := by decide +kernel
theorem dX4_fault_6 : decode cX4_fault 6 = .ok (.iconst 0, 1) := by decide +kernel
theorem dX4_fault_7 : decode cX4_fault 7 = .ok (.putfield 179, 3) := by decide +kernel
theorem dX4_fault_10 : decode cX4_fault 10 = .ok (.aload_n 0, 1) := by decide +kernel
theorem dX4_fault_11 : decode cX4_fault 11 = .ok (.iconst 0, 1) := by decide +kernel
theorem dX4_fault_12 : decode cX4_fault 12 = .ok (.putfield 196, 3) := by decide +kernel
theorem dX4_fault_15 : decode cX4_fault 15 = .ok (.aload_n 0, 1) := by decide +kernel
theorem dX4_fault_16 : decode cX4_fault 16 = .ok (.invokevirtual 205, 3) := by decide +kernel
theorem dX4_fault_19 : decode cX4_fault 19 = .ok (.aload_n 0, 1) := by decide +kernel
theorem dX4_fault_20 : decode cX4_fault 20 = .ok (.getfield 179, 3) := by decide +kernel
theorem dX4_fault_23 : decode cX4_fault 23 = .ok (.ifCond .ne 29, 3) := by decide +kernel
theorem dX4_fault_26 : decode cX4_fault 26 = .ok (.aload_n 0, 1) := by decide +kernel
theorem dX4_fault_27 : decode cX4_fault 27 = .ok (.invokevirtual 183, 3) := by decide +kernel
theorem dX4_fault_30 : decode cX4_fault 30 = .ok (.bipush 44, 2) := by decide +kernel
theorem dX4_fault_32 : decode cX4_fault 32 = .ok (.if_icmp .ne 20, 3) := by decide +kernel
theorem dX4_fault_35 : decode cX4_fault 35 = .ok (.aload_n 0, 1) := by decide +kernel
theorem dX4_fault_36 : decode cX4_fault 36 = .ok (.dup, 1) := by decide +kernel
theorem dX4_fault_37 : decode cX4_fault 37 = .ok (.getfield 176, 3) := by decide +kernel
theorem dX4_fault_40 : decode cX4_fault 40 = .ok (.iconst 1, 1) := by decide +kernel
theorem dX4_fault_41 : decode cX4_fault 41 = .ok (.iadd, 1) := by decide +kernel
theorem dX4_fault_42 : decode cX4_fault 42 = .ok (.putfield 176, 3) := by decide +kernel
theorem dX4_fault_45 : decode cX4_fault 45 = .ok (.aload_n 0, 1) := by decide +kernel
theorem dX4_fault_46 : decode cX4_fault 46 = .ok (.invokevirtual 205, 3) := by decide +kernel
theorem dX4_fault_49 : decode cX4_fault 49 = .ok (.goto (-30), 3) := by decide +kernel
theorem dX4_fault_52 : decode cX4_fault 52 = .ok (.aload_n 0, 1) := by decide +kernel
theorem dX4_fault_53 : decode cX4_fault 53 = .ok (.getfield 179, 3) := by decide +kernel
theorem dX4_fault_56 : decode cX4_fault 56 = .ok (.ifCond .ne 14, 3) := by decide +kernel
theorem dX4_fault_59 : decode cX4_fault 59 = .ok (.aload_n 0, 1) := by decide +kernel
theorem dX4_fault_60 : decode cX4_fault 60 = .ok (.getfield 176, 3) := by decide +kernel
theorem dX4_fault_63 : decode cX4_fault 63 = .ok (.aload_n 0, 1) := by decide +kernel
theorem dX4_fault_64 : decode cX4_fault 64 = .ok (.getfield 144, 3) := by decide +kernel
theorem dX4_fault_67 : decode cX4_fault 67 = .ok (.if_icmp .ge 10, 3) := by decide +kernel
theorem dX4_fault_70 : decode cX4_fault 70 = .ok (.aload_n 0, 1) := by decide +kernel
theorem dX4_fault_71 : decode cX4_fault 71 = .ok (.getfield 176, 3) := by decide +kernel
theorem dX4_fault_74 : decode cX4_fault 74 = .ok (.goto 5, 3) := by decide +kernel
theorem dX4_fault_77 : decode cX4_fault 77 = .ok (.bipush (-6), 2) := by decide +kernel
theorem dX4_fault_79 : decode cX4_fault 79 = .ok (.ireturn, 1) := by decide +kernel
theorem dX4_carries_0 : decode cX4_carries 0 = .ok (.aload_n 0, 1) := by decide +kernel
theorem dX4_carries_1 : decode cX4_carries 1 = .ok (.getfield 32, 3) := by decide +kernel
theorem dX4_carries_4 : decode cX4_carries 4 = .ok (.iload_n 1, 1) := by decide +kernel
theorem dX4_carries_5 : decode cX4_carries 5 = .ok (.iconst 1, 1) := by decide +kernel
theorem dX4_carries_6 : decode cX4_carries 6 = .ok (.iadd, 1) := by decide +kernel
theorem dX4_carries_7 : decode cX4_carries 7 = .ok (.iaload, 1) := by decide +kernel
theorem dX4_carries_8 : decode cX4_carries 8 = .ok (.istore_n 2, 1) := by decide +kernel
theorem dX4_carries_9 : decode cX4_carries 9 = .ok (.aload_n 0, 1) := by decide +kernel
theorem dX4_carries_10 : decode cX4_carries 10 = .ok (.getfield 32, 3) := by decide +kernel
theorem dX4_carries_13 : decode cX4_carries 13 = .ok (.iload_n 1, 1) := by decide +kernel
theorem dX4_carries_14 : decode cX4_carries 14 = .ok (.iconst 2, 1) := by decide +kernel
theorem dX4_carries_15 : decode cX4_carries 15 = .ok (.iadd, 1) := by decide +kernel
theorem dX4_carries_16 : decode cX4_carries 16 = .ok (.iaload, 1) := by decide +kernel
theorem dX4_carries_17 : decode cX4_carries 17 = .ok (.istore_n 3, 1) := by decide +kernel
theorem dX4_carries_18 : decode cX4_carries 18 = .ok (.aload_n 0, 1) := by decide +kernel
theorem dX4_carries_19 : decode cX4_carries 19 = .ok (.getfield 32, 3) := by decide +kernel
theorem dX4_carries_22 : decode cX4_carries 22 = .ok (.iload_n 1, 1) := by decide +kernel
theorem dX4_carries_23 : decode cX4_carries 23 = .ok (.iaload, 1) := by decide +kernel
theorem dX4_carries_24 : decode cX4_carries 24 = .ok (.lookupswitch 59 #[(116, 28), (118, 42)], 28) := by decide +kernel
theorem dX4_carries_52 : decode cX4_carries 52 = .ok (.aload_n 0, 1) := by decide +kernel
theorem dX4_carries_53 : decode cX4_carries 53 = .ok (.iload_n 2, 1) := by decide +kernel
theorem dX4_carries_54 : decode cX4_carries 54 = .ok (.invokevirtual 208, 3) := by decide +kernel
theorem dX4_carries_57 : decode cX4_carries 57 = .ok (.ifCond .lt 7, 3) := by decide +kernel
theorem dX4_carries_60 : decode cX4_carries 60 = .ok (.iconst 1, 1) := by decide +kernel
theorem dX4_carries_61 : decode cX4_carries 61 = .ok (.goto 4, 3) := by decide +kernel
theorem dX4_carries_64 : decode cX4_carries 64 = .ok (.iconst 0, 1) := by decide +kernel
theorem dX4_carries_65 : decode cX4_carries 65 = .ok (.ireturn, 1) := by decide +kernel
theorem dX4_carries_66 : decode cX4_carries 66 = .ok (.aload_n 0, 1) := by decide +kernel
theorem dX4_carries_67 : decode cX4_carries 67 = .ok (.iload_n 2, 1) := by decide +kernel
theorem dX4_carries_68 : decode cX4_carries 68 = .ok (.iload_n 3, 1) := by decide +kernel
theorem dX4_carries_69 : decode cX4_carries 69 = .ok (.invokevirtual 211, 3) := by decide +kernel
theorem dX4_carries_72 : decode cX4_carries 72 = .ok (.ldc 214, 2) := by decide +kernel
theorem dX4_carries_74 : decode cX4_carries 74 = .ok (.if_icmp .le 7, 3) := by decide +kernel
theorem dX4_carries_77 : decode cX4_carries 77 = .ok (.iconst 1, 1) := by decide +kernel
theorem dX4_carries_78 : decode cX4_carries 78 = .ok (.goto 4, 3) := by decide +kernel
theorem dX4_carries_81 : decode cX4_carries 81 = .ok (.iconst 0, 1) := by decide +kernel
theorem dX4_carries_82 : decode cX4_carries 82 = .ok (.ireturn, 1) := by decide +kernel
theorem dX4_carries_83 : decode cX4_carries 83 = .ok (.aload_n 0, 1) := by decide +kernel
theorem dX4_carries_84 : decode cX4_carries 84 = .ok (.iload_n 2, 1) := by decide +kernel
theorem dX4_carries_85 : decode cX4_carries 85 = .ok (.iload_n 3, 1) := by decide +kernel
theorem dX4_carries_86 : decode cX4_carries 86 = .ok (.aload_n 0, 1) := by decide +kernel
theorem dX4_carries_87 : decode cX4_carries 87 = .ok (.getfield 32, 3) := by decide +kernel
theorem dX4_carries_90 : decode cX4_carries 90 = .ok (.iload_n 1, 1) := by decide +kernel
theorem dX4_carries_91 : decode cX4_carries 91 = .ok (.iconst 3, 1) := by decide +kernel
theorem dX4_carries_92 : decode cX4_carries 92 = .ok (.iadd, 1) := by decide +kernel
theorem dX4_carries_93 : decode cX4_carries 93 = .ok (.iaload, 1) := by decide +kernel
theorem dX4_carries_94 : decode cX4_carries 94 = .ok (.aload_n 0, 1) := by decide +kernel
theorem dX4_carries_95 : decode cX4_carries 95 = .ok (.getfield 32, 3) := by decide +kernel
theorem dX4_carries_98 : decode cX4_carries 98 = .ok (.iload_n 1, 1) := by decide +kernel
theorem dX4_carries_99 : decode cX4_carries 99 = .ok (.iconst 4, 1) := by decide +kernel
theorem dX4_carries_100 : decode cX4_carries 100 = .ok (.iadd, 1) := by decide +kernel
theorem dX4_carries_101 : decode cX4_carries 101 = .ok (.iaload, 1) := by decide +kernel
theorem dX4_carries_102 : decode cX4_carries 102 = .ok (.aload_n 0, 1) := by decide +kernel
theorem dX4_carries_103 : decode cX4_carries 103 = .ok (.getfield 32, 3) := by decide +kernel
theorem dX4_carries_106 : decode cX4_carries 106 = .ok (.iload_n 1, 1) := by decide +kernel
theorem dX4_carries_107 : decode cX4_carries 107 = .ok (.iconst 5, 1) := by decide +kernel
theorem dX4_carries_108 : decode cX4_carries 108 = .ok (.iadd, 1) := by decide +kernel
theorem dX4_carries_109 : decode cX4_carries 109 = .ok (.iaload, 1) := by decide +kernel
theorem dX4_carries_110 : decode cX4_carries 110 = .ok (.invokevirtual 215, 3) := by decide +kernel
theorem dX4_carries_113 : decode cX4_carries 113 = .ok (.ifCond .lt 7, 3) := by decide +kernel
theorem dX4_carries_116 : decode cX4_carries 116 = .ok (.iconst 1, 1) := by decide +kernel
theorem dX4_carries_117 : decode cX4_carries 117 = .ok (.goto 4, 3) := by decide +kernel
theorem dX4_carries_120 : decode cX4_carries 120 = .ok (.iconst 0, 1) := by decide +kernel
theorem dX4_carries_121 : decode cX4_carries 121 = .ok (.ireturn, 1) := by decide +kernel
theorem dX4_carryOut_0 : decode cX4_carryOut 0 = .ok (.aload_n 0, 1) := by decide +kernel
theorem dX4_carryOut_1 : decode cX4_carryOut 1 = .ok (.invokevirtual 218, 3) := by decide +kernel
theorem dX4_carryOut_4 : decode cX4_carryOut 4 = .ok (.bipush (-6), 2) := by decide +kernel
theorem dX4_carryOut_6 : decode cX4_carryOut 6 = .ok (.if_icmp .eq 6, 3) := by decide +kernel
theorem dX4_carryOut_9 : decode cX4_carryOut 9 = .ok (.bipush (-3), 2) := by decide +kernel
theorem dX4_carryOut_11 : decode cX4_carryOut 11 = .ok (.ireturn, 1) := by decide +kernel
theorem dX4_carryOut_12 : decode cX4_carryOut 12 = .ok (.iconst 0, 1) := by decide +kernel
theorem dX4_carryOut_13 : decode cX4_carryOut 13 = .ok (.istore_n 1, 1) := by decide +kernel
theorem dX4_carryOut_14 : decode cX4_carryOut 14 = .ok (.iload_n 1, 1) := by decide +kernel
theorem dX4_carryOut_15 : decode cX4_carryOut 15 = .ok (.aload_n 0, 1) := by decide +kernel
theorem dX4_carryOut_16 : decode cX4_carryOut 16 = .ok (.getfield 196, 3) := by decide +kernel
theorem dX4_carryOut_19 : decode cX4_carryOut 19 = .ok (.if_icmp .ge 20, 3) := by decide +kernel
theorem dX4_carryOut_22 : decode cX4_carryOut 22 = .ok (.aload_n 0, 1) := by decide +kernel
theorem dX4_carryOut_23 : decode cX4_carryOut 23 = .ok (.bipush 6, 2) := by decide +kernel
theorem dX4_carryOut_25 : decode cX4_carryOut 25 = .ok (.iload_n 1, 1) := by decide +kernel
theorem dX4_carryOut_26 : decode cX4_carryOut 26 = .ok (.imul, 1) := by decide +kernel
theorem dX4_carryOut_27 : decode cX4_carryOut 27 = .ok (.invokevirtual 221, 3) := by decide +kernel
theorem dX4_carryOut_30 : decode cX4_carryOut 30 = .ok (.ifCond .eq 9, 3) := by decide +kernel
theorem dX4_carryOut_33 : decode cX4_carryOut 33 = .ok (.iinc 1 1, 3) := by decide +kernel
theorem dX4_carryOut_36 : decode cX4_carryOut 36 = .ok (.goto (-22), 3) := by decide +kernel
theorem dX4_carryOut_39 : decode cX4_carryOut 39 = .ok (.aload_n 0, 1) := by decide +kernel
theorem dX4_carryOut_40 : decode cX4_carryOut 40 = .ok (.iconst 0, 1) := by decide +kernel
theorem dX4_carryOut_41 : decode cX4_carryOut 41 = .ok (.putfield 144, 3) := by decide +kernel
theorem dX4_carryOut_44 : decode cX4_carryOut 44 = .ok (.iload_n 1, 1) := by decide +kernel
theorem dX4_carryOut_45 : decode cX4_carryOut 45 = .ok (.ireturn, 1) := by decide +kernel
theorem dX4_save_0 : decode cX4_save 0 = .ok (.iload_n 1, 1) := by decide +kernel
theorem dX4_save_1 : decode cX4_save 1 = .ok (.iconst 0, 1) := by decide +kernel
theorem dX4_save_2 : decode cX4_save 2 = .ok (.iconst 1, 1) := by decide +kernel
theorem dX4_save_3 : decode cX4_save 3 = .ok (.invokestatic 39, 3) := by decide +kernel
theorem dX4_save_6 : decode cX4_save 6 = .ok (.ifCond .ne 6, 3) := by decide +kernel
theorem dX4_save_9 : decode cX4_save 9 = .ok (.bipush (-2), 2) := by decide +kernel
theorem dX4_save_11 : decode cX4_save 11 = .ok (.ireturn, 1) := by decide +kernel
theorem dX4_save_12 : decode cX4_save 12 = .ok (.iconst 0, 1) := by decide +kernel
theorem dX4_save_13 : decode cX4_save 13 = .ok (.istore_n 2, 1) := by decide +kernel
theorem dX4_save_14 : decode cX4_save 14 = .ok (.iload_n 2, 1) := by decide +kernel
theorem dX4_save_15 : decode cX4_save 15 = .ok (.sipush 2386, 3) := by decide +kernel
theorem dX4_save_18 : decode cX4_save 18 = .ok (.if_icmp .ge 27, 3) := by decide +kernel
theorem dX4_save_21 : decode cX4_save 21 = .ok (.aload_n 0, 1) := by decide +kernel
theorem dX4_save_22 : decode cX4_save 22 = .ok (.getfield 16, 3) := by decide +kernel
theorem dX4_save_25 : decode cX4_save 25 = .ok (.sipush 2386, 3) := by decide +kernel
theorem dX4_save_28 : decode cX4_save 28 = .ok (.iload_n 1, 1) := by decide +kernel
theorem dX4_save_29 : decode cX4_save 29 = .ok (.imul, 1) := by decide +kernel
theorem dX4_save_30 : decode cX4_save 30 = .ok (.iload_n 2, 1) := by decide +kernel
theorem dX4_save_31 : decode cX4_save 31 = .ok (.iadd, 1) := by decide +kernel
theorem dX4_save_32 : decode cX4_save 32 = .ok (.aload_n 0, 1) := by decide +kernel
theorem dX4_save_33 : decode cX4_save 33 = .ok (.getfield 7, 3) := by decide +kernel
theorem dX4_save_36 : decode cX4_save 36 = .ok (.iload_n 2, 1) := by decide +kernel
theorem dX4_save_37 : decode cX4_save 37 = .ok (.iaload, 1) := by decide +kernel
theorem dX4_save_38 : decode cX4_save 38 = .ok (.iastore, 1) := by decide +kernel
theorem dX4_save_39 : decode cX4_save 39 = .ok (.iinc 2 1, 3) := by decide +kernel
theorem dX4_save_42 : decode cX4_save 42 = .ok (.goto (-28), 3) := by decide +kernel
theorem dX4_save_45 : decode cX4_save 45 = .ok (.aload_n 0, 1) := by decide +kernel
theorem dX4_save_46 : decode cX4_save 46 = .ok (.getfield 19, 3) := by decide +kernel
theorem dX4_save_49 : decode cX4_save 49 = .ok (.iload_n 1, 1) := by decide +kernel
theorem dX4_save_50 : decode cX4_save 50 = .ok (.iconst 1, 1) := by decide +kernel
theorem dX4_save_51 : decode cX4_save 51 = .ok (.bastore, 1) := by decide +kernel
theorem dX4_save_52 : decode cX4_save 52 = .ok (.aload_n 0, 1) := by decide +kernel
theorem dX4_save_53 : decode cX4_save 53 = .ok (.getfield 7, 3) := by decide +kernel
theorem dX4_save_56 : decode cX4_save 56 = .ok (.iconst 1, 1) := by decide +kernel
theorem dX4_save_57 : decode cX4_save 57 = .ok (.iaload, 1) := by decide +kernel
theorem dX4_save_58 : decode cX4_save 58 = .ok (.ireturn, 1) := by decide +kernel
theorem dX4_restore_0 : decode cX4_restore 0 = .ok (.iload_n 1, 1) := by decide +kernel
theorem dX4_restore_1 : decode cX4_restore 1 = .ok (.iconst 0, 1) := by decide +kernel
theorem dX4_restore_2 : decode cX4_restore 2 = .ok (.iconst 1, 1) := by decide +kernel
theorem dX4_restore_3 : decode cX4_restore 3 = .ok (.invokestatic 39, 3) := by decide +kernel
theorem dX4_restore_6 : decode cX4_restore 6 = .ok (.ifCond .ne 6, 3) := by decide +kernel
theorem dX4_restore_9 : decode cX4_restore 9 = .ok (.bipush (-2), 2) := by decide +kernel
theorem dX4_restore_11 : decode cX4_restore 11 = .ok (.ireturn, 1) := by decide +kernel
theorem dX4_restore_12 : decode cX4_restore 12 = .ok (.aload_n 0, 1) := by decide +kernel
theorem dX4_restore_13 : decode cX4_restore 13 = .ok (.getfield 19, 3) := by decide +kernel
theorem dX4_restore_16 : decode cX4_restore 16 = .ok (.iload_n 1, 1) := by decide +kernel
theorem dX4_restore_17 : decode cX4_restore 17 = .ok (.baload, 1) := by decide +kernel
theorem dX4_restore_18 : decode cX4_restore 18 = .ok (.ifCond .ne 6, 3) := by decide +kernel
theorem dX4_restore_21 : decode cX4_restore 21 = .ok (.bipush (-5), 2) := by decide +kernel
theorem dX4_restore_23 : decode cX4_restore 23 = .ok (.ireturn, 1) := by decide +kernel
theorem dX4_restore_24 : decode cX4_restore 24 = .ok (.iconst 0, 1) := by decide +kernel
theorem dX4_restore_25 : decode cX4_restore 25 = .ok (.istore_n 2, 1) := by decide +kernel
theorem dX4_restore_26 : decode cX4_restore 26 = .ok (.iload_n 2, 1) := by decide +kernel
theorem dX4_restore_27 : decode cX4_restore 27 = .ok (.sipush 2386, 3) := by decide +kernel
theorem dX4_restore_30 : decode cX4_restore 30 = .ok (.if_icmp .ge 27, 3) := by decide +kernel
theorem dX4_restore_33 : decode cX4_restore 33 = .ok (.aload_n 0, 1) := by decide +kernel
theorem dX4_restore_34 : decode cX4_restore 34 = .ok (.getfield 7, 3) := by decide +kernel
theorem dX4_restore_37 : decode cX4_restore 37 = .ok (.iload_n 2, 1) := by decide +kernel
theorem dX4_restore_38 : decode cX4_restore 38 = .ok (.aload_n 0, 1) := by decide +kernel
theorem dX4_restore_39 : decode cX4_restore 39 = .ok (.getfield 16, 3) := by decide +kernel
theorem dX4_restore_42 : decode cX4_restore 42 = .ok (.sipush 2386, 3) := by decide +kernel
theorem dX4_restore_45 : decode cX4_restore 45 = .ok (.iload_n 1, 1) := by decide +kernel
theorem dX4_restore_46 : decode cX4_restore 46 = .ok (.imul, 1) := by decide +kernel
theorem dX4_restore_47 : decode cX4_restore 47 = .ok (.iload_n 2, 1) := by decide +kernel
theorem dX4_restore_48 : decode cX4_restore 48 = .ok (.iadd, 1) := by decide +kernel
theorem dX4_restore_49 : decode cX4_restore 49 = .ok (.iaload, 1) := by decide +kernel
theorem dX4_restore_50 : decode cX4_restore 50 = .ok (.iastore, 1) := by decide +kernel
theorem dX4_restore_51 : decode cX4_restore 51 = .ok (.iinc 2 1, 3) := by decide +kernel
theorem dX4_restore_54 : decode cX4_restore 54 = .ok (.goto (-28), 3) := by decide +kernel
theorem dX4_restore_57 : decode cX4_restore 57 = .ok (.aload_n 0, 1) := by decide +kernel
theorem dX4_restore_58 : decode cX4_restore 58 = .ok (.getfield 7, 3) := by decide +kernel
theorem dX4_restore_61 : decode cX4_restore 61 = .ok (.iconst 1, 1) := by decide +kernel
theorem dX4_restore_62 : decode cX4_restore 62 = .ok (.iaload, 1) := by decide +kernel
theorem dX4_restore_63 : decode cX4_restore 63 = .ok (.ireturn, 1) := by decide +kernel
theorem dJ9_floorDiv_7cf53_0 : decode cJ9_floorDiv_7cf53 0 = .ok (.iload_n 0, 1) := by decide +kernel
theorem dJ9_floorDiv_7cf53_1 : decode cJ9_floorDiv_7cf53 1 = .ok (.iload_n 1, 1) := by decide +kernel
theorem dJ9_floorDiv_7cf53_2 : decode cJ9_floorDiv_7cf53 2 = .ok (.idiv, 1) := by decide +kernel
theorem dJ9_floorDiv_7cf53_3 : decode cJ9_floorDiv_7cf53 3 = .ok (.istore_n 2, 1) := by decide +kernel
theorem dJ9_floorDiv_7cf53_4 : decode cJ9_floorDiv_7cf53 4 = .ok (.iload_n 0, 1) := by decide +kernel
theorem dJ9_floorDiv_7cf53_5 : decode cJ9_floorDiv_7cf53 5 = .ok (.iload_n 1, 1) := by decide +kernel
theorem dJ9_floorDiv_7cf53_6 : decode cJ9_floorDiv_7cf53 6 = .ok (.ixor, 1) := by decide +kernel
theorem dJ9_floorDiv_7cf53_7 : decode cJ9_floorDiv_7cf53 7 = .ok (.ifCond .ge 14, 3) := by decide +kernel
theorem dJ9_floorDiv_7cf53_10 : decode cJ9_floorDiv_7cf53 10 = .ok (.iload_n 2, 1) := by decide +kernel
theorem dJ9_floorDiv_7cf53_11 : decode cJ9_floorDiv_7cf53 11 = .ok (.iload_n 1, 1) := by decide +kernel
theorem dJ9_floorDiv_7cf53_12 : decode cJ9_floorDiv_7cf53 12 = .ok (.imul, 1) := by decide +kernel
theorem dJ9_floorDiv_7cf53_13 : decode cJ9_floorDiv_7cf53 13 = .ok (.iload_n 0, 1) := by decide +kernel
theorem dJ9_floorDiv_7cf53_14 : decode cJ9_floorDiv_7cf53 14 = .ok (.if_icmp .eq 7, 3) := by decide +kernel
theorem dJ9_floorDiv_7cf53_17 : decode cJ9_floorDiv_7cf53 17 = .ok (.iload_n 2, 1) := by decide +kernel
theorem dJ9_floorDiv_7cf53_18 : decode cJ9_floorDiv_7cf53 18 = .ok (.iconst 1, 1) := by decide +kernel
theorem dJ9_floorDiv_7cf53_19 : decode cJ9_floorDiv_7cf53 19 = .ok (.isub, 1) := by decide +kernel
theorem dJ9_floorDiv_7cf53_20 : decode cJ9_floorDiv_7cf53 20 = .ok (.ireturn, 1) := by decide +kernel
theorem dJ9_floorDiv_7cf53_21 : decode cJ9_floorDiv_7cf53 21 = .ok (.iload_n 2, 1) := by decide +kernel
theorem dJ9_floorDiv_7cf53_22 : decode cJ9_floorDiv_7cf53 22 = .ok (.ireturn, 1) := by decide +kernel
theorem dJ9_floorMod_7cf53_0 : decode cJ9_floorMod_7cf53 0 = .ok (.iload_n 0, 1) := by decide +kernel
theorem dJ9_floorMod_7cf53_1 : decode cJ9_floorMod_7cf53 1 = .ok (.iload_n 1, 1) := by decide +kernel
theorem dJ9_floorMod_7cf53_2 : decode cJ9_floorMod_7cf53 2 = .ok (.irem, 1) := by decide +kernel
theorem dJ9_floorMod_7cf53_3 : decode cJ9_floorMod_7cf53 3 = .ok (.istore_n 2, 1) := by decide +kernel
theorem dJ9_floorMod_7cf53_4 : decode cJ9_floorMod_7cf53 4 = .ok (.iload_n 0, 1) := by decide +kernel
theorem dJ9_floorMod_7cf53_5 : decode cJ9_floorMod_7cf53 5 = .ok (.iload_n 1, 1) := by decide +kernel
theorem dJ9_floorMod_7cf53_6 : decode cJ9_floorMod_7cf53 6 = .ok (.ixor, 1) := by decide +kernel
theorem dJ9_floorMod_7cf53_7 : decode cJ9_floorMod_7cf53 7 = .ok (.ifCond .ge 11, 3) := by decide +kernel
theorem dJ9_floorMod_7cf53_10 : decode cJ9_floorMod_7cf53 10 = .ok (.iload_n 2, 1) := by decide +kernel
theorem dJ9_floorMod_7cf53_11 : decode cJ9_floorMod_7cf53 11 = .ok (.ifCond .eq 7, 3) := by decide +kernel
theorem dJ9_floorMod_7cf53_14 : decode cJ9_floorMod_7cf53 14 = .ok (.iload_n 2, 1) := by decide +kernel
theorem dJ9_floorMod_7cf53_15 : decode cJ9_floorMod_7cf53 15 = .ok (.iload_n 1, 1) := by decide +kernel
theorem dJ9_floorMod_7cf53_16 : decode cJ9_floorMod_7cf53 16 = .ok (.iadd, 1) := by decide +kernel
theorem dJ9_floorMod_7cf53_17 : decode cJ9_floorMod_7cf53 17 = .ok (.ireturn, 1) := by decide +kernel
theorem dJ9_floorMod_7cf53_18 : decode cJ9_floorMod_7cf53 18 = .ok (.iload_n 2, 1) := by decide +kernel
theorem dJ9_floorMod_7cf53_19 : decode cJ9_floorMod_7cf53 19 = .ok (.ireturn, 1) := by decide +kernel
theorem dJ9_abs_0f7a4_0 : decode cJ9_abs_0f7a4 0 = .ok (.iload_n 0, 1) := by decide +kernel
theorem dJ9_abs_0f7a4_1 : decode cJ9_abs_0f7a4 1 = .ok (.ifCond .ge 8, 3) := by decide +kernel
theorem dJ9_abs_0f7a4_4 : decode cJ9_abs_0f7a4 4 = .ok (.iload_n 0, 1) := by decide +kernel
theorem dJ9_abs_0f7a4_5 : decode cJ9_abs_0f7a4 5 = .ok (.ineg, 1) := by decide +kernel
theorem dJ9_abs_0f7a4_6 : decode cJ9_abs_0f7a4 6 = .ok (.goto 4, 3) := by decide +kernel
theorem dJ9_abs_0f7a4_9 : decode cJ9_abs_0f7a4 9 = .ok (.iload_n 0, 1) := by decide +kernel
theorem dJ9_abs_0f7a4_10 : decode cJ9_abs_0f7a4 10 = .ok (.ireturn, 1) := by decide +kernel
theorem dJ9_abs_067f4_0 : decode cJ9_abs_067f4 0 = .ok (.lload_n 0, 1) := by decide +kernel
theorem dJ9_abs_067f4_1 : decode cJ9_abs_067f4 1 = .ok (.lconst 0, 1) := by decide +kernel
theorem dJ9_abs_067f4_2 : decode cJ9_abs_067f4 2 = .ok (.lcmp, 1) := by decide +kernel
theorem dJ9_abs_067f4_3 : decode cJ9_abs_067f4 3 = .ok (.ifCond .ge 8, 3) := by decide +kernel
theorem dJ9_abs_067f4_6 : decode cJ9_abs_067f4 6 = .ok (.lload_n 0, 1) := by decide +kernel
theorem dJ9_abs_067f4_7 : decode cJ9_abs_067f4 7 = .ok (.lneg, 1) := by decide +kernel
theorem dJ9_abs_067f4_8 : decode cJ9_abs_067f4 8 = .ok (.goto 4, 3) := by decide +kernel
theorem dJ9_abs_067f4_11 : decode cJ9_abs_067f4 11 = .ok (.lload_n 0, 1) := by decide +kernel
theorem dJ9_abs_067f4_12 : decode cJ9_abs_067f4 12 = .ok (.lreturn, 1) := by decide +kernel
theorem dJ9_max_7cf53_0 : decode cJ9_max_7cf53 0 = .ok (.iload_n 0, 1) := by decide +kernel
theorem dJ9_max_7cf53_1 : decode cJ9_max_7cf53 1 = .ok (.iload_n 1, 1) := by decide +kernel
theorem dJ9_max_7cf53_2 : decode cJ9_max_7cf53 2 = .ok (.if_icmp .lt 7, 3) := by decide +kernel
theorem dJ9_max_7cf53_5 : decode cJ9_max_7cf53 5 = .ok (.iload_n 0, 1) := by decide +kernel
theorem dJ9_max_7cf53_6 : decode cJ9_max_7cf53 6 = .ok (.goto 4, 3) := by decide +kernel
theorem dJ9_max_7cf53_9 : decode cJ9_max_7cf53 9 = .ok (.iload_n 1, 1) := by decide +kernel
theorem dJ9_max_7cf53_10 : decode cJ9_max_7cf53 10 = .ok (.ireturn, 1) := by decide +kernel
theorem dJ9_min_7cf53_0 : decode cJ9_min_7cf53 0 = .ok (.iload_n 0, 1) := by decide +kernel
theorem dJ9_min_7cf53_1 : decode cJ9_min_7cf53 1 = .ok (.iload_n 1, 1) := by decide +kernel
theorem dJ9_min_7cf53_2 : decode cJ9_min_7cf53 2 = .ok (.if_icmp .gt 7, 3) := by decide +kernel
theorem dJ9_min_7cf53_5 : decode cJ9_min_7cf53 5 = .ok (.iload_n 0, 1) := by decide +kernel
theorem dJ9_min_7cf53_6 : decode cJ9_min_7cf53 6 = .ok (.goto 4, 3) := by decide +kernel
theorem dJ9_min_7cf53_9 : decode cJ9_min_7cf53 9 = .ok (.iload_n 1, 1) := by decide +kernel
theorem dJ9_min_7cf53_10 : decode cJ9_min_7cf53 10 = .ok (.ireturn, 1) := by decide +kernel
theorem dJ7_fill_53178_0 : decode cJ7_fill_53178 0 = .ok (.iconst 0, 1) := by decide +kernel
theorem dJ7_fill_53178_1 : decode cJ7_fill_53178 1 = .ok (.istore_n 2, 1) := by decide +kernel
theorem dJ7_fill_53178_2 : decode cJ7_fill_53178 2 = .ok (.aload_n 0, 1) := by decide +kernel
theorem dJ7_fill_53178_3 : decode cJ7_fill_53178 3 = .ok (.arraylength, 1) := by decide +kernel
theorem dJ7_fill_53178_4 : decode cJ7_fill_53178 4 = .ok (.istore_n 3, 1) := by decide +kernel
theorem dJ7_fill_53178_5 : decode cJ7_fill_53178 5 = .ok (.iload_n 2, 1) := by decide +kernel
theorem dJ7_fill_53178_6 : decode cJ7_fill_53178 6 = .ok (.iload_n 3, 1) := by decide +kernel
theorem dJ7_fill_53178_7 : decode cJ7_fill_53178 7 = .ok (.if_icmp .ge 13, 3) := by decide +kernel
theorem dJ7_fill_53178_10 : decode cJ7_fill_53178 10 = .ok (.aload_n 0, 1) := by decide +kernel
theorem dJ7_fill_53178_11 : decode cJ7_fill_53178 11 = .ok (.iload_n 2, 1) := by decide +kernel
theorem dJ7_fill_53178_12 : decode cJ7_fill_53178 12 = .ok (.iload_n 1, 1) := by decide +kernel
theorem dJ7_fill_53178_13 : decode cJ7_fill_53178 13 = .ok (.iastore, 1) := by decide +kernel
theorem dJ7_fill_53178_14 : decode cJ7_fill_53178 14 = .ok (.iinc 2 1, 3) := by decide +kernel
theorem dJ7_fill_53178_17 : decode cJ7_fill_53178 17 = .ok (.goto (-12), 3) := by decide +kernel
theorem dJ7_fill_53178_20 : decode cJ7_fill_53178 20 = .ok (.return_, 1) := by decide +kernel
theorem dL_law_0 : decode cL_law 0 = .ok (.new 7, 3) := by decide +kernel
theorem dL_law_3 : decode cL_law 3 = .ok (.dup, 1) := by decide +kernel
theorem dL_law_4 : decode cL_law 4 = .ok (.invokespecial 9, 3) := by decide +kernel
theorem dL_law_7 : decode cL_law 7 = .ok (.astore_n 1, 1) := by decide +kernel
theorem dL_law_8 : decode cL_law 8 = .ok (.new 10, 3) := by decide +kernel
theorem dL_law_11 : decode cL_law 11 = .ok (.dup, 1) := by decide +kernel
theorem dL_law_12 : decode cL_law 12 = .ok (.invokespecial 12, 3) := by decide +kernel
theorem dL_law_15 : decode cL_law 15 = .ok (.astore_n 2, 1) := by decide +kernel
theorem dL_law_16 : decode cL_law 16 = .ok (.iconst 0, 1) := by decide +kernel
theorem dL_law_17 : decode cL_law 17 = .ok (.istore_n 3, 1) := by decide +kernel
theorem dL_law_18 : decode cL_law 18 = .ok (.iload_n 3, 1) := by decide +kernel
theorem dL_law_19 : decode cL_law 19 = .ok (.aload_n 0, 1) := by decide +kernel
theorem dL_law_20 : decode cL_law 20 = .ok (.arraylength, 1) := by decide +kernel
theorem dL_law_21 : decode cL_law 21 = .ok (.bipush 6, 2) := by decide +kernel
theorem dL_law_23 : decode cL_law 23 = .ok (.isub, 1) := by decide +kernel
theorem dL_law_24 : decode cL_law 24 = .ok (.if_icmp .gt 872, 3) := by decide +kernel
theorem dL_law_27 : decode cL_law 27 = .ok (.aload_n 0, 1) := by decide +kernel
theorem dL_law_28 : decode cL_law 28 = .ok (.iload_n 3, 1) := by decide +kernel
theorem dL_law_29 : decode cL_law 29 = .ok (.iaload, 1) := by decide +kernel
theorem dL_law_30 : decode cL_law 30 = .ok (.bipush 31, 2) := by decide +kernel
theorem dL_law_32 : decode cL_law 32 = .ok (.iand, 1) := by decide +kernel
theorem dL_law_33 : decode cL_law 33 = .ok (.tableswitch 857 0 22 #[107, 130, 163, 196, 229, 292, 315, 348, 401, 435, 458, 491, 524, 567, 600, 653, 706, 749, 772, 785, 798, 811, 834], 107) := by decide +kernel
theorem dL_law_140 : decode cL_law 140 = .ok (.aload_n 1, 1) := by decide +kernel
theorem dL_law_141 : decode cL_law 141 = .ok (.aload_n 0, 1) := by decide +kernel
theorem dL_law_142 : decode cL_law 142 = .ok (.iload_n 3, 1) := by decide +kernel
theorem dL_law_143 : decode cL_law 143 = .ok (.iconst 1, 1) := by decide +kernel
theorem dL_law_144 : decode cL_law 144 = .ok (.iadd, 1) := by decide +kernel
theorem dL_law_145 : decode cL_law 145 = .ok (.iaload, 1) := by decide +kernel
theorem dL_law_146 : decode cL_law 146 = .ok (.invokevirtual 13, 3) := by decide +kernel
theorem dL_law_149 : decode cL_law 149 = .ok (.aload_n 2, 1) := by decide +kernel
theorem dL_law_150 : decode cL_law 150 = .ok (.aload_n 0, 1) := by decide +kernel
theorem dL_law_151 : decode cL_law 151 = .ok (.iload_n 3, 1) := by decide +kernel
theorem dL_law_152 : decode cL_law 152 = .ok (.iconst 1, 1) := by decide +kernel
theorem dL_law_153 : decode cL_law 153 = .ok (.iadd, 1) := by decide +kernel
theorem dL_law_154 : decode cL_law 154 = .ok (.iaload, 1) := by decide +kernel
theorem dL_law_155 : decode cL_law 155 = .ok (.invokevirtual 17, 3) := by decide +kernel
theorem dL_law_158 : decode cL_law 158 = .ok (.if_icmp .eq 732, 3) := by decide +kernel
theorem dL_law_161 : decode cL_law 161 = .ok (.iconst 0, 1) := by decide +kernel
theorem dL_law_162 : decode cL_law 162 = .ok (.ireturn, 1) := by decide +kernel
theorem dL_law_163 : decode cL_law 163 = .ok (.aload_n 1, 1) := by decide +kernel
theorem dL_law_164 : decode cL_law 164 = .ok (.aload_n 0, 1) := by decide +kernel
theorem dL_law_165 : decode cL_law 165 = .ok (.iload_n 3, 1) := by decide +kernel
theorem dL_law_166 : decode cL_law 166 = .ok (.iconst 1, 1) := by decide +kernel
theorem dL_law_167 : decode cL_law 167 = .ok (.iadd, 1) := by decide +kernel
theorem dL_law_168 : decode cL_law 168 = .ok (.iaload, 1) := by decide +kernel
theorem dL_law_169 : decode cL_law 169 = .ok (.aload_n 0, 1) := by decide +kernel
theorem dL_law_170 : decode cL_law 170 = .ok (.iload_n 3, 1) := by decide +kernel
theorem dL_law_171 : decode cL_law 171 = .ok (.iconst 2, 1) := by decide +kernel
theorem dL_law_172 : decode cL_law 172 = .ok (.iadd, 1) := by decide +kernel
theorem dL_law_173 : decode cL_law 173 = .ok (.iaload, 1) := by decide +kernel
theorem dL_law_174 : decode cL_law 174 = .ok (.invokevirtual 18, 3) := by decide +kernel
theorem dL_law_177 : decode cL_law 177 = .ok (.aload_n 2, 1) := by decide +kernel
theorem dL_law_178 : decode cL_law 178 = .ok (.aload_n 0, 1) := by decide +kernel
theorem dL_law_179 : decode cL_law 179 = .ok (.iload_n 3, 1) := by decide +kernel
theorem dL_law_180 : decode cL_law 180 = .ok (.iconst 1, 1) := by decide +kernel
theorem dL_law_181 : decode cL_law 181 = .ok (.iadd, 1) := by decide +kernel
theorem dL_law_182 : decode cL_law 182 = .ok (.iaload, 1) := by decide +kernel
theorem dL_law_183 : decode cL_law 183 = .ok (.aload_n 0, 1) := by decide +kernel
theorem dL_law_184 : decode cL_law 184 = .ok (.iload_n 3, 1) := by decide +kernel
theorem dL_law_185 : decode cL_law 185 = .ok (.iconst 2, 1) := by decide +kernel
theorem dL_law_186 : decode cL_law 186 = .ok (.iadd, 1) := by decide +kernel
theorem dL_law_187 : decode cL_law 187 = .ok (.iaload, 1) := by decide +kernel
theorem dL_law_188 : decode cL_law 188 = .ok (.invokevirtual 22, 3) := by decide +kernel
theorem dL_law_191 : decode cL_law 191 = .ok (.if_icmp .eq 699, 3) := by decide +kernel
theorem dL_law_194 : decode cL_law 194 = .ok (.iconst 0, 1) := by decide +kernel
theorem dL_law_195 : decode cL_law 195 = .ok (.ireturn, 1) := by decide +kernel
theorem dL_law_196 : decode cL_law 196 = .ok (.aload_n 1, 1) := by decide +kernel
theorem dL_law_197 : decode cL_law 197 = .ok (.aload_n 0, 1) := by decide +kernel
theorem dL_law_198 : decode cL_law 198 = .ok (.iload_n 3, 1) := by decide +kernel
theorem dL_law_199 : decode cL_law 199 = .ok (.iconst 1, 1) := by decide +kernel
theorem dL_law_200 : decode cL_law 200 = .ok (.iadd, 1) := by decide +kernel
theorem dL_law_201 : decode cL_law 201 = .ok (.iaload, 1) := by decide +kernel
theorem dL_law_202 : decode cL_law 202 = .ok (.aload_n 0, 1) := by decide +kernel
theorem dL_law_203 : decode cL_law 203 = .ok (.iload_n 3, 1) := by decide +kernel
theorem dL_law_204 : decode cL_law 204 = .ok (.iconst 2, 1) := by decide +kernel
theorem dL_law_205 : decode cL_law 205 = .ok (.iadd, 1) := by decide +kernel
theorem dL_law_206 : decode cL_law 206 = .ok (.iaload, 1) := by decide +kernel
theorem dL_law_207 : decode cL_law 207 = .ok (.invokevirtual 23, 3) := by decide +kernel
theorem dL_law_210 : decode cL_law 210 = .ok (.aload_n 2, 1) := by decide +kernel
theorem dL_law_211 : decode cL_law 211 = .ok (.aload_n 0, 1) := by decide +kernel
theorem dL_law_212 : decode cL_law 212 = .ok (.iload_n 3, 1) := by decide +kernel
theorem dL_law_213 : decode cL_law 213 = .ok (.iconst 1, 1) := by decide +kernel
theorem dL_law_214 : decode cL_law 214 = .ok (.iadd, 1) := by decide +kernel
theorem dL_law_215 : decode cL_law 215 = .ok (.iaload, 1) := by decide +kernel
theorem dL_law_216 : decode cL_law 216 = .ok (.aload_n 0, 1) := by decide +kernel
theorem dL_law_217 : decode cL_law 217 = .ok (.iload_n 3, 1) := by decide +kernel
theorem dL_law_218 : decode cL_law 218 = .ok (.iconst 2, 1) := by decide +kernel
theorem dL_law_219 : decode cL_law 219 = .ok (.iadd, 1) := by decide +kernel
theorem dL_law_220 : decode cL_law 220 = .ok (.iaload, 1) := by decide +kernel
theorem dL_law_221 : decode cL_law 221 = .ok (.invokevirtual 26, 3) := by decide +kernel
theorem dL_law_224 : decode cL_law 224 = .ok (.if_icmp .eq 666, 3) := by decide +kernel
theorem dL_law_227 : decode cL_law 227 = .ok (.iconst 0, 1) := by decide +kernel
theorem dL_law_228 : decode cL_law 228 = .ok (.ireturn, 1) := by decide +kernel
theorem dL_law_229 : decode cL_law 229 = .ok (.aload_n 1, 1) := by decide +kernel
theorem dL_law_230 : decode cL_law 230 = .ok (.aload_n 0, 1) := by decide +kernel
theorem dL_law_231 : decode cL_law 231 = .ok (.iload_n 3, 1) := by decide +kernel
theorem dL_law_232 : decode cL_law 232 = .ok (.iconst 1, 1) := by decide +kernel
theorem dL_law_233 : decode cL_law 233 = .ok (.iadd, 1) := by decide +kernel
theorem dL_law_234 : decode cL_law 234 = .ok (.iaload, 1) := by decide +kernel
theorem dL_law_235 : decode cL_law 235 = .ok (.aload_n 0, 1) := by decide +kernel
theorem dL_law_236 : decode cL_law 236 = .ok (.iload_n 3, 1) := by decide +kernel
theorem dL_law_237 : decode cL_law 237 = .ok (.iconst 2, 1) := by decide +kernel
theorem dL_law_238 : decode cL_law 238 = .ok (.iadd, 1) := by decide +kernel
theorem dL_law_239 : decode cL_law 239 = .ok (.iaload, 1) := by decide +kernel
theorem dL_law_240 : decode cL_law 240 = .ok (.invokevirtual 27, 3) := by decide +kernel
theorem dL_law_243 : decode cL_law 243 = .ok (.aload_n 2, 1) := by decide +kernel
theorem dL_law_244 : decode cL_law 244 = .ok (.aload_n 0, 1) := by decide +kernel
theorem dL_law_245 : decode cL_law 245 = .ok (.iload_n 3, 1) := by decide +kernel
theorem dL_law_246 : decode cL_law 246 = .ok (.iconst 1, 1) := by decide +kernel
theorem dL_law_247 : decode cL_law 247 = .ok (.iadd, 1) := by decide +kernel
theorem dL_law_248 : decode cL_law 248 = .ok (.iaload, 1) := by decide +kernel
theorem dL_law_249 : decode cL_law 249 = .ok (.aload_n 0, 1) := by decide +kernel
theorem dL_law_250 : decode cL_law 250 = .ok (.iload_n 3, 1) := by decide +kernel
theorem dL_law_251 : decode cL_law 251 = .ok (.iconst 2, 1) := by decide +kernel
theorem dL_law_252 : decode cL_law 252 = .ok (.iadd, 1) := by decide +kernel
theorem dL_law_253 : decode cL_law 253 = .ok (.iaload, 1) := by decide +kernel
theorem dL_law_254 : decode cL_law 254 = .ok (.invokevirtual 30, 3) := by decide +kernel
theorem dL_law_257 : decode cL_law 257 = .ok (.if_icmp .eq 633, 3) := by decide +kernel
theorem dL_law_260 : decode cL_law 260 = .ok (.iconst 0, 1) := by decide +kernel
theorem dL_law_261 : decode cL_law 261 = .ok (.ireturn, 1) := by decide +kernel
theorem dL_law_262 : decode cL_law 262 = .ok (.aload_n 1, 1) := by decide +kernel
theorem dL_law_263 : decode cL_law 263 = .ok (.aload_n 0, 1) := by decide +kernel
theorem dL_law_264 : decode cL_law 264 = .ok (.iload_n 3, 1) := by decide +kernel
theorem dL_law_265 : decode cL_law 265 = .ok (.iconst 1, 1) := by decide +kernel
theorem dL_law_266 : decode cL_law 266 = .ok (.iadd, 1) := by decide +kernel
theorem dL_law_267 : decode cL_law 267 = .ok (.iaload, 1) := by decide +kernel
theorem dL_law_268 : decode cL_law 268 = .ok (.aload_n 0, 1) := by decide +kernel
theorem dL_law_269 : decode cL_law 269 = .ok (.iload_n 3, 1) := by decide +kernel
theorem dL_law_270 : decode cL_law 270 = .ok (.iconst 2, 1) := by decide +kernel
theorem dL_law_271 : decode cL_law 271 = .ok (.iadd, 1) := by decide +kernel
theorem dL_law_272 : decode cL_law 272 = .ok (.iaload, 1) := by decide +kernel
theorem dL_law_273 : decode cL_law 273 = .ok (.aload_n 0, 1) := by decide +kernel
theorem dL_law_274 : decode cL_law 274 = .ok (.iload_n 3, 1) := by decide +kernel
theorem dL_law_275 : decode cL_law 275 = .ok (.iconst 3, 1) := by decide +kernel
theorem dL_law_276 : decode cL_law 276 = .ok (.iadd, 1) := by decide +kernel
theorem dL_law_277 : decode cL_law 277 = .ok (.iaload, 1) := by decide +kernel
theorem dL_law_278 : decode cL_law 278 = .ok (.aload_n 0, 1) := by decide +kernel
theorem dL_law_279 : decode cL_law 279 = .ok (.iload_n 3, 1) := by decide +kernel
theorem dL_law_280 : decode cL_law 280 = .ok (.iconst 4, 1) := by decide +kernel
theorem dL_law_281 : decode cL_law 281 = .ok (.iadd, 1) := by decide +kernel
theorem dL_law_282 : decode cL_law 282 = .ok (.iaload, 1) := by decide +kernel
theorem dL_law_283 : decode cL_law 283 = .ok (.aload_n 0, 1) := by decide +kernel
theorem dL_law_284 : decode cL_law 284 = .ok (.iload_n 3, 1) := by decide +kernel
theorem dL_law_285 : decode cL_law 285 = .ok (.iconst 5, 1) := by decide +kernel
theorem dL_law_286 : decode cL_law 286 = .ok (.iadd, 1) := by decide +kernel
theorem dL_law_287 : decode cL_law 287 = .ok (.iaload, 1) := by decide +kernel
theorem dL_law_288 : decode cL_law 288 = .ok (.invokevirtual 31, 3) := by decide +kernel
theorem dL_law_291 : decode cL_law 291 = .ok (.aload_n 2, 1) := by decide +kernel
theorem dL_law_292 : decode cL_law 292 = .ok (.aload_n 0, 1) := by decide +kernel
theorem dL_law_293 : decode cL_law 293 = .ok (.iload_n 3, 1) := by decide +kernel
theorem dL_law_294 : decode cL_law 294 = .ok (.iconst 1, 1) := by decide +kernel
theorem dL_law_295 : decode cL_law 295 = .ok (.iadd, 1) := by decide +kernel
theorem dL_law_296 : decode cL_law 296 = .ok (.iaload, 1) := by decide +kernel
theorem dL_law_297 : decode cL_law 297 = .ok (.aload_n 0, 1) := by decide +kernel
theorem dL_law_298 : decode cL_law 298 = .ok (.iload_n 3, 1) := by decide +kernel
theorem dL_law_299 : decode cL_law 299 = .ok (.iconst 2, 1) := by decide +kernel
theorem dL_law_300 : decode cL_law 300 = .ok (.iadd, 1) := by decide +kernel
theorem dL_law_301 : decode cL_law 301 = .ok (.iaload, 1) := by decide +kernel
theorem dL_law_302 : decode cL_law 302 = .ok (.aload_n 0, 1) := by decide +kernel
theorem dL_law_303 : decode cL_law 303 = .ok (.iload_n 3, 1) := by decide +kernel
theorem dL_law_304 : decode cL_law 304 = .ok (.iconst 3, 1) := by decide +kernel
theorem dL_law_305 : decode cL_law 305 = .ok (.iadd, 1) := by decide +kernel
theorem dL_law_306 : decode cL_law 306 = .ok (.iaload, 1) := by decide +kernel
theorem dL_law_307 : decode cL_law 307 = .ok (.aload_n 0, 1) := by decide +kernel
theorem dL_law_308 : decode cL_law 308 = .ok (.iload_n 3, 1) := by decide +kernel
theorem dL_law_309 : decode cL_law 309 = .ok (.iconst 4, 1) := by decide +kernel
theorem dL_law_310 : decode cL_law 310 = .ok (.iadd, 1) := by decide +kernel
theorem dL_law_311 : decode cL_law 311 = .ok (.iaload, 1) := by decide +kernel
theorem dL_law_312 : decode cL_law 312 = .ok (.aload_n 0, 1) := by decide +kernel
theorem dL_law_313 : decode cL_law 313 = .ok (.iload_n 3, 1) := by decide +kernel
theorem dL_law_314 : decode cL_law 314 = .ok (.iconst 5, 1) := by decide +kernel
theorem dL_law_315 : decode cL_law 315 = .ok (.iadd, 1) := by decide +kernel
theorem dL_law_316 : decode cL_law 316 = .ok (.iaload, 1) := by decide +kernel
theorem dL_law_317 : decode cL_law 317 = .ok (.invokevirtual 35, 3) := by decide +kernel
theorem dL_law_320 : decode cL_law 320 = .ok (.if_icmp .eq 570, 3) := by decide +kernel
theorem dL_law_323 : decode cL_law 323 = .ok (.iconst 0, 1) := by decide +kernel
theorem dL_law_324 : decode cL_law 324 = .ok (.ireturn, 1) := by decide +kernel
theorem dL_law_325 : decode cL_law 325 = .ok (.aload_n 1, 1) := by decide +kernel
theorem dL_law_326 : decode cL_law 326 = .ok (.aload_n 0, 1) := by decide +kernel
theorem dL_law_327 : decode cL_law 327 = .ok (.iload_n 3, 1) := by decide +kernel
theorem dL_law_328 : decode cL_law 328 = .ok (.iconst 1, 1) := by decide +kernel
theorem dL_law_329 : decode cL_law 329 = .ok (.iadd, 1) := by decide +kernel
theorem dL_law_330 : decode cL_law 330 = .ok (.iaload, 1) := by decide +kernel
theorem dL_law_331 : decode cL_law 331 = .ok (.invokevirtual 36, 3) := by decide +kernel
theorem dL_law_334 : decode cL_law 334 = .ok (.aload_n 2, 1) := by decide +kernel
theorem dL_law_335 : decode cL_law 335 = .ok (.aload_n 0, 1) := by decide +kernel
theorem dL_law_336 : decode cL_law 336 = .ok (.iload_n 3, 1) := by decide +kernel
theorem dL_law_337 : decode cL_law 337 = .ok (.iconst 1, 1) := by decide +kernel
theorem dL_law_338 : decode cL_law 338 = .ok (.iadd, 1) := by decide +kernel
theorem dL_law_339 : decode cL_law 339 = .ok (.iaload, 1) := by decide +kernel
theorem dL_law_340 : decode cL_law 340 = .ok (.invokevirtual 39, 3) := by decide +kernel
theorem dL_law_343 : decode cL_law 343 = .ok (.if_icmp .eq 547, 3) := by decide +kernel
theorem dL_law_346 : decode cL_law 346 = .ok (.iconst 0, 1) := by decide +kernel
theorem dL_law_347 : decode cL_law 347 = .ok (.ireturn, 1) := by decide +kernel
theorem dL_law_348 : decode cL_law 348 = .ok (.aload_n 1, 1) := by decide +kernel
theorem dL_law_349 : decode cL_law 349 = .ok (.aload_n 0, 1) := by decide +kernel
theorem dL_law_350 : decode cL_law 350 = .ok (.iload_n 3, 1) := by decide +kernel
theorem dL_law_351 : decode cL_law 351 = .ok (.iconst 1, 1) := by decide +kernel
theorem dL_law_352 : decode cL_law 352 = .ok (.iadd, 1) := by decide +kernel
theorem dL_law_353 : decode cL_law 353 = .ok (.iaload, 1) := by decide +kernel
theorem dL_law_354 : decode cL_law 354 = .ok (.aload_n 0, 1) := by decide +kernel
theorem dL_law_355 : decode cL_law 355 = .ok (.iload_n 3, 1) := by decide +kernel
theorem dL_law_356 : decode cL_law 356 = .ok (.iconst 2, 1) := by decide +kernel
theorem dL_law_357 : decode cL_law 357 = .ok (.iadd, 1) := by decide +kernel
theorem dL_law_358 : decode cL_law 358 = .ok (.iaload, 1) := by decide +kernel
theorem dL_law_359 : decode cL_law 359 = .ok (.invokevirtual 40, 3) := by decide +kernel
theorem dL_law_362 : decode cL_law 362 = .ok (.aload_n 2, 1) := by decide +kernel
theorem dL_law_363 : decode cL_law 363 = .ok (.aload_n 0, 1) := by decide +kernel
theorem dL_law_364 : decode cL_law 364 = .ok (.iload_n 3, 1) := by decide +kernel
theorem dL_law_365 : decode cL_law 365 = .ok (.iconst 1, 1) := by decide +kernel
theorem dL_law_366 : decode cL_law 366 = .ok (.iadd, 1) := by decide +kernel
theorem dL_law_367 : decode cL_law 367 = .ok (.iaload, 1) := by decide +kernel
theorem dL_law_368 : decode cL_law 368 = .ok (.aload_n 0, 1) := by decide +kernel
theorem dL_law_369 : decode cL_law 369 = .ok (.iload_n 3, 1) := by decide +kernel
theorem dL_law_370 : decode cL_law 370 = .ok (.iconst 2, 1) := by decide +kernel
theorem dL_law_371 : decode cL_law 371 = .ok (.iadd, 1) := by decide +kernel
theorem dL_law_372 : decode cL_law 372 = .ok (.iaload, 1) := by decide +kernel
theorem dL_law_373 : decode cL_law 373 = .ok (.invokevirtual 43, 3) := by decide +kernel
theorem dL_law_376 : decode cL_law 376 = .ok (.if_icmp .eq 514, 3) := by decide +kernel
theorem dL_law_379 : decode cL_law 379 = .ok (.iconst 0, 1) := by decide +kernel
theorem dL_law_380 : decode cL_law 380 = .ok (.ireturn, 1) := by decide +kernel
theorem dL_law_381 : decode cL_law 381 = .ok (.aload_n 1, 1) := by decide +kernel
theorem dL_law_382 : decode cL_law 382 = .ok (.aload_n 0, 1) := by decide +kernel
theorem dL_law_383 : decode cL_law 383 = .ok (.iload_n 3, 1) := by decide +kernel
theorem dL_law_384 : decode cL_law 384 = .ok (.iconst 1, 1) := by decide +kernel
theorem dL_law_385 : decode cL_law 385 = .ok (.iadd, 1) := by decide +kernel
theorem dL_law_386 : decode cL_law 386 = .ok (.iaload, 1) := by decide +kernel
theorem dL_law_387 : decode cL_law 387 = .ok (.aload_n 0, 1) := by decide +kernel
theorem dL_law_388 : decode cL_law 388 = .ok (.iload_n 3, 1) := by decide +kernel
theorem dL_law_389 : decode cL_law 389 = .ok (.iconst 2, 1) := by decide +kernel
theorem dL_law_390 : decode cL_law 390 = .ok (.iadd, 1) := by decide +kernel
theorem dL_law_391 : decode cL_law 391 = .ok (.iaload, 1) := by decide +kernel
theorem dL_law_392 : decode cL_law 392 = .ok (.aload_n 0, 1) := by decide +kernel
theorem dL_law_393 : decode cL_law 393 = .ok (.iload_n 3, 1) := by decide +kernel
theorem dL_law_394 : decode cL_law 394 = .ok (.iconst 3, 1) := by decide +kernel
theorem dL_law_395 : decode cL_law 395 = .ok (.iadd, 1) := by decide +kernel
theorem dL_law_396 : decode cL_law 396 = .ok (.iaload, 1) := by decide +kernel
theorem dL_law_397 : decode cL_law 397 = .ok (.aload_n 0, 1) := by decide +kernel
theorem dL_law_398 : decode cL_law 398 = .ok (.iload_n 3, 1) := by decide +kernel
theorem dL_law_399 : decode cL_law 399 = .ok (.iconst 4, 1) := by decide +kernel
theorem dL_law_400 : decode cL_law 400 = .ok (.iadd, 1) := by decide +kernel
theorem dL_law_401 : decode cL_law 401 = .ok (.iaload, 1) := by decide +kernel
theorem dL_law_402 : decode cL_law 402 = .ok (.invokevirtual 44, 3) := by decide +kernel
theorem dL_law_405 : decode cL_law 405 = .ok (.aload_n 2, 1) := by decide +kernel
theorem dL_law_406 : decode cL_law 406 = .ok (.aload_n 0, 1) := by decide +kernel
theorem dL_law_407 : decode cL_law 407 = .ok (.iload_n 3, 1) := by decide +kernel
theorem dL_law_408 : decode cL_law 408 = .ok (.iconst 1, 1) := by decide +kernel
theorem dL_law_409 : decode cL_law 409 = .ok (.iadd, 1) := by decide +kernel
theorem dL_law_410 : decode cL_law 410 = .ok (.iaload, 1) := by decide +kernel
theorem dL_law_411 : decode cL_law 411 = .ok (.aload_n 0, 1) := by decide +kernel
theorem dL_law_412 : decode cL_law 412 = .ok (.iload_n 3, 1) := by decide +kernel
theorem dL_law_413 : decode cL_law 413 = .ok (.iconst 2, 1) := by decide +kernel
theorem dL_law_414 : decode cL_law 414 = .ok (.iadd, 1) := by decide +kernel
theorem dL_law_415 : decode cL_law 415 = .ok (.iaload, 1) := by decide +kernel
theorem dL_law_416 : decode cL_law 416 = .ok (.aload_n 0, 1) := by decide +kernel
theorem dL_law_417 : decode cL_law 417 = .ok (.iload_n 3, 1) := by decide +kernel
theorem dL_law_418 : decode cL_law 418 = .ok (.iconst 3, 1) := by decide +kernel
theorem dL_law_419 : decode cL_law 419 = .ok (.iadd, 1) := by decide +kernel
theorem dL_law_420 : decode cL_law 420 = .ok (.iaload, 1) := by decide +kernel
theorem dL_law_421 : decode cL_law 421 = .ok (.aload_n 0, 1) := by decide +kernel
theorem dL_law_422 : decode cL_law 422 = .ok (.iload_n 3, 1) := by decide +kernel
theorem dL_law_423 : decode cL_law 423 = .ok (.iconst 4, 1) := by decide +kernel
theorem dL_law_424 : decode cL_law 424 = .ok (.iadd, 1) := by decide +kernel
theorem dL_law_425 : decode cL_law 425 = .ok (.iaload, 1) := by decide +kernel
theorem dL_law_426 : decode cL_law 426 = .ok (.invokevirtual 48, 3) := by decide +kernel
theorem dL_law_429 : decode cL_law 429 = .ok (.if_icmp .eq 461, 3) := by decide +kernel
theorem dL_law_432 : decode cL_law 432 = .ok (.iconst 0, 1) := by decide +kernel
theorem dL_law_433 : decode cL_law 433 = .ok (.ireturn, 1) := by decide +kernel
theorem dL_law_434 : decode cL_law 434 = .ok (.aload_n 1, 1) := by decide +kernel
theorem dL_law_435 : decode cL_law 435 = .ok (.aload_n 0, 1) := by decide +kernel
theorem dL_law_436 : decode cL_law 436 = .ok (.iload_n 3, 1) := by decide +kernel
theorem dL_law_437 : decode cL_law 437 = .ok (.iconst 1, 1) := by decide +kernel
theorem dL_law_438 : decode cL_law 438 = .ok (.iadd, 1) := by decide +kernel
theorem dL_law_439 : decode cL_law 439 = .ok (.iaload, 1) := by decide +kernel
theorem dL_law_440 : decode cL_law 440 = .ok (.aload_n 0, 1) := by decide +kernel
theorem dL_law_441 : decode cL_law 441 = .ok (.iload_n 3, 1) := by decide +kernel
theorem dL_law_442 : decode cL_law 442 = .ok (.iconst 2, 1) := by decide +kernel
theorem dL_law_443 : decode cL_law 443 = .ok (.iadd, 1) := by decide +kernel
theorem dL_law_444 : decode cL_law 444 = .ok (.iaload, 1) := by decide +kernel
theorem dL_law_445 : decode cL_law 445 = .ok (.invokevirtual 49, 3) := by decide +kernel
theorem dL_law_448 : decode cL_law 448 = .ok (.aload_n 2, 1) := by decide +kernel
theorem dL_law_449 : decode cL_law 449 = .ok (.aload_n 0, 1) := by decide +kernel
theorem dL_law_450 : decode cL_law 450 = .ok (.iload_n 3, 1) := by decide +kernel
theorem dL_law_451 : decode cL_law 451 = .ok (.iconst 1, 1) := by decide +kernel
theorem dL_law_452 : decode cL_law 452 = .ok (.iadd, 1) := by decide +kernel
theorem dL_law_453 : decode cL_law 453 = .ok (.iaload, 1) := by decide +kernel
theorem dL_law_454 : decode cL_law 454 = .ok (.aload_n 0, 1) := by decide +kernel
theorem dL_law_455 : decode cL_law 455 = .ok (.iload_n 3, 1) := by decide +kernel
theorem dL_law_456 : decode cL_law 456 = .ok (.iconst 2, 1) := by decide +kernel
theorem dL_law_457 : decode cL_law 457 = .ok (.iadd, 1) := by decide +kernel
theorem dL_law_458 : decode cL_law 458 = .ok (.iaload, 1) := by decide +kernel
theorem dL_law_459 : decode cL_law 459 = .ok (.invokevirtual 53, 3) := by decide +kernel
theorem dL_law_462 : decode cL_law 462 = .ok (.lcmp, 1) := by decide +kernel
theorem dL_law_463 : decode cL_law 463 = .ok (.ifCond .eq 427, 3) := by decide +kernel
theorem dL_law_466 : decode cL_law 466 = .ok (.iconst 0, 1) := by decide +kernel
theorem dL_law_467 : decode cL_law 467 = .ok (.ireturn, 1) := by decide +kernel
theorem dL_law_468 : decode cL_law 468 = .ok (.aload_n 1, 1) := by decide +kernel
theorem dL_law_469 : decode cL_law 469 = .ok (.aload_n 0, 1) := by decide +kernel
theorem dL_law_470 : decode cL_law 470 = .ok (.iload_n 3, 1) := by decide +kernel
theorem dL_law_471 : decode cL_law 471 = .ok (.iconst 1, 1) := by decide +kernel
theorem dL_law_472 : decode cL_law 472 = .ok (.iadd, 1) := by decide +kernel
theorem dL_law_473 : decode cL_law 473 = .ok (.iaload, 1) := by decide +kernel
theorem dL_law_474 : decode cL_law 474 = .ok (.invokevirtual 54, 3) := by decide +kernel
theorem dL_law_477 : decode cL_law 477 = .ok (.aload_n 2, 1) := by decide +kernel
theorem dL_law_478 : decode cL_law 478 = .ok (.aload_n 0, 1) := by decide +kernel
theorem dL_law_479 : decode cL_law 479 = .ok (.iload_n 3, 1) := by decide +kernel
theorem dL_law_480 : decode cL_law 480 = .ok (.iconst 1, 1) := by decide +kernel
theorem dL_law_481 : decode cL_law 481 = .ok (.iadd, 1) := by decide +kernel
theorem dL_law_482 : decode cL_law 482 = .ok (.iaload, 1) := by decide +kernel
theorem dL_law_483 : decode cL_law 483 = .ok (.invokevirtual 57, 3) := by decide +kernel
theorem dL_law_486 : decode cL_law 486 = .ok (.if_icmp .eq 404, 3) := by decide +kernel
theorem dL_law_489 : decode cL_law 489 = .ok (.iconst 0, 1) := by decide +kernel
theorem dL_law_490 : decode cL_law 490 = .ok (.ireturn, 1) := by decide +kernel
theorem dL_law_491 : decode cL_law 491 = .ok (.aload_n 1, 1) := by decide +kernel
theorem dL_law_492 : decode cL_law 492 = .ok (.aload_n 0, 1) := by decide +kernel
theorem dL_law_493 : decode cL_law 493 = .ok (.iload_n 3, 1) := by decide +kernel
theorem dL_law_494 : decode cL_law 494 = .ok (.iconst 1, 1) := by decide +kernel
theorem dL_law_495 : decode cL_law 495 = .ok (.iadd, 1) := by decide +kernel
theorem dL_law_496 : decode cL_law 496 = .ok (.iaload, 1) := by decide +kernel
theorem dL_law_497 : decode cL_law 497 = .ok (.aload_n 0, 1) := by decide +kernel
theorem dL_law_498 : decode cL_law 498 = .ok (.iload_n 3, 1) := by decide +kernel
theorem dL_law_499 : decode cL_law 499 = .ok (.iconst 2, 1) := by decide +kernel
theorem dL_law_500 : decode cL_law 500 = .ok (.iadd, 1) := by decide +kernel
theorem dL_law_501 : decode cL_law 501 = .ok (.iaload, 1) := by decide +kernel
theorem dL_law_502 : decode cL_law 502 = .ok (.invokevirtual 58, 3) := by decide +kernel
theorem dL_law_505 : decode cL_law 505 = .ok (.aload_n 2, 1) := by decide +kernel
theorem dL_law_506 : decode cL_law 506 = .ok (.aload_n 0, 1) := by decide +kernel
theorem dL_law_507 : decode cL_law 507 = .ok (.iload_n 3, 1) := by decide +kernel
theorem dL_law_508 : decode cL_law 508 = .ok (.iconst 1, 1) := by decide +kernel
theorem dL_law_509 : decode cL_law 509 = .ok (.iadd, 1) := by decide +kernel
theorem dL_law_510 : decode cL_law 510 = .ok (.iaload, 1) := by decide +kernel
theorem dL_law_511 : decode cL_law 511 = .ok (.aload_n 0, 1) := by decide +kernel
theorem dL_law_512 : decode cL_law 512 = .ok (.iload_n 3, 1) := by decide +kernel
theorem dL_law_513 : decode cL_law 513 = .ok (.iconst 2, 1) := by decide +kernel
theorem dL_law_514 : decode cL_law 514 = .ok (.iadd, 1) := by decide +kernel
theorem dL_law_515 : decode cL_law 515 = .ok (.iaload, 1) := by decide +kernel
theorem dL_law_516 : decode cL_law 516 = .ok (.invokevirtual 61, 3) := by decide +kernel
theorem dL_law_519 : decode cL_law 519 = .ok (.if_icmp .eq 371, 3) := by decide +kernel
theorem dL_law_522 : decode cL_law 522 = .ok (.iconst 0, 1) := by decide +kernel
theorem dL_law_523 : decode cL_law 523 = .ok (.ireturn, 1) := by decide +kernel
theorem dL_law_524 : decode cL_law 524 = .ok (.aload_n 1, 1) := by decide +kernel
theorem dL_law_525 : decode cL_law 525 = .ok (.aload_n 0, 1) := by decide +kernel
theorem dL_law_526 : decode cL_law 526 = .ok (.iload_n 3, 1) := by decide +kernel
theorem dL_law_527 : decode cL_law 527 = .ok (.iconst 1, 1) := by decide +kernel
theorem dL_law_528 : decode cL_law 528 = .ok (.iadd, 1) := by decide +kernel
theorem dL_law_529 : decode cL_law 529 = .ok (.iaload, 1) := by decide +kernel
theorem dL_law_530 : decode cL_law 530 = .ok (.aload_n 0, 1) := by decide +kernel
theorem dL_law_531 : decode cL_law 531 = .ok (.iload_n 3, 1) := by decide +kernel
theorem dL_law_532 : decode cL_law 532 = .ok (.iconst 2, 1) := by decide +kernel
theorem dL_law_533 : decode cL_law 533 = .ok (.iadd, 1) := by decide +kernel
theorem dL_law_534 : decode cL_law 534 = .ok (.iaload, 1) := by decide +kernel
theorem dL_law_535 : decode cL_law 535 = .ok (.invokevirtual 62, 3) := by decide +kernel
theorem dL_law_538 : decode cL_law 538 = .ok (.aload_n 2, 1) := by decide +kernel
theorem dL_law_539 : decode cL_law 539 = .ok (.aload_n 0, 1) := by decide +kernel
theorem dL_law_540 : decode cL_law 540 = .ok (.iload_n 3, 1) := by decide +kernel
theorem dL_law_541 : decode cL_law 541 = .ok (.iconst 1, 1) := by decide +kernel
theorem dL_law_542 : decode cL_law 542 = .ok (.iadd, 1) := by decide +kernel
theorem dL_law_543 : decode cL_law 543 = .ok (.iaload, 1) := by decide +kernel
theorem dL_law_544 : decode cL_law 544 = .ok (.aload_n 0, 1) := by decide +kernel
theorem dL_law_545 : decode cL_law 545 = .ok (.iload_n 3, 1) := by decide +kernel
theorem dL_law_546 : decode cL_law 546 = .ok (.iconst 2, 1) := by decide +kernel
theorem dL_law_547 : decode cL_law 547 = .ok (.iadd, 1) := by decide +kernel
theorem dL_law_548 : decode cL_law 548 = .ok (.iaload, 1) := by decide +kernel
theorem dL_law_549 : decode cL_law 549 = .ok (.invokevirtual 65, 3) := by decide +kernel
theorem dL_law_552 : decode cL_law 552 = .ok (.if_icmp .eq 338, 3) := by decide +kernel
theorem dL_law_555 : decode cL_law 555 = .ok (.iconst 0, 1) := by decide +kernel
theorem dL_law_556 : decode cL_law 556 = .ok (.ireturn, 1) := by decide +kernel
theorem dL_law_557 : decode cL_law 557 = .ok (.aload_n 1, 1) := by decide +kernel
theorem dL_law_558 : decode cL_law 558 = .ok (.aload_n 0, 1) := by decide +kernel
theorem dL_law_559 : decode cL_law 559 = .ok (.iload_n 3, 1) := by decide +kernel
theorem dL_law_560 : decode cL_law 560 = .ok (.iconst 1, 1) := by decide +kernel
theorem dL_law_561 : decode cL_law 561 = .ok (.iadd, 1) := by decide +kernel
theorem dL_law_562 : decode cL_law 562 = .ok (.iaload, 1) := by decide +kernel
theorem dL_law_563 : decode cL_law 563 = .ok (.aload_n 0, 1) := by decide +kernel
theorem dL_law_564 : decode cL_law 564 = .ok (.iload_n 3, 1) := by decide +kernel
theorem dL_law_565 : decode cL_law 565 = .ok (.iconst 2, 1) := by decide +kernel
theorem dL_law_566 : decode cL_law 566 = .ok (.iadd, 1) := by decide +kernel
theorem dL_law_567 : decode cL_law 567 = .ok (.iaload, 1) := by decide +kernel
theorem dL_law_568 : decode cL_law 568 = .ok (.aload_n 0, 1) := by decide +kernel
theorem dL_law_569 : decode cL_law 569 = .ok (.iload_n 3, 1) := by decide +kernel
theorem dL_law_570 : decode cL_law 570 = .ok (.iconst 3, 1) := by decide +kernel
theorem dL_law_571 : decode cL_law 571 = .ok (.iadd, 1) := by decide +kernel
theorem dL_law_572 : decode cL_law 572 = .ok (.iaload, 1) := by decide +kernel
theorem dL_law_573 : decode cL_law 573 = .ok (.invokevirtual 66, 3) := by decide +kernel
theorem dL_law_576 : decode cL_law 576 = .ok (.aload_n 2, 1) := by decide +kernel
theorem dL_law_577 : decode cL_law 577 = .ok (.aload_n 0, 1) := by decide +kernel
theorem dL_law_578 : decode cL_law 578 = .ok (.iload_n 3, 1) := by decide +kernel
theorem dL_law_579 : decode cL_law 579 = .ok (.iconst 1, 1) := by decide +kernel
theorem dL_law_580 : decode cL_law 580 = .ok (.iadd, 1) := by decide +kernel
theorem dL_law_581 : decode cL_law 581 = .ok (.iaload, 1) := by decide +kernel
theorem dL_law_582 : decode cL_law 582 = .ok (.aload_n 0, 1) := by decide +kernel
theorem dL_law_583 : decode cL_law 583 = .ok (.iload_n 3, 1) := by decide +kernel
theorem dL_law_584 : decode cL_law 584 = .ok (.iconst 2, 1) := by decide +kernel
theorem dL_law_585 : decode cL_law 585 = .ok (.iadd, 1) := by decide +kernel
theorem dL_law_586 : decode cL_law 586 = .ok (.iaload, 1) := by decide +kernel
theorem dL_law_587 : decode cL_law 587 = .ok (.aload_n 0, 1) := by decide +kernel
theorem dL_law_588 : decode cL_law 588 = .ok (.iload_n 3, 1) := by decide +kernel
theorem dL_law_589 : decode cL_law 589 = .ok (.iconst 3, 1) := by decide +kernel
theorem dL_law_590 : decode cL_law 590 = .ok (.iadd, 1) := by decide +kernel
theorem dL_law_591 : decode cL_law 591 = .ok (.iaload, 1) := by decide +kernel
theorem dL_law_592 : decode cL_law 592 = .ok (.invokevirtual 70, 3) := by decide +kernel
theorem dL_law_595 : decode cL_law 595 = .ok (.if_icmp .eq 295, 3) := by decide +kernel
theorem dL_law_598 : decode cL_law 598 = .ok (.iconst 0, 1) := by decide +kernel
theorem dL_law_599 : decode cL_law 599 = .ok (.ireturn, 1) := by decide +kernel
theorem dL_law_600 : decode cL_law 600 = .ok (.aload_n 1, 1) := by decide +kernel
theorem dL_law_601 : decode cL_law 601 = .ok (.aload_n 0, 1) := by decide +kernel
theorem dL_law_602 : decode cL_law 602 = .ok (.iload_n 3, 1) := by decide +kernel
theorem dL_law_603 : decode cL_law 603 = .ok (.iconst 1, 1) := by decide +kernel
theorem dL_law_604 : decode cL_law 604 = .ok (.iadd, 1) := by decide +kernel
theorem dL_law_605 : decode cL_law 605 = .ok (.iaload, 1) := by decide +kernel
theorem dL_law_606 : decode cL_law 606 = .ok (.aload_n 0, 1) := by decide +kernel
theorem dL_law_607 : decode cL_law 607 = .ok (.iload_n 3, 1) := by decide +kernel
theorem dL_law_608 : decode cL_law 608 = .ok (.iconst 2, 1) := by decide +kernel
theorem dL_law_609 : decode cL_law 609 = .ok (.iadd, 1) := by decide +kernel
theorem dL_law_610 : decode cL_law 610 = .ok (.iaload, 1) := by decide +kernel
theorem dL_law_611 : decode cL_law 611 = .ok (.invokevirtual 71, 3) := by decide +kernel
theorem dL_law_614 : decode cL_law 614 = .ok (.aload_n 2, 1) := by decide +kernel
theorem dL_law_615 : decode cL_law 615 = .ok (.aload_n 0, 1) := by decide +kernel
theorem dL_law_616 : decode cL_law 616 = .ok (.iload_n 3, 1) := by decide +kernel
theorem dL_law_617 : decode cL_law 617 = .ok (.iconst 1, 1) := by decide +kernel
theorem dL_law_618 : decode cL_law 618 = .ok (.iadd, 1) := by decide +kernel
theorem dL_law_619 : decode cL_law 619 = .ok (.iaload, 1) := by decide +kernel
theorem dL_law_620 : decode cL_law 620 = .ok (.aload_n 0, 1) := by decide +kernel
theorem dL_law_621 : decode cL_law 621 = .ok (.iload_n 3, 1) := by decide +kernel
theorem dL_law_622 : decode cL_law 622 = .ok (.iconst 2, 1) := by decide +kernel
theorem dL_law_623 : decode cL_law 623 = .ok (.iadd, 1) := by decide +kernel
theorem dL_law_624 : decode cL_law 624 = .ok (.iaload, 1) := by decide +kernel
theorem dL_law_625 : decode cL_law 625 = .ok (.invokevirtual 74, 3) := by decide +kernel
theorem dL_law_628 : decode cL_law 628 = .ok (.if_icmp .eq 262, 3) := by decide +kernel
theorem dL_law_631 : decode cL_law 631 = .ok (.iconst 0, 1) := by decide +kernel
theorem dL_law_632 : decode cL_law 632 = .ok (.ireturn, 1) := by decide +kernel
theorem dL_law_633 : decode cL_law 633 = .ok (.aload_n 1, 1) := by decide +kernel
theorem dL_law_634 : decode cL_law 634 = .ok (.aload_n 0, 1) := by decide +kernel
theorem dL_law_635 : decode cL_law 635 = .ok (.iload_n 3, 1) := by decide +kernel
theorem dL_law_636 : decode cL_law 636 = .ok (.iconst 1, 1) := by decide +kernel
theorem dL_law_637 : decode cL_law 637 = .ok (.iadd, 1) := by decide +kernel
theorem dL_law_638 : decode cL_law 638 = .ok (.iaload, 1) := by decide +kernel
theorem dL_law_639 : decode cL_law 639 = .ok (.aload_n 0, 1) := by decide +kernel
theorem dL_law_640 : decode cL_law 640 = .ok (.iload_n 3, 1) := by decide +kernel
theorem dL_law_641 : decode cL_law 641 = .ok (.iconst 2, 1) := by decide +kernel
theorem dL_law_642 : decode cL_law 642 = .ok (.iadd, 1) := by decide +kernel
theorem dL_law_643 : decode cL_law 643 = .ok (.iaload, 1) := by decide +kernel
theorem dL_law_644 : decode cL_law 644 = .ok (.aload_n 0, 1) := by decide +kernel
theorem dL_law_645 : decode cL_law 645 = .ok (.iload_n 3, 1) := by decide +kernel
theorem dL_law_646 : decode cL_law 646 = .ok (.iconst 3, 1) := by decide +kernel
theorem dL_law_647 : decode cL_law 647 = .ok (.iadd, 1) := by decide +kernel
theorem dL_law_648 : decode cL_law 648 = .ok (.iaload, 1) := by decide +kernel
theorem dL_law_649 : decode cL_law 649 = .ok (.aload_n 0, 1) := by decide +kernel
theorem dL_law_650 : decode cL_law 650 = .ok (.iload_n 3, 1) := by decide +kernel
theorem dL_law_651 : decode cL_law 651 = .ok (.iconst 4, 1) := by decide +kernel
theorem dL_law_652 : decode cL_law 652 = .ok (.iadd, 1) := by decide +kernel
theorem dL_law_653 : decode cL_law 653 = .ok (.iaload, 1) := by decide +kernel
theorem dL_law_654 : decode cL_law 654 = .ok (.invokevirtual 75, 3) := by decide +kernel
theorem dL_law_657 : decode cL_law 657 = .ok (.aload_n 2, 1) := by decide +kernel
theorem dL_law_658 : decode cL_law 658 = .ok (.aload_n 0, 1) := by decide +kernel
theorem dL_law_659 : decode cL_law 659 = .ok (.iload_n 3, 1) := by decide +kernel
theorem dL_law_660 : decode cL_law 660 = .ok (.iconst 1, 1) := by decide +kernel
theorem dL_law_661 : decode cL_law 661 = .ok (.iadd, 1) := by decide +kernel
theorem dL_law_662 : decode cL_law 662 = .ok (.iaload, 1) := by decide +kernel
theorem dL_law_663 : decode cL_law 663 = .ok (.aload_n 0, 1) := by decide +kernel
theorem dL_law_664 : decode cL_law 664 = .ok (.iload_n 3, 1) := by decide +kernel
theorem dL_law_665 : decode cL_law 665 = .ok (.iconst 2, 1) := by decide +kernel
theorem dL_law_666 : decode cL_law 666 = .ok (.iadd, 1) := by decide +kernel
theorem dL_law_667 : decode cL_law 667 = .ok (.iaload, 1) := by decide +kernel
theorem dL_law_668 : decode cL_law 668 = .ok (.aload_n 0, 1) := by decide +kernel
theorem dL_law_669 : decode cL_law 669 = .ok (.iload_n 3, 1) := by decide +kernel
theorem dL_law_670 : decode cL_law 670 = .ok (.iconst 3, 1) := by decide +kernel
theorem dL_law_671 : decode cL_law 671 = .ok (.iadd, 1) := by decide +kernel
theorem dL_law_672 : decode cL_law 672 = .ok (.iaload, 1) := by decide +kernel
theorem dL_law_673 : decode cL_law 673 = .ok (.aload_n 0, 1) := by decide +kernel
theorem dL_law_674 : decode cL_law 674 = .ok (.iload_n 3, 1) := by decide +kernel
theorem dL_law_675 : decode cL_law 675 = .ok (.iconst 4, 1) := by decide +kernel
theorem dL_law_676 : decode cL_law 676 = .ok (.iadd, 1) := by decide +kernel
theorem dL_law_677 : decode cL_law 677 = .ok (.iaload, 1) := by decide +kernel
theorem dL_law_678 : decode cL_law 678 = .ok (.invokevirtual 78, 3) := by decide +kernel
theorem dL_law_681 : decode cL_law 681 = .ok (.if_icmp .eq 209, 3) := by decide +kernel
theorem dL_law_684 : decode cL_law 684 = .ok (.iconst 0, 1) := by decide +kernel
theorem dL_law_685 : decode cL_law 685 = .ok (.ireturn, 1) := by decide +kernel
theorem dL_law_686 : decode cL_law 686 = .ok (.aload_n 1, 1) := by decide +kernel
theorem dL_law_687 : decode cL_law 687 = .ok (.aload_n 0, 1) := by decide +kernel
theorem dL_law_688 : decode cL_law 688 = .ok (.iload_n 3, 1) := by decide +kernel
theorem dL_law_689 : decode cL_law 689 = .ok (.iconst 1, 1) := by decide +kernel
theorem dL_law_690 : decode cL_law 690 = .ok (.iadd, 1) := by decide +kernel
theorem dL_law_691 : decode cL_law 691 = .ok (.iaload, 1) := by decide +kernel
theorem dL_law_692 : decode cL_law 692 = .ok (.aload_n 0, 1) := by decide +kernel
theorem dL_law_693 : decode cL_law 693 = .ok (.iload_n 3, 1) := by decide +kernel
theorem dL_law_694 : decode cL_law 694 = .ok (.iconst 2, 1) := by decide +kernel
theorem dL_law_695 : decode cL_law 695 = .ok (.iadd, 1) := by decide +kernel
theorem dL_law_696 : decode cL_law 696 = .ok (.iaload, 1) := by decide +kernel
theorem dL_law_697 : decode cL_law 697 = .ok (.aload_n 0, 1) := by decide +kernel
theorem dL_law_698 : decode cL_law 698 = .ok (.iload_n 3, 1) := by decide +kernel
theorem dL_law_699 : decode cL_law 699 = .ok (.iconst 3, 1) := by decide +kernel
theorem dL_law_700 : decode cL_law 700 = .ok (.iadd, 1) := by decide +kernel
theorem dL_law_701 : decode cL_law 701 = .ok (.iaload, 1) := by decide +kernel
theorem dL_law_702 : decode cL_law 702 = .ok (.aload_n 0, 1) := by decide +kernel
theorem dL_law_703 : decode cL_law 703 = .ok (.iload_n 3, 1) := by decide +kernel
theorem dL_law_704 : decode cL_law 704 = .ok (.iconst 4, 1) := by decide +kernel
theorem dL_law_705 : decode cL_law 705 = .ok (.iadd, 1) := by decide +kernel
theorem dL_law_706 : decode cL_law 706 = .ok (.iaload, 1) := by decide +kernel
theorem dL_law_707 : decode cL_law 707 = .ok (.invokevirtual 79, 3) := by decide +kernel
theorem dL_law_710 : decode cL_law 710 = .ok (.aload_n 2, 1) := by decide +kernel
theorem dL_law_711 : decode cL_law 711 = .ok (.aload_n 0, 1) := by decide +kernel
theorem dL_law_712 : decode cL_law 712 = .ok (.iload_n 3, 1) := by decide +kernel
theorem dL_law_713 : decode cL_law 713 = .ok (.iconst 1, 1) := by decide +kernel
theorem dL_law_714 : decode cL_law 714 = .ok (.iadd, 1) := by decide +kernel
theorem dL_law_715 : decode cL_law 715 = .ok (.iaload, 1) := by decide +kernel
theorem dL_law_716 : decode cL_law 716 = .ok (.aload_n 0, 1) := by decide +kernel
theorem dL_law_717 : decode cL_law 717 = .ok (.iload_n 3, 1) := by decide +kernel
theorem dL_law_718 : decode cL_law 718 = .ok (.iconst 2, 1) := by decide +kernel
theorem dL_law_719 : decode cL_law 719 = .ok (.iadd, 1) := by decide +kernel
theorem dL_law_720 : decode cL_law 720 = .ok (.iaload, 1) := by decide +kernel
theorem dL_law_721 : decode cL_law 721 = .ok (.aload_n 0, 1) := by decide +kernel
theorem dL_law_722 : decode cL_law 722 = .ok (.iload_n 3, 1) := by decide +kernel
theorem dL_law_723 : decode cL_law 723 = .ok (.iconst 3, 1) := by decide +kernel
theorem dL_law_724 : decode cL_law 724 = .ok (.iadd, 1) := by decide +kernel
theorem dL_law_725 : decode cL_law 725 = .ok (.iaload, 1) := by decide +kernel
theorem dL_law_726 : decode cL_law 726 = .ok (.aload_n 0, 1) := by decide +kernel
theorem dL_law_727 : decode cL_law 727 = .ok (.iload_n 3, 1) := by decide +kernel
theorem dL_law_728 : decode cL_law 728 = .ok (.iconst 4, 1) := by decide +kernel
theorem dL_law_729 : decode cL_law 729 = .ok (.iadd, 1) := by decide +kernel
theorem dL_law_730 : decode cL_law 730 = .ok (.iaload, 1) := by decide +kernel
theorem dL_law_731 : decode cL_law 731 = .ok (.invokevirtual 82, 3) := by decide +kernel
theorem dL_law_734 : decode cL_law 734 = .ok (.if_icmp .eq 156, 3) := by decide +kernel
theorem dL_law_737 : decode cL_law 737 = .ok (.iconst 0, 1) := by decide +kernel
theorem dL_law_738 : decode cL_law 738 = .ok (.ireturn, 1) := by decide +kernel
theorem dL_law_739 : decode cL_law 739 = .ok (.aload_n 1, 1) := by decide +kernel
theorem dL_law_740 : decode cL_law 740 = .ok (.aload_n 0, 1) := by decide +kernel
theorem dL_law_741 : decode cL_law 741 = .ok (.iload_n 3, 1) := by decide +kernel
theorem dL_law_742 : decode cL_law 742 = .ok (.iconst 1, 1) := by decide +kernel
theorem dL_law_743 : decode cL_law 743 = .ok (.iadd, 1) := by decide +kernel
theorem dL_law_744 : decode cL_law 744 = .ok (.iaload, 1) := by decide +kernel
theorem dL_law_745 : decode cL_law 745 = .ok (.aload_n 0, 1) := by decide +kernel
theorem dL_law_746 : decode cL_law 746 = .ok (.iload_n 3, 1) := by decide +kernel
theorem dL_law_747 : decode cL_law 747 = .ok (.iconst 2, 1) := by decide +kernel
theorem dL_law_748 : decode cL_law 748 = .ok (.iadd, 1) := by decide +kernel
theorem dL_law_749 : decode cL_law 749 = .ok (.iaload, 1) := by decide +kernel
theorem dL_law_750 : decode cL_law 750 = .ok (.aload_n 0, 1) := by decide +kernel
theorem dL_law_751 : decode cL_law 751 = .ok (.iload_n 3, 1) := by decide +kernel
theorem dL_law_752 : decode cL_law 752 = .ok (.iconst 3, 1) := by decide +kernel
theorem dL_law_753 : decode cL_law 753 = .ok (.iadd, 1) := by decide +kernel
theorem dL_law_754 : decode cL_law 754 = .ok (.iaload, 1) := by decide +kernel
theorem dL_law_755 : decode cL_law 755 = .ok (.invokevirtual 83, 3) := by decide +kernel
theorem dL_law_758 : decode cL_law 758 = .ok (.aload_n 2, 1) := by decide +kernel
theorem dL_law_759 : decode cL_law 759 = .ok (.aload_n 0, 1) := by decide +kernel
theorem dL_law_760 : decode cL_law 760 = .ok (.iload_n 3, 1) := by decide +kernel
theorem dL_law_761 : decode cL_law 761 = .ok (.iconst 1, 1) := by decide +kernel
theorem dL_law_762 : decode cL_law 762 = .ok (.iadd, 1) := by decide +kernel
theorem dL_law_763 : decode cL_law 763 = .ok (.iaload, 1) := by decide +kernel
theorem dL_law_764 : decode cL_law 764 = .ok (.aload_n 0, 1) := by decide +kernel
theorem dL_law_765 : decode cL_law 765 = .ok (.iload_n 3, 1) := by decide +kernel
theorem dL_law_766 : decode cL_law 766 = .ok (.iconst 2, 1) := by decide +kernel
theorem dL_law_767 : decode cL_law 767 = .ok (.iadd, 1) := by decide +kernel
theorem dL_law_768 : decode cL_law 768 = .ok (.iaload, 1) := by decide +kernel
theorem dL_law_769 : decode cL_law 769 = .ok (.aload_n 0, 1) := by decide +kernel
theorem dL_law_770 : decode cL_law 770 = .ok (.iload_n 3, 1) := by decide +kernel
theorem dL_law_771 : decode cL_law 771 = .ok (.iconst 3, 1) := by decide +kernel
theorem dL_law_772 : decode cL_law 772 = .ok (.iadd, 1) := by decide +kernel
theorem dL_law_773 : decode cL_law 773 = .ok (.iaload, 1) := by decide +kernel
theorem dL_law_774 : decode cL_law 774 = .ok (.invokevirtual 86, 3) := by decide +kernel
theorem dL_law_777 : decode cL_law 777 = .ok (.if_icmp .eq 113, 3) := by decide +kernel
theorem dL_law_780 : decode cL_law 780 = .ok (.iconst 0, 1) := by decide +kernel
theorem dL_law_781 : decode cL_law 781 = .ok (.ireturn, 1) := by decide +kernel
theorem dL_law_782 : decode cL_law 782 = .ok (.aload_n 1, 1) := by decide +kernel
theorem dL_law_783 : decode cL_law 783 = .ok (.aload_n 0, 1) := by decide +kernel
theorem dL_law_784 : decode cL_law 784 = .ok (.iload_n 3, 1) := by decide +kernel
theorem dL_law_785 : decode cL_law 785 = .ok (.iconst 1, 1) := by decide +kernel
theorem dL_law_786 : decode cL_law 786 = .ok (.iadd, 1) := by decide +kernel
theorem dL_law_787 : decode cL_law 787 = .ok (.iaload, 1) := by decide +kernel
theorem dL_law_788 : decode cL_law 788 = .ok (.invokevirtual 87, 3) := by decide +kernel
theorem dL_law_791 : decode cL_law 791 = .ok (.aload_n 2, 1) := by decide +kernel
theorem dL_law_792 : decode cL_law 792 = .ok (.aload_n 0, 1) := by decide +kernel
theorem dL_law_793 : decode cL_law 793 = .ok (.iload_n 3, 1) := by decide +kernel
theorem dL_law_794 : decode cL_law 794 = .ok (.iconst 1, 1) := by decide +kernel
theorem dL_law_795 : decode cL_law 795 = .ok (.iadd, 1) := by decide +kernel
theorem dL_law_796 : decode cL_law 796 = .ok (.iaload, 1) := by decide +kernel
theorem dL_law_797 : decode cL_law 797 = .ok (.invokevirtual 90, 3) := by decide +kernel
theorem dL_law_800 : decode cL_law 800 = .ok (.if_icmp .eq 90, 3) := by decide +kernel
theorem dL_law_803 : decode cL_law 803 = .ok (.iconst 0, 1) := by decide +kernel
theorem dL_law_804 : decode cL_law 804 = .ok (.ireturn, 1) := by decide +kernel
theorem dL_law_805 : decode cL_law 805 = .ok (.aload_n 1, 1) := by decide +kernel
theorem dL_law_806 : decode cL_law 806 = .ok (.invokevirtual 91, 3) := by decide +kernel
theorem dL_law_809 : decode cL_law 809 = .ok (.aload_n 2, 1) := by decide +kernel
theorem dL_law_810 : decode cL_law 810 = .ok (.invokevirtual 95, 3) := by decide +kernel
theorem dL_law_813 : decode cL_law 813 = .ok (.if_icmp .eq 77, 3) := by decide +kernel
theorem dL_law_816 : decode cL_law 816 = .ok (.iconst 0, 1) := by decide +kernel
theorem dL_law_817 : decode cL_law 817 = .ok (.ireturn, 1) := by decide +kernel
theorem dL_law_818 : decode cL_law 818 = .ok (.aload_n 1, 1) := by decide +kernel
theorem dL_law_819 : decode cL_law 819 = .ok (.invokevirtual 96, 3) := by decide +kernel
theorem dL_law_822 : decode cL_law 822 = .ok (.aload_n 2, 1) := by decide +kernel
theorem dL_law_823 : decode cL_law 823 = .ok (.invokevirtual 99, 3) := by decide +kernel
theorem dL_law_826 : decode cL_law 826 = .ok (.if_icmp .eq 64, 3) := by decide +kernel
theorem dL_law_829 : decode cL_law 829 = .ok (.iconst 0, 1) := by decide +kernel
theorem dL_law_830 : decode cL_law 830 = .ok (.ireturn, 1) := by decide +kernel
theorem dL_law_831 : decode cL_law 831 = .ok (.aload_n 1, 1) := by decide +kernel
theorem dL_law_832 : decode cL_law 832 = .ok (.invokevirtual 100, 3) := by decide +kernel
theorem dL_law_835 : decode cL_law 835 = .ok (.aload_n 2, 1) := by decide +kernel
theorem dL_law_836 : decode cL_law 836 = .ok (.invokevirtual 103, 3) := by decide +kernel
theorem dL_law_839 : decode cL_law 839 = .ok (.if_icmp .eq 51, 3) := by decide +kernel
theorem dL_law_842 : decode cL_law 842 = .ok (.iconst 0, 1) := by decide +kernel
theorem dL_law_843 : decode cL_law 843 = .ok (.ireturn, 1) := by decide +kernel
theorem dL_law_844 : decode cL_law 844 = .ok (.aload_n 1, 1) := by decide +kernel
theorem dL_law_845 : decode cL_law 845 = .ok (.aload_n 0, 1) := by decide +kernel
theorem dL_law_846 : decode cL_law 846 = .ok (.iload_n 3, 1) := by decide +kernel
theorem dL_law_847 : decode cL_law 847 = .ok (.iconst 1, 1) := by decide +kernel
theorem dL_law_848 : decode cL_law 848 = .ok (.iadd, 1) := by decide +kernel
theorem dL_law_849 : decode cL_law 849 = .ok (.iaload, 1) := by decide +kernel
theorem dL_law_850 : decode cL_law 850 = .ok (.invokevirtual 104, 3) := by decide +kernel
theorem dL_law_853 : decode cL_law 853 = .ok (.aload_n 2, 1) := by decide +kernel
theorem dL_law_854 : decode cL_law 854 = .ok (.aload_n 0, 1) := by decide +kernel
theorem dL_law_855 : decode cL_law 855 = .ok (.iload_n 3, 1) := by decide +kernel
theorem dL_law_856 : decode cL_law 856 = .ok (.iconst 1, 1) := by decide +kernel
theorem dL_law_857 : decode cL_law 857 = .ok (.iadd, 1) := by decide +kernel
theorem dL_law_858 : decode cL_law 858 = .ok (.iaload, 1) := by decide +kernel
theorem dL_law_859 : decode cL_law 859 = .ok (.invokevirtual 107, 3) := by decide +kernel
theorem dL_law_862 : decode cL_law 862 = .ok (.if_icmp .eq 28, 3) := by decide +kernel
theorem dL_law_865 : decode cL_law 865 = .ok (.iconst 0, 1) := by decide +kernel
theorem dL_law_866 : decode cL_law 866 = .ok (.ireturn, 1) := by decide +kernel
theorem dL_law_867 : decode cL_law 867 = .ok (.aload_n 1, 1) := by decide +kernel
theorem dL_law_868 : decode cL_law 868 = .ok (.aload_n 0, 1) := by decide +kernel
theorem dL_law_869 : decode cL_law 869 = .ok (.iload_n 3, 1) := by decide +kernel
theorem dL_law_870 : decode cL_law 870 = .ok (.iconst 1, 1) := by decide +kernel
theorem dL_law_871 : decode cL_law 871 = .ok (.iadd, 1) := by decide +kernel
theorem dL_law_872 : decode cL_law 872 = .ok (.iaload, 1) := by decide +kernel
theorem dL_law_873 : decode cL_law 873 = .ok (.invokevirtual 108, 3) := by decide +kernel
theorem dL_law_876 : decode cL_law 876 = .ok (.aload_n 2, 1) := by decide +kernel
theorem dL_law_877 : decode cL_law 877 = .ok (.aload_n 0, 1) := by decide +kernel
theorem dL_law_878 : decode cL_law 878 = .ok (.iload_n 3, 1) := by decide +kernel
theorem dL_law_879 : decode cL_law 879 = .ok (.iconst 1, 1) := by decide +kernel
theorem dL_law_880 : decode cL_law 880 = .ok (.iadd, 1) := by decide +kernel
theorem dL_law_881 : decode cL_law 881 = .ok (.iaload, 1) := by decide +kernel
theorem dL_law_882 : decode cL_law 882 = .ok (.invokevirtual 111, 3) := by decide +kernel
theorem dL_law_885 : decode cL_law 885 = .ok (.if_icmp .eq 5, 3) := by decide +kernel
theorem dL_law_888 : decode cL_law 888 = .ok (.iconst 0, 1) := by decide +kernel
theorem dL_law_889 : decode cL_law 889 = .ok (.ireturn, 1) := by decide +kernel
theorem dL_law_890 : decode cL_law 890 = .ok (.iinc 3 6, 3) := by decide +kernel
theorem dL_law_893 : decode cL_law 893 = .ok (.goto (-875), 3) := by decide +kernel
theorem dL_law_896 : decode cL_law 896 = .ok (.iconst 1, 1) := by decide +kernel
theorem dL_law_897 : decode cL_law 897 = .ok (.ireturn, 1) := by decide +kernel
end
section
/-! the abstract store: every cell of the world has an id (kind, tank, number); ints alone change; references are fixed by the ids -/
abbrev zA : Type := Nat × Nat × Nat
abbrev zM : Type := zA → Nat → Int32
abbrev zV : Type := Option ((Int32 ⊕ Int64) ⊕ zA)
def zI (x : Int32) : zV := some (.inl (.inl x))
def zL (x : Int64) : zV := some (.inl (.inr x))
def zR (a : zA) : zV := some (.inr a)
def zN : zV := none
def zc (ad : zA → Nat) : zV → Value
  | none => .null
  | some (.inl (.inl x)) => .int x
  | some (.inl (.inr x)) => .long x
  | some (.inr a) => .ref (ad a)
abbrev zG : Type := (zA → Nat) × va_G × (Nat → ClassId)
def zcells : List zA := [(0, 0, 0), (1, 0, 0), (2, 0, 0), (3, 0, 0), (4, 0, 0)] ++ ((List.range 4).flatMap (fun t => [(5, t, 0), (6, t, 0), (7, t, 0), (8, t, 0), (9, t, 0), (10, t, 0), (11, t, 0), (11, t, 1), (11, t, 2), (12, t, 0)] ++ ((List.range 6).flatMap (fun i => [(13, t, i), (14, t, i), (15, t, i)])) ++ [(16, t, 0), (17, t, 0), (18, t, 0)])) ++ [(20, 0, 0), (21, 0, 0), (22, 0, 0), (23, 0, 0), (24, 0, 0), (25, 0, 0), (26, 0, 0), (27, 0, 0), (28, 0, 0)]
theorem zcells_nd : zcells.Nodup := by decide +kernel
def zarI (G : zG) (n : Nat) (f : Nat → Int32) : va_E := .inl (G.2.2 0, n, .inl f)
def zarR (c n : Nat) (G : zG) (f : Nat → zA) : va_E := .inl (G.2.2 c, n, .inr (.inr (.inr (.inr (fun j => some (G.1 (f j)))))))
/-- what a cell holds: objects by class, arrays by length -/
def zent (G : zG) (a : zA) (f : Nat → Int32) : va_E := match a with
  | (0, _, _) => .inr (3, [.ref (G.1 (5, 0, 0)), .ref (G.1 (5, 1, 0)), .ref (G.1 (1, 0, 0)), .ref (G.1 (2, 0, 0)), .ref (G.1 (3, 0, 0))])
  | (1, _, _) => zarR 3 2 G (fun j => (5, 2 + j, 0))
  | (2, _, _) => .inl (G.2.2 1, 2, .inl f)
  | (3, _, _) => .inr (1, [.int (f 0), .int (f 1), .int (f 2), .int (f 3), .int (f 4), .int (f 5), .int (f 6), .int (f 7), .ref (G.1 (4, 0, 0))])
  | (4, _, _) => .inl (G.2.2 2, 60, .inl f)
  | (5, t, _) => .inr (2, [.int (f 0), .int (f 1), .int (f 2), .ref (G.1 (6, t, 0)), .ref (G.1 (7, t, 0)), .ref (G.1 (8, t, 0)), .ref (G.1 (9, t, 0)), .ref (G.1 (10, t, 0)), .ref (G.1 (12, t, 0)), .ref (G.1 (16, t, 0)), .ref (G.1 (17, t, 0)), .ref (G.1 (18, t, 0))])
  | (6, _, _) => zarI G 7 f
  | (7, _, _) => zarI G 12 f
  | (8, _, _) => zarI G 12 f
  | (9, _, _) => zarI G 3 f
  | (10, t, _) => zarR 5 3 G (fun j => (11, t, j))
  | (11, _, _) => zarI G 576 f
  | (12, t, _) => zarR 4 6 G (fun j => (13, t, j))
  | (13, t, i) => .inr (0, [.int (f 0), .int (f 1), .int (f 2), .int (f 3), .int (f 4), .ref (G.1 (14, t, i)), .ref (G.1 (15, t, i))])
  | (14, _, _) => zarI G 50 f
  | (15, _, _) => zarI G 50 f
  | (16, _, _) => zarI G 12 f
  | (17, _, _) => zarI G 12 f
  | (18, _, _) => zarI G 576 f
  | (20, _, _) => .inr (4, [.ref (G.1 (21, 0, 0)), .ref (G.1 (22, 0, 0)), .ref (G.1 (23, 0, 0)), .ref (G.1 (24, 0, 0)), .ref (G.1 (25, 0, 0)), .ref (G.1 (26, 0, 0)), .ref (G.1 (27, 0, 0)), .int (f 7), .int (f 8), .int (f 9), .ref (G.1 (28, 0, 0)), .int (f 11)])
  | (21, _, _) => zarI G 2386 f
  | (22, _, _) => zarI G 2386 f
  | (23, _, _) => zarI G 4772 f
  | (24, _, _) => .inl (G.2.2 1, 2, .inl f)
  | (25, _, _) => zarI G 1728 f
  | (26, _, _) => zarI G 12 f
  | (27, _, _) => zarI G 60 f
  | _ => zarI G 192 f
def zty (G : zG) : List (ClassId × FieldType) := [(G.2.2 0, .int), (G.2.2 1, .boolean), (G.2.2 2, .char), (G.2.2 3, .object "DyeTank$Tank"), (G.2.2 4, .object "DyeTank$Marker"), (G.2.2 5, .array .int)]
def zws (G : zG) (μ : zM) : va_W := zcells.map (fun a => (G.1 a, zent G a (μ a)))
def zP (G : zG) (μ : zM) (H : Heap) : Prop := va_P G.2.1 vwCl (zws G μ) H
def zInj (G : zG) : Prop := ∀ a ∈ zcells, ∀ b ∈ zcells, G.1 a = G.1 b → a = b
def zfree (G : zG) : Nat → Prop := fun q => ∃ a ∈ zcells, q = G.1 a
/-- a row of the store replaced -/
def st (μ : zM) (a : zA) (f : Nat → Int32) : zM := fun b => if b = a then f else μ b
theorem st_eq (μ : zM) (a : zA) (f : Nat → Int32) : st μ a f a = f := if_pos rfl
theorem st_ne (μ : zM) {a b : zA} (f : Nat → Int32) (h : b ≠ a) : st μ a f b = μ b := if_neg h
theorem zws_get {G : zG} {μ : zM} {k : Nat} {a : zA} (h : zcells[k]? = some a) : (zws G μ)[k]? = some (G.1 a, zent G a (μ a)) := by
  show (zcells.map _)[k]? = _
  rw [List.getElem?_map, h]
  rfl
theorem z_at {G : zG} {a : zA} (μ : zM) (h : a ∈ zcells) : ∃ k : Nat, zcells[k]? = some a ∧ (zws G μ)[k]? = some (G.1 a, zent G a (μ a)) := by
  obtain ⟨k, hk⟩ := List.getElem?_of_mem h
  exact ⟨k, hk, zws_get hk⟩
theorem z_set {G : zG} {μ : zM} {k : Nat} {a : zA} {f : Nat → Int32} (h : zcells[k]? = some a) : (zws G μ).set k (G.1 a, zent G a f) = zws G (st μ a f) := by
  have hl : k < zcells.length := (List.getElem?_eq_some_iff.mp h).1
  apply List.ext_getElem?
  intro j
  show ((zcells.map _).set k _)[j]? = (zcells.map _)[j]?
  by_cases hj : k = j
  · subst hj
    rw [List.getElem?_set_self (by rw [List.length_map]; exact hl), List.getElem?_map, h]
    show _ = some (G.1 a, zent G a (st μ a f a))
    rw [st_eq]
  · rw [List.getElem?_set_ne hj, List.getElem?_map, List.getElem?_map]
    cases hb : zcells[j]? with
    | none => rfl
    | some b =>
      have hne : b ≠ a := by
        intro e
        subst e
        have h1 := ((List.getElem?_inj hl zcells_nd).mp (h.trans hb.symm))
        exact hj h1
      show some (G.1 b, zent G b (μ b)) = some (G.1 b, zent G b (st μ a f b))
      rw [st_ne μ f hne]
theorem z_D {G : zG} {μ : zM} {A : Nat → Prop} (hi : zInj G) (hA : ∀ a ∈ zcells, A (G.1 a)) : va_D A (zws G μ) := by
  have key : ∀ (k : Nat) (q : Nat × va_E), (zws G μ)[k]? = some q → ∃ a, zcells[k]? = some a ∧ q.1 = G.1 a := by
    intro k q hq
    have h1 : (zcells.map (fun a => (G.1 a, zent G a (μ a))))[k]? = some q := hq
    rw [List.getElem?_map] at h1
    cases hb : zcells[k]? with
    | none => rw [hb] at h1; cases h1
    | some b =>
      rw [hb] at h1
      cases h1
      exact ⟨b, rfl, rfl⟩
  refine ⟨fun i j x y hx hy hxy => ?_, fun k q hq => ?_⟩
  · obtain ⟨a, ha, ea⟩ := key i x hx
    obtain ⟨b, hb, eb⟩ := key j y hy
    have hab : a = b := hi a (List.mem_of_getElem? ha) b (List.mem_of_getElem? hb) (by rw [← ea, ← eb]; exact hxy)
    subst hab
    exact (List.getElem?_inj (List.getElem?_eq_some_iff.mp ha).1 zcells_nd).mp (ha.trans hb.symm)
  · obtain ⟨a, ha, ea⟩ := key k q hq
    rw [ea]
    exact hA a (List.mem_of_getElem? ha)
/-! the static tables -/
def ztab : Nat → List Int32
  | 40 => [20, 10, 0, 5, 0, 50, 20]
  | 41 => [0, 0, -1500, 0, -1500, 0, 0]
  | _ => [100, 100, 1500, 100, 1500, 200, 500]
def znm : Nat → String
  | 40 => "FIRST_SETTING"
  | 41 => "LEAST_SETTING"
  | _ => "GREATEST_SETTING"
def zSt (G : zG) (A : Nat → Prop) (U : State) (H : Heap) : Prop := ∀ k : Nat, (k = 40 ∨ k = 41 ∨ k = 42) → va_Z "DyeTank" (znm k) "[I" (.ref (G.1 (k, 0, 0))) A U H ∧ va_T .int (G.1 (k, 0, 0)) 7 (fun j => .int ((ztab k).getD j 0)) A U H
theorem zSt.moved {G : zG} {A : Nat → Prop} {u U : State} {H : Heap} (hvm : u.vm.Alike U.vm) (h : zSt G A u H) : zSt G A U H := fun k hk => ⟨va_Z.moved hvm (h k hk).1, va_T.moved hvm (h k hk).2⟩
theorem zSt.kept {G : zG} {A : Nat → Prop} {U : State} {H H1 : Heap} (h : zSt G A U H) (hq : ∀ a : Nat, a < H.size → ¬ A a → H1[a]? = H[a]?) : zSt G A U H1 := fun k hk => ⟨va_Z.kept (h k hk).1 hq, va_T.kept (h k hk).2 hq⟩
theorem zSt.narrow {G : zG} {A B : Nat → Prop} {U : State} {H : Heap} (h : zSt G A U H) (hAB : ∀ q, B q → A q) : zSt G B U H := fun k hk => ⟨va_Z.narrow (h k hk).1 hAB, va_T.narrow (h k hk).2 hAB⟩
def zNst (U : State) : Prop := va_Nw (.fieldLinkNest "DyeTank$Tank" 59 "DyeTank" "FIRST_SETTING" "[I" "DyeTank") U
/-! contracts -/
def zrm (d : Nat) : Room := { frames := d, cells := 0, slots := 0, locals := 40 * d }
def zPre (G : zG) (μ : zM) (U : State) : Prop := va_K G.2.1 vwCl (zty G) U ∧ zInj G ∧ zP G μ U.heap ∧ zSt G (zfree G) U U.heap ∧ zNst U
def zret (G : zG) : zV → Option Value
  | none => none
  | some x => some (zc G.1 (some x))
def zQ (G : zG) (Po : zM → zV → Prop) : Array Value → State → Outcome → State → Prop := fun _ u oc t => ∃ (μ' : zM) (r : zV), oc = .returned (zret G r) ∧ Po μ' r ∧ zP G μ' t.heap ∧ va_F (zfree G) u t
def zCt (y : MethodName) (cc : ByteArray) (nL : Nat) (ret : Option FieldType) (d : Nat) (av : List zV) (μ : zM) (Po : zM → zV → Prop) : Prop :=
  ∀ (l : Launch) (G : zG), Met l y (.code y cc nL ret :: zT) (zrm d) (va_Pc (av.map (zc G.1)) (zPre G μ)) (zQ G Po) 0 0 (zfree G)
/-! locals -/
def zl (G : zG) : Nat → List zV → List (Nat × Value)
  | _, [] => []
  | k, none :: t => zl G (k + 1) t
  | k, some x :: t => (k, zc G.1 (some x)) :: zl G (k + 1) t
theorem zl_mem {G : zG} {q : Nat × Value} : ∀ (ls : List zV) (k : Nat), q ∈ zl G k ls ↔ ∃ (j : Nat) (x : (Int32 ⊕ Int64) ⊕ zA), ls[j]? = some (some x) ∧ q = (k + j, zc G.1 (some x))
  | [], k => by simp [zl]
  | none :: t, k => by
    rw [zl, zl_mem t (k + 1)]
    constructor
    · rintro ⟨j, x, h1, h2⟩
      exact ⟨j + 1, x, by simpa using h1, by rw [h2]; congr 1; omega⟩
    · rintro ⟨j, x, h1, h2⟩
      cases j with
      | zero => simp at h1
      | succ j => exact ⟨j, x, by simpa using h1, by rw [h2]; congr 1; omega⟩
  | some y :: t, k => by
    rw [zl, List.mem_cons, zl_mem t (k + 1)]
    constructor
    · rintro (h | ⟨j, x, h1, h2⟩)
      · exact ⟨0, y, rfl, by rw [h]; rfl⟩
      · exact ⟨j + 1, x, by simpa using h1, by rw [h2]; congr 1; omega⟩
    · rintro ⟨j, x, h1, h2⟩
      cases j with
      | zero =>
        have : y = x := by simpa using h1
        subst this
        exact Or.inl h2
      | succ j => exact Or.inr ⟨j, x, by simpa using h1, by rw [h2]; congr 1; omega⟩
def zcut : zV → zV
  | some (.inl (.inr _)) => none
  | w => w
def zset : List zV → Nat → zV → List zV
  | [], _, _ => []
  | _ :: t, 0, v => v :: t
  | a :: t, 1, v => zcut a :: zset t 0 v
  | a :: t, n + 2, v => a :: zset t (n + 1) v
theorem zset_get (v : zV) : ∀ (ls : List zV) (i j : Nat), (zset ls i v)[j]? = if j = i then (if i < ls.length then some v else none) else if j + 1 = i then ls[j]?.map zcut else ls[j]?
  | [], i, j => by
    simp [zset]
  | a :: t, 0, j => by
    cases j with
    | zero => simp [zset]
    | succ j => simp [zset]
  | a :: t, 1, j => by
    cases j with
    | zero => simp [zset]
    | succ j =>
      rw [zset, List.getElem?_cons_succ, zset_get v t 0 j]
      simp
  | a :: t, n + 2, j => by
    cases j with
    | zero => simp [zset]
    | succ j =>
      rw [zset, List.getElem?_cons_succ, zset_get v t (n + 1) j]
      simp
      simp only [show (n + 2 < t.length + 1) ↔ (n + 1 < t.length) by omega]
def zcat : zV → Nat
  | some (.inl (.inr _)) => 2
  | _ => 1
theorem zcat_eq (ad : zA → Nat) (v : zV) : (zc ad v).category = zcat v := by
  rcases v with _ | ((x | x) | x) <;> rfl
def zsum : List zV → Nat
  | [] => 0
  | a :: t => zcat a + zsum t
theorem zsum_eq (ad : zA → Nat) : ∀ st : List zV, ((st.map (zc ad)).map fun v => v.category).sum = zsum st
  | [] => rfl
  | a :: t => by
    rw [List.map_cons, List.map_cons, List.sum_cons, zsum_eq ad t, zcat_eq]
    rfl
theorem zcut_some {w : zV} {x : (Int32 ⊕ Int64) ⊕ zA} (h : zcut w = some x) : w = some x ∧ zcat w = 1 := by
  rcases w with _ | ((y | y) | y)
  · cases h
  · exact ⟨h, rfl⟩
  · cases h
  · exact ⟨h, rfl⟩
theorem lv_less {la : Array Slot} {nL : Nat} {l l' : List (Nat × Value)} (h : lv_has la nL l) (hl : ∀ q ∈ l', q ∈ l) : lv_has la nL l' := ⟨h.1, h.2.1, fun q hq => h.2.2 q (hl q hq)⟩
theorem zl_set1 {G : zG} {la : Array Slot} {nL i : Nat} {ls : List zV} {v : zV} (h : lv_has la nL ((i, zc G.1 v) :: (zl G 0 ls).filter (fun q => !(q.1 == i) && !(q.1 + 1 == i && q.2.category == 2)))) : lv_has la nL (zl G 0 (zset ls i v)) := by
  refine lv_less h fun q hq => ?_
  obtain ⟨j, x, h1, h2⟩ := (zl_mem _ _).mp hq
  rw [zset_get] at h1
  by_cases hj : j = i
  · rw [if_pos hj] at h1
    by_cases hi : i < ls.length
    · rw [if_pos hi] at h1
      rw [h2, ← Option.some.inj h1, hj, Nat.zero_add]
      exact List.mem_cons_self
    · rw [if_neg hi] at h1
      cases h1
  · rw [if_neg hj] at h1
    refine List.mem_cons_of_mem _ (List.mem_filter.mpr ?_)
    by_cases hj1 : j + 1 = i
    · rw [if_pos hj1] at h1
      cases hw : ls[j]? with
      | none => rw [hw] at h1; cases h1
      | some w =>
        rw [hw] at h1
        obtain ⟨e1, e2⟩ := zcut_some (Option.some.inj h1)
        refine ⟨(zl_mem _ _).mpr ⟨j, x, by rw [hw, e1], h2⟩, ?_⟩
        rw [h2]
        have e3 : (zc G.1 (some x)).category = 1 := by rw [zcat_eq, ← e1]; exact e2
        simp [hj, e3]
    · rw [if_neg hj1] at h1
      refine ⟨(zl_mem _ _).mpr ⟨j, x, h1, h2⟩, ?_⟩
      rw [h2]
      simp [hj, hj1]
theorem zl_set2 {G : zG} {la : Array Slot} {nL i : Nat} {ls : List zV} {v : zV} (h : lv_has la nL ((i, zc G.1 v) :: (zl G 0 ls).filter (fun q => !(q.1 == i) && (!(q.1 == i + 1) && !(q.1 + 1 == i && q.2.category == 2))))) : lv_has la nL (zl G 0 ((zset ls i v).set (i + 1) none)) := by
  refine lv_less h fun q hq => ?_
  obtain ⟨j, x, h1, h2⟩ := (zl_mem _ _).mp hq
  by_cases hi1 : i + 1 = j
  · subst hi1
    rw [List.getElem?_set] at h1
    simp at h1
  rw [List.getElem?_set_ne hi1, zset_get] at h1
  by_cases hj : j = i
  · rw [if_pos hj] at h1
    by_cases hi : i < ls.length
    · rw [if_pos hi] at h1
      rw [h2, ← Option.some.inj h1, hj, Nat.zero_add]
      exact List.mem_cons_self
    · rw [if_neg hi] at h1
      cases h1
  · rw [if_neg hj] at h1
    refine List.mem_cons_of_mem _ (List.mem_filter.mpr ?_)
    by_cases hj1 : j + 1 = i
    · rw [if_pos hj1] at h1
      cases hw : ls[j]? with
      | none => rw [hw] at h1; cases h1
      | some w =>
        rw [hw] at h1
        obtain ⟨e1, e2⟩ := zcut_some (Option.some.inj h1)
        refine ⟨(zl_mem _ _).mpr ⟨j, x, by rw [hw, e1], h2⟩, ?_⟩
        rw [h2]
        have e3 : (zc G.1 (some x)).category = 1 := by rw [zcat_eq, ← e1]; exact e2
        simp [hj, e3]
        omega
    · rw [if_neg hj1] at h1
      refine ⟨(zl_mem _ _).mpr ⟨j, x, h1, h2⟩, ?_⟩
      rw [h2]
      simp [hj, hj1]
      omega
theorem zl_at {G : zG} {la : Array Slot} {nL i : Nat} {ls : List zV} {x : (Int32 ⊕ Int64) ⊕ zA} (h : lv_has la nL (zl G 0 ls)) (hi : ls[i]? = some (some x)) : la[i]? = some (.val (zc G.1 (some x))) := by
  have := h.2.2 (0 + i, zc G.1 (some x)) ((zl_mem _ _).mpr ⟨i, x, hi, rfl⟩)
  rwa [Nat.zero_add] at this
/-! the judgement -/
abbrev zK : Type := zG × Program × Launch × Env × Room × State × MethodId × Array Value × List Frame × Method × Code × (Nat → Prop) × (State → Prop) × Nat × Nat
def zF (K : zK) (d : Nat) (own : String) (cc : ByteArray) (nL : Nat) : Prop := match K with
  | (G, p, _, _, R, s, m, args, _, _, c, A, _, ce, sl) => p.tables.exec = Jvm.exec ∧ c.code = cc ∧ c.maxLocals = nL ∧ s.vm.findClass own = some m.cls ∧ (∀ w ∈ zT, w.before args s = true) ∧ va_K G.2.1 vwCl (zty G) s ∧ zInj G ∧ (∀ a ∈ zcells, A (G.1 a)) ∧ zSt G A s s.heap ∧ zNst s ∧ (ce ≤ R.cells ∧ sl ≤ R.slots) ∧ (d ≤ R.frames ∧ 40 * d ≤ R.locals)
def Z (K : zK) (d : Nat) (own : String) (cc : ByteArray) (nL : Nat) (pc : Nat) (ls sk : List zV) (μ : zM) : Prop := match K with
  | (G, p, l, e, R, s, m, args, below, meth, c, A, Q, ce, sl) => zF (G, p, l, e, R, s, m, args, below, meth, c, A, Q, ce, sl) d own cc nL → ∀ (H : Heap) (locs : List Loc) (la : Array Slot), zP G μ H → va_S A s.heap H locs → lv_has la nL (zl G 0 ls) → W p l e R s m args below meth c H locs ce sl Q (F0 m pc la (sk.map (zc G.1)))
def zRet (K : zK) (Po : zM → zV → Prop) (ret : Option FieldType) : Prop := match K with
  | (G, _, _, _, _, s, _, args, below, meth, _, A, Q, ce, sl) => Q = MQ below (zQ G Po) args s ce sl A ∧ A = zfree G ∧ meth.sig.returnType = ret ∧ meth.locks = false
section ZROWS
variable {K : zK} {d nL pc : Nat} {own : String} {cc : ByteArray} {ls sk : List zV} {μ : zM}
theorem z_iconst {n : Int} {v : Int32} (dg : decode cc pc = .ok (.iconst n, 1)) (hv : Int32.ofInt n = v) (k : Z K d own cc nL (pc + 1) ls (zI v :: sk) μ) : Z K d own cc nL pc ls sk μ := by
  obtain ⟨G, p, l, e, R, s, m, args, below, meth, c, A, Q, ce, sl⟩ := K
  intro F H locs la hP hS hl
  exact lv_iconst F.1 F.2.1 dg hv (k F H locs la hP hS hl)
theorem z_bipush {n : Int} {v : Int32} (dg : decode cc pc = .ok (.bipush n, 2)) (hv : (Int8.ofInt n).toInt32 = v) (k : Z K d own cc nL (pc + 2) ls (zI v :: sk) μ) : Z K d own cc nL pc ls sk μ := by
  obtain ⟨G, p, l, e, R, s, m, args, below, meth, c, A, Q, ce, sl⟩ := K
  intro F H locs la hP hS hl
  exact lv_bipush F.1 F.2.1 dg hv (k F H locs la hP hS hl)
theorem z_sipush {n : Int} {v : Int32} (dg : decode cc pc = .ok (.sipush n, 3)) (hv : (Int16.ofInt n).toInt32 = v) (k : Z K d own cc nL (pc + 3) ls (zI v :: sk) μ) : Z K d own cc nL pc ls sk μ := by
  obtain ⟨G, p, l, e, R, s, m, args, below, meth, c, A, Q, ce, sl⟩ := K
  intro F H locs la hP hS hl
  exact lv_sipush F.1 F.2.1 dg hv (k F H locs la hP hS hl)
theorem z_lconst {n : Fin 2} {v : Int64} (dg : decode cc pc = .ok (.lconst n, 1)) (hv : Int64.ofNat (n : Nat) = v) (k : Z K d own cc nL (pc + 1) ls (zL v :: sk) μ) : Z K d own cc nL pc ls sk μ := by
  obtain ⟨G, p, l, e, R, s, m, args, below, meth, c, A, Q, ce, sl⟩ := K
  intro F H locs la hP hS hl
  exact lv_lconst F.1 F.2.1 dg hv (k F H locs la hP hS hl)
theorem z_ldc {index : Nat} {v : Int32} (dg : decode cc pc = .ok (.ldc index, 2)) (hc : Cond.constant own index v ∈ zT) (k : Z K d own cc nL (pc + 2) ls (zI v :: sk) μ) : Z K d own cc nL pc ls sk μ := by
  obtain ⟨G, p, l, e, R, s, m, args, below, meth, c, A, Q, ce, sl⟩ := K
  intro F H locs la hP hS hl
  exact lv_ldc F.1 F.2.1 F.2.2.2.1 (F.2.2.2.2.1 _ hc) dg (k F H locs la hP hS hl)
theorem z_ldc2 {index : Nat} {v : Int64} (dg : decode cc pc = .ok (.ldc2_w index, 3)) (hc : Cond.constantLong own index v ∈ zT) (k : Z K d own cc nL (pc + 3) ls (zL v :: sk) μ) : Z K d own cc nL pc ls sk μ := by
  obtain ⟨G, p, l, e, R, s, m, args, below, meth, c, A, Q, ce, sl⟩ := K
  intro F H locs la hP hS hl
  exact lv_ldc2 F.1 F.2.1 F.2.2.2.1 (F.2.2.2.2.1 _ hc) dg (k F H locs la hP hS hl)
theorem z_iload_n {k : Fin 4} {i : Nat} {x : Int32} (dg : decode cc pc = .ok (.iload_n k, 1)) (hi : (k : Nat) = i) (hv : ls[i]? = some (zI x)) (k1 : Z K d own cc nL (pc + 1) ls (zI x :: sk) μ) : Z K d own cc nL pc ls sk μ := by
  obtain ⟨G, p, l, e, R, s, m, args, below, meth, c, A, Q, ce, sl⟩ := K
  intro F H locs la hP hS hl
  exact lv_iload_n F.1 F.2.1 dg hi (zl_at hl hv) (k1 F H locs la hP hS hl)
theorem z_iload {i : Nat} {x : Int32} (dg : decode cc pc = .ok (.iload i, 2)) (hv : ls[i]? = some (zI x)) (k : Z K d own cc nL (pc + 2) ls (zI x :: sk) μ) : Z K d own cc nL pc ls sk μ := by
  obtain ⟨G, p, l, e, R, s, m, args, below, meth, c, A, Q, ce, sl⟩ := K
  intro F H locs la hP hS hl
  exact lv_iload F.1 F.2.1 dg (zl_at hl hv) (k F H locs la hP hS hl)
theorem z_lload_n {k : Fin 4} {i : Nat} {x : Int64} (dg : decode cc pc = .ok (.lload_n k, 1)) (hi : (k : Nat) = i) (hv : ls[i]? = some (zL x)) (k1 : Z K d own cc nL (pc + 1) ls (zL x :: sk) μ) : Z K d own cc nL pc ls sk μ := by
  obtain ⟨G, p, l, e, R, s, m, args, below, meth, c, A, Q, ce, sl⟩ := K
  intro F H locs la hP hS hl
  exact lv_lload_n F.1 F.2.1 dg hi (zl_at hl hv) (k1 F H locs la hP hS hl)
theorem z_lload {i : Nat} {x : Int64} (dg : decode cc pc = .ok (.lload i, 2)) (hv : ls[i]? = some (zL x)) (k : Z K d own cc nL (pc + 2) ls (zL x :: sk) μ) : Z K d own cc nL pc ls sk μ := by
  obtain ⟨G, p, l, e, R, s, m, args, below, meth, c, A, Q, ce, sl⟩ := K
  intro F H locs la hP hS hl
  exact lv_lload F.1 F.2.1 dg (zl_at hl hv) (k F H locs la hP hS hl)
theorem z_aload_n {k : Fin 4} {i : Nat} {x : zA} (dg : decode cc pc = .ok (.aload_n k, 1)) (hi : (k : Nat) = i) (hv : ls[i]? = some (zR x)) (k1 : Z K d own cc nL (pc + 1) ls (zR x :: sk) μ) : Z K d own cc nL pc ls sk μ := by
  obtain ⟨G, p, l, e, R, s, m, args, below, meth, c, A, Q, ce, sl⟩ := K
  intro F H locs la hP hS hl
  exact lv_aload_n F.1 F.2.1 dg hi (zl_at hl hv) (k1 F H locs la hP hS hl)
theorem z_aload {i : Nat} {x : zA} (dg : decode cc pc = .ok (.aload i, 2)) (hv : ls[i]? = some (zR x)) (k : Z K d own cc nL (pc + 2) ls (zR x :: sk) μ) : Z K d own cc nL pc ls sk μ := by
  obtain ⟨G, p, l, e, R, s, m, args, below, meth, c, A, Q, ce, sl⟩ := K
  intro F H locs la hP hS hl
  exact lv_aload F.1 F.2.1 dg (zl_at hl hv) (k F H locs la hP hS hl)
theorem z_istore_n {k : Fin 4} {i : Nat} {x : Int32} (dg : decode cc pc = .ok (.istore_n k, 1)) (hi : (k : Nat) = i) (hn : i < nL) (k1 : Z K d own cc nL (pc + 1) (zset ls i (zI x)) sk μ) : Z K d own cc nL pc ls (zI x :: sk) μ := by
  obtain ⟨G, p, l, e, R, s, m, args, below, meth, c, A, Q, ce, sl⟩ := K
  intro F H locs la hP hS hl
  exact lv_istore_n F.1 F.2.1 dg hi hl hn rfl fun la' hl' => k1 F H locs la' hP hS (zl_set1 (v := zI x) hl')
theorem z_istore {i : Nat} {x : Int32} (dg : decode cc pc = .ok (.istore i, 2)) (hn : i < nL) (k : Z K d own cc nL (pc + 2) (zset ls i (zI x)) sk μ) : Z K d own cc nL pc ls (zI x :: sk) μ := by
  obtain ⟨G, p, l, e, R, s, m, args, below, meth, c, A, Q, ce, sl⟩ := K
  intro F H locs la hP hS hl
  exact lv_istore F.1 F.2.1 dg hl hn rfl fun la' hl' => k F H locs la' hP hS (zl_set1 (v := zI x) hl')
theorem z_lstore_n {k : Fin 4} {i : Nat} {x : Int64} (dg : decode cc pc = .ok (.lstore_n k, 1)) (hi : (k : Nat) = i) (hn : i + 1 < nL) (k1 : Z K d own cc nL (pc + 1) ((zset ls i (zL x)).set (i + 1) none) sk μ) : Z K d own cc nL pc ls (zL x :: sk) μ := by
  obtain ⟨G, p, l, e, R, s, m, args, below, meth, c, A, Q, ce, sl⟩ := K
  intro F H locs la hP hS hl
  exact lv_lstore_n F.1 F.2.1 dg hi hl hn rfl fun la' hl' => k1 F H locs la' hP hS (zl_set2 (v := zL x) hl')
theorem z_lstore {i : Nat} {x : Int64} (dg : decode cc pc = .ok (.lstore i, 2)) (hn : i + 1 < nL) (k : Z K d own cc nL (pc + 2) ((zset ls i (zL x)).set (i + 1) none) sk μ) : Z K d own cc nL pc ls (zL x :: sk) μ := by
  obtain ⟨G, p, l, e, R, s, m, args, below, meth, c, A, Q, ce, sl⟩ := K
  intro F H locs la hP hS hl
  exact lv_lstore F.1 F.2.1 dg hl hn rfl fun la' hl' => k F H locs la' hP hS (zl_set2 (v := zL x) hl')
theorem z_astore_n {k : Fin 4} {i : Nat} {x : zA} (dg : decode cc pc = .ok (.astore_n k, 1)) (hi : (k : Nat) = i) (hn : i < nL) (k1 : Z K d own cc nL (pc + 1) (zset ls i (zR x)) sk μ) : Z K d own cc nL pc ls (zR x :: sk) μ := by
  obtain ⟨G, p, l, e, R, s, m, args, below, meth, c, A, Q, ce, sl⟩ := K
  intro F H locs la hP hS hl
  exact lv_astore_n F.1 F.2.1 dg hi hl hn rfl fun la' hl' => k1 F H locs la' hP hS (zl_set1 (v := zR x) hl')
theorem z_astore {i : Nat} {x : zA} (dg : decode cc pc = .ok (.astore i, 2)) (hn : i < nL) (k : Z K d own cc nL (pc + 2) (zset ls i (zR x)) sk μ) : Z K d own cc nL pc ls (zR x :: sk) μ := by
  obtain ⟨G, p, l, e, R, s, m, args, below, meth, c, A, Q, ce, sl⟩ := K
  intro F H locs la hP hS hl
  exact lv_astore F.1 F.2.1 dg hl hn rfl fun la' hl' => k F H locs la' hP hS (zl_set1 (v := zR x) hl')
theorem z_iinc {i : Nat} {n : Int} {x v : Int32} (dg : decode cc pc = .ok (.iinc i n, 3)) (hx : ls[i]? = some (zI x)) (hv : x + Int32.ofInt n = v) (hn : i < nL) (k : Z K d own cc nL (pc + 3) (zset ls i (zI v)) sk μ) : Z K d own cc nL pc ls sk μ := by
  obtain ⟨G, p, l, e, R, s, m, args, below, meth, c, A, Q, ce, sl⟩ := K
  intro F H locs la hP hS hl
  obtain ⟨k1, hk1⟩ := List.getElem?_of_mem ((zl_mem (G := G) ls 0).mpr ⟨i, _, hx, rfl⟩)
  rw [Nat.zero_add] at hk1
  exact lv_iinc F.1 F.2.1 dg hl hk1 hv hn rfl fun la' hl' => k F H locs la' hP hS (zl_set1 (v := zI v) hl')
theorem z_iadd {x y : Int32} (dg : decode cc pc = .ok (.iadd, 1)) (k : Z K d own cc nL (pc + 1) ls (zI (x + y) :: sk) μ) : Z K d own cc nL pc ls (zI y :: zI x :: sk) μ := by
  obtain ⟨G, p, l, e, R, s, m, args, below, meth, c, A, Q, ce, sl⟩ := K
  intro F H locs la hP hS hl
  exact lv_iadd F.1 F.2.1 dg (k F H locs la hP hS hl)
theorem z_isub {x y : Int32} (dg : decode cc pc = .ok (.isub, 1)) (k : Z K d own cc nL (pc + 1) ls (zI (x - y) :: sk) μ) : Z K d own cc nL pc ls (zI y :: zI x :: sk) μ := by
  obtain ⟨G, p, l, e, R, s, m, args, below, meth, c, A, Q, ce, sl⟩ := K
  intro F H locs la hP hS hl
  exact lv_isub F.1 F.2.1 dg (k F H locs la hP hS hl)
theorem z_imul {x y : Int32} (dg : decode cc pc = .ok (.imul, 1)) (k : Z K d own cc nL (pc + 1) ls (zI (x * y) :: sk) μ) : Z K d own cc nL pc ls (zI y :: zI x :: sk) μ := by
  obtain ⟨G, p, l, e, R, s, m, args, below, meth, c, A, Q, ce, sl⟩ := K
  intro F H locs la hP hS hl
  exact lv_imul F.1 F.2.1 dg (k F H locs la hP hS hl)
theorem z_iand {x y : Int32} (dg : decode cc pc = .ok (.iand, 1)) (k : Z K d own cc nL (pc + 1) ls (zI (x &&& y) :: sk) μ) : Z K d own cc nL pc ls (zI y :: zI x :: sk) μ := by
  obtain ⟨G, p, l, e, R, s, m, args, below, meth, c, A, Q, ce, sl⟩ := K
  intro F H locs la hP hS hl
  exact lv_iand F.1 F.2.1 dg (k F H locs la hP hS hl)
theorem z_ixor {x y : Int32} (dg : decode cc pc = .ok (.ixor, 1)) (k : Z K d own cc nL (pc + 1) ls (zI (x ^^^ y) :: sk) μ) : Z K d own cc nL pc ls (zI y :: zI x :: sk) μ := by
  obtain ⟨G, p, l, e, R, s, m, args, below, meth, c, A, Q, ce, sl⟩ := K
  intro F H locs la hP hS hl
  exact lv_ixor F.1 F.2.1 dg (k F H locs la hP hS hl)
theorem z_idiv {x y : Int32} (dg : decode cc pc = .ok (.idiv, 1)) (hy : ¬ y = 0) (k : Z K d own cc nL (pc + 1) ls (zI (x / y) :: sk) μ) : Z K d own cc nL pc ls (zI y :: zI x :: sk) μ := by
  obtain ⟨G, p, l, e, R, s, m, args, below, meth, c, A, Q, ce, sl⟩ := K
  intro F H locs la hP hS hl
  exact lv_idiv F.1 F.2.1 dg hy (k F H locs la hP hS hl)
theorem z_irem {x y : Int32} (dg : decode cc pc = .ok (.irem, 1)) (hy : ¬ y = 0) (k : Z K d own cc nL (pc + 1) ls (zI (x - x / y * y) :: sk) μ) : Z K d own cc nL pc ls (zI y :: zI x :: sk) μ := by
  obtain ⟨G, p, l, e, R, s, m, args, below, meth, c, A, Q, ce, sl⟩ := K
  intro F H locs la hP hS hl
  exact lv_irem F.1 F.2.1 dg hy (k F H locs la hP hS hl)
theorem z_ineg {x : Int32} (dg : decode cc pc = .ok (.ineg, 1)) (k : Z K d own cc nL (pc + 1) ls (zI (-x) :: sk) μ) : Z K d own cc nL pc ls (zI x :: sk) μ := by
  obtain ⟨G, p, l, e, R, s, m, args, below, meth, c, A, Q, ce, sl⟩ := K
  intro F H locs la hP hS hl
  exact lv_ineg F.1 F.2.1 dg (k F H locs la hP hS hl)
theorem z_ladd {x y : Int64} (dg : decode cc pc = .ok (.ladd, 1)) (k : Z K d own cc nL (pc + 1) ls (zL (x + y) :: sk) μ) : Z K d own cc nL pc ls (zL y :: zL x :: sk) μ := by
  obtain ⟨G, p, l, e, R, s, m, args, below, meth, c, A, Q, ce, sl⟩ := K
  intro F H locs la hP hS hl
  exact lv_ladd F.1 F.2.1 dg (k F H locs la hP hS hl)
theorem z_lsub {x y : Int64} (dg : decode cc pc = .ok (.lsub, 1)) (k : Z K d own cc nL (pc + 1) ls (zL (x - y) :: sk) μ) : Z K d own cc nL pc ls (zL y :: zL x :: sk) μ := by
  obtain ⟨G, p, l, e, R, s, m, args, below, meth, c, A, Q, ce, sl⟩ := K
  intro F H locs la hP hS hl
  exact lv_lsub F.1 F.2.1 dg (k F H locs la hP hS hl)
theorem z_lmul {x y : Int64} (dg : decode cc pc = .ok (.lmul, 1)) (k : Z K d own cc nL (pc + 1) ls (zL (x * y) :: sk) μ) : Z K d own cc nL pc ls (zL y :: zL x :: sk) μ := by
  obtain ⟨G, p, l, e, R, s, m, args, below, meth, c, A, Q, ce, sl⟩ := K
  intro F H locs la hP hS hl
  exact lv_lmul F.1 F.2.1 dg (k F H locs la hP hS hl)
theorem z_ldiv {x y : Int64} (dg : decode cc pc = .ok (.ldiv, 1)) (hy : ¬ y = 0) (k : Z K d own cc nL (pc + 1) ls (zL (x / y) :: sk) μ) : Z K d own cc nL pc ls (zL y :: zL x :: sk) μ := by
  obtain ⟨G, p, l, e, R, s, m, args, below, meth, c, A, Q, ce, sl⟩ := K
  intro F H locs la hP hS hl
  exact lv_ldiv F.1 F.2.1 dg hy (k F H locs la hP hS hl)
theorem z_lneg {x : Int64} (dg : decode cc pc = .ok (.lneg, 1)) (k : Z K d own cc nL (pc + 1) ls (zL (-x) :: sk) μ) : Z K d own cc nL pc ls (zL x :: sk) μ := by
  obtain ⟨G, p, l, e, R, s, m, args, below, meth, c, A, Q, ce, sl⟩ := K
  intro F H locs la hP hS hl
  exact lv_lneg F.1 F.2.1 dg (k F H locs la hP hS hl)
theorem z_i2l {x : Int32} (dg : decode cc pc = .ok (.i2l, 1)) (k : Z K d own cc nL (pc + 1) ls (zL x.toInt64 :: sk) μ) : Z K d own cc nL pc ls (zI x :: sk) μ := by
  obtain ⟨G, p, l, e, R, s, m, args, below, meth, c, A, Q, ce, sl⟩ := K
  intro F H locs la hP hS hl
  exact lv_i2l F.1 F.2.1 dg rfl (k F H locs la hP hS hl)
theorem z_l2i {x : Int64} (dg : decode cc pc = .ok (.l2i, 1)) (k : Z K d own cc nL (pc + 1) ls (zI x.toInt32 :: sk) μ) : Z K d own cc nL pc ls (zL x :: sk) μ := by
  obtain ⟨G, p, l, e, R, s, m, args, below, meth, c, A, Q, ce, sl⟩ := K
  intro F H locs la hP hS hl
  exact lv_l2i F.1 F.2.1 dg rfl (k F H locs la hP hS hl)
theorem z_i2c {x : Int32} (dg : decode cc pc = .ok (.i2c, 1)) (k : Z K d own cc nL (pc + 1) ls (zI (x.toUInt32 % 65536).toInt32 :: sk) μ) : Z K d own cc nL pc ls (zI x :: sk) μ := by
  obtain ⟨G, p, l, e, R, s, m, args, below, meth, c, A, Q, ce, sl⟩ := K
  intro F H locs la hP hS hl
  exact lv_i2c F.1 F.2.1 dg rfl (k F H locs la hP hS hl)
theorem z_lcmp {x y : Int64} (dg : decode cc pc = .ok (.lcmp, 1)) (k : Z K d own cc nL (pc + 1) ls (zI (lg_cmp x y) :: sk) μ) : Z K d own cc nL pc ls (zL y :: zL x :: sk) μ := by
  obtain ⟨G, p, l, e, R, s, m, args, below, meth, c, A, Q, ce, sl⟩ := K
  intro F H locs la hP hS hl
  exact W.lcmp F.1 F.2.1 dg (k F H locs la hP hS hl)
theorem z_dup {v : zV} (dg : decode cc pc = .ok (.dup, 1)) (hv : zcat v = 1) (k : Z K d own cc nL (pc + 1) ls (v :: v :: sk) μ) : Z K d own cc nL pc ls (v :: sk) μ := by
  obtain ⟨G, p, l, e, R, s, m, args, below, meth, c, A, Q, ce, sl⟩ := K
  intro F H locs la hP hS hl
  exact lv_dup F.1 F.2.1 dg (by rw [zcat_eq]; exact hv) (k F H locs la hP hS hl)
theorem z_dup2 {v u : zV} (dg : decode cc pc = .ok (.dup2, 1)) (hv : zcat v = 1) (hu : zcat u = 1) (k : Z K d own cc nL (pc + 1) ls (v :: u :: v :: u :: sk) μ) : Z K d own cc nL pc ls (v :: u :: sk) μ := by
  obtain ⟨G, p, l, e, R, s, m, args, below, meth, c, A, Q, ce, sl⟩ := K
  intro F H locs la hP hS hl
  exact lv_dup2_11 F.1 F.2.1 dg (by rw [zcat_eq]; exact hv) (by rw [zcat_eq]; exact hu) (k F H locs la hP hS hl)
theorem z_dup_x1 {v u : zV} (dg : decode cc pc = .ok (.dup_x1, 1)) (hv : zcat v = 1) (hu : zcat u = 1) (k : Z K d own cc nL (pc + 1) ls (v :: u :: v :: sk) μ) : Z K d own cc nL pc ls (v :: u :: sk) μ := by
  obtain ⟨G, p, l, e, R, s, m, args, below, meth, c, A, Q, ce, sl⟩ := K
  intro F H locs la hP hS hl
  exact lv_dup_x1 F.1 F.2.1 dg (by rw [zcat_eq]; exact hv) (by rw [zcat_eq]; exact hu) (k F H locs la hP hS hl)
theorem z_if_eq {x : Int32} {off : Int} {tgt : Nat} (dg : decode cc pc = .ok (.ifCond .eq off, 3)) (ht : (pc : Int) + off = (tgt : Int)) (kt : x = 0 → Z K d own cc nL tgt ls sk μ) (kf : ¬ x = 0 → Z K d own cc nL (pc + 3) ls sk μ) : Z K d own cc nL pc ls (zI x :: sk) μ := by
  obtain ⟨G, p, l, e, R, s, m, args, below, meth, c, A, Q, ce, sl⟩ := K
  intro F H locs la hP hS hl
  exact lv_if_eq F.1 F.2.1 dg ht (fun h => kt h F H locs la hP hS hl) (fun h => kf h F H locs la hP hS hl)
theorem z_icmp_eq {x y : Int32} {off : Int} {tgt : Nat} (dg : decode cc pc = .ok (.if_icmp .eq off, 3)) (ht : (pc : Int) + off = (tgt : Int)) (kt : x = y → Z K d own cc nL tgt ls sk μ) (kf : ¬ x = y → Z K d own cc nL (pc + 3) ls sk μ) : Z K d own cc nL pc ls (zI y :: zI x :: sk) μ := by
  obtain ⟨G, p, l, e, R, s, m, args, below, meth, c, A, Q, ce, sl⟩ := K
  intro F H locs la hP hS hl
  exact lv_icmp_eq F.1 F.2.1 dg ht (fun h => kt h F H locs la hP hS hl) (fun h => kf h F H locs la hP hS hl)
theorem z_if_ne {x : Int32} {off : Int} {tgt : Nat} (dg : decode cc pc = .ok (.ifCond .ne off, 3)) (ht : (pc : Int) + off = (tgt : Int)) (kt : ¬ x = 0 → Z K d own cc nL tgt ls sk μ) (kf : x = 0 → Z K d own cc nL (pc + 3) ls sk μ) : Z K d own cc nL pc ls (zI x :: sk) μ := by
  obtain ⟨G, p, l, e, R, s, m, args, below, meth, c, A, Q, ce, sl⟩ := K
  intro F H locs la hP hS hl
  exact lv_if_ne F.1 F.2.1 dg ht (fun h => kt h F H locs la hP hS hl) (fun h => kf h F H locs la hP hS hl)
theorem z_icmp_ne {x y : Int32} {off : Int} {tgt : Nat} (dg : decode cc pc = .ok (.if_icmp .ne off, 3)) (ht : (pc : Int) + off = (tgt : Int)) (kt : ¬ x = y → Z K d own cc nL tgt ls sk μ) (kf : x = y → Z K d own cc nL (pc + 3) ls sk μ) : Z K d own cc nL pc ls (zI y :: zI x :: sk) μ := by
  obtain ⟨G, p, l, e, R, s, m, args, below, meth, c, A, Q, ce, sl⟩ := K
  intro F H locs la hP hS hl
  exact lv_icmp_ne F.1 F.2.1 dg ht (fun h => kt h F H locs la hP hS hl) (fun h => kf h F H locs la hP hS hl)
theorem z_if_lt {x : Int32} {off : Int} {tgt : Nat} (dg : decode cc pc = .ok (.ifCond .lt off, 3)) (ht : (pc : Int) + off = (tgt : Int)) (kt : x < 0 → Z K d own cc nL tgt ls sk μ) (kf : ¬ x < 0 → Z K d own cc nL (pc + 3) ls sk μ) : Z K d own cc nL pc ls (zI x :: sk) μ := by
  obtain ⟨G, p, l, e, R, s, m, args, below, meth, c, A, Q, ce, sl⟩ := K
  intro F H locs la hP hS hl
  exact lv_if_lt F.1 F.2.1 dg ht (fun h => kt h F H locs la hP hS hl) (fun h => kf h F H locs la hP hS hl)
theorem z_icmp_lt {x y : Int32} {off : Int} {tgt : Nat} (dg : decode cc pc = .ok (.if_icmp .lt off, 3)) (ht : (pc : Int) + off = (tgt : Int)) (kt : x < y → Z K d own cc nL tgt ls sk μ) (kf : ¬ x < y → Z K d own cc nL (pc + 3) ls sk μ) : Z K d own cc nL pc ls (zI y :: zI x :: sk) μ := by
  obtain ⟨G, p, l, e, R, s, m, args, below, meth, c, A, Q, ce, sl⟩ := K
  intro F H locs la hP hS hl
  exact lv_icmp_lt F.1 F.2.1 dg ht (fun h => kt h F H locs la hP hS hl) (fun h => kf h F H locs la hP hS hl)
theorem z_if_ge {x : Int32} {off : Int} {tgt : Nat} (dg : decode cc pc = .ok (.ifCond .ge off, 3)) (ht : (pc : Int) + off = (tgt : Int)) (kt : 0 ≤ x → Z K d own cc nL tgt ls sk μ) (kf : ¬ 0 ≤ x → Z K d own cc nL (pc + 3) ls sk μ) : Z K d own cc nL pc ls (zI x :: sk) μ := by
  obtain ⟨G, p, l, e, R, s, m, args, below, meth, c, A, Q, ce, sl⟩ := K
  intro F H locs la hP hS hl
  exact lv_if_ge F.1 F.2.1 dg ht (fun h => kt h F H locs la hP hS hl) (fun h => kf h F H locs la hP hS hl)
theorem z_icmp_ge {x y : Int32} {off : Int} {tgt : Nat} (dg : decode cc pc = .ok (.if_icmp .ge off, 3)) (ht : (pc : Int) + off = (tgt : Int)) (kt : y ≤ x → Z K d own cc nL tgt ls sk μ) (kf : ¬ y ≤ x → Z K d own cc nL (pc + 3) ls sk μ) : Z K d own cc nL pc ls (zI y :: zI x :: sk) μ := by
  obtain ⟨G, p, l, e, R, s, m, args, below, meth, c, A, Q, ce, sl⟩ := K
  intro F H locs la hP hS hl
  exact lv_icmp_ge F.1 F.2.1 dg ht (fun h => kt h F H locs la hP hS hl) (fun h => kf h F H locs la hP hS hl)
theorem z_if_gt {x : Int32} {off : Int} {tgt : Nat} (dg : decode cc pc = .ok (.ifCond .gt off, 3)) (ht : (pc : Int) + off = (tgt : Int)) (kt : 0 < x → Z K d own cc nL tgt ls sk μ) (kf : ¬ 0 < x → Z K d own cc nL (pc + 3) ls sk μ) : Z K d own cc nL pc ls (zI x :: sk) μ := by
  obtain ⟨G, p, l, e, R, s, m, args, below, meth, c, A, Q, ce, sl⟩ := K
  intro F H locs la hP hS hl
  exact lv_if_gt F.1 F.2.1 dg ht (fun h => kt h F H locs la hP hS hl) (fun h => kf h F H locs la hP hS hl)
theorem z_icmp_gt {x y : Int32} {off : Int} {tgt : Nat} (dg : decode cc pc = .ok (.if_icmp .gt off, 3)) (ht : (pc : Int) + off = (tgt : Int)) (kt : y < x → Z K d own cc nL tgt ls sk μ) (kf : ¬ y < x → Z K d own cc nL (pc + 3) ls sk μ) : Z K d own cc nL pc ls (zI y :: zI x :: sk) μ := by
  obtain ⟨G, p, l, e, R, s, m, args, below, meth, c, A, Q, ce, sl⟩ := K
  intro F H locs la hP hS hl
  exact lv_icmp_gt F.1 F.2.1 dg ht (fun h => kt h F H locs la hP hS hl) (fun h => kf h F H locs la hP hS hl)
theorem z_if_le {x : Int32} {off : Int} {tgt : Nat} (dg : decode cc pc = .ok (.ifCond .le off, 3)) (ht : (pc : Int) + off = (tgt : Int)) (kt : x ≤ 0 → Z K d own cc nL tgt ls sk μ) (kf : ¬ x ≤ 0 → Z K d own cc nL (pc + 3) ls sk μ) : Z K d own cc nL pc ls (zI x :: sk) μ := by
  obtain ⟨G, p, l, e, R, s, m, args, below, meth, c, A, Q, ce, sl⟩ := K
  intro F H locs la hP hS hl
  exact lv_if_le F.1 F.2.1 dg ht (fun h => kt h F H locs la hP hS hl) (fun h => kf h F H locs la hP hS hl)
theorem z_icmp_le {x y : Int32} {off : Int} {tgt : Nat} (dg : decode cc pc = .ok (.if_icmp .le off, 3)) (ht : (pc : Int) + off = (tgt : Int)) (kt : x ≤ y → Z K d own cc nL tgt ls sk μ) (kf : ¬ x ≤ y → Z K d own cc nL (pc + 3) ls sk μ) : Z K d own cc nL pc ls (zI y :: zI x :: sk) μ := by
  obtain ⟨G, p, l, e, R, s, m, args, below, meth, c, A, Q, ce, sl⟩ := K
  intro F H locs la hP hS hl
  exact lv_icmp_le F.1 F.2.1 dg ht (fun h => kt h F H locs la hP hS hl) (fun h => kf h F H locs la hP hS hl)
theorem z_goto {off : Int} {tgt : Nat} (dg : decode cc pc = .ok (.goto off, 3)) (ht : (pc : Int) + off = (tgt : Int)) (k : Z K d own cc nL tgt ls sk μ) : Z K d own cc nL pc ls sk μ := by
  obtain ⟨G, p, l, e, R, s, m, args, below, meth, c, A, Q, ce, sl⟩ := K
  intro F H locs la hP hS hl
  exact lv_goto F.1 F.2.1 dg ht (k F H locs la hP hS hl)
theorem z_pc {pc' : Nat} (h : pc = pc') (k : Z K d own cc nL pc' ls sk μ) : Z K d own cc nL pc ls sk μ := h ▸ k
theorem z_tabOut {dflt lo hi : Int} {offs : Array Int} {len : Nat} {x : Int32} {tgt : Nat} (dg : decode cc pc = .ok (.tableswitch dflt lo hi offs, len)) (h : x.toInt < lo ∨ hi < x.toInt) (ht : (pc : Int) + dflt = (tgt : Int)) (k : Z K d own cc nL tgt ls sk μ) : Z K d own cc nL pc ls (zI x :: sk) μ := by
  obtain ⟨G, p, l, e, R, s, m, args, below, meth, c, A, Q, ce, sl⟩ := K
  intro F H locs la hP hS hl
  exact lv_tableOut F.1 F.2.1 dg h ht (k F H locs la hP hS hl)
theorem z_tabIn {dflt lo hi : Int} {offs : Array Int} {len : Nat} {x : Int32} {off : Int} {tgt : Nat} (dg : decode cc pc = .ok (.tableswitch dflt lo hi offs, len)) (h1 : ¬ x.toInt < lo) (h2 : ¬ hi < x.toInt) (ho : offs[(x.toInt - lo).toNat]? = some off) (ht : (pc : Int) + off = (tgt : Int)) (k : Z K d own cc nL tgt ls sk μ) : Z K d own cc nL pc ls (zI x :: sk) μ := by
  obtain ⟨G, p, l, e, R, s, m, args, below, meth, c, A, Q, ce, sl⟩ := K
  intro F H locs la hP hS hl
  exact lv_tableIn F.1 F.2.1 dg h1 h2 ho ht (k F H locs la hP hS hl)
theorem z_lookup {dflt : Int} {ps : Array (Int × Int)} {len : Nat} {x : Int32} {off : Int} {tgt : Nat} (dg : decode cc pc = .ok (.lookupswitch dflt ps, len)) (hp : (ps.toList.zip (ps.toList.drop 1)).all (fun (a, next) => a.1 < next.1) = true) (ho : Op.lookupswitch.offset ps.toList dflt x.toInt = off) (ht : (pc : Int) + off = (tgt : Int)) (k : Z K d own cc nL tgt ls sk μ) : Z K d own cc nL pc ls (zI x :: sk) μ := by
  obtain ⟨G, p, l, e, R, s, m, args, below, meth, c, A, Q, ce, sl⟩ := K
  intro F H locs la hP hS hl
  exact lv_lookup F.1 F.2.1 dg hp ho ht (k F H locs la hP hS hl)
end ZROWS
end
section
theorem zin0 : ∀ w ∈ u_ws RX0 TX0 7, w ∈ zT := by decide +kernel
theorem zin1 : ∀ w ∈ u_ws RX1 TX1 9, w ∈ zT := by decide +kernel
theorem zin2 : ∀ w ∈ u_ws RX2 TX2 12, w ∈ zT := by decide +kernel
theorem zin3 : ∀ w ∈ u_ws RX3 TX3 5, w ∈ zT := by decide +kernel
theorem zin4 : ∀ w ∈ u_ws RX4 TX4 12, w ∈ zT := by decide +kernel
section ZHEAP
variable {K : zK} {d nL pc : Nat} {own : String} {cc : ByteArray} {ls sk : List zV} {μ : zM}
theorem z_get {C : String} {T : u_T} {N ci i idx : Nat} {a : zA} {v : zV} (fs : zG → List Value) (hin : ∀ w ∈ u_ws C T N, w ∈ zT) (hc : vwCl[ci]? = some (C, T, N)) (hi : i < N) (hv : a ∈ zcells) (he : ∀ G, zent G a (μ a) = .inr (ci, fs G)) (hx : ∀ G, (fs G)[i]? = some (zc G.1 v))
    (dg : decode cc pc = .ok (.getfield idx, 3)) (hl0 : Cond.fieldLink own idx (T i).1 (T i).2.1 (T i).2.2.1 ∈ zT) (k : Z K d own cc nL (pc + 3) ls (v :: sk) μ) : Z K d own cc nL pc ls (zR a :: sk) μ := by
  obtain ⟨G, p, l, e, R, s, m, args, below, meth, c, A, Q, ce, sl⟩ := K
  intro F H locs la hP hS hl
  obtain ⟨q0, hq, hw⟩ := z_at (G := G) μ hv
  rw [he G] at hw
  exact va_get (D := G.2.1) (cl := vwCl) F.1 F.2.1 F.2.2.2.2.1 hin F.2.2.2.1 F.2.2.2.2.2.1 hP q0 hw hc i hi (F.2.2.2.2.1 _ hl0) (fun _ h => h) (hx G) dg (k F H locs la hP hS hl)
theorem z_put {C : String} {T : u_T} {N ci i idx : Nat} {a : zA} {x : Int32} (ty0 : Nat → FieldType) (fs : zG → (Nat → Int32) → List Value) (hin : ∀ w ∈ u_ws C T N, w ∈ zT) (hty : ∀ k, k < N → parseFieldDescriptor (T k).2.2.1 = some (ty0 k)) (hnm : ∀ a, a < N → ∀ b, b < N → a ≠ b → (T a).2.1 ≠ (T b).2.1) (hc : vwCl[ci]? = some (C, T, N)) (hi : i < N) (hv : a ∈ zcells) (he : ∀ G f, zent G a f = .inr (ci, fs G f)) (hx : ∀ G f, (fs G f).set i (.int x) = fs G (upd f i x))
    (hfin : (T i).2.2.2 = false) {ty : FieldType} (hd : parseFieldDescriptor (T i).2.2.1 = some ty) (hn : narrow ty (.int x) = .int x) (hfit : fits ty (.int x) = true) (hlen : ∀ G f, i < (fs G f).length)
    (dg : decode cc pc = .ok (.putfield idx, 3)) (hl0 : Cond.fieldLink own idx (T i).1 (T i).2.1 (T i).2.2.1 ∈ zT) (k : Z K d own cc nL (pc + 3) ls sk (st μ a (upd (μ a) i x))) : Z K d own cc nL pc ls (zI x :: zR a :: sk) μ := by
  obtain ⟨G, p, l, e, R, s, m, args, below, meth, c, A, Q, ce, sl⟩ := K
  intro F H locs la hP hS hl
  obtain ⟨q0, hq, hw⟩ := z_at (G := G) μ hv
  rw [he G] at hw
  refine va_put (D := G.2.1) (cl := vwCl) F.1 F.2.1 F.2.2.2.2.1 hin ty0 hty hnm F.2.2.2.1 F.2.2.2.2.2.1 hP (z_D F.2.2.2.2.2.2.1 F.2.2.2.2.2.2.2.1) hS q0 hw hc i hi (F.2.2.2.2.1 _ hl0) (fun _ h => h) hfin hd hn hfit (hlen G _) dg fun H1 locs1 hP1 _ hS1 => ?_
  change va_P G.2.1 vwCl ((zws G μ).set q0 (G.1 a, .inr (ci, (fs G (μ a)).set i (.int x)))) H1 at hP1
  rw [hx G, ← he G, z_set hq] at hP1
  exact k F H1 locs1 la hP1 hS1 hl
theorem z_iald {a : zA} {n i : Nat} {j : Int32} (dg : decode cc pc = .ok (.iaload, 1)) (he : ∀ G f, zent G a f = zarI G n f) (hj : j = nI i) (hi : i < n) (k : Z K d own cc nL (pc + 1) ls (zI (μ a i) :: sk) μ) (hv : a ∈ zcells := by assumption) (hn : n < 5000 := by decide) : Z K d own cc nL pc ls (zI j :: zR a :: sk) μ := by
  obtain ⟨G, p, l, e, R, s, m, args, below, meth, c, A, Q, ce, sl⟩ := K
  intro F H locs la hP hS hl
  obtain ⟨q0, hq, hw⟩ := z_at (G := G) μ hv
  rw [he G] at hw
  have hi31 : i < 2 ^ 31 := by omega
  subst hj
  refine va_iald (D := G.2.1) (cl := vwCl) F.1 F.2.1 F.2.2.2.2.2.1 hP q0 0 hw rfl (vp_in_nI hi (by omega)) dg ?_
  rw [nI_clamp hi31]
  exact k F H locs la hP hS hl
theorem z_iast {a : zA} {n i : Nat} {j x : Int32} (dg : decode cc pc = .ok (.iastore, 1)) (he : ∀ G f, zent G a f = zarI G n f) (hj : j = nI i) (hi : i < n) (k : Z K d own cc nL (pc + 1) ls sk (st μ a (upd (μ a) i x))) (hv : a ∈ zcells := by assumption) (hn : n < 5000 := by decide) : Z K d own cc nL pc ls (zI x :: zI j :: zR a :: sk) μ := by
  obtain ⟨G, p, l, e, R, s, m, args, below, meth, c, A, Q, ce, sl⟩ := K
  intro F H locs la hP hS hl
  obtain ⟨q0, hq, hw⟩ := z_at (G := G) μ hv
  rw [he G] at hw
  have hi31 : i < 2 ^ 31 := by omega
  refine va_iast (D := G.2.1) (cl := vwCl) F.1 F.2.1 F.2.2.2.2.2.1 hP (z_D F.2.2.2.2.2.2.1 F.2.2.2.2.2.2.2.1) hS q0 0 hw (i := j) rfl (by rw [hj]; exact vp_in_nI hi (by omega)) dg fun H1 locs1 hP1 _ hS1 => ?_
  rw [hj, nI_clamp hi31] at hP1
  have e : ((zws G μ).set q0 (G.1 a, zarI G n (upd (μ a) i x))) = zws G (st μ a (upd (μ a) i x)) := by rw [← he G]; exact z_set hq
  have hP2 : va_P G.2.1 vwCl ((zws G μ).set q0 (G.1 a, zarI G n (upd (μ a) i x))) H1 := hP1
  rw [e] at hP2
  exact k F H1 locs1 la hP2 hS1 hl
theorem z_zald {a : zA} {n i : Nat} {j : Int32} (dg : decode cc pc = .ok (.baload, 1)) (he : ∀ G f, zent G a f = (.inl (G.2.2 1, n, .inl f))) (hj : j = nI i) (hi : i < n) (k : Z K d own cc nL (pc + 1) ls (zI (μ a i) :: sk) μ) (hv : a ∈ zcells := by assumption) (hn : n < 5000 := by decide) : Z K d own cc nL pc ls (zI j :: zR a :: sk) μ := by
  obtain ⟨G, p, l, e, R, s, m, args, below, meth, c, A, Q, ce, sl⟩ := K
  intro F H locs la hP hS hl
  obtain ⟨q0, hq, hw⟩ := z_at (G := G) μ hv
  rw [he G] at hw
  have hi31 : i < 2 ^ 31 := by omega
  subst hj
  refine va_zald (D := G.2.1) (cl := vwCl) F.1 F.2.1 F.2.2.2.2.2.1 hP q0 1 hw rfl (vp_in_nI hi (by omega)) dg ?_
  rw [nI_clamp hi31]
  exact k F H locs la hP hS hl
theorem z_zast {a : zA} {n i : Nat} {j x : Int32} (dg : decode cc pc = .ok (.bastore, 1)) (he : ∀ G f, zent G a f = (.inl (G.2.2 1, n, .inl f))) (hj : j = nI i) (hi : i < n) (hx : vp_nar .boolean x = x) (k : Z K d own cc nL (pc + 1) ls sk (st μ a (upd (μ a) i x))) (hv : a ∈ zcells := by assumption) (hn : n < 5000 := by decide) : Z K d own cc nL pc ls (zI x :: zI j :: zR a :: sk) μ := by
  obtain ⟨G, p, l, e, R, s, m, args, below, meth, c, A, Q, ce, sl⟩ := K
  intro F H locs la hP hS hl
  obtain ⟨q0, hq, hw⟩ := z_at (G := G) μ hv
  rw [he G] at hw
  have hi31 : i < 2 ^ 31 := by omega
  refine va_zast (D := G.2.1) (cl := vwCl) F.1 F.2.1 F.2.2.2.2.2.1 hP (z_D F.2.2.2.2.2.2.1 F.2.2.2.2.2.2.2.1) hS q0 1 hw (i := j) rfl (by rw [hj]; exact vp_in_nI hi (by omega)) dg fun H1 locs1 hP1 _ hS1 => ?_
  rw [hj, nI_clamp hi31, hx] at hP1
  have e : ((zws G μ).set q0 (G.1 a, (.inl (G.2.2 1, n, .inl (upd (μ a) i x))))) = zws G (st μ a (upd (μ a) i x)) := by rw [← he G]; exact z_set hq
  have hP2 : va_P G.2.1 vwCl ((zws G μ).set q0 (G.1 a, (.inl (G.2.2 1, n, .inl (upd (μ a) i x))))) H1 := hP1
  rw [e] at hP2
  exact k F H1 locs1 la hP2 hS1 hl
theorem z_cald {a : zA} {n i : Nat} {j : Int32} (dg : decode cc pc = .ok (.caload, 1)) (he : ∀ G f, zent G a f = (.inl (G.2.2 2, n, .inl f))) (hj : j = nI i) (hi : i < n) (k : Z K d own cc nL (pc + 1) ls (zI (μ a i) :: sk) μ) (hv : a ∈ zcells := by assumption) (hn : n < 5000 := by decide) : Z K d own cc nL pc ls (zI j :: zR a :: sk) μ := by
  obtain ⟨G, p, l, e, R, s, m, args, below, meth, c, A, Q, ce, sl⟩ := K
  intro F H locs la hP hS hl
  obtain ⟨q0, hq, hw⟩ := z_at (G := G) μ hv
  rw [he G] at hw
  have hi31 : i < 2 ^ 31 := by omega
  subst hj
  refine va_cald (D := G.2.1) (cl := vwCl) F.1 F.2.1 F.2.2.2.2.2.1 hP q0 2 hw rfl (vp_in_nI hi (by omega)) dg ?_
  rw [nI_clamp hi31]
  exact k F H locs la hP hS hl
theorem z_cast {a : zA} {n i : Nat} {j x : Int32} (dg : decode cc pc = .ok (.castore, 1)) (he : ∀ G f, zent G a f = (.inl (G.2.2 2, n, .inl f))) (hj : j = nI i) (hi : i < n) (hx : vp_nar .char x = x) (k : Z K d own cc nL (pc + 1) ls sk (st μ a (upd (μ a) i x))) (hv : a ∈ zcells := by assumption) (hn : n < 5000 := by decide) : Z K d own cc nL pc ls (zI x :: zI j :: zR a :: sk) μ := by
  obtain ⟨G, p, l, e, R, s, m, args, below, meth, c, A, Q, ce, sl⟩ := K
  intro F H locs la hP hS hl
  obtain ⟨q0, hq, hw⟩ := z_at (G := G) μ hv
  rw [he G] at hw
  have hi31 : i < 2 ^ 31 := by omega
  refine va_cast (D := G.2.1) (cl := vwCl) F.1 F.2.1 F.2.2.2.2.2.1 hP (z_D F.2.2.2.2.2.2.1 F.2.2.2.2.2.2.2.1) hS q0 2 hw (i := j) rfl (by rw [hj]; exact vp_in_nI hi (by omega)) dg fun H1 locs1 hP1 _ hS1 => ?_
  rw [hj, nI_clamp hi31, hx] at hP1
  have e : ((zws G μ).set q0 (G.1 a, (.inl (G.2.2 2, n, .inl (upd (μ a) i x))))) = zws G (st μ a (upd (μ a) i x)) := by rw [← he G]; exact z_set hq
  have hP2 : va_P G.2.1 vwCl ((zws G μ).set q0 (G.1 a, (.inl (G.2.2 2, n, .inl (upd (μ a) i x))))) H1 := hP1
  rw [e] at hP2
  exact k F H1 locs1 la hP2 hS1 hl
theorem z_alen {a : zA} {n : Nat} (dg : decode cc pc = .ok (.arraylength, 1)) (he : ∀ G f, zent G a f = zarI G n f) (k : Z K d own cc nL (pc + 1) ls (zI (nI n) :: sk) μ) (hv : a ∈ zcells := by assumption) : Z K d own cc nL pc ls (zR a :: sk) μ := by
  obtain ⟨G, p, l, e, R, s, m, args, below, meth, c, A, Q, ce, sl⟩ := K
  intro F H locs la hP hS hl
  obtain ⟨q0, hq, hw⟩ := z_at (G := G) μ hv
  rw [he G] at hw
  exact va_alen (D := G.2.1) (cl := vwCl) F.1 F.2.1 F.2.2.2.2.2.1 hP q0 0 hw (ty := .int) rfl rfl dg (k F H locs la hP hS hl)
theorem z_aald {a b : zA} {n i ct : Nat} {ty : FieldType} {j : Int32} (g : Nat → zA) (dg : decode cc pc = .ok (.aaload, 1)) (he : ∀ G f, zent G a f = zarR ct n G g) (hct : ∀ G, (zty G)[ct]? = some (G.2.2 ct, ty)) (hr : ty.isReference = true) (hj : j = nI i) (hi : i < n) (hb : g i = b) (k : Z K d own cc nL (pc + 1) ls (zR b :: sk) μ) (hv : a ∈ zcells) (hn : n < 5000) : Z K d own cc nL pc ls (zI j :: zR a :: sk) μ := by
  obtain ⟨G, p, l, e, R, s, m, args, below, meth, c, A, Q, ce, sl⟩ := K
  intro F H locs la hP hS hl
  obtain ⟨q0, hq, hw⟩ := z_at (G := G) μ hv
  rw [he G] at hw
  have hi31 : i < 2 ^ 31 := by omega
  have hin : vp_in j n := by rw [hj]; exact vp_in_nI hi (by omega)
  have hcl : j.toNatClampNeg = i := by rw [hj]; exact nI_clamp hi31
  have hK := F.2.2.2.2.2.1
  refine W.aald (v := .ref (G.1 b)) (ty := ty) F.1 F.2.1 (hP q0 _ hw) ((hK.2 ct _ (hct G)).1 n (fun j => va_rf (some (G.1 (g j))))) hr (fun q => by cases q) (by show ¬ (j < 0 ∨ (arrV _ _ _).slots.size ≤ _); rw [arrV_size]; exact hin) ?_ rfl rfl dg (k F H locs la hP hS hl)
  show (arrV _ _ _).slots[_]? = _
  rw [hcl, arrV_read _ _ hi]
  show some (Value.ref (G.1 (g i))) = _
  rw [hb]
theorem z_ald1 {i : Nat} {j : Int32} (dg : decode cc pc = .ok (.aaload, 1)) (hj : j = nI i) (hi : i < 2) (k : Z K d own cc nL (pc + 1) ls (zR (5, 2 + i, 0) :: sk) μ) : Z K d own cc nL pc ls (zI j :: zR (1, 0, 0) :: sk) μ :=
  z_aald (ty := .object "DyeTank$Tank") (fun j => (5, 2 + j, 0)) dg (fun _ _ => rfl) (fun _ => rfl) rfl hj hi rfl k (by decide +kernel) (by decide)
theorem z_ald10 {i t : Nat} {j : Int32} (dg : decode cc pc = .ok (.aaload, 1)) (hj : j = nI i) (hi : i < 3) (k : Z K d own cc nL (pc + 1) ls (zR (11, t, i) :: sk) μ) (hv : (10, t, 0) ∈ zcells := by assumption) : Z K d own cc nL pc ls (zI j :: zR (10, t, 0) :: sk) μ :=
  z_aald (ty := .array .int) (fun j => (11, t, j)) dg (fun _ _ => rfl) (fun _ => rfl) rfl hj hi rfl k hv (by decide)
theorem z_ald12 {i t : Nat} {j : Int32} (dg : decode cc pc = .ok (.aaload, 1)) (hj : j = nI i) (hi : i < 6) (k : Z K d own cc nL (pc + 1) ls (zR (13, t, i) :: sk) μ) (hv : (12, t, 0) ∈ zcells := by assumption) : Z K d own cc nL pc ls (zI j :: zR (12, t, 0) :: sk) μ :=
  z_aald (ty := .object "DyeTank$Marker") (fun j => (13, t, j)) dg (fun _ _ => rfl) (fun _ => rfl) rfl hj hi rfl k hv (by decide)
theorem z_copy {a0 a1 : zA} {n0 n1 sp dp n idx : Nat} {jn js jd : Int32} (dg : decode cc pc = .ok (.invokestatic idx, 3)) (hl0 : Cond.methodLink own idx arraycopyName ∈ zT) (h0 : ∀ G f, zent G a0 f = zarI G n0 f) (h1 : ∀ G f, zent G a1 f = zarI G n1 f) (hjs : js = nI sp) (hjd : jd = nI dp) (hjn : jn = nI n) (hs : sp + n ≤ n0) (hd : dp + n ≤ n1) (hr : 1 ≤ d ∧ zsum sk ≤ 8)
    (k : Z K d own cc nL (pc + 3) ls sk (st μ a1 (va_cpy (μ a0) (μ a1) sp dp n))) (hv0 : a0 ∈ zcells := by assumption) (hv1 : a1 ∈ zcells := by assumption) (hn0 : n0 < 5000 := by decide) (hn1 : n1 < 5000 := by decide) : Z K d own cc nL pc ls (zI jn :: zI jd :: zR a1 :: zI js :: zR a0 :: sk) μ := by
  obtain ⟨G, p, l, e, R, s, m, args, below, meth, c, A, Q, ce, sl⟩ := K
  intro F H locs la hP hS hl
  obtain ⟨q0, hq0, hw0⟩ := z_at (G := G) μ hv0
  obtain ⟨q1, hq1, hw1⟩ := z_at (G := G) μ hv1
  rw [h0 G] at hw0
  rw [h1 G] at hw1
  have e1 : js.toNatClampNeg = sp := by rw [hjs]; exact nI_clamp (by omega)
  have e2 : jd.toNatClampNeg = dp := by rw [hjd]; exact nI_clamp (by omega)
  have e3 : jn.toNatClampNeg = n := by rw [hjn]; exact nI_clamp (by omega)
  have hts := F.2.2.2.2.1
  refine va_copyi (D := G.2.1) (cl := vwCl) F.1 F.2.1 (F.2.2.1.trans hl.1.symm) F.2.2.2.1 (hts _ hl0) (hts _ tw_67) (hts _ tw_66) (hts _ tw_4) F.2.2.2.2.2.1 hP (z_D F.2.2.2.2.2.2.1 F.2.2.2.2.2.2.2.1) hS q0 q1 0 0 hw0 hw1 rfl rfl rfl (by rw [hjs]; exact nI_pos (by omega)) (by rw [hjd]; exact nI_pos (by omega)) (by rw [hjn]; exact nI_pos (by omega)) (by rw [e1, e3]; exact hs) (by rw [e2, e3]; exact hd) (fun _ _ => rfl) (by have := F.2.2.2.2.2.2.2.2.2.2.2.1; omega) ?_ dg fun H1 locs1 hP1 _ hS1 => ?_
  · have h9 := F.2.2.2.2.2.2.2.2.2.2.2.2
    rw [zsum_eq]
    have h8 : nativeFrameWords "java/lang/System" "arraycopy" 5 + 11 ≤ 32 := by decide +kernel
    have := hr.2
    have := hr.1
    omega
  · rw [e1, e2, e3] at hP1
    have e : ((zws G μ).set q1 (G.1 a1, zarI G n1 (va_cpy (μ a0) (μ a1) sp dp n))) = zws G (st μ a1 (va_cpy (μ a0) (μ a1) sp dp n)) := by rw [← h1 G]; exact z_set hq1
    have hP2 : va_P G.2.1 vwCl ((zws G μ).set q1 (G.1 a1, zarI G n1 (va_cpy (μ a0) (μ a1) sp dp n))) H1 := hP1
    rw [e] at hP2
    exact k F H1 locs1 la hP2 hS1 hl
theorem z_gets {i idx : Nat} (hi : i = 40 ∨ i = 41 ∨ i = 42) (dg : decode cc pc = .ok (.getstatic idx, 3)) (hl0 : Cond.fieldLink own idx "DyeTank" (znm i) "[I" ∈ zT) (k : Z K d own cc nL (pc + 3) ls (zR (i, 0, 0) :: sk) μ) (hA : ∀ q, K.2.2.2.2.2.2.2.2.2.2.2.1 q → True := fun _ _ => trivial) : Z K d own cc nL pc ls sk μ := by
  obtain ⟨G, p, l, e, R, s, m, args, below, meth, c, A, Q, ce, sl⟩ := K
  intro F H locs la hP hS hl
  exact va_gets F.1 F.2.1 (F.2.2.2.2.2.2.2.2.1 i hi).1 hS F.2.2.2.1 (F.2.2.2.2.1 _ hl0) (fun _ h => h) dg (k F H locs la hP hS hl)
theorem z_sald {i j0 : Nat} {j : Int32} (hi : i = 40 ∨ i = 41 ∨ i = 42) (dg : decode cc pc = .ok (.iaload, 1)) (hj : j = nI j0) (hj0 : j0 < 7) (k : Z K d own cc nL (pc + 1) ls (zI ((ztab i).getD j0 0) :: sk) μ) : Z K d own cc nL pc ls (zI j :: zR (i, 0, 0) :: sk) μ := by
  obtain ⟨G, p, l, e, R, s, m, args, below, meth, c, A, Q, ce, sl⟩ := K
  intro F H locs la hP hS hl
  exact va_ti F.1 F.2.1 (F.2.2.2.2.2.2.2.2.1 i hi).2 hS (by rw [hj]; exact vp_in_nI hj0 (by omega)) (by rw [hj, nI_clamp (by omega)]; rfl) dg (k F H locs la hP hS hl)
theorem z_getsN (dg : decode cc pc = .ok (.getstatic 59, 3)) (k : Z K d "DyeTank$Tank" cc nL (pc + 3) ls (zR (40, 0, 0) :: sk) μ) : Z K d "DyeTank$Tank" cc nL pc ls sk μ := by
  obtain ⟨G, p, l, e, R, s, m, args, below, meth, c, A, Q, ce, sl⟩ := K
  intro F H locs la hP hS hl
  exact va_getsN F.1 F.2.1 (F.2.2.2.2.2.2.2.2.1 40 (Or.inl rfl)).1 hS F.2.2.2.1 (va_Nw.use rfl F.2.2.2.2.2.2.2.2.2.1) (fun _ h => h) dg (k F H locs la hP hS hl)
theorem z_mmax {x y : Int32} {idx : Nat} (dg : decode cc pc = .ok (.invokestatic idx, 3)) (hl0 : Cond.methodLink own idx Lib.Math.max.name ∈ zT) (hr : 1 ≤ d ∧ zsum sk ≤ 8) (k : Z K d own cc nL (pc + 3) ls (zI (if x < y then y else x) :: sk) μ) : Z K d own cc nL pc ls (zI y :: zI x :: sk) μ := by
  obtain ⟨G, p, l, e, R, s, m, args, below, meth, c, A, Q, ce, sl⟩ := K
  intro F H locs la hP hS hl
  have hts := F.2.2.2.2.1
  exact va_mmax F.1 F.2.1 (F.2.2.1.trans hl.1.symm) F.2.2.2.1 (hts _ hl0) (hts _ tw_230) (hts _ tw_8) (hts _ tw_231) (by have := F.2.2.2.2.2.2.2.2.2.2.2.1; omega) (by have h9 := F.2.2.2.2.2.2.2.2.2.2.2.2; rw [zsum_eq]; omega) F.2.2.2.2.2.2.2.2.2.2.1.1 F.2.2.2.2.2.2.2.2.2.2.1.2 dg (k F H locs la hP hS hl)
theorem z_mmin {x y : Int32} {idx : Nat} (dg : decode cc pc = .ok (.invokestatic idx, 3)) (hl0 : Cond.methodLink own idx Lib.Math.min.name ∈ zT) (hr : 1 ≤ d ∧ zsum sk ≤ 8) (k : Z K d own cc nL (pc + 3) ls (zI (if y < x then y else x) :: sk) μ) : Z K d own cc nL pc ls (zI y :: zI x :: sk) μ := by
  obtain ⟨G, p, l, e, R, s, m, args, below, meth, c, A, Q, ce, sl⟩ := K
  intro F H locs la hP hS hl
  have hts := F.2.2.2.2.1
  exact va_mmin F.1 F.2.1 (F.2.2.1.trans hl.1.symm) F.2.2.2.1 (hts _ hl0) (hts _ tw_283) (hts _ tw_8) (hts _ tw_284) (by have := F.2.2.2.2.2.2.2.2.2.2.2.1; omega) (by have h9 := F.2.2.2.2.2.2.2.2.2.2.2.2; rw [zsum_eq]; omega) F.2.2.2.2.2.2.2.2.2.2.1.1 F.2.2.2.2.2.2.2.2.2.2.1.2 dg (k F H locs la hP hS hl)
theorem z_mabs {x : Int32} {idx : Nat} (dg : decode cc pc = .ok (.invokestatic idx, 3)) (hl0 : Cond.methodLink own idx Lib.Math.abs.name ∈ zT) (hr : 1 ≤ d ∧ zsum sk ≤ 8) (k : Z K d own cc nL (pc + 3) ls (zI (if 0 ≤ x then x else 0 - x) :: sk) μ) : Z K d own cc nL pc ls (zI x :: sk) μ := by
  obtain ⟨G, p, l, e, R, s, m, args, below, meth, c, A, Q, ce, sl⟩ := K
  intro F H locs la hP hS hl
  have hts := F.2.2.2.2.1
  exact va_mabs F.1 F.2.1 (F.2.2.1.trans hl.1.symm) F.2.2.2.1 (hts _ hl0) (hts _ tw_290) (hts _ tw_8) (hts _ tw_291) (by have := F.2.2.2.2.2.2.2.2.2.2.2.1; omega) (by have h9 := F.2.2.2.2.2.2.2.2.2.2.2.2; rw [zsum_eq]; omega) F.2.2.2.2.2.2.2.2.2.2.1.1 F.2.2.2.2.2.2.2.2.2.2.1.2 dg (k F H locs la hP hS hl)
theorem z_mabsl {x : Int64} {idx : Nat} (dg : decode cc pc = .ok (.invokestatic idx, 3)) (hl0 : Cond.methodLink own idx Lib.MathLoose.abs_long.x ∈ zT) (hr : 1 ≤ d ∧ zsum sk ≤ 8) (k : Z K d own cc nL (pc + 3) ls (zL (if 0 < x then x else -x) :: sk) μ) : Z K d own cc nL pc ls (zL x :: sk) μ := by
  obtain ⟨G, p, l, e, R, s, m, args, below, meth, c, A, Q, ce, sl⟩ := K
  intro F H locs la hP hS hl
  have hts := F.2.2.2.2.1
  exact va_mabs_long F.1 F.2.1 (F.2.2.1.trans hl.1.symm) F.2.2.2.1 (hts _ hl0) (hts _ tw_374) (hts _ tw_8) (hts _ tw_375) (by have := F.2.2.2.2.2.2.2.2.2.2.2.1; omega) (by have h9 := F.2.2.2.2.2.2.2.2.2.2.2.2; rw [zsum_eq]; omega) F.2.2.2.2.2.2.2.2.2.2.1.1 F.2.2.2.2.2.2.2.2.2.2.1.2 dg (k F H locs la hP hS hl)
theorem z_iret {Po : zM → zV → Prop} {v : Int32} (hR : zRet K Po (some .int)) (dg : decode cc pc = .ok (.ireturn, 1)) (h : Po μ (zI v)) : Z K d own cc nL pc ls [zI v] μ := by
  obtain ⟨G, p, l, e, R, s, m, args, below, meth, c, A, Q, ce, sl⟩ := K
  intro F H locs la hP hS hl
  obtain ⟨rfl, rfl, hr, hlk⟩ := hR
  exact W.iret F.1 F.2.1 hr (fun t ht hW => ⟨μ, zI v, rfl, h, by rw [ht]; exact hP, hS.F ht⟩) hS.2.2 dg hlk
theorem z_lret {Po : zM → zV → Prop} {v : Int64} (hR : zRet K Po (some .long)) (dg : decode cc pc = .ok (.lreturn, 1)) (h : Po μ (zL v)) : Z K d own cc nL pc ls [zL v] μ := by
  obtain ⟨G, p, l, e, R, s, m, args, below, meth, c, A, Q, ce, sl⟩ := K
  intro F H locs la hP hS hl
  obtain ⟨rfl, rfl, hr, hlk⟩ := hR
  exact W.lret F.1 F.2.1 hr (fun t ht hW => ⟨μ, zL v, rfl, h, by rw [ht]; exact hP, hS.F ht⟩) hS.2.2 dg hlk
theorem z_zret {Po : zM → zV → Prop} {v : Int32} {ty : FieldType} (hR : zRet K Po (some ty)) (dg : decode cc pc = .ok (.ireturn, 1)) (hn : narrow ty (.int v) = .int v) (h : Po μ (zI v)) : Z K d own cc nL pc ls [zI v] μ := by
  obtain ⟨G, p, l, e, R, s, m, args, below, meth, c, A, Q, ce, sl⟩ := K
  intro F H locs la hP hS hl
  obtain ⟨rfl, rfl, hr, hlk⟩ := hR
  exact W.zret F.1 F.2.1 hr hn (fun t ht hW => ⟨μ, zI v, rfl, h, by rw [ht]; exact hP, hS.F ht⟩) hS.2.2 dg hlk
theorem z_vret {Po : zM → zV → Prop} (hR : zRet K Po none) (dg : decode cc pc = .ok (.return_, 1)) (h : Po μ zN) : Z K d own cc nL pc ls [] μ := by
  obtain ⟨G, p, l, e, R, s, m, args, below, meth, c, A, Q, ce, sl⟩ := K
  intro F H locs la hP hS hl
  obtain ⟨rfl, rfl, hr, hlk⟩ := hR
  exact W.vret F.1 F.2.1 hr (fun t ht hW => ⟨μ, zN, rfl, h, by rw [ht]; exact hP, hS.F ht⟩) hS.2.2 dg hlk
def zobj : Nat → Option Nat
  | 0 => some 3
  | 3 => some 1
  | 5 => some 2
  | 13 => some 0
  | 20 => some 4
  | _ => none
theorem zobj_ent {a : zA} {ci : Nat} (h : zobj a.1 = some ci) (G : zG) (f : Nat → Int32) : ∃ fs, zent G a f = .inr (ci, fs) := by
  obtain ⟨o, t, i⟩ := a
  have h1 : o = 0 ∨ o = 3 ∨ o = 5 ∨ o = 13 ∨ o = 20 := by
    unfold zobj at h
    split at h <;> simp_all
  rcases h1 with rfl | rfl | rfl | rfl | rfl <;> (cases h; exact ⟨_, rfl⟩)
/-- what the tables say of a method -/
def zMt (y : MethodName) (cc' : ByteArray) (nL' : Nat) (ret : Option FieldType) (n : Nat) : Prop := (y.cls ≠ "java/lang/invoke/MethodHandle" ∧ y.cls ≠ "java/lang/invoke/VarHandle") ∧ (parseMethodDescriptor y.desc).map (fun d => d.parameters.length) = some n ∧ Cond.code y cc' nL' ret ∈ zT ∧ Cond.initialized y.cls ∈ zT ∧ nL' ≤ 21
def zMv (ci : Nat) (y : MethodName) (cc' : ByteArray) (nL' : Nat) (ret : Option FieldType) (n : Nat) : Prop := zMt y cc' nL' ret n ∧ (vwCl[ci]?).map (fun q => q.1) = some y.cls ∧ Cond.instanceMethod y ∈ zT ∧ Cond.selects y.cls y y ∈ zT
def zMs (y : MethodName) (cc' : ByteArray) (nL' : Nat) (ret : Option FieldType) (n : Nat) : Prop := zMt y cc' nL' ret n ∧ Cond.static y ∈ zT
theorem zPre_blind (G : zG) (μ : zM) (av : List Value) : FrameBlind (va_Pc av (zPre G μ)) := fun a U g mk h => ⟨h.1, va_K.moved (u := U) (U := U.calling g mk a) (Vm.Alike.refl U.vm) h.2.1, h.2.2.1, h.2.2.2.1, zSt.moved (u := U) (U := U.calling g mk a) (Vm.Alike.refl U.vm) h.2.2.2.2.1, va_Nw.same (u := U) (U := U.calling g mk a) rfl rfl h.2.2.2.2.2⟩
theorem z_goodin {y : MethodName} {cc' : ByteArray} {nL' : Nat} {ret : Option FieldType} (h : Cond.code y cc' nL' ret ∈ zT) : GoodIn zT (Cond.code y cc' nL' ret :: zT) := fun w hw => by
  rcases List.mem_cons.mp hw with rfl | hw
  · exact zT_good _ h
  · exact zT_good _ hw
theorem z_run {p : Program} {l : Launch} {e : Env} {R : Room} {s : State} {m : MethodId} {args : Array Value} {below : List Frame} {meth : Method} {c : Code} {H : Heap} {locs : List Loc} {ce sl : Nat} {rest : List zV} {G : zG} {Po : zM → zV → Prop} {A : Nat → Prop} {Q : State → Prop} {la : Array Slot} {st0 : List Value} {aa : Array Value}
    (hr : va_Run p l e R s m args below meth c H locs ce sl 0 0 (F0 m pc la st0) (rest.map (zc G.1)) (zQ G Po aa) (zfree G)) (hS : va_S A s.heap H locs) (hA : ∀ a ∈ zcells, A (G.1 a))
    (kk : ∀ (μ' : zM) (r : zV) (H1 : Heap) (locs1 : List Loc), Po μ' r → zP G μ' H1 → va_S A s.heap H1 locs1 → W p l e R s m args below meth c H1 locs1 ce sl Q (F0 m (pc + 3) la ((zret G r).toList ++ rest.map (zc G.1)))) : W p l e R s m args below meth c H locs ce sl Q (F0 m pc la st0) := by
  intro T hT X
  obtain ⟨v, u0, t, T', L, h0, X', hL, e1, e2, ⟨μ', r, hv, hp, hb, hz, hk⟩, stp⟩ := hr T hT X
  cases hv
  rw [h0] at hz hk
  have hfA : ∀ q, zfree G q → A q := fun q ⟨a, ha, e⟩ => by rw [e]; exact hA a ha
  obtain ⟨t2, a1, b1⟩ := kk μ' r T'.heap (locs ++ L) hp (by rw [e1]; exact hb)
    ⟨Nat.le_trans hS.1 (by rw [e1]; exact hz), fun q h1 h2 => by rw [e1, hk q (Nat.lt_of_lt_of_le h1 hS.1) (fun z => h2 (hfA q z))]; exact hS.2.1 q h1 h2, fun q hq => by
      rcases List.mem_append.mp hq with h | h
      · exact hS.2.2 q h
      · exact hfA _ (hL q h)⟩ T' rfl X'
  exact ⟨t2, stp t2 a1, b1⟩
theorem zret_list (G : zG) (r : zV) (rest : List zV) : (zret G r).toList ++ rest.map (zc G.1) = ((match r with | none => [] | some x => [some x]) ++ rest).map (zc G.1) := by
  cases r <;> rfl
def zpush : zV → List zV → List zV
  | none, sk => sk
  | some x, sk => some x :: sk
theorem zret_push (G : zG) (r : zV) (rest : List zV) : (zret G r).toList ++ rest.map (zc G.1) = (zpush r rest).map (zc G.1) := by
  cases r <;> rfl
theorem z_callV {y : MethodName} {cc' : ByteArray} {nL' n idx ci d' : Nat} {ret : Option FieldType} {a : zA} {av stk : List zV} {Po : zM → zV → Prop} (hm : zMv ci y cc' nL' ret n) (hl0 : Cond.methodLink own idx y ∈ zT) (dg : decode cc pc = .ok (.invokevirtual idx, 3)) (hn : av.length = n) (ho : zobj a.1 = some ci) (hstk : stk = av.reverse ++ zR a :: sk) (hd : d' < d) (hsk : zsum sk ≤ 8) (hC : zCt y cc' nL' ret d' (zR a :: av) μ Po)
    (k : ∀ (μ' : zM) (r : zV), Po μ' r → Z K d own cc nL (pc + 3) ls (zpush r sk) μ') (hv : a ∈ zcells := by assumption) : Z K d own cc nL pc ls stk μ := by
  obtain ⟨G, p, l, e, R, s, m, args, below, meth, c, A, Q, ce, sl⟩ := K
  intro F H locs la hP hS hl
  obtain ⟨⟨hy, hpar, hcode, hini, hnL⟩, hcl, hinst, hsel⟩ := hm
  subst hstk
  have hts := F.2.2.2.2.1
  have hK := F.2.2.2.2.2.1
  obtain ⟨q0, hq, hw⟩ := z_at (G := G) μ hv
  obtain ⟨fs, hfs⟩ := zobj_ent ho G (μ a)
  rw [hfs] at hw
  cases hvc : vwCl[ci]? with
  | none => rw [hvc] at hcl; cases hcl
  | some q =>
  rw [hvc] at hcl
  have hqc : q.1 = y.cls := Option.some.inj hcl
  have hR := F.2.2.2.2.2.2.2.2.2.2.2
  refine z_run (rest := sk) (va_runV (C := y.cls) (As := av.map (zc G.1)) ⟨F.1, F.2.1, F.2.2.1, F.2.2.2.1, hts⟩ (hC l G) ⟨callB_of (own := own) n hts (z_goodin hcode) rfl rfl rfl (hts _ hini) (hts _ hl0) ⟨hy.1, hy.2, hpar⟩ ⟨by show d' + 1 ≤ _; omega, by show _ + 40 * d' ≤ _; omega⟩, hts _ hinst, hts _ hsel⟩ ⟨zPre_blind G μ _, by rw [← hqc]; exact va_recv hK hP hvc hw, fun U hU hW => ⟨rfl, va_K.moved hW.alike hK, F.2.2.2.2.2.2.1, by rw [hU]; exact hP, ?_, va_Nw.warmF hW F.2.2.2.2.2.2.2.2.2.1⟩⟩ rfl (by rw [List.length_map]; exact hn) hl.1 (by show (List.map (zc G.1) _) = _; rw [List.map_append, List.map_reverse]; rfl) (lv_room (by rw [zsum_eq]; exact hsk)) dg ⟨F.2.2.2.2.2.2.2.2.2.2.1.1, F.2.2.2.2.2.2.2.2.2.2.1.2⟩) hS F.2.2.2.2.2.2.2.1 fun μ' r H1 locs1 hp hP1 hS1 => ?_
  · rw [hU]
    have h1 := zSt.kept (F.2.2.2.2.2.2.2.2.1) (H1 := H) hS.2.1
    exact zSt.moved hW.alike (zSt.narrow h1 fun q ⟨a, ha, e⟩ => by rw [e]; exact F.2.2.2.2.2.2.2.1 a ha)
  · rw [zret_push]
    exact k μ' r hp F H1 locs1 la hP1 hS1 hl
theorem z_callS {y : MethodName} {cc' : ByteArray} {nL' n idx d' : Nat} {ret : Option FieldType} {av stk : List zV} {Po : zM → zV → Prop} (hm : zMs y cc' nL' ret n) (hl0 : Cond.methodLink own idx y ∈ zT) (dg : decode cc pc = .ok (.invokestatic idx, 3)) (hn : av.length = n) (hstk : stk = av.reverse ++ sk) (hd : d' < d) (hsk : zsum sk ≤ 8) (hC : zCt y cc' nL' ret d' av μ Po)
    (k : ∀ (μ' : zM) (r : zV), Po μ' r → Z K d own cc nL (pc + 3) ls (zpush r sk) μ') : Z K d own cc nL pc ls stk μ := by
  obtain ⟨G, p, l, e, R, s, m, args, below, meth, c, A, Q, ce, sl⟩ := K
  intro F H locs la hP hS hl
  obtain ⟨⟨hy, hpar, hcode, hini, hnL⟩, hstat⟩ := hm
  subst hstk
  have hts := F.2.2.2.2.1
  have hK := F.2.2.2.2.2.1
  have hR := F.2.2.2.2.2.2.2.2.2.2.2
  refine z_run (rest := sk) (va_runS (As := av.map (zc G.1)) ⟨F.1, F.2.1, F.2.2.1, F.2.2.2.1, hts⟩ (hC l G) ⟨callB_of (own := own) n hts (z_goodin hcode) rfl rfl rfl (hts _ hini) (hts _ hl0) ⟨hy.1, hy.2, hpar⟩ ⟨by show d' + 1 ≤ _; omega, by show _ + 40 * d' ≤ _; omega⟩, hts _ hstat⟩ ⟨zPre_blind G μ _, fun U hU hW => ⟨rfl, va_K.moved hW.alike hK, F.2.2.2.2.2.2.1, by rw [hU]; exact hP, ?_, va_Nw.warmF hW F.2.2.2.2.2.2.2.2.2.1⟩⟩ rfl (by rw [List.length_map]; exact hn) hl.1 (by show (List.map (zc G.1) _) = _; rw [List.map_append, List.map_reverse]) (lv_room (by rw [zsum_eq]; exact hsk)) dg ⟨F.2.2.2.2.2.2.2.2.2.2.1.1, F.2.2.2.2.2.2.2.2.2.2.1.2⟩) hS F.2.2.2.2.2.2.2.1 fun μ' r H1 locs1 hp hP1 hS1 => ?_
  · rw [hU]
    have h1 := zSt.kept (F.2.2.2.2.2.2.2.2.1) (H1 := H) hS.2.1
    exact zSt.moved hW.alike (zSt.narrow h1 fun q ⟨a, ha, e⟩ => by rw [e]; exact F.2.2.2.2.2.2.2.1 a ha)
  · rw [zret_push]
    exact k μ' r hp F H1 locs1 la hP1 hS1 hl
end ZHEAP
/-! a method's start -/
def zone : List zV → Bool
  | [] => true
  | a :: t => (zcat a == 1) && zone t
theorem zl_entry {G : zG} : ∀ (av : List zV) (r k : Nat), zone av = true → ∀ q ∈ zl G k (av ++ List.replicate r zN), q ∈ lv_args k (av.map (zc G.1))
  | [], 0, k, _, q, h => by simp [zl] at h
  | [], r + 1, k, h0, q, h => by
    rw [List.nil_append, List.replicate_succ] at h
    exact zl_entry [] r (k + 1) h0 q h |> fun h => by simp [lv_args] at h
  | none :: t, r, k, h0, q, h => by
    have h1 : zone t = true := by
      simp only [zone, Bool.and_eq_true] at h0
      exact h0.2
    have := zl_entry t r (k + 1) h1 q h
    exact List.mem_cons_of_mem _ this
  | some x :: t, r, k, h0, q, h => by
    simp only [zone, Bool.and_eq_true, beq_iff_eq] at h0
    rw [List.cons_append] at h
    rcases List.mem_cons.mp h with h | h
    · exact List.mem_cons.mpr (Or.inl h)
    · have := zl_entry t r (k + 1) h0.2 q h
      rw [List.map_cons]
      refine List.mem_cons_of_mem _ ?_
      rw [zcat_eq, h0.1]
      exact this
theorem lg_sl_one (ad : zA → Nat) : ∀ av : List zV, zone av = true → (lg_sl (av.map (zc ad))).length = av.length
  | [], _ => rfl
  | a :: t, h => by
    simp only [zone, Bool.and_eq_true, beq_iff_eq] at h
    have e : (zc ad a).category = 1 := by rw [zcat_eq]; exact h.1
    show ((((a :: t).map (zc ad)).flatMap _)).length = _
    rw [List.map_cons, List.flatMap_cons, List.length_append, List.length_cons]
    have := lg_sl_one ad t h.2
    unfold lg_sl at this
    rw [this, e]
    simp
    omega
theorem Met.ofWF {l : Launch} {y : MethodName} {ws ws' : List Cond} {rm : Room} {Pc : Array Value → State → Prop} {Qc : Array Value → State → Outcome → State → Prop} {mc ms : Nat} {free : Addr → Prop} {cc : ByteArray} {maxL : Nat} {ret : Option FieldType}
    (hy : plainFor y = true) (hw : ws = Cond.code y cc maxL ret :: ws')
    (body : ∀ p e s m args below meth c s₁, BodyLoose p l y (headSpec ws rm) cc maxL ret e s m args below meth c s₁ → c.maxLocals = maxL → Pc args s →
      W p l e (headSpec ws rm).room s m args below meth c s.heap [] 0 0 (MQ below Qc args s mc ms free) (entryFrame m args maxL)) : Met l y ws rm Pc Qc mc ms free := by
  refine MetFree.of_bodySF (code := cc) (maxLocals := maxL) (ret := ret) hy ?_ ?_
  · intro args s m h hn
    obtain ⟨meth, c, h1, h2, h3, h4, h5, h6, -, -⟩ := Cond.code_spec hn (atoms_spec (ws := ws) h _ (by rw [hw]; exact List.mem_cons_self))
    exact ⟨meth, c, h1, h2, h3, h4, h5, h6⟩
  · intro p e s m args below meth c s₁ B hml hP _
    have hh0 : s₁.heap = s.heap := by rw [B.state]; rfl
    obtain ⟨t, a1, o, b1, b2, b3⟩ := body p e s m args below meth c s₁ B hml hP s₁ hh0 (Stand.of_body B)
    exact ⟨t, o, a1, b1, b2, ⟨b3.1, b3.2⟩⟩
theorem zCt.of {y : MethodName} {cc : ByteArray} {nL d : Nat} {ret : Option FieldType} {av : List zV} {μ : zM} {Po : zM → zV → Prop} (own : String) (hown : y.cls = own) (hy : plainFor y = true) (h1 : zone av = true) (h2 : av.length ≤ nL) (h : ∀ K : zK, zRet K Po ret → Z K d own cc nL 0 (av ++ List.replicate (nL - av.length) zN) [] μ) : zCt y cc nL ret d av μ Po := by
  intro l G
  refine Met.ofWF (cc := cc) (maxL := nL) (ret := ret) hy rfl ?_
  intro p e s m args below meth c s₁ B hml hv
  obtain ⟨rfl, hK, hI, hP, hSt, hNs⟩ := hv
  have hts0 := atoms_spec (ws := .code y cc nL ret :: zT) B.pre
  have hts : ∀ w ∈ zT, w.before (av.map (zc G.1)).toArray s = true := fun w hw => hts0 w (List.mem_cons_of_mem _ hw)
  have ho : s.vm.findClass own = some m.cls := by rw [← hown]; exact findClass_of_methodNamed B.named
  have hz := h (G, p, l, e, zrm d, s, m, (av.map (zc G.1)).toArray, below, meth, c, zfree G, MQ below (zQ G Po) (av.map (zc G.1)).toArray s 0 0 (zfree G), 0, 0) ⟨rfl, rfl, B.returns, B.notSynchronized⟩
  rw [lg_entry_eq]
  exact hz ⟨B.exec, B.bytes, hml, ho, hts, hK, hI, fun a ha => ⟨a, ha, rfl⟩, hSt, hNs, ⟨Nat.zero_le _, Nat.zero_le _⟩, ⟨Nat.le_refl _, Nat.le_refl _⟩⟩ s.heap [] _ hP va_S.rf (lv_less (lv_entry (av.map (zc G.1)) (n := nL) (by rw [lg_sl_one G.1 av h1]; exact h2)) (zl_entry av _ 0 h1))
end
section
section ZFIELDS
variable {K : zK} {d nL pc idx t i : Nat} {own : String} {cc : ByteArray} {ls sk : List zV} {μ : zM}
theorem zg_X0_place (dg : decode cc pc = .ok (.getfield idx, 3)) (hl0 : Cond.fieldLink own idx "DyeTank$Marker" "place" "I" ∈ zT) (k : Z K d own cc nL (pc + 3) ls (zI (μ (13, t, i) 0) :: sk) μ) (hv : (13, t, i) ∈ zcells := by assumption) : Z K d own cc nL pc ls (zR (13, t, i) :: sk) μ :=
  z_get (i := 0) _ zin0 rfl (by decide) hv (fun _ => rfl) (fun _ => rfl) dg hl0 k
theorem zp_X0_place {x : Int32} (dg : decode cc pc = .ok (.putfield idx, 3)) (hl0 : Cond.fieldLink own idx "DyeTank$Marker" "place" "I" ∈ zT) (k : Z K d own cc nL (pc + 3) ls sk (st μ (13, t, i) (upd (μ (13, t, i)) 0 x))) (hv : (13, t, i) ∈ zcells := by assumption) : Z K d own cc nL pc ls (zI x :: zR (13, t, i) :: sk) μ :=
  z_put (i := 0) (ty := .int) tyX0 _ zin0 tyX0_ok nmX0 rfl (by decide) hv (fun _ _ => rfl) (fun _ _ => rfl) rfl rfl rfl rfl (fun _ _ => Nat.le_of_ble_eq_true rfl) dg hl0 k
theorem zg_X0_angle (dg : decode cc pc = .ok (.getfield idx, 3)) (hl0 : Cond.fieldLink own idx "DyeTank$Marker" "angle" "I" ∈ zT) (k : Z K d own cc nL (pc + 3) ls (zI (μ (13, t, i) 1) :: sk) μ) (hv : (13, t, i) ∈ zcells := by assumption) : Z K d own cc nL pc ls (zR (13, t, i) :: sk) μ :=
  z_get (i := 1) _ zin0 rfl (by decide) hv (fun _ => rfl) (fun _ => rfl) dg hl0 k
theorem zp_X0_angle {x : Int32} (dg : decode cc pc = .ok (.putfield idx, 3)) (hl0 : Cond.fieldLink own idx "DyeTank$Marker" "angle" "I" ∈ zT) (k : Z K d own cc nL (pc + 3) ls sk (st μ (13, t, i) (upd (μ (13, t, i)) 1 x))) (hv : (13, t, i) ∈ zcells := by assumption) : Z K d own cc nL pc ls (zI x :: zR (13, t, i) :: sk) μ :=
  z_put (i := 1) (ty := .int) tyX0 _ zin0 tyX0_ok nmX0 rfl (by decide) hv (fun _ _ => rfl) (fun _ _ => rfl) rfl rfl rfl rfl (fun _ _ => Nat.le_of_ble_eq_true rfl) dg hl0 k
theorem zg_X0_kept (dg : decode cc pc = .ok (.getfield idx, 3)) (hl0 : Cond.fieldLink own idx "DyeTank$Marker" "kept" "I" ∈ zT) (k : Z K d own cc nL (pc + 3) ls (zI (μ (13, t, i) 2) :: sk) μ) (hv : (13, t, i) ∈ zcells := by assumption) : Z K d own cc nL pc ls (zR (13, t, i) :: sk) μ :=
  z_get (i := 2) _ zin0 rfl (by decide) hv (fun _ => rfl) (fun _ => rfl) dg hl0 k
theorem zp_X0_kept {x : Int32} (dg : decode cc pc = .ok (.putfield idx, 3)) (hl0 : Cond.fieldLink own idx "DyeTank$Marker" "kept" "I" ∈ zT) (k : Z K d own cc nL (pc + 3) ls sk (st μ (13, t, i) (upd (μ (13, t, i)) 2 x))) (hv : (13, t, i) ∈ zcells := by assumption) : Z K d own cc nL pc ls (zI x :: zR (13, t, i) :: sk) μ :=
  z_put (i := 2) (ty := .int) tyX0 _ zin0 tyX0_ok nmX0 rfl (by decide) hv (fun _ _ => rfl) (fun _ _ => rfl) rfl rfl rfl rfl (fun _ _ => Nat.le_of_ble_eq_true rfl) dg hl0 k
theorem zg_X0_crossings (dg : decode cc pc = .ok (.getfield idx, 3)) (hl0 : Cond.fieldLink own idx "DyeTank$Marker" "crossings" "I" ∈ zT) (k : Z K d own cc nL (pc + 3) ls (zI (μ (13, t, i) 3) :: sk) μ) (hv : (13, t, i) ∈ zcells := by assumption) : Z K d own cc nL pc ls (zR (13, t, i) :: sk) μ :=
  z_get (i := 3) _ zin0 rfl (by decide) hv (fun _ => rfl) (fun _ => rfl) dg hl0 k
theorem zp_X0_crossings {x : Int32} (dg : decode cc pc = .ok (.putfield idx, 3)) (hl0 : Cond.fieldLink own idx "DyeTank$Marker" "crossings" "I" ∈ zT) (k : Z K d own cc nL (pc + 3) ls sk (st μ (13, t, i) (upd (μ (13, t, i)) 3 x))) (hv : (13, t, i) ∈ zcells := by assumption) : Z K d own cc nL pc ls (zI x :: zR (13, t, i) :: sk) μ :=
  z_put (i := 3) (ty := .int) tyX0 _ zin0 tyX0_ok nmX0 rfl (by decide) hv (fun _ _ => rfl) (fun _ _ => rfl) rfl rfl rfl rfl (fun _ _ => Nat.le_of_ble_eq_true rfl) dg hl0 k
theorem zg_X0_next (dg : decode cc pc = .ok (.getfield idx, 3)) (hl0 : Cond.fieldLink own idx "DyeTank$Marker" "next" "I" ∈ zT) (k : Z K d own cc nL (pc + 3) ls (zI (μ (13, t, i) 4) :: sk) μ) (hv : (13, t, i) ∈ zcells := by assumption) : Z K d own cc nL pc ls (zR (13, t, i) :: sk) μ :=
  z_get (i := 4) _ zin0 rfl (by decide) hv (fun _ => rfl) (fun _ => rfl) dg hl0 k
theorem zp_X0_next {x : Int32} (dg : decode cc pc = .ok (.putfield idx, 3)) (hl0 : Cond.fieldLink own idx "DyeTank$Marker" "next" "I" ∈ zT) (k : Z K d own cc nL (pc + 3) ls sk (st μ (13, t, i) (upd (μ (13, t, i)) 4 x))) (hv : (13, t, i) ∈ zcells := by assumption) : Z K d own cc nL pc ls (zI x :: zR (13, t, i) :: sk) μ :=
  z_put (i := 4) (ty := .int) tyX0 _ zin0 tyX0_ok nmX0 rfl (by decide) hv (fun _ _ => rfl) (fun _ _ => rfl) rfl rfl rfl rfl (fun _ _ => Nat.le_of_ble_eq_true rfl) dg hl0 k
theorem zg_X0_places (dg : decode cc pc = .ok (.getfield idx, 3)) (hl0 : Cond.fieldLink own idx "DyeTank$Marker" "places" "[I" ∈ zT) (k : Z K d own cc nL (pc + 3) ls (zR (14, t, i) :: sk) μ) (hv : (13, t, i) ∈ zcells := by assumption) : Z K d own cc nL pc ls (zR (13, t, i) :: sk) μ :=
  z_get (i := 5) _ zin0 rfl (by decide) hv (fun _ => rfl) (fun _ => rfl) dg hl0 k
theorem zg_X0_angles (dg : decode cc pc = .ok (.getfield idx, 3)) (hl0 : Cond.fieldLink own idx "DyeTank$Marker" "angles" "[I" ∈ zT) (k : Z K d own cc nL (pc + 3) ls (zR (15, t, i) :: sk) μ) (hv : (13, t, i) ∈ zcells := by assumption) : Z K d own cc nL pc ls (zR (13, t, i) :: sk) μ :=
  z_get (i := 6) _ zin0 rfl (by decide) hv (fun _ => rfl) (fun _ => rfl) dg hl0 k
theorem zg_X1_length (dg : decode cc pc = .ok (.getfield idx, 3)) (hl0 : Cond.fieldLink own idx "DyeTank$Pad" "length" "I" ∈ zT) (k : Z K d own cc nL (pc + 3) ls (zI (μ (3, 0, 0) 0) :: sk) μ) (hv : (3, 0, 0) ∈ zcells := by assumption) : Z K d own cc nL pc ls (zR (3, 0, 0) :: sk) μ :=
  z_get (i := 0) _ zin1 rfl (by decide) hv (fun _ => rfl) (fun _ => rfl) dg hl0 k
theorem zp_X1_length {x : Int32} (dg : decode cc pc = .ok (.putfield idx, 3)) (hl0 : Cond.fieldLink own idx "DyeTank$Pad" "length" "I" ∈ zT) (k : Z K d own cc nL (pc + 3) ls sk (st μ (3, 0, 0) (upd (μ (3, 0, 0)) 0 x))) (hv : (3, 0, 0) ∈ zcells := by assumption) : Z K d own cc nL pc ls (zI x :: zR (3, 0, 0) :: sk) μ :=
  z_put (i := 0) (ty := .int) tyX1 _ zin1 tyX1_ok nmX1 rfl (by decide) hv (fun _ _ => rfl) (fun _ _ => rfl) rfl rfl rfl rfl (fun _ _ => Nat.le_of_ble_eq_true rfl) dg hl0 k
theorem zg_X1_at (dg : decode cc pc = .ok (.getfield idx, 3)) (hl0 : Cond.fieldLink own idx "DyeTank$Pad" "at" "I" ∈ zT) (k : Z K d own cc nL (pc + 3) ls (zI (μ (3, 0, 0) 1) :: sk) μ) (hv : (3, 0, 0) ∈ zcells := by assumption) : Z K d own cc nL pc ls (zR (3, 0, 0) :: sk) μ :=
  z_get (i := 1) _ zin1 rfl (by decide) hv (fun _ => rfl) (fun _ => rfl) dg hl0 k
theorem zp_X1_at {x : Int32} (dg : decode cc pc = .ok (.putfield idx, 3)) (hl0 : Cond.fieldLink own idx "DyeTank$Pad" "at" "I" ∈ zT) (k : Z K d own cc nL (pc + 3) ls sk (st μ (3, 0, 0) (upd (μ (3, 0, 0)) 1 x))) (hv : (3, 0, 0) ∈ zcells := by assumption) : Z K d own cc nL pc ls (zI x :: zR (3, 0, 0) :: sk) μ :=
  z_put (i := 1) (ty := .int) tyX1 _ zin1 tyX1_ok nmX1 rfl (by decide) hv (fun _ _ => rfl) (fun _ _ => rfl) rfl rfl rfl rfl (fun _ _ => Nat.le_of_ble_eq_true rfl) dg hl0 k
theorem zg_X1_kind (dg : decode cc pc = .ok (.getfield idx, 3)) (hl0 : Cond.fieldLink own idx "DyeTank$Pad" "kind" "C" ∈ zT) (k : Z K d own cc nL (pc + 3) ls (zI (μ (3, 0, 0) 2) :: sk) μ) (hv : (3, 0, 0) ∈ zcells := by assumption) : Z K d own cc nL pc ls (zR (3, 0, 0) :: sk) μ :=
  z_get (i := 2) _ zin1 rfl (by decide) hv (fun _ => rfl) (fun _ => rfl) dg hl0 k
theorem zp_X1_kind {x : Int32} (dg : decode cc pc = .ok (.putfield idx, 3)) (hl0 : Cond.fieldLink own idx "DyeTank$Pad" "kind" "C" ∈ zT) (hn : narrow .char (.int x) = .int x) (hf : fits .char (.int x) = true) (k : Z K d own cc nL (pc + 3) ls sk (st μ (3, 0, 0) (upd (μ (3, 0, 0)) 2 x))) (hv : (3, 0, 0) ∈ zcells := by assumption) : Z K d own cc nL pc ls (zI x :: zR (3, 0, 0) :: sk) μ :=
  z_put (i := 2) (ty := .char) tyX1 _ zin1 tyX1_ok nmX1 rfl (by decide) hv (fun _ _ => rfl) (fun _ _ => rfl) rfl rfl hn hf (fun _ _ => Nat.le_of_ble_eq_true rfl) dg hl0 k
theorem zg_X1_colour (dg : decode cc pc = .ok (.getfield idx, 3)) (hl0 : Cond.fieldLink own idx "DyeTank$Pad" "colour" "I" ∈ zT) (k : Z K d own cc nL (pc + 3) ls (zI (μ (3, 0, 0) 3) :: sk) μ) (hv : (3, 0, 0) ∈ zcells := by assumption) : Z K d own cc nL pc ls (zR (3, 0, 0) :: sk) μ :=
  z_get (i := 3) _ zin1 rfl (by decide) hv (fun _ => rfl) (fun _ => rfl) dg hl0 k
theorem zp_X1_colour {x : Int32} (dg : decode cc pc = .ok (.putfield idx, 3)) (hl0 : Cond.fieldLink own idx "DyeTank$Pad" "colour" "I" ∈ zT) (k : Z K d own cc nL (pc + 3) ls sk (st μ (3, 0, 0) (upd (μ (3, 0, 0)) 3 x))) (hv : (3, 0, 0) ∈ zcells := by assumption) : Z K d own cc nL pc ls (zI x :: zR (3, 0, 0) :: sk) μ :=
  z_put (i := 3) (ty := .int) tyX1 _ zin1 tyX1_ok nmX1 rfl (by decide) hv (fun _ _ => rfl) (fun _ _ => rfl) rfl rfl rfl rfl (fun _ _ => Nat.le_of_ble_eq_true rfl) dg hl0 k
theorem zg_X1_layer (dg : decode cc pc = .ok (.getfield idx, 3)) (hl0 : Cond.fieldLink own idx "DyeTank$Pad" "layer" "I" ∈ zT) (k : Z K d own cc nL (pc + 3) ls (zI (μ (3, 0, 0) 4) :: sk) μ) (hv : (3, 0, 0) ∈ zcells := by assumption) : Z K d own cc nL pc ls (zR (3, 0, 0) :: sk) μ :=
  z_get (i := 4) _ zin1 rfl (by decide) hv (fun _ => rfl) (fun _ => rfl) dg hl0 k
theorem zp_X1_layer {x : Int32} (dg : decode cc pc = .ok (.putfield idx, 3)) (hl0 : Cond.fieldLink own idx "DyeTank$Pad" "layer" "I" ∈ zT) (k : Z K d own cc nL (pc + 3) ls sk (st μ (3, 0, 0) (upd (μ (3, 0, 0)) 4 x))) (hv : (3, 0, 0) ∈ zcells := by assumption) : Z K d own cc nL pc ls (zI x :: zR (3, 0, 0) :: sk) μ :=
  z_put (i := 4) (ty := .int) tyX1 _ zin1 tyX1_ok nmX1 rfl (by decide) hv (fun _ _ => rfl) (fun _ _ => rfl) rfl rfl rfl rfl (fun _ _ => Nat.le_of_ble_eq_true rfl) dg hl0 k
theorem zg_X1_ring (dg : decode cc pc = .ok (.getfield idx, 3)) (hl0 : Cond.fieldLink own idx "DyeTank$Pad" "ring" "I" ∈ zT) (k : Z K d own cc nL (pc + 3) ls (zI (μ (3, 0, 0) 5) :: sk) μ) (hv : (3, 0, 0) ∈ zcells := by assumption) : Z K d own cc nL pc ls (zR (3, 0, 0) :: sk) μ :=
  z_get (i := 5) _ zin1 rfl (by decide) hv (fun _ => rfl) (fun _ => rfl) dg hl0 k
theorem zp_X1_ring {x : Int32} (dg : decode cc pc = .ok (.putfield idx, 3)) (hl0 : Cond.fieldLink own idx "DyeTank$Pad" "ring" "I" ∈ zT) (k : Z K d own cc nL (pc + 3) ls sk (st μ (3, 0, 0) (upd (μ (3, 0, 0)) 5 x))) (hv : (3, 0, 0) ∈ zcells := by assumption) : Z K d own cc nL pc ls (zI x :: zR (3, 0, 0) :: sk) μ :=
  z_put (i := 5) (ty := .int) tyX1 _ zin1 tyX1_ok nmX1 rfl (by decide) hv (fun _ _ => rfl) (fun _ _ => rfl) rfl rfl rfl rfl (fun _ _ => Nat.le_of_ble_eq_true rfl) dg hl0 k
theorem zg_X1_sector (dg : decode cc pc = .ok (.getfield idx, 3)) (hl0 : Cond.fieldLink own idx "DyeTank$Pad" "sector" "I" ∈ zT) (k : Z K d own cc nL (pc + 3) ls (zI (μ (3, 0, 0) 6) :: sk) μ) (hv : (3, 0, 0) ∈ zcells := by assumption) : Z K d own cc nL pc ls (zR (3, 0, 0) :: sk) μ :=
  z_get (i := 6) _ zin1 rfl (by decide) hv (fun _ => rfl) (fun _ => rfl) dg hl0 k
theorem zp_X1_sector {x : Int32} (dg : decode cc pc = .ok (.putfield idx, 3)) (hl0 : Cond.fieldLink own idx "DyeTank$Pad" "sector" "I" ∈ zT) (k : Z K d own cc nL (pc + 3) ls sk (st μ (3, 0, 0) (upd (μ (3, 0, 0)) 6 x))) (hv : (3, 0, 0) ∈ zcells := by assumption) : Z K d own cc nL pc ls (zI x :: zR (3, 0, 0) :: sk) μ :=
  z_put (i := 6) (ty := .int) tyX1 _ zin1 tyX1_ok nmX1 rfl (by decide) hv (fun _ _ => rfl) (fun _ _ => rfl) rfl rfl rfl rfl (fun _ _ => Nat.le_of_ble_eq_true rfl) dg hl0 k
theorem zg_X1_number (dg : decode cc pc = .ok (.getfield idx, 3)) (hl0 : Cond.fieldLink own idx "DyeTank$Pad" "number" "I" ∈ zT) (k : Z K d own cc nL (pc + 3) ls (zI (μ (3, 0, 0) 7) :: sk) μ) (hv : (3, 0, 0) ∈ zcells := by assumption) : Z K d own cc nL pc ls (zR (3, 0, 0) :: sk) μ :=
  z_get (i := 7) _ zin1 rfl (by decide) hv (fun _ => rfl) (fun _ => rfl) dg hl0 k
theorem zp_X1_number {x : Int32} (dg : decode cc pc = .ok (.putfield idx, 3)) (hl0 : Cond.fieldLink own idx "DyeTank$Pad" "number" "I" ∈ zT) (k : Z K d own cc nL (pc + 3) ls sk (st μ (3, 0, 0) (upd (μ (3, 0, 0)) 7 x))) (hv : (3, 0, 0) ∈ zcells := by assumption) : Z K d own cc nL pc ls (zI x :: zR (3, 0, 0) :: sk) μ :=
  z_put (i := 7) (ty := .int) tyX1 _ zin1 tyX1_ok nmX1 rfl (by decide) hv (fun _ _ => rfl) (fun _ _ => rfl) rfl rfl rfl rfl (fun _ _ => Nat.le_of_ble_eq_true rfl) dg hl0 k
theorem zg_X1_text (dg : decode cc pc = .ok (.getfield idx, 3)) (hl0 : Cond.fieldLink own idx "DyeTank$Pad" "text" "[C" ∈ zT) (k : Z K d own cc nL (pc + 3) ls (zR (4, 0, 0) :: sk) μ) (hv : (3, 0, 0) ∈ zcells := by assumption) : Z K d own cc nL pc ls (zR (3, 0, 0) :: sk) μ :=
  z_get (i := 8) _ zin1 rfl (by decide) hv (fun _ => rfl) (fun _ => rfl) dg hl0 k
theorem zg_X2_rings (dg : decode cc pc = .ok (.getfield idx, 3)) (hl0 : Cond.fieldLink own idx "DyeTank$Tank" "rings" "I" ∈ zT) (k : Z K d own cc nL (pc + 3) ls (zI (μ (5, t, 0) 0) :: sk) μ) (hv : (5, t, 0) ∈ zcells := by assumption) : Z K d own cc nL pc ls (zR (5, t, 0) :: sk) μ :=
  z_get (i := 0) _ zin2 rfl (by decide) hv (fun _ => rfl) (fun _ => rfl) dg hl0 k
theorem zp_X2_rings {x : Int32} (dg : decode cc pc = .ok (.putfield idx, 3)) (hl0 : Cond.fieldLink own idx "DyeTank$Tank" "rings" "I" ∈ zT) (k : Z K d own cc nL (pc + 3) ls sk (st μ (5, t, 0) (upd (μ (5, t, 0)) 0 x))) (hv : (5, t, 0) ∈ zcells := by assumption) : Z K d own cc nL pc ls (zI x :: zR (5, t, 0) :: sk) μ :=
  z_put (i := 0) (ty := .int) tyX2 _ zin2 tyX2_ok nmX2 rfl (by decide) hv (fun _ _ => rfl) (fun _ _ => rfl) rfl rfl rfl rfl (fun _ _ => Nat.le_of_ble_eq_true rfl) dg hl0 k
theorem zg_X2_time (dg : decode cc pc = .ok (.getfield idx, 3)) (hl0 : Cond.fieldLink own idx "DyeTank$Tank" "time" "I" ∈ zT) (k : Z K d own cc nL (pc + 3) ls (zI (μ (5, t, 0) 1) :: sk) μ) (hv : (5, t, 0) ∈ zcells := by assumption) : Z K d own cc nL pc ls (zR (5, t, 0) :: sk) μ :=
  z_get (i := 1) _ zin2 rfl (by decide) hv (fun _ => rfl) (fun _ => rfl) dg hl0 k
theorem zp_X2_time {x : Int32} (dg : decode cc pc = .ok (.putfield idx, 3)) (hl0 : Cond.fieldLink own idx "DyeTank$Tank" "time" "I" ∈ zT) (k : Z K d own cc nL (pc + 3) ls sk (st μ (5, t, 0) (upd (μ (5, t, 0)) 1 x))) (hv : (5, t, 0) ∈ zcells := by assumption) : Z K d own cc nL pc ls (zI x :: zR (5, t, 0) :: sk) μ :=
  z_put (i := 1) (ty := .int) tyX2 _ zin2 tyX2_ok nmX2 rfl (by decide) hv (fun _ _ => rfl) (fun _ _ => rfl) rfl rfl rfl rfl (fun _ _ => Nat.le_of_ble_eq_true rfl) dg hl0 k
theorem zg_X2_markerCount (dg : decode cc pc = .ok (.getfield idx, 3)) (hl0 : Cond.fieldLink own idx "DyeTank$Tank" "markerCount" "I" ∈ zT) (k : Z K d own cc nL (pc + 3) ls (zI (μ (5, t, 0) 2) :: sk) μ) (hv : (5, t, 0) ∈ zcells := by assumption) : Z K d own cc nL pc ls (zR (5, t, 0) :: sk) μ :=
  z_get (i := 2) _ zin2 rfl (by decide) hv (fun _ => rfl) (fun _ => rfl) dg hl0 k
theorem zp_X2_markerCount {x : Int32} (dg : decode cc pc = .ok (.putfield idx, 3)) (hl0 : Cond.fieldLink own idx "DyeTank$Tank" "markerCount" "I" ∈ zT) (k : Z K d own cc nL (pc + 3) ls sk (st μ (5, t, 0) (upd (μ (5, t, 0)) 2 x))) (hv : (5, t, 0) ∈ zcells := by assumption) : Z K d own cc nL pc ls (zI x :: zR (5, t, 0) :: sk) μ :=
  z_put (i := 2) (ty := .int) tyX2 _ zin2 tyX2_ok nmX2 rfl (by decide) hv (fun _ _ => rfl) (fun _ _ => rfl) rfl rfl rfl rfl (fun _ _ => Nat.le_of_ble_eq_true rfl) dg hl0 k
theorem zg_X2_settings (dg : decode cc pc = .ok (.getfield idx, 3)) (hl0 : Cond.fieldLink own idx "DyeTank$Tank" "settings" "[I" ∈ zT) (k : Z K d own cc nL (pc + 3) ls (zR (6, t, 0) :: sk) μ) (hv : (5, t, 0) ∈ zcells := by assumption) : Z K d own cc nL pc ls (zR (5, t, 0) :: sk) μ :=
  z_get (i := 3) _ zin2 rfl (by decide) hv (fun _ => rfl) (fun _ => rfl) dg hl0 k
theorem zg_X2_momenta (dg : decode cc pc = .ok (.getfield idx, 3)) (hl0 : Cond.fieldLink own idx "DyeTank$Tank" "momenta" "[I" ∈ zT) (k : Z K d own cc nL (pc + 3) ls (zR (7, t, 0) :: sk) μ) (hv : (5, t, 0) ∈ zcells := by assumption) : Z K d own cc nL pc ls (zR (5, t, 0) :: sk) μ :=
  z_get (i := 4) _ zin2 rfl (by decide) hv (fun _ => rfl) (fun _ => rfl) dg hl0 k
theorem zg_X2_angles (dg : decode cc pc = .ok (.getfield idx, 3)) (hl0 : Cond.fieldLink own idx "DyeTank$Tank" "angles" "[I" ∈ zT) (k : Z K d own cc nL (pc + 3) ls (zR (8, t, 0) :: sk) μ) (hv : (5, t, 0) ∈ zcells := by assumption) : Z K d own cc nL pc ls (zR (5, t, 0) :: sk) μ :=
  z_get (i := 5) _ zin2 rfl (by decide) hv (fun _ => rfl) (fun _ => rfl) dg hl0 k
theorem zg_X2_totals (dg : decode cc pc = .ok (.getfield idx, 3)) (hl0 : Cond.fieldLink own idx "DyeTank$Tank" "totals" "[I" ∈ zT) (k : Z K d own cc nL (pc + 3) ls (zR (9, t, 0) :: sk) μ) (hv : (5, t, 0) ∈ zcells := by assumption) : Z K d own cc nL pc ls (zR (5, t, 0) :: sk) μ :=
  z_get (i := 6) _ zin2 rfl (by decide) hv (fun _ => rfl) (fun _ => rfl) dg hl0 k
theorem zg_X2_dyes (dg : decode cc pc = .ok (.getfield idx, 3)) (hl0 : Cond.fieldLink own idx "DyeTank$Tank" "dyes" "[[I" ∈ zT) (k : Z K d own cc nL (pc + 3) ls (zR (10, t, 0) :: sk) μ) (hv : (5, t, 0) ∈ zcells := by assumption) : Z K d own cc nL pc ls (zR (5, t, 0) :: sk) μ :=
  z_get (i := 7) _ zin2 rfl (by decide) hv (fun _ => rfl) (fun _ => rfl) dg hl0 k
theorem zg_X2_markers (dg : decode cc pc = .ok (.getfield idx, 3)) (hl0 : Cond.fieldLink own idx "DyeTank$Tank" "markers" "[LDyeTank$Marker;" ∈ zT) (k : Z K d own cc nL (pc + 3) ls (zR (12, t, 0) :: sk) μ) (hv : (5, t, 0) ∈ zcells := by assumption) : Z K d own cc nL pc ls (zR (5, t, 0) :: sk) μ :=
  z_get (i := 8) _ zin2 rfl (by decide) hv (fun _ => rfl) (fun _ => rfl) dg hl0 k
theorem zg_X2_speeds (dg : decode cc pc = .ok (.getfield idx, 3)) (hl0 : Cond.fieldLink own idx "DyeTank$Tank" "speeds" "[I" ∈ zT) (k : Z K d own cc nL (pc + 3) ls (zR (16, t, 0) :: sk) μ) (hv : (5, t, 0) ∈ zcells := by assumption) : Z K d own cc nL pc ls (zR (5, t, 0) :: sk) μ :=
  z_get (i := 9) _ zin2 rfl (by decide) hv (fun _ => rfl) (fun _ => rfl) dg hl0 k
theorem zg_X2_pushes (dg : decode cc pc = .ok (.getfield idx, 3)) (hl0 : Cond.fieldLink own idx "DyeTank$Tank" "pushes" "[I" ∈ zT) (k : Z K d own cc nL (pc + 3) ls (zR (17, t, 0) :: sk) μ) (hv : (5, t, 0) ∈ zcells := by assumption) : Z K d own cc nL pc ls (zR (5, t, 0) :: sk) μ :=
  z_get (i := 10) _ zin2 rfl (by decide) hv (fun _ => rfl) (fun _ => rfl) dg hl0 k
theorem zg_X2_old (dg : decode cc pc = .ok (.getfield idx, 3)) (hl0 : Cond.fieldLink own idx "DyeTank$Tank" "old" "[I" ∈ zT) (k : Z K d own cc nL (pc + 3) ls (zR (18, t, 0) :: sk) μ) (hv : (5, t, 0) ∈ zcells := by assumption) : Z K d own cc nL pc ls (zR (5, t, 0) :: sk) μ :=
  z_get (i := 11) _ zin2 rfl (by decide) hv (fun _ => rfl) (fun _ => rfl) dg hl0 k
theorem zg_X3_tank (dg : decode cc pc = .ok (.getfield idx, 3)) (hl0 : Cond.fieldLink own idx "DyeTank" "tank" "LDyeTank$Tank;" ∈ zT) (k : Z K d own cc nL (pc + 3) ls (zR (5, 0, 0) :: sk) μ) (hv : (0, 0, 0) ∈ zcells := by assumption) : Z K d own cc nL pc ls (zR (0, 0, 0) :: sk) μ :=
  z_get (i := 0) _ zin3 rfl (by decide) hv (fun _ => rfl) (fun _ => rfl) dg hl0 k
theorem zg_X3_copy (dg : decode cc pc = .ok (.getfield idx, 3)) (hl0 : Cond.fieldLink own idx "DyeTank" "copy" "LDyeTank$Tank;" ∈ zT) (k : Z K d own cc nL (pc + 3) ls (zR (5, 1, 0) :: sk) μ) (hv : (0, 0, 0) ∈ zcells := by assumption) : Z K d own cc nL pc ls (zR (0, 0, 0) :: sk) μ :=
  z_get (i := 1) _ zin3 rfl (by decide) hv (fun _ => rfl) (fun _ => rfl) dg hl0 k
theorem zg_X3_slots (dg : decode cc pc = .ok (.getfield idx, 3)) (hl0 : Cond.fieldLink own idx "DyeTank" "slots" "[LDyeTank$Tank;" ∈ zT) (k : Z K d own cc nL (pc + 3) ls (zR (1, 0, 0) :: sk) μ) (hv : (0, 0, 0) ∈ zcells := by assumption) : Z K d own cc nL pc ls (zR (0, 0, 0) :: sk) μ :=
  z_get (i := 2) _ zin3 rfl (by decide) hv (fun _ => rfl) (fun _ => rfl) dg hl0 k
theorem zg_X3_saved (dg : decode cc pc = .ok (.getfield idx, 3)) (hl0 : Cond.fieldLink own idx "DyeTank" "saved" "[Z" ∈ zT) (k : Z K d own cc nL (pc + 3) ls (zR (2, 0, 0) :: sk) μ) (hv : (0, 0, 0) ∈ zcells := by assumption) : Z K d own cc nL pc ls (zR (0, 0, 0) :: sk) μ :=
  z_get (i := 3) _ zin3 rfl (by decide) hv (fun _ => rfl) (fun _ => rfl) dg hl0 k
theorem zg_X3_pad (dg : decode cc pc = .ok (.getfield idx, 3)) (hl0 : Cond.fieldLink own idx "DyeTank" "pad" "LDyeTank$Pad;" ∈ zT) (k : Z K d own cc nL (pc + 3) ls (zR (3, 0, 0) :: sk) μ) (hv : (0, 0, 0) ∈ zcells := by assumption) : Z K d own cc nL pc ls (zR (0, 0, 0) :: sk) μ :=
  z_get (i := 4) _ zin3 rfl (by decide) hv (fun _ => rfl) (fun _ => rfl) dg hl0 k
theorem zg_X4_at (dg : decode cc pc = .ok (.getfield idx, 3)) (hl0 : Cond.fieldLink own idx "DyeTankModel" "at" "[I" ∈ zT) (k : Z K d own cc nL (pc + 3) ls (zR (21, 0, 0) :: sk) μ) (hv : (20, 0, 0) ∈ zcells := by assumption) : Z K d own cc nL pc ls (zR (20, 0, 0) :: sk) μ :=
  z_get (i := 0) _ zin4 rfl (by decide) hv (fun _ => rfl) (fun _ => rfl) dg hl0 k
theorem zg_X4_aside (dg : decode cc pc = .ok (.getfield idx, 3)) (hl0 : Cond.fieldLink own idx "DyeTankModel" "aside" "[I" ∈ zT) (k : Z K d own cc nL (pc + 3) ls (zR (22, 0, 0) :: sk) μ) (hv : (20, 0, 0) ∈ zcells := by assumption) : Z K d own cc nL pc ls (zR (20, 0, 0) :: sk) μ :=
  z_get (i := 1) _ zin4 rfl (by decide) hv (fun _ => rfl) (fun _ => rfl) dg hl0 k
theorem zg_X4_slots (dg : decode cc pc = .ok (.getfield idx, 3)) (hl0 : Cond.fieldLink own idx "DyeTankModel" "slots" "[I" ∈ zT) (k : Z K d own cc nL (pc + 3) ls (zR (23, 0, 0) :: sk) μ) (hv : (20, 0, 0) ∈ zcells := by assumption) : Z K d own cc nL pc ls (zR (20, 0, 0) :: sk) μ :=
  z_get (i := 2) _ zin4 rfl (by decide) hv (fun _ => rfl) (fun _ => rfl) dg hl0 k
theorem zg_X4_isSaved (dg : decode cc pc = .ok (.getfield idx, 3)) (hl0 : Cond.fieldLink own idx "DyeTankModel" "isSaved" "[Z" ∈ zT) (k : Z K d own cc nL (pc + 3) ls (zR (24, 0, 0) :: sk) μ) (hv : (20, 0, 0) ∈ zcells := by assumption) : Z K d own cc nL pc ls (zR (20, 0, 0) :: sk) μ :=
  z_get (i := 3) _ zin4 rfl (by decide) hv (fun _ => rfl) (fun _ => rfl) dg hl0 k
theorem zg_X4_before (dg : decode cc pc = .ok (.getfield idx, 3)) (hl0 : Cond.fieldLink own idx "DyeTankModel" "before" "[I" ∈ zT) (k : Z K d own cc nL (pc + 3) ls (zR (25, 0, 0) :: sk) μ) (hv : (20, 0, 0) ∈ zcells := by assumption) : Z K d own cc nL pc ls (zR (20, 0, 0) :: sk) μ :=
  z_get (i := 4) _ zin4 rfl (by decide) hv (fun _ => rfl) (fun _ => rfl) dg hl0 k
theorem zg_X4_speed (dg : decode cc pc = .ok (.getfield idx, 3)) (hl0 : Cond.fieldLink own idx "DyeTankModel" "speed" "[I" ∈ zT) (k : Z K d own cc nL (pc + 3) ls (zR (26, 0, 0) :: sk) μ) (hv : (20, 0, 0) ∈ zcells := by assumption) : Z K d own cc nL pc ls (zR (20, 0, 0) :: sk) μ :=
  z_get (i := 5) _ zin4 rfl (by decide) hv (fun _ => rfl) (fun _ => rfl) dg hl0 k
theorem zg_X4_pad (dg : decode cc pc = .ok (.getfield idx, 3)) (hl0 : Cond.fieldLink own idx "DyeTankModel" "pad" "[I" ∈ zT) (k : Z K d own cc nL (pc + 3) ls (zR (27, 0, 0) :: sk) μ) (hv : (20, 0, 0) ∈ zcells := by assumption) : Z K d own cc nL pc ls (zR (20, 0, 0) :: sk) μ :=
  z_get (i := 6) _ zin4 rfl (by decide) hv (fun _ => rfl) (fun _ => rfl) dg hl0 k
theorem zg_X4_padMany (dg : decode cc pc = .ok (.getfield idx, 3)) (hl0 : Cond.fieldLink own idx "DyeTankModel" "padMany" "I" ∈ zT) (k : Z K d own cc nL (pc + 3) ls (zI (μ (20, 0, 0) 7) :: sk) μ) (hv : (20, 0, 0) ∈ zcells := by assumption) : Z K d own cc nL pc ls (zR (20, 0, 0) :: sk) μ :=
  z_get (i := 7) _ zin4 rfl (by decide) hv (fun _ => rfl) (fun _ => rfl) dg hl0 k
theorem zp_X4_padMany {x : Int32} (dg : decode cc pc = .ok (.putfield idx, 3)) (hl0 : Cond.fieldLink own idx "DyeTankModel" "padMany" "I" ∈ zT) (k : Z K d own cc nL (pc + 3) ls sk (st μ (20, 0, 0) (upd (μ (20, 0, 0)) 7 x))) (hv : (20, 0, 0) ∈ zcells := by assumption) : Z K d own cc nL pc ls (zI x :: zR (20, 0, 0) :: sk) μ :=
  z_put (i := 7) (ty := .int) tyX4 _ zin4 tyX4_ok nmX4 rfl (by decide) hv (fun _ _ => rfl) (fun _ _ => rfl) rfl rfl rfl rfl (fun _ _ => Nat.le_of_ble_eq_true rfl) dg hl0 k
theorem zg_X4_spot (dg : decode cc pc = .ok (.getfield idx, 3)) (hl0 : Cond.fieldLink own idx "DyeTankModel" "spot" "I" ∈ zT) (k : Z K d own cc nL (pc + 3) ls (zI (μ (20, 0, 0) 8) :: sk) μ) (hv : (20, 0, 0) ∈ zcells := by assumption) : Z K d own cc nL pc ls (zR (20, 0, 0) :: sk) μ :=
  z_get (i := 8) _ zin4 rfl (by decide) hv (fun _ => rfl) (fun _ => rfl) dg hl0 k
theorem zp_X4_spot {x : Int32} (dg : decode cc pc = .ok (.putfield idx, 3)) (hl0 : Cond.fieldLink own idx "DyeTankModel" "spot" "I" ∈ zT) (k : Z K d own cc nL (pc + 3) ls sk (st μ (20, 0, 0) (upd (μ (20, 0, 0)) 8 x))) (hv : (20, 0, 0) ∈ zcells := by assumption) : Z K d own cc nL pc ls (zI x :: zR (20, 0, 0) :: sk) μ :=
  z_put (i := 8) (ty := .int) tyX4 _ zin4 tyX4_ok nmX4 rfl (by decide) hv (fun _ _ => rfl) (fun _ _ => rfl) rfl rfl rfl rfl (fun _ _ => Nat.le_of_ble_eq_true rfl) dg hl0 k
theorem zg_X4_isWrong (dg : decode cc pc = .ok (.getfield idx, 3)) (hl0 : Cond.fieldLink own idx "DyeTankModel" "isWrong" "Z" ∈ zT) (k : Z K d own cc nL (pc + 3) ls (zI (μ (20, 0, 0) 9) :: sk) μ) (hv : (20, 0, 0) ∈ zcells := by assumption) : Z K d own cc nL pc ls (zR (20, 0, 0) :: sk) μ :=
  z_get (i := 9) _ zin4 rfl (by decide) hv (fun _ => rfl) (fun _ => rfl) dg hl0 k
theorem zp_X4_isWrong {x : Int32} (dg : decode cc pc = .ok (.putfield idx, 3)) (hl0 : Cond.fieldLink own idx "DyeTankModel" "isWrong" "Z" ∈ zT) (hn : narrow .boolean (.int x) = .int x) (hf : fits .boolean (.int x) = true) (k : Z K d own cc nL (pc + 3) ls sk (st μ (20, 0, 0) (upd (μ (20, 0, 0)) 9 x))) (hv : (20, 0, 0) ∈ zcells := by assumption) : Z K d own cc nL pc ls (zI x :: zR (20, 0, 0) :: sk) μ :=
  z_put (i := 9) (ty := .boolean) tyX4 _ zin4 tyX4_ok nmX4 rfl (by decide) hv (fun _ _ => rfl) (fun _ _ => rfl) rfl rfl hn hf (fun _ _ => Nat.le_of_ble_eq_true rfl) dg hl0 k
theorem zg_X4_steps (dg : decode cc pc = .ok (.getfield idx, 3)) (hl0 : Cond.fieldLink own idx "DyeTankModel" "steps" "[I" ∈ zT) (k : Z K d own cc nL (pc + 3) ls (zR (28, 0, 0) :: sk) μ) (hv : (20, 0, 0) ∈ zcells := by assumption) : Z K d own cc nL pc ls (zR (20, 0, 0) :: sk) μ :=
  z_get (i := 10) _ zin4 rfl (by decide) hv (fun _ => rfl) (fun _ => rfl) dg hl0 k
theorem zg_X4_stepMany (dg : decode cc pc = .ok (.getfield idx, 3)) (hl0 : Cond.fieldLink own idx "DyeTankModel" "stepMany" "I" ∈ zT) (k : Z K d own cc nL (pc + 3) ls (zI (μ (20, 0, 0) 11) :: sk) μ) (hv : (20, 0, 0) ∈ zcells := by assumption) : Z K d own cc nL pc ls (zR (20, 0, 0) :: sk) μ :=
  z_get (i := 11) _ zin4 rfl (by decide) hv (fun _ => rfl) (fun _ => rfl) dg hl0 k
theorem zp_X4_stepMany {x : Int32} (dg : decode cc pc = .ok (.putfield idx, 3)) (hl0 : Cond.fieldLink own idx "DyeTankModel" "stepMany" "I" ∈ zT) (k : Z K d own cc nL (pc + 3) ls sk (st μ (20, 0, 0) (upd (μ (20, 0, 0)) 11 x))) (hv : (20, 0, 0) ∈ zcells := by assumption) : Z K d own cc nL pc ls (zI x :: zR (20, 0, 0) :: sk) μ :=
  z_put (i := 11) (ty := .int) tyX4 _ zin4 tyX4_ok nmX4 rfl (by decide) hv (fun _ _ => rfl) (fun _ _ => rfl) rfl rfl rfl rfl (fun _ _ => Nat.le_of_ble_eq_true rfl) dg hl0 k
end ZFIELDS
theorem q_X0_putIn : zMv 0 yX0_putIn prog_2_method_2_code 3 (none : Option Jvm.ClassFile.FieldType) 2 := ⟨⟨⟨by decide +kernel, by decide +kernel⟩, by decide +kernel, tw_393, tw_3, by decide⟩, by decide +kernel, tw_391, tw_392⟩
theorem q_X0_becomeLike : zMv 0 yX0_becomeLike prog_2_method_3_code 2 (none : Option Jvm.ClassFile.FieldType) 1 := ⟨⟨⟨by decide +kernel, by decide +kernel⟩, by decide +kernel, tw_426, tw_3, by decide⟩, by decide +kernel, tw_424, tw_425⟩
theorem q_X0_ringNow : zMv 0 yX0_ringNow prog_2_method_4_code 1 (some .int) 0 := ⟨⟨⟨by decide +kernel, by decide +kernel⟩, by decide +kernel, tw_310, tw_3, by decide⟩, by decide +kernel, tw_308, tw_309⟩
theorem q_X0_move : zMv 0 yX0_move prog_2_method_5_code 5 (none : Option Jvm.ClassFile.FieldType) 3 := ⟨⟨⟨by decide +kernel, by decide +kernel⟩, by decide +kernel, tw_318, tw_3, by decide⟩, by decide +kernel, tw_316, tw_317⟩
theorem q_X0_keepPosition : zMv 0 yX0_keepPosition prog_2_method_6_code 1 (none : Option Jvm.ClassFile.FieldType) 0 := ⟨⟨⟨by decide +kernel, by decide +kernel⟩, by decide +kernel, tw_326, tw_3, by decide⟩, by decide +kernel, tw_325, tp_4⟩
theorem q_X0_placeBack : zMv 0 yX0_placeBack prog_2_method_7_code 2 (some .int) 1 := ⟨⟨⟨by decide +kernel, by decide +kernel⟩, by decide +kernel, tw_410, tw_3, by decide⟩, by decide +kernel, tw_408, tw_409⟩
theorem q_X0_angleBack : zMv 0 yX0_angleBack prog_2_method_8_code 2 (some .int) 1 := ⟨⟨⟨by decide +kernel, by decide +kernel⟩, by decide +kernel, tw_414, tw_3, by decide⟩, by decide +kernel, tw_412, tw_413⟩
theorem q_X0_isNear : zMv 0 yX0_isNear prog_2_method_9_code 4 (some .boolean) 2 := ⟨⟨⟨by decide +kernel, by decide +kernel⟩, by decide +kernel, tw_446, tw_3, by decide⟩, by decide +kernel, tw_444, tw_445⟩
theorem q_X1_append : zMv 1 yX1_append prog_3_method_2_code 2 (none : Option Jvm.ClassFile.FieldType) 1 := ⟨⟨⟨by decide +kernel, by decide +kernel⟩, by decide +kernel, tw_464, tw_6, by decide⟩, by decide +kernel, tw_462, tw_463⟩
theorem q_X1_firstFault : zMv 1 yX1_firstFault prog_3_method_3_code 2 (some .int) 0 := ⟨⟨⟨by decide +kernel, by decide +kernel⟩, by decide +kernel, tw_476, tw_6, by decide⟩, by decide +kernel, tw_474, tw_475⟩
theorem q_X1_readStep : zMv 1 yX1_readStep prog_3_method_4_code 1 (some .boolean) 0 := ⟨⟨⟨by decide +kernel, by decide +kernel⟩, by decide +kernel, tw_480, tw_6, by decide⟩, by decide +kernel, tw_478, tw_479⟩
theorem q_X1_readRing : zMv 1 yX1_readRing prog_3_method_5_code 1 (some .boolean) 0 := ⟨⟨⟨by decide +kernel, by decide +kernel⟩, by decide +kernel, tw_500, tw_6, by decide⟩, by decide +kernel, tw_499, tp_10⟩
theorem q_X1_readVelocity : zMv 1 yX1_readVelocity prog_3_method_6_code 3 (some .boolean) 0 := ⟨⟨⟨by decide +kernel, by decide +kernel⟩, by decide +kernel, tw_504, tw_6, by decide⟩, by decide +kernel, tw_503, tp_11⟩
theorem q_X1_readColour : zMv 1 yX1_readColour prog_3_method_7_code 1 (some .boolean) 0 := ⟨⟨⟨by decide +kernel, by decide +kernel⟩, by decide +kernel, tw_508, tw_6, by decide⟩, by decide +kernel, tw_507, tp_12⟩
theorem q_X1_readLayer : zMv 1 yX1_readLayer prog_3_method_8_code 1 (some .boolean) 0 := ⟨⟨⟨by decide +kernel, by decide +kernel⟩, by decide +kernel, tw_512, tw_6, by decide⟩, by decide +kernel, tw_511, tp_13⟩
theorem q_X1_readSector : zMv 1 yX1_readSector prog_3_method_9_code 1 (some .boolean) 0 := ⟨⟨⟨by decide +kernel, by decide +kernel⟩, by decide +kernel, tw_516, tw_6, by decide⟩, by decide +kernel, tw_515, tp_14⟩
theorem q_X1_readAmount : zMv 1 yX1_readAmount prog_3_method_10_code 1 (some .boolean) 0 := ⟨⟨⟨by decide +kernel, by decide +kernel⟩, by decide +kernel, tw_520, tw_6, by decide⟩, by decide +kernel, tw_519, tp_15⟩
theorem q_X1_readNumber : zMv 1 yX1_readNumber prog_3_method_11_code 5 (some .int) 2 := ⟨⟨⟨by decide +kernel, by decide +kernel⟩, by decide +kernel, tw_492, tw_6, by decide⟩, by decide +kernel, tw_491, tp_8⟩
theorem q_X1_digit : zMv 1 yX1_digit prog_3_method_12_code 2 (some .int) 0 := ⟨⟨⟨by decide +kernel, by decide +kernel⟩, by decide +kernel, tw_496, tw_6, by decide⟩, by decide +kernel, tw_495, tp_9⟩
theorem q_X1_take : zMv 1 yX1_take prog_3_method_13_code 2 (some .boolean) 1 := ⟨⟨⟨by decide +kernel, by decide +kernel⟩, by decide +kernel, tw_488, tw_6, by decide⟩, by decide +kernel, tw_486, tw_487⟩
theorem q_X1_character : zMv 1 yX1_character prog_3_method_14_code 1 (some .char) 0 := ⟨⟨⟨by decide +kernel, by decide +kernel⟩, by decide +kernel, tw_484, tw_6, by decide⟩, by decide +kernel, tw_483, tp_7⟩
theorem q_X2_startAgain : zMv 2 yX2_startAgain prog_4_method_2_code 3 (none : Option Jvm.ClassFile.FieldType) 1 := ⟨⟨⟨by decide +kernel, by decide +kernel⟩, by decide +kernel, tw_62, tw_2, by decide⟩, by decide +kernel, tw_60, tw_61⟩
theorem q_X2_becomeLike : zMv 2 yX2_becomeLike prog_4_method_3_code 3 (none : Option Jvm.ClassFile.FieldType) 1 := ⟨⟨⟨by decide +kernel, by decide +kernel⟩, by decide +kernel, tw_422, tw_2, by decide⟩, by decide +kernel, tw_420, tw_421⟩
theorem q_X2_hasRing : zMv 2 yX2_hasRing prog_4_method_4_code 2 (some .boolean) 1 := ⟨⟨⟨by decide +kernel, by decide +kernel⟩, by decide +kernel, tw_202, tw_2, by decide⟩, by decide +kernel, tw_200, tw_201⟩
theorem q_X2_hasMarker : zMv 2 yX2_hasMarker prog_4_method_5_code 2 (some .boolean) 1 := ⟨⟨⟨by decide +kernel, by decide +kernel⟩, by decide +kernel, tw_401, tw_2, by decide⟩, by decide +kernel, tw_399, tw_400⟩
theorem q_X2_lastPlace : zMv 2 yX2_lastPlace prog_4_method_6_code 1 (some .int) 0 := ⟨⟨⟨by decide +kernel, by decide +kernel⟩, by decide +kernel, tw_314, tw_2, by decide⟩, by decide +kernel, tw_312, tw_313⟩
theorem q_X2_weightOf : zMs yX2_weightOf prog_4_method_7_code 1 (some .int) 1 := ⟨⟨⟨by decide +kernel, by decide +kernel⟩, by decide +kernel, tw_213, tw_2, by decide⟩, tw_212⟩
theorem q_X2_velocityOf : zMv 2 yX2_velocityOf prog_4_method_8_code 2 (some .int) 1 := ⟨⟨⟨by decide +kernel, by decide +kernel⟩, by decide +kernel, tw_210, tw_2, by decide⟩, by decide +kernel, tw_208, tw_209⟩
theorem q_X2_giveVelocity : zMv 2 yX2_giveVelocity prog_4_method_9_code 3 (none : Option Jvm.ClassFile.FieldType) 2 := ⟨⟨⟨by decide +kernel, by decide +kernel⟩, by decide +kernel, tw_220, tw_2, by decide⟩, by decide +kernel, tw_218, tw_219⟩
theorem q_X2_giveVelocities : zMv 2 yX2_giveVelocities prog_4_method_10_code 5 (none : Option Jvm.ClassFile.FieldType) 2 := ⟨⟨⟨by decide +kernel, by decide +kernel⟩, by decide +kernel, tw_228, tw_2, by decide⟩, by decide +kernel, tw_226, tw_227⟩
theorem q_X2_pushOf : zMv 2 yX2_pushOf prog_4_method_11_code 3 (some .int) 1 := ⟨⟨⟨by decide +kernel, by decide +kernel⟩, by decide +kernel, tw_281, tw_2, by decide⟩, by decide +kernel, tw_279, tw_280⟩
theorem q_X2_allMomenta : zMv 2 yX2_allMomenta prog_4_method_12_code 3 (some .int) 0 := ⟨⟨⟨by decide +kernel, by decide +kernel⟩, by decide +kernel, tw_236, tw_2, by decide⟩, by decide +kernel, tw_234, tw_235⟩
theorem q_X2_greatestShear : zMv 2 yX2_greatestShear prog_4_method_13_code 3 (some .int) 0 := ⟨⟨⟨by decide +kernel, by decide +kernel⟩, by decide +kernel, tw_384, tw_2, by decide⟩, by decide +kernel, tw_382, tw_383⟩
theorem q_X2_turnsWithFloor : zMv 2 yX2_turnsWithFloor prog_4_method_14_code 3 (some .boolean) 1 := ⟨⟨⟨by decide +kernel, by decide +kernel⟩, by decide +kernel, tw_431, tw_2, by decide⟩, by decide +kernel, tw_429, tw_430⟩
theorem q_X2_rowOf : zMs yX2_rowOf prog_4_method_15_code 2 (some .int) 2 := ⟨⟨⟨by decide +kernel, by decide +kernel⟩, by decide +kernel, tw_256, tw_2, by decide⟩, tw_255⟩
theorem q_X2_cellIn : zMv 2 yX2_cellIn prog_4_method_16_code 4 (some .int) 3 := ⟨⟨⟨by decide +kernel, by decide +kernel⟩, by decide +kernel, tw_253, tw_2, by decide⟩, by decide +kernel, tw_251, tw_252⟩
theorem q_X2_amountInRing : zMv 2 yX2_amountInRing prog_4_method_17_code 3 (some .int) 2 := ⟨⟨⟨by decide +kernel, by decide +kernel⟩, by decide +kernel, tw_335, tw_2, by decide⟩, by decide +kernel, tw_333, tw_334⟩
theorem q_X2_amountInTop : zMv 2 yX2_amountInTop prog_4_method_18_code 4 (some .int) 1 := ⟨⟨⟨by decide +kernel, by decide +kernel⟩, by decide +kernel, tw_352, tw_2, by decide⟩, by decide +kernel, tw_350, tw_351⟩
theorem q_X2_amountInRow : zMv 2 yX2_amountInRow prog_4_method_19_code 8 (some .int) 3 := ⟨⟨⟨by decide +kernel, by decide +kernel⟩, by decide +kernel, tw_339, tw_2, by decide⟩, by decide +kernel, tw_338, tp_5⟩
theorem q_X2_cellsWith : zMv 2 yX2_cellsWith prog_4_method_20_code 5 (some .int) 1 := ⟨⟨⟨by decide +kernel, by decide +kernel⟩, by decide +kernel, tw_356, tw_2, by decide⟩, by decide +kernel, tw_354, tw_355⟩
theorem q_X2_greatestAmount : zMv 2 yX2_greatestAmount prog_4_method_21_code 5 (some .int) 1 := ⟨⟨⟨by decide +kernel, by decide +kernel⟩, by decide +kernel, tw_360, tw_2, by decide⟩, by decide +kernel, tw_358, tw_359⟩
theorem q_X2_meanPlace : zMv 2 yX2_meanPlace prog_4_method_22_code 5 (some .long) 1 := ⟨⟨⟨by decide +kernel, by decide +kernel⟩, by decide +kernel, tw_364, tw_2, by decide⟩, by decide +kernel, tw_362, tw_363⟩
theorem q_X2_unevenness : zMv 2 yX2_unevenness prog_4_method_23_code 11 (some .long) 1 := ⟨⟨⟨by decide +kernel, by decide +kernel⟩, by decide +kernel, tw_370, tw_2, by decide⟩, by decide +kernel, tw_368, tw_369⟩
theorem q_X2_makeTick : zMv 2 yX2_makeTick prog_4_method_24_code 2 (none : Option Jvm.ClassFile.FieldType) 0 := ⟨⟨⟨by decide +kernel, by decide +kernel⟩, by decide +kernel, tw_268, tw_2, by decide⟩, by decide +kernel, tw_266, tw_267⟩
theorem q_X2_turn : zMv 2 yX2_turn prog_4_method_25_code 2 (none : Option Jvm.ClassFile.FieldType) 0 := ⟨⟨⟨by decide +kernel, by decide +kernel⟩, by decide +kernel, tw_272, tw_2, by decide⟩, by decide +kernel, tw_270, tw_271⟩
theorem q_X2_changeMomenta : zMv 2 yX2_changeMomenta prog_4_method_26_code 4 (none : Option Jvm.ClassFile.FieldType) 0 := ⟨⟨⟨by decide +kernel, by decide +kernel⟩, by decide +kernel, tw_276, tw_2, by decide⟩, by decide +kernel, tw_275, tp_1⟩
theorem q_X2_carry : zMv 2 yX2_carry prog_4_method_27_code 6 (none : Option Jvm.ClassFile.FieldType) 1 := ⟨⟨⟨by decide +kernel, by decide +kernel⟩, by decide +kernel, tw_288, tw_2, by decide⟩, by decide +kernel, tw_286, tw_287⟩
theorem q_X2_moveRow : zMv 2 yX2_moveRow prog_4_method_28_code 12 (none : Option Jvm.ClassFile.FieldType) 5 := ⟨⟨⟨by decide +kernel, by decide +kernel⟩, by decide +kernel, tw_295, tw_2, by decide⟩, by decide +kernel, tw_294, tp_2⟩
theorem q_X2_mixLayers : zMv 2 yX2_mixLayers prog_4_method_29_code 7 (none : Option Jvm.ClassFile.FieldType) 1 := ⟨⟨⟨by decide +kernel, by decide +kernel⟩, by decide +kernel, tw_301, tw_2, by decide⟩, by decide +kernel, tw_300, tp_3⟩
theorem q_X2_moveMarkers : zMv 2 yX2_moveMarkers prog_4_method_30_code 4 (none : Option Jvm.ClassFile.FieldType) 0 := ⟨⟨⟨by decide +kernel, by decide +kernel⟩, by decide +kernel, tw_306, tw_2, by decide⟩, by decide +kernel, tw_304, tw_305⟩
theorem q_X3_setUp : zMv 3 yX3_setUp prog_1_method_2_code 3 (some .int) 1 := ⟨⟨⟨by decide +kernel, by decide +kernel⟩, by decide +kernel, tw_181, tw_1, by decide⟩, by decide +kernel, tw_179, tw_180⟩
theorem q_X3_set : zMv 3 yX3_set prog_1_method_3_code 4 (some .int) 2 := ⟨⟨⟨by decide +kernel, by decide +kernel⟩, by decide +kernel, tw_189, tw_1, by decide⟩, by decide +kernel, tw_187, tw_188⟩
theorem q_X3_spin : zMv 3 yX3_spin prog_1_method_4_code 4 (some .int) 2 := ⟨⟨⟨by decide +kernel, by decide +kernel⟩, by decide +kernel, tw_198, tw_1, by decide⟩, by decide +kernel, tw_196, tw_197⟩
theorem q_X3_spinAll : zMv 3 yX3_spinAll prog_1_method_5_code 3 (some .int) 2 := ⟨⟨⟨by decide +kernel, by decide +kernel⟩, by decide +kernel, tw_224, tw_1, by decide⟩, by decide +kernel, tw_222, tw_223⟩
theorem q_X3_pour : zMv 3 yX3_pour prog_1_method_6_code 6 (some .int) 5 := ⟨⟨⟨by decide +kernel, by decide +kernel⟩, by decide +kernel, tw_240, tw_1, by decide⟩, by decide +kernel, tw_238, tw_239⟩
theorem q_X3_tick : zMv 3 yX3_tick prog_1_method_7_code 3 (some .int) 1 := ⟨⟨⟨by decide +kernel, by decide +kernel⟩, by decide +kernel, tw_263, tw_1, by decide⟩, by decide +kernel, tw_261, tw_262⟩
theorem q_X3_ring : zMv 3 yX3_ring prog_1_method_8_code 3 (some .int) 2 := ⟨⟨⟨by decide +kernel, by decide +kernel⟩, by decide +kernel, tw_330, tw_1, by decide⟩, by decide +kernel, tw_328, tw_329⟩
theorem q_X3_dye : zMv 3 yX3_dye prog_1_method_9_code 5 (some .int) 4 := ⟨⟨⟨by decide +kernel, by decide +kernel⟩, by decide +kernel, tw_343, tw_1, by decide⟩, by decide +kernel, tw_341, tw_342⟩
theorem q_X3_colour : zMv 3 yX3_colour prog_1_method_10_code 3 (some .long) 2 := ⟨⟨⟨by decide +kernel, by decide +kernel⟩, by decide +kernel, tw_347, tw_1, by decide⟩, by decide +kernel, tw_345, tw_346⟩
theorem q_X3_state : zMv 3 yX3_state prog_1_method_11_code 2 (some .int) 1 := ⟨⟨⟨by decide +kernel, by decide +kernel⟩, by decide +kernel, tw_380, tw_1, by decide⟩, by decide +kernel, tw_378, tw_379⟩
theorem q_X3_marker : zMv 3 yX3_marker prog_1_method_12_code 4 (some .int) 2 := ⟨⟨⟨by decide +kernel, by decide +kernel⟩, by decide +kernel, tw_388, tw_1, by decide⟩, by decide +kernel, tw_386, tw_387⟩
theorem q_X3_where : zMv 3 yX3_where prog_1_method_13_code 4 (some .int) 2 := ⟨⟨⟨by decide +kernel, by decide +kernel⟩, by decide +kernel, tw_397, tw_1, by decide⟩, by decide +kernel, tw_395, tw_396⟩
theorem q_X3_path : zMv 3 yX3_path prog_1_method_14_code 5 (some .int) 3 := ⟨⟨⟨by decide +kernel, by decide +kernel⟩, by decide +kernel, tw_406, tw_1, by decide⟩, by decide +kernel, tw_404, tw_405⟩
theorem q_X3_settles : zMv 3 yX3_settles prog_1_method_15_code 4 (some .int) 2 := ⟨⟨⟨by decide +kernel, by decide +kernel⟩, by decide +kernel, tw_418, tw_1, by decide⟩, by decide +kernel, tw_416, tw_417⟩
theorem q_X3_arrives : zMv 3 yX3_arrives prog_1_method_16_code 8 (some .int) 4 := ⟨⟨⟨by decide +kernel, by decide +kernel⟩, by decide +kernel, tw_436, tw_1, by decide⟩, by decide +kernel, tw_434, tw_435⟩
theorem q_X3_meet : zMv 3 yX3_meet prog_1_method_17_code 6 (some .int) 4 := ⟨⟨⟨by decide +kernel, by decide +kernel⟩, by decide +kernel, tw_442, tw_1, by decide⟩, by decide +kernel, tw_440, tw_441⟩
theorem q_X3_leastEkman : zMv 3 yX3_leastEkman prog_1_method_18_code 5 (some .int) 3 := ⟨⟨⟨by decide +kernel, by decide +kernel⟩, by decide +kernel, tw_452, tw_1, by decide⟩, by decide +kernel, tw_450, tw_451⟩
theorem q_X3_placeWith : zMv 3 yX3_placeWith prog_1_method_19_code 5 (some .long) 3 := ⟨⟨⟨by decide +kernel, by decide +kernel⟩, by decide +kernel, tw_456, tw_1, by decide⟩, by decide +kernel, tw_455, tp_6⟩
theorem q_X3_say : zMv 3 yX3_say prog_1_method_20_code 2 (some .int) 1 := ⟨⟨⟨by decide +kernel, by decide +kernel⟩, by decide +kernel, tw_460, tw_1, by decide⟩, by decide +kernel, tw_458, tw_459⟩
theorem q_X3_wipe : zMv 3 yX3_wipe prog_1_method_21_code 2 (some .int) 0 := ⟨⟨⟨by decide +kernel, by decide +kernel⟩, by decide +kernel, tw_468, tw_1, by decide⟩, by decide +kernel, tw_466, tw_467⟩
theorem q_X3_fault : zMv 3 yX3_fault prog_1_method_22_code 1 (some .int) 0 := ⟨⟨⟨by decide +kernel, by decide +kernel⟩, by decide +kernel, tw_472, tw_1, by decide⟩, by decide +kernel, tw_470, tw_471⟩
theorem q_X3_carryOut : zMv 3 yX3_carryOut prog_1_method_23_code 3 (some .int) 0 := ⟨⟨⟨by decide +kernel, by decide +kernel⟩, by decide +kernel, tw_525, tw_1, by decide⟩, by decide +kernel, tw_523, tw_524⟩
theorem q_X3_carriedOut : zMv 3 yX3_carriedOut prog_1_method_24_code 1 (some .boolean) 0 := ⟨⟨⟨by decide +kernel, by decide +kernel⟩, by decide +kernel, tw_530, tw_1, by decide⟩, by decide +kernel, tw_529, tp_16⟩
theorem q_X3_save : zMv 3 yX3_save prog_1_method_25_code 2 (some .int) 1 := ⟨⟨⟨by decide +kernel, by decide +kernel⟩, by decide +kernel, tw_539, tw_1, by decide⟩, by decide +kernel, tw_537, tw_538⟩
theorem q_X3_restore : zMv 3 yX3_restore prog_1_method_26_code 2 (some .int) 1 := ⟨⟨⟨by decide +kernel, by decide +kernel⟩, by decide +kernel, tw_543, tw_1, by decide⟩, by decide +kernel, tw_541, tw_542⟩
theorem q_X3_isPlaceOfDye : zMv 3 yX3_isPlaceOfDye prog_1_method_27_code 5 (some .boolean) 4 := ⟨⟨⟨by decide +kernel, by decide +kernel⟩, by decide +kernel, tw_244, tw_1, by decide⟩, by decide +kernel, tw_243, tp_0⟩
theorem q_X3_isColour : zMs yX3_isColour prog_1_method_28_code 1 (some .boolean) 1 := ⟨⟨⟨by decide +kernel, by decide +kernel⟩, by decide +kernel, tw_247, tw_1, by decide⟩, tw_246⟩
theorem q_X3_isSpeed : zMs yX3_isSpeed prog_1_method_29_code 1 (some .boolean) 1 := ⟨⟨⟨by decide +kernel, by decide +kernel⟩, by decide +kernel, tw_206, tw_1, by decide⟩, tw_205⟩
theorem q_X3_within : zMs yX3_within prog_1_method_30_code 3 (some .boolean) 3 := ⟨⟨⟨by decide +kernel, by decide +kernel⟩, by decide +kernel, tw_184, tw_1, by decide⟩, tw_183⟩
theorem q_X4_in : zMs yX4_in prog_6_method_2_code 3 (some .boolean) 3 := ⟨⟨⟨by decide +kernel, by decide +kernel⟩, by decide +kernel, tw_597, tw_7, by decide⟩, tw_596⟩
theorem q_X4_down : zMs yX4_down prog_6_method_3_code 2 (some .int) 2 := ⟨⟨⟨by decide +kernel, by decide +kernel⟩, by decide +kernel, tw_624, tw_7, by decide⟩, tw_623⟩
theorem q_X4_mod : zMs yX4_mod prog_6_method_4_code 3 (some .int) 2 := ⟨⟨⟨by decide +kernel, by decide +kernel⟩, by decide +kernel, tw_660, tw_7, by decide⟩, tw_659⟩
theorem q_X4_begin : zMv 4 yX4_begin prog_6_method_5_code 3 (none : Option Jvm.ClassFile.FieldType) 1 := ⟨⟨⟨by decide +kernel, by decide +kernel⟩, by decide +kernel, tw_553, tw_7, by decide⟩, by decide +kernel, tw_552, tp_17⟩
theorem q_X4_putAside : zMv 4 yX4_putAside prog_6_method_6_code 2 (none : Option Jvm.ClassFile.FieldType) 0 := ⟨⟨⟨by decide +kernel, by decide +kernel⟩, by decide +kernel, tw_770, tw_7, by decide⟩, by decide +kernel, tw_769, tp_40⟩
theorem q_X4_putBack : zMv 4 yX4_putBack prog_6_method_7_code 2 (none : Option Jvm.ClassFile.FieldType) 0 := ⟨⟨⟨by decide +kernel, by decide +kernel⟩, by decide +kernel, tw_790, tw_7, by decide⟩, by decide +kernel, tw_789, tp_45⟩
theorem q_X4_isRing : zMv 4 yX4_isRing prog_6_method_8_code 2 (some .boolean) 1 := ⟨⟨⟨by decide +kernel, by decide +kernel⟩, by decide +kernel, tw_613, tw_7, by decide⟩, by decide +kernel, tw_612, tp_18⟩
theorem q_X4_velocity : zMv 4 yX4_velocity prog_6_method_9_code 2 (some .int) 1 := ⟨⟨⟨by decide +kernel, by decide +kernel⟩, by decide +kernel, tw_621, tw_7, by decide⟩, by decide +kernel, tw_620, tp_19⟩
theorem q_X4_setUp : zMv 4 yX4_setUp prog_6_method_10_code 3 (some .int) 1 := ⟨⟨⟨by decide +kernel, by decide +kernel⟩, by decide +kernel, tw_594, tw_7, by decide⟩, by decide +kernel, tw_592, tw_593⟩
theorem q_X4_takes : zMs yX4_takes prog_6_method_11_code 2 (some .boolean) 2 := ⟨⟨⟨by decide +kernel, by decide +kernel⟩, by decide +kernel, tw_604, tw_7, by decide⟩, tw_603⟩
theorem q_X4_set : zMv 4 yX4_set prog_6_method_12_code 4 (some .int) 2 := ⟨⟨⟨by decide +kernel, by decide +kernel⟩, by decide +kernel, tw_601, tw_7, by decide⟩, by decide +kernel, tw_599, tw_600⟩
theorem q_X4_isVelocity : zMs yX4_isVelocity prog_6_method_13_code 1 (some .boolean) 1 := ⟨⟨⟨by decide +kernel, by decide +kernel⟩, by decide +kernel, tw_617, tw_7, by decide⟩, tw_616⟩
theorem q_X4_spin : zMv 4 yX4_spin prog_6_method_14_code 4 (some .int) 2 := ⟨⟨⟨by decide +kernel, by decide +kernel⟩, by decide +kernel, tw_609, tw_7, by decide⟩, by decide +kernel, tw_607, tw_608⟩
theorem q_X4_momenta : zMv 4 yX4_momenta prog_6_method_15_code 3 (some .int) 0 := ⟨⟨⟨by decide +kernel, by decide +kernel⟩, by decide +kernel, tw_632, tw_7, by decide⟩, by decide +kernel, tw_631, tp_20⟩
theorem q_X4_spinAll : zMv 4 yX4_spinAll prog_6_method_16_code 4 (some .int) 2 := ⟨⟨⟨by decide +kernel, by decide +kernel⟩, by decide +kernel, tw_628, tw_7, by decide⟩, by decide +kernel, tw_626, tw_627⟩
theorem q_X4_dyeAt : zMs yX4_dyeAt prog_6_method_17_code 4 (some .int) 4 := ⟨⟨⟨by decide +kernel, by decide +kernel⟩, by decide +kernel, tw_652, tw_7, by decide⟩, tw_651⟩
theorem q_X4_cellIn : zMv 4 yX4_cellIn prog_6_method_18_code 3 (some .int) 2 := ⟨⟨⟨by decide +kernel, by decide +kernel⟩, by decide +kernel, tw_657, tw_7, by decide⟩, by decide +kernel, tw_656, tp_24⟩
theorem q_X4_isPlace : zMv 4 yX4_isPlace prog_6_method_19_code 5 (some .boolean) 4 := ⟨⟨⟨by decide +kernel, by decide +kernel⟩, by decide +kernel, tw_640, tw_7, by decide⟩, by decide +kernel, tw_639, tp_21⟩
theorem q_X4_amountOf : zMv 4 yX4_amountOf prog_6_method_20_code 8 (some .int) 4 := ⟨⟨⟨by decide +kernel, by decide +kernel⟩, by decide +kernel, tw_649, tw_7, by decide⟩, by decide +kernel, tw_648, tp_23⟩
theorem q_X4_allOf : zMv 4 yX4_allOf prog_6_method_21_code 2 (some .int) 1 := ⟨⟨⟨by decide +kernel, by decide +kernel⟩, by decide +kernel, tw_645, tw_7, by decide⟩, by decide +kernel, tw_644, tp_22⟩
theorem q_X4_pour : zMv 4 yX4_pour prog_6_method_22_code 7 (some .int) 5 := ⟨⟨⟨by decide +kernel, by decide +kernel⟩, by decide +kernel, tw_636, tw_7, by decide⟩, by decide +kernel, tw_634, tw_635⟩
theorem q_X4_stepMomenta : zMv 4 yX4_stepMomenta prog_6_method_23_code 4 (none : Option Jvm.ClassFile.FieldType) 0 := ⟨⟨⟨by decide +kernel, by decide +kernel⟩, by decide +kernel, tw_673, tw_7, by decide⟩, by decide +kernel, tw_672, tp_26⟩
theorem q_X4_push : zMv 4 yX4_push prog_6_method_24_code 3 (some .int) 1 := ⟨⟨⟨by decide +kernel, by decide +kernel⟩, by decide +kernel, tw_681, tw_7, by decide⟩, by decide +kernel, tw_680, tp_28⟩
theorem q_X4_stepRing : zMv 4 yX4_stepRing prog_6_method_25_code 12 (none : Option Jvm.ClassFile.FieldType) 3 := ⟨⟨⟨by decide +kernel, by decide +kernel⟩, by decide +kernel, tw_685, tw_7, by decide⟩, by decide +kernel, tw_684, tp_29⟩
theorem q_X4_stepDyes : zMv 4 yX4_stepDyes prog_6_method_26_code 2 (none : Option Jvm.ClassFile.FieldType) 0 := ⟨⟨⟨by decide +kernel, by decide +kernel⟩, by decide +kernel, tw_677, tw_7, by decide⟩, by decide +kernel, tw_676, tp_27⟩
theorem q_X4_mix : zMv 4 yX4_mix prog_6_method_27_code 6 (none : Option Jvm.ClassFile.FieldType) 0 := ⟨⟨⟨by decide +kernel, by decide +kernel⟩, by decide +kernel, tw_690, tw_7, by decide⟩, by decide +kernel, tw_689, tp_30⟩
theorem q_X4_stepMarker : zMv 4 yX4_stepMarker prog_6_method_28_code 6 (none : Option Jvm.ClassFile.FieldType) 1 := ⟨⟨⟨by decide +kernel, by decide +kernel⟩, by decide +kernel, tw_695, tw_7, by decide⟩, by decide +kernel, tw_694, tp_31⟩
theorem q_X4_makeTick : zMv 4 yX4_makeTick prog_6_method_29_code 2 (none : Option Jvm.ClassFile.FieldType) 0 := ⟨⟨⟨by decide +kernel, by decide +kernel⟩, by decide +kernel, tw_669, tw_7, by decide⟩, by decide +kernel, tw_668, tp_25⟩
theorem q_X4_tick : zMv 4 yX4_tick prog_6_method_30_code 3 (some .int) 1 := ⟨⟨⟨by decide +kernel, by decide +kernel⟩, by decide +kernel, tw_664, tw_7, by decide⟩, by decide +kernel, tw_662, tw_663⟩
theorem q_X4_ring : zMv 4 yX4_ring prog_6_method_31_code 3 (some .int) 2 := ⟨⟨⟨by decide +kernel, by decide +kernel⟩, by decide +kernel, tw_699, tw_7, by decide⟩, by decide +kernel, tw_697, tw_698⟩
theorem q_X4_dye : zMv 4 yX4_dye prog_6_method_32_code 5 (some .int) 4 := ⟨⟨⟨by decide +kernel, by decide +kernel⟩, by decide +kernel, tw_703, tw_7, by decide⟩, by decide +kernel, tw_701, tw_702⟩
theorem q_X4_cellsWith : zMv 4 yX4_cellsWith prog_6_method_33_code 4 (some .int) 1 := ⟨⟨⟨by decide +kernel, by decide +kernel⟩, by decide +kernel, tw_715, tw_7, by decide⟩, by decide +kernel, tw_714, tp_32⟩
theorem q_X4_greatest : zMv 4 yX4_greatest prog_6_method_34_code 5 (some .int) 1 := ⟨⟨⟨by decide +kernel, by decide +kernel⟩, by decide +kernel, tw_719, tw_7, by decide⟩, by decide +kernel, tw_718, tp_33⟩
theorem q_X4_meanPlace : zMv 4 yX4_meanPlace prog_6_method_35_code 5 (some .long) 1 := ⟨⟨⟨by decide +kernel, by decide +kernel⟩, by decide +kernel, tw_723, tw_7, by decide⟩, by decide +kernel, tw_722, tp_34⟩
theorem q_X4_unevenness : zMv 4 yX4_unevenness prog_6_method_36_code 12 (some .long) 1 := ⟨⟨⟨by decide +kernel, by decide +kernel⟩, by decide +kernel, tw_728, tw_7, by decide⟩, by decide +kernel, tw_727, tp_35⟩
theorem q_X4_isColour : zMs yX4_isColour prog_6_method_37_code 1 (some .boolean) 1 := ⟨⟨⟨by decide +kernel, by decide +kernel⟩, by decide +kernel, tw_710, tw_7, by decide⟩, tw_709⟩
theorem q_X4_colour : zMv 4 yX4_colour prog_6_method_38_code 3 (some .long) 2 := ⟨⟨⟨by decide +kernel, by decide +kernel⟩, by decide +kernel, tw_707, tw_7, by decide⟩, by decide +kernel, tw_705, tw_706⟩
theorem q_X4_greatestShear : zMv 4 yX4_greatestShear prog_6_method_39_code 4 (some .int) 0 := ⟨⟨⟨by decide +kernel, by decide +kernel⟩, by decide +kernel, tw_738, tw_7, by decide⟩, by decide +kernel, tw_737, tp_36⟩
theorem q_X4_state : zMv 4 yX4_state prog_6_method_40_code 2 (some .int) 1 := ⟨⟨⟨by decide +kernel, by decide +kernel⟩, by decide +kernel, tw_734, tw_7, by decide⟩, by decide +kernel, tw_732, tw_733⟩
theorem q_X4_marker : zMv 4 yX4_marker prog_6_method_41_code 4 (some .int) 2 := ⟨⟨⟨by decide +kernel, by decide +kernel⟩, by decide +kernel, tw_742, tw_7, by decide⟩, by decide +kernel, tw_740, tw_741⟩
theorem q_X4_isMarker : zMv 4 yX4_isMarker prog_6_method_42_code 2 (some .boolean) 1 := ⟨⟨⟨by decide +kernel, by decide +kernel⟩, by decide +kernel, tw_750, tw_7, by decide⟩, by decide +kernel, tw_749, tp_37⟩
theorem q_X4_keptOf : zMv 4 yX4_keptOf prog_6_method_43_code 3 (some .int) 1 := ⟨⟨⟨by decide +kernel, by decide +kernel⟩, by decide +kernel, tw_754, tw_7, by decide⟩, by decide +kernel, tw_753, tp_38⟩
theorem q_X4_where : zMv 4 yX4_where prog_6_method_44_code 4 (some .int) 2 := ⟨⟨⟨by decide +kernel, by decide +kernel⟩, by decide +kernel, tw_746, tw_7, by decide⟩, by decide +kernel, tw_744, tw_745⟩
theorem q_X4_path : zMv 4 yX4_path prog_6_method_45_code 5 (some .int) 3 := ⟨⟨⟨by decide +kernel, by decide +kernel⟩, by decide +kernel, tw_758, tw_7, by decide⟩, by decide +kernel, tw_756, tw_757⟩
theorem q_X4_isSettled : zMv 4 yX4_isSettled prog_6_method_46_code 4 (some .boolean) 1 := ⟨⟨⟨by decide +kernel, by decide +kernel⟩, by decide +kernel, tw_778, tw_7, by decide⟩, by decide +kernel, tw_777, tp_42⟩
theorem q_X4_hasPart : zMv 4 yX4_hasPart prog_6_method_47_code 6 (some .boolean) 3 := ⟨⟨⟨by decide +kernel, by decide +kernel⟩, by decide +kernel, tw_782, tw_7, by decide⟩, by decide +kernel, tw_781, tp_43⟩
theorem q_X4_areNear : zMv 4 yX4_areNear prog_6_method_48_code 7 (some .boolean) 3 := ⟨⟨⟨by decide +kernel, by decide +kernel⟩, by decide +kernel, tw_786, tw_7, by decide⟩, by decide +kernel, tw_785, tp_44⟩
theorem q_X4_holds : zMv 4 yX4_holds prog_6_method_49_code 5 (some .boolean) 4 := ⟨⟨⟨by decide +kernel, by decide +kernel⟩, by decide +kernel, tw_774, tw_7, by decide⟩, by decide +kernel, tw_773, tp_41⟩
theorem q_X4_whenHolds : zMv 4 yX4_whenHolds prog_6_method_50_code 8 (some .int) 5 := ⟨⟨⟨by decide +kernel, by decide +kernel⟩, by decide +kernel, tw_766, tw_7, by decide⟩, by decide +kernel, tw_765, tp_39⟩
theorem q_X4_settles : zMv 4 yX4_settles prog_6_method_51_code 3 (some .int) 2 := ⟨⟨⟨by decide +kernel, by decide +kernel⟩, by decide +kernel, tw_762, tw_7, by decide⟩, by decide +kernel, tw_760, tw_761⟩
theorem q_X4_arrives : zMv 4 yX4_arrives prog_6_method_52_code 5 (some .int) 4 := ⟨⟨⟨by decide +kernel, by decide +kernel⟩, by decide +kernel, tw_794, tw_7, by decide⟩, by decide +kernel, tw_792, tw_793⟩
theorem q_X4_meet : zMv 4 yX4_meet prog_6_method_53_code 5 (some .int) 4 := ⟨⟨⟨by decide +kernel, by decide +kernel⟩, by decide +kernel, tw_798, tw_7, by decide⟩, by decide +kernel, tw_796, tw_797⟩
theorem q_X4_leastEkman : zMv 4 yX4_leastEkman prog_6_method_54_code 7 (some .int) 3 := ⟨⟨⟨by decide +kernel, by decide +kernel⟩, by decide +kernel, tw_802, tw_7, by decide⟩, by decide +kernel, tw_800, tw_801⟩
theorem q_X4_say : zMv 4 yX4_say prog_6_method_55_code 2 (some .int) 1 := ⟨⟨⟨by decide +kernel, by decide +kernel⟩, by decide +kernel, tw_806, tw_7, by decide⟩, by decide +kernel, tw_804, tw_805⟩
theorem q_X4_wipe : zMv 4 yX4_wipe prog_6_method_56_code 2 (some .int) 0 := ⟨⟨⟨by decide +kernel, by decide +kernel⟩, by decide +kernel, tw_810, tw_7, by decide⟩, by decide +kernel, tw_808, tw_809⟩
theorem q_X4_next : zMv 4 yX4_next prog_6_method_57_code 1 (some .int) 0 := ⟨⟨⟨by decide +kernel, by decide +kernel⟩, by decide +kernel, tw_822, tw_7, by decide⟩, by decide +kernel, tw_821, tp_47⟩
theorem q_X4_takeNumber : zMv 4 yX4_takeNumber prog_6_method_58_code 6 (some .int) 2 := ⟨⟨⟨by decide +kernel, by decide +kernel⟩, by decide +kernel, tw_826, tw_7, by decide⟩, by decide +kernel, tw_825, tp_48⟩
theorem q_X4_need : zMv 4 yX4_need prog_6_method_59_code 2 (none : Option Jvm.ClassFile.FieldType) 1 := ⟨⟨⟨by decide +kernel, by decide +kernel⟩, by decide +kernel, tw_834, tw_7, by decide⟩, by decide +kernel, tw_833, tp_50⟩
theorem q_X4_takeOne : zMv 4 yX4_takeOne prog_6_method_60_code 4 (some .int) 2 := ⟨⟨⟨by decide +kernel, by decide +kernel⟩, by decide +kernel, tw_842, tw_7, by decide⟩, by decide +kernel, tw_841, tp_52⟩
theorem q_X4_takeVelocity : zMv 4 yX4_takeVelocity prog_6_method_61_code 4 (none : Option Jvm.ClassFile.FieldType) 1 := ⟨⟨⟨by decide +kernel, by decide +kernel⟩, by decide +kernel, tw_830, tw_7, by decide⟩, by decide +kernel, tw_829, tp_49⟩
theorem q_X4_takeDye : zMv 4 yX4_takeDye prog_6_method_62_code 2 (none : Option Jvm.ClassFile.FieldType) 1 := ⟨⟨⟨by decide +kernel, by decide +kernel⟩, by decide +kernel, tw_838, tw_7, by decide⟩, by decide +kernel, tw_837, tp_51⟩
theorem q_X4_takeStep : zMv 4 yX4_takeStep prog_6_method_63_code 3 (none : Option Jvm.ClassFile.FieldType) 0 := ⟨⟨⟨by decide +kernel, by decide +kernel⟩, by decide +kernel, tw_818, tw_7, by decide⟩, by decide +kernel, tw_817, tp_46⟩
theorem q_X4_fault : zMv 4 yX4_fault prog_6_method_64_code 1 (some .int) 0 := ⟨⟨⟨by decide +kernel, by decide +kernel⟩, by decide +kernel, tw_814, tw_7, by decide⟩, by decide +kernel, tw_812, tw_813⟩
theorem q_X4_carries : zMv 4 yX4_carries prog_6_method_65_code 4 (some .boolean) 1 := ⟨⟨⟨by decide +kernel, by decide +kernel⟩, by decide +kernel, tw_852, tw_7, by decide⟩, by decide +kernel, tw_851, tp_53⟩
theorem q_X4_carryOut : zMv 4 yX4_carryOut prog_6_method_66_code 2 (some .int) 0 := ⟨⟨⟨by decide +kernel, by decide +kernel⟩, by decide +kernel, tw_847, tw_7, by decide⟩, by decide +kernel, tw_845, tw_846⟩
theorem q_X4_save : zMv 4 yX4_save prog_6_method_67_code 3 (some .int) 1 := ⟨⟨⟨by decide +kernel, by decide +kernel⟩, by decide +kernel, tw_860, tw_7, by decide⟩, by decide +kernel, tw_858, tw_859⟩
theorem q_X4_restore : zMv 4 yX4_restore prog_6_method_68_code 3 (some .int) 1 := ⟨⟨⟨by decide +kernel, by decide +kernel⟩, by decide +kernel, tw_864, tw_7, by decide⟩, by decide +kernel, tw_862, tw_863⟩
theorem q_J9_floorDiv_7cf53 : zMs yJ9_floorDiv_7cf53 prog_7_method_47_code 3 (some .int) 2 := ⟨⟨⟨by decide +kernel, by decide +kernel⟩, by decide +kernel, tw_216, tw_8, by decide⟩, tw_215⟩
theorem q_J9_floorMod_7cf53 : zMs yJ9_floorMod_7cf53 prog_7_method_50_code 3 (some .int) 2 := ⟨⟨⟨by decide +kernel, by decide +kernel⟩, by decide +kernel, tw_259, tw_8, by decide⟩, tw_258⟩
theorem q_J9_abs_0f7a4 : zMs yJ9_abs_0f7a4 prog_7_method_59_code 1 (some .int) 1 := ⟨⟨⟨by decide +kernel, by decide +kernel⟩, by decide +kernel, tw_291, tw_8, by decide⟩, tw_290⟩
theorem q_J9_abs_067f4 : zMs yJ9_abs_067f4 prog_7_method_61_code 2 (some .long) 1 := ⟨⟨⟨by decide +kernel, by decide +kernel⟩, by decide +kernel, tw_375, tw_8, by decide⟩, tw_374⟩
theorem q_J9_max_7cf53 : zMs yJ9_max_7cf53 prog_7_method_65_code 2 (some .int) 2 := ⟨⟨⟨by decide +kernel, by decide +kernel⟩, by decide +kernel, tw_231, tw_8, by decide⟩, tw_230⟩
theorem q_J9_min_7cf53 : zMs yJ9_min_7cf53 prog_7_method_69_code 2 (some .int) 2 := ⟨⟨⟨by decide +kernel, by decide +kernel⟩, by decide +kernel, tw_284, tw_8, by decide⟩, tw_283⟩
theorem q_J7_fill_53178 : zMs yJ7_fill_53178 prog_9_method_103_code 4 (none : Option Jvm.ClassFile.FieldType) 2 := ⟨⟨⟨by decide +kernel, by decide +kernel⟩, by decide +kernel, tw_70, tw_5, by decide⟩, tw_69⟩
section ZCALLS
variable {K : zK} {d nL pc : Nat} {own : String} {cc : ByteArray} {ls sk : List zV} {μ : zM} {y : MethodName} {cc' : ByteArray} {nL' n idx ci d' : Nat} {ret : Option FieldType} {a : zA} {av stk : List zV}
/-- contracts: a pure answer; an answer and a new store; a new store alone -/
def zCi (y : MethodName) (cc : ByteArray) (nL : Nat) (ret : Option FieldType) (d : Nat) (av : List zV) (μ : zM) (x : Int32) : Prop := zCt y cc nL ret d av μ (fun μ' r => μ' = μ ∧ r = zI x)
def zCl (y : MethodName) (cc : ByteArray) (nL : Nat) (ret : Option FieldType) (d : Nat) (av : List zV) (μ : zM) (x : Int64) : Prop := zCt y cc nL ret d av μ (fun μ' r => μ' = μ ∧ r = zL x)
def zCs (y : MethodName) (cc : ByteArray) (nL : Nat) (ret : Option FieldType) (d : Nat) (av : List zV) (μ : zM) (P : zM → Int32 → Prop) : Prop := zCt y cc nL ret d av μ (fun μ' r => ∃ x, r = zI x ∧ P μ' x)
def zCv (y : MethodName) (cc : ByteArray) (nL : Nat) (ret : Option FieldType) (d : Nat) (av : List zV) (μ : zM) (P : zM → Prop) : Prop := zCt y cc nL ret d av μ (fun μ' r => r = zN ∧ P μ')
theorem z_cVi {x : Int32} (hC : zCi y cc' nL' ret d' (zR a :: av) μ x) (hm : zMv ci y cc' nL' ret n) (hl0 : Cond.methodLink own idx y ∈ zT) (dg : decode cc pc = .ok (.invokevirtual idx, 3)) (hn : av.length = n) (ho : zobj a.1 = some ci) (hstk : stk = av.reverse ++ zR a :: sk) (hd : d' < d) (hsk : zsum sk ≤ 8) (k : Z K d own cc nL (pc + 3) ls (zI x :: sk) μ) (hv : a ∈ zcells := by assumption) : Z K d own cc nL pc ls stk μ :=
  z_callV hm hl0 dg hn ho hstk hd hsk hC (fun μ' r h => by obtain ⟨rfl, rfl⟩ := h; exact k) hv
theorem z_cVl {x : Int64} (hC : zCl y cc' nL' ret d' (zR a :: av) μ x) (hm : zMv ci y cc' nL' ret n) (hl0 : Cond.methodLink own idx y ∈ zT) (dg : decode cc pc = .ok (.invokevirtual idx, 3)) (hn : av.length = n) (ho : zobj a.1 = some ci) (hstk : stk = av.reverse ++ zR a :: sk) (hd : d' < d) (hsk : zsum sk ≤ 8) (k : Z K d own cc nL (pc + 3) ls (zL x :: sk) μ) (hv : a ∈ zcells := by assumption) : Z K d own cc nL pc ls stk μ :=
  z_callV hm hl0 dg hn ho hstk hd hsk hC (fun μ' r h => by obtain ⟨rfl, rfl⟩ := h; exact k) hv
theorem z_cVs {P : zM → Int32 → Prop} (hC : zCs y cc' nL' ret d' (zR a :: av) μ P) (hm : zMv ci y cc' nL' ret n) (hl0 : Cond.methodLink own idx y ∈ zT) (dg : decode cc pc = .ok (.invokevirtual idx, 3)) (hn : av.length = n) (ho : zobj a.1 = some ci) (hstk : stk = av.reverse ++ zR a :: sk) (hd : d' < d) (hsk : zsum sk ≤ 8) (k : ∀ (μ' : zM) (x : Int32), P μ' x → Z K d own cc nL (pc + 3) ls (zI x :: sk) μ') (hv : a ∈ zcells := by assumption) : Z K d own cc nL pc ls stk μ :=
  z_callV hm hl0 dg hn ho hstk hd hsk hC (fun μ' r h => by obtain ⟨x, rfl, h⟩ := h; exact k μ' x h) hv
theorem z_cVv {P : zM → Prop} (hC : zCv y cc' nL' ret d' (zR a :: av) μ P) (hm : zMv ci y cc' nL' ret n) (hl0 : Cond.methodLink own idx y ∈ zT) (dg : decode cc pc = .ok (.invokevirtual idx, 3)) (hn : av.length = n) (ho : zobj a.1 = some ci) (hstk : stk = av.reverse ++ zR a :: sk) (hd : d' < d) (hsk : zsum sk ≤ 8) (k : ∀ (μ' : zM), P μ' → Z K d own cc nL (pc + 3) ls sk μ') (hv : a ∈ zcells := by assumption) : Z K d own cc nL pc ls stk μ :=
  z_callV hm hl0 dg hn ho hstk hd hsk hC (fun μ' r h => by obtain ⟨rfl, h⟩ := h; exact k μ' h) hv
theorem z_cSi {x : Int32} (hC : zCi y cc' nL' ret d' av μ x) (hm : zMs y cc' nL' ret n) (hl0 : Cond.methodLink own idx y ∈ zT) (dg : decode cc pc = .ok (.invokestatic idx, 3)) (hn : av.length = n) (hstk : stk = av.reverse ++ sk) (hd : d' < d) (hsk : zsum sk ≤ 8) (k : Z K d own cc nL (pc + 3) ls (zI x :: sk) μ) : Z K d own cc nL pc ls stk μ :=
  z_callS hm hl0 dg hn hstk hd hsk hC (fun μ' r h => by obtain ⟨rfl, rfl⟩ := h; exact k)
theorem z_cSv {P : zM → Prop} (hC : zCv y cc' nL' ret d' av μ P) (hm : zMs y cc' nL' ret n) (hl0 : Cond.methodLink own idx y ∈ zT) (dg : decode cc pc = .ok (.invokestatic idx, 3)) (hn : av.length = n) (hstk : stk = av.reverse ++ sk) (hd : d' < d) (hsk : zsum sk ≤ 8) (k : ∀ (μ' : zM), P μ' → Z K d own cc nL (pc + 3) ls sk μ') : Z K d own cc nL pc ls stk μ :=
  z_callS hm hl0 dg hn hstk hd hsk hC (fun μ' r h => by obtain ⟨rfl, h⟩ := h; exact k μ' h)
/-- booleans -/
def zb (c : Prop) [Decidable c] : Int32 := if c then 1 else 0
theorem zb_t {c : Prop} [Decidable c] (h : c) : zb c = 1 := if_pos h
theorem zb_f {c : Prop} [Decidable c] (h : ¬ c) : zb c = 0 := if_neg h
theorem zb_0 {c : Prop} [Decidable c] : zb c = 0 ↔ ¬ c := by
  by_cases h : c
  · rw [zb_t h]
    exact ⟨fun e => absurd e (by decide), fun e => absurd h e⟩
  · rw [zb_f h]
    exact ⟨fun _ => h, fun _ => rfl⟩
theorem zb_nar {c : Prop} [Decidable c] : narrow .boolean (.int (zb c)) = .int (zb c) := by
  by_cases h : c
  · rw [zb_t h]; rfl
  · rw [zb_f h]; rfl
theorem zb_iff {c c' : Prop} [Decidable c] [Decidable c'] (h : c ↔ c') : zb c = zb c' := by
  by_cases hc : c
  · rw [zb_t hc, zb_t (h.mp hc)]
  · rw [zb_f hc, zb_f (fun q => hc (h.mpr q))]
theorem z_bne {c : Prop} [Decidable c] {off : Int} {tgt : Nat} (dg : decode cc pc = .ok (.ifCond .ne off, 3)) (ht : (pc : Int) + off = (tgt : Int)) (kt : c → Z K d own cc nL tgt ls sk μ) (kf : ¬ c → Z K d own cc nL (pc + 3) ls sk μ) : Z K d own cc nL pc ls (zI (zb c) :: sk) μ :=
  z_if_ne dg ht (fun h => kt (Classical.byContradiction fun q => h (zb_0.mpr q))) (fun h => kf (zb_0.mp h))
theorem z_beq {c : Prop} [Decidable c] {off : Int} {tgt : Nat} (dg : decode cc pc = .ok (.ifCond .eq off, 3)) (ht : (pc : Int) + off = (tgt : Int)) (kt : ¬ c → Z K d own cc nL tgt ls sk μ) (kf : c → Z K d own cc nL (pc + 3) ls sk μ) : Z K d own cc nL pc ls (zI (zb c) :: sk) μ :=
  z_if_eq dg ht (fun h => kt (zb_0.mp h)) (fun h => kf (Classical.byContradiction fun q => h (zb_0.mpr q)))
/-- a boolean's end: 0 or 1, by what is known -/
theorem z_bret {Po : zM → zV → Prop} {v : Int32} (hR : zRet K Po (some .boolean)) (dg : decode cc pc = .ok (.ireturn, 1)) (h0 : v = 0 ∨ v = 1) (h : Po μ (zI v)) : Z K d own cc nL pc ls [zI v] μ :=
  z_zret hR dg (by rcases h0 with rfl | rfl <;> rfl) h
end ZCALLS

theorem zv_5 : ∀ t, t < 4 → (5, t, 0) ∈ zcells := by decide +kernel
theorem zv_6 : ∀ t, t < 4 → (6, t, 0) ∈ zcells := by decide +kernel
theorem zv_7 : ∀ t, t < 4 → (7, t, 0) ∈ zcells := by decide +kernel
theorem zv_8 : ∀ t, t < 4 → (8, t, 0) ∈ zcells := by decide +kernel
theorem zv_9 : ∀ t, t < 4 → (9, t, 0) ∈ zcells := by decide +kernel
theorem zv_10 : ∀ t, t < 4 → (10, t, 0) ∈ zcells := by decide +kernel
theorem zv_12 : ∀ t, t < 4 → (12, t, 0) ∈ zcells := by decide +kernel
theorem zv_16 : ∀ t, t < 4 → (16, t, 0) ∈ zcells := by decide +kernel
theorem zv_17 : ∀ t, t < 4 → (17, t, 0) ∈ zcells := by decide +kernel
theorem zv_18 : ∀ t, t < 4 → (18, t, 0) ∈ zcells := by decide +kernel
theorem zv_11 : ∀ t, t < 4 → ∀ i, i < 3 → (11, t, i) ∈ zcells := by decide +kernel
theorem zv_13 : ∀ t, t < 4 → ∀ i, i < 6 → (13, t, i) ∈ zcells := by decide +kernel
theorem zv_14 : ∀ t, t < 4 → ∀ i, i < 6 → (14, t, i) ∈ zcells := by decide +kernel
theorem zv_15 : ∀ t, t < 4 → ∀ i, i < 6 → (15, t, i) ∈ zcells := by decide +kernel
theorem zv_0 : (0, 0, 0) ∈ zcells := by decide +kernel
theorem zv_1 : (1, 0, 0) ∈ zcells := by decide +kernel
theorem zv_2 : (2, 0, 0) ∈ zcells := by decide +kernel
theorem zv_3 : (3, 0, 0) ∈ zcells := by decide +kernel
theorem zv_4 : (4, 0, 0) ∈ zcells := by decide +kernel
theorem zv_20 : (20, 0, 0) ∈ zcells := by decide +kernel
theorem zv_21 : (21, 0, 0) ∈ zcells := by decide +kernel
theorem zv_22 : (22, 0, 0) ∈ zcells := by decide +kernel
theorem zv_23 : (23, 0, 0) ∈ zcells := by decide +kernel
theorem zv_24 : (24, 0, 0) ∈ zcells := by decide +kernel
theorem zv_25 : (25, 0, 0) ∈ zcells := by decide +kernel
theorem zv_26 : (26, 0, 0) ∈ zcells := by decide +kernel
theorem zv_27 : (27, 0, 0) ∈ zcells := by decide +kernel
theorem zv_28 : (28, 0, 0) ∈ zcells := by decide +kernel
/-! stores where no long stands before -/
def zokb : List zV → Nat → Bool
  | _, 0 => true
  | ls, i + 1 => zcat (ls.getD i zN) == 1
theorem zset_eq {v : zV} {ls : List zV} {i : Nat} (h : zokb ls i = true) : zset ls i v = ls.set i v := by
  apply List.ext_getElem?
  intro j
  rw [zset_get, List.getElem?_set]
  by_cases hj : j = i
  · subst hj
    simp
  · rw [if_neg hj, if_neg (show ¬ i = j from fun e => hj e.symm)]
    by_cases h1 : j + 1 = i
    · subst h1
      rw [if_pos rfl]
      have h2 : zcat (ls.getD j zN) = 1 := by simpa [zokb] using h
      cases hw : ls[j]? with
      | none => rfl
      | some w =>
        rw [List.getD_eq_getElem?_getD, hw] at h2
        rcases w with _ | ((y | y) | y)
        · rfl
        · rfl
        · cases h2
        · rfl
    · rw [if_neg h1]
section ZSTORES
variable {K : zK} {d nL pc i : Nat} {own : String} {cc : ByteArray} {ls ls' sk : List zV} {μ : zM}
theorem z_ls (h : ls = ls') (k : Z K d own cc nL pc ls' sk μ) : Z K d own cc nL pc ls sk μ := h ▸ k
theorem z_mu {μ' : zM} (h : μ = μ') (k : Z K d own cc nL pc ls sk μ') : Z K d own cc nL pc ls sk μ := h ▸ k
theorem z_top {x y : Int32} (h : x = y) (k : Z K d own cc nL pc ls (zI y :: sk) μ) : Z K d own cc nL pc ls (zI x :: sk) μ := h ▸ k
theorem z_topl {x y : Int64} (h : x = y) (k : Z K d own cc nL pc ls (zL y :: sk) μ) : Z K d own cc nL pc ls (zL x :: sk) μ := h ▸ k
theorem z_istS_n {k : Fin 4} {x : Int32} (dg : decode cc pc = .ok (.istore_n k, 1)) (hi : (k : Nat) = i) (hn : i < nL) (hz : zokb ls i = true) (k1 : Z K d own cc nL (pc + 1) (ls.set i (zI x)) sk μ) : Z K d own cc nL pc ls (zI x :: sk) μ := z_istore_n dg hi hn (by rw [zset_eq hz]; exact k1)
theorem z_istS {x : Int32} (dg : decode cc pc = .ok (.istore i, 2)) (hn : i < nL) (hz : zokb ls i = true) (k1 : Z K d own cc nL (pc + 2) (ls.set i (zI x)) sk μ) : Z K d own cc nL pc ls (zI x :: sk) μ := z_istore dg hn (by rw [zset_eq hz]; exact k1)
theorem z_astS_n {k : Fin 4} {x : zA} (dg : decode cc pc = .ok (.astore_n k, 1)) (hi : (k : Nat) = i) (hn : i < nL) (hz : zokb ls i = true) (k1 : Z K d own cc nL (pc + 1) (ls.set i (zR x)) sk μ) : Z K d own cc nL pc ls (zR x :: sk) μ := z_astore_n dg hi hn (by rw [zset_eq hz]; exact k1)
theorem z_astS {x : zA} (dg : decode cc pc = .ok (.astore i, 2)) (hn : i < nL) (hz : zokb ls i = true) (k1 : Z K d own cc nL (pc + 2) (ls.set i (zR x)) sk μ) : Z K d own cc nL pc ls (zR x :: sk) μ := z_astore dg hn (by rw [zset_eq hz]; exact k1)
theorem z_lstS_n {k : Fin 4} {x : Int64} (dg : decode cc pc = .ok (.lstore_n k, 1)) (hi : (k : Nat) = i) (hn : i + 1 < nL) (hz : zokb ls i = true) (k1 : Z K d own cc nL (pc + 1) ((ls.set i (zL x)).set (i + 1) zN) sk μ) : Z K d own cc nL pc ls (zL x :: sk) μ := z_lstore_n dg hi hn (by rw [zset_eq hz]; exact k1)
theorem z_lstS {x : Int64} (dg : decode cc pc = .ok (.lstore i, 2)) (hn : i + 1 < nL) (hz : zokb ls i = true) (k1 : Z K d own cc nL (pc + 2) ((ls.set i (zL x)).set (i + 1) zN) sk μ) : Z K d own cc nL pc ls (zL x :: sk) μ := z_lstore dg hn (by rw [zset_eq hz]; exact k1)
theorem z_incS {n : Int} {x v : Int32} (dg : decode cc pc = .ok (.iinc i n, 3)) (hx : ls[i]? = some (zI x)) (hv : x + Int32.ofInt n = v) (hn : i < nL) (hz : zokb ls i = true) (k1 : Z K d own cc nL (pc + 3) (ls.set i (zI v)) sk μ) : Z K d own cc nL pc ls sk μ := z_iinc dg hx hv hn (by rw [zset_eq hz]; exact k1)
end ZSTORES
end
section
/-! numbers: rounding down, as the two sides write it -/
def fdv (x y : Int32) : Int32 := if x ^^^ y < 0 ∧ ¬ (x / y * y = x) then x / y - 1 else x / y
def fmd (x y : Int32) : Int32 := if x ^^^ y < 0 ∧ ¬ (x - x / y * y = 0) then x - x / y * y + y else x - x / y * y
theorem c_floorDiv (μ : zM) (x y : Int32) (hy : ¬ y = 0) : zCi yJ9_floorDiv_7cf53 prog_7_method_47_code 3 (some .int) 1 [zI x, zI y] μ (fdv x y) := by
  refine zCt.of "java/lang/Math" rfl (by decide +kernel) rfl (Nat.le_of_ble_eq_true rfl) (fun K hR => ?_)
  refine z_ls (ls' := [zI x, zI y, zN]) rfl ?_
  refine z_iload_n dJ9_floorDiv_7cf53_0 rfl rfl ?_
  refine z_iload_n dJ9_floorDiv_7cf53_1 rfl rfl ?_
  refine z_idiv dJ9_floorDiv_7cf53_2 hy ?_
  refine z_istS_n dJ9_floorDiv_7cf53_3 rfl (by decide) rfl ?_
  refine z_iload_n dJ9_floorDiv_7cf53_4 rfl rfl ?_
  refine z_iload_n dJ9_floorDiv_7cf53_5 rfl rfl ?_
  refine z_ixor dJ9_floorDiv_7cf53_6 ?_
  refine z_if_ge (tgt := 21) dJ9_floorDiv_7cf53_7 (by decide) (fun h => ?_) (fun h => ?_)
  · refine z_iload_n dJ9_floorDiv_7cf53_21 rfl rfl ?_
    refine z_iret hR dJ9_floorDiv_7cf53_22 (⟨rfl, by rw [fdv, if_neg (fun q => absurd q.1 (Int32.not_lt.mpr h))]⟩)
  · refine z_iload_n dJ9_floorDiv_7cf53_10 rfl rfl ?_
    refine z_iload_n dJ9_floorDiv_7cf53_11 rfl rfl ?_
    refine z_imul dJ9_floorDiv_7cf53_12 ?_
    refine z_iload_n dJ9_floorDiv_7cf53_13 rfl rfl ?_
    refine z_icmp_eq (tgt := 21) dJ9_floorDiv_7cf53_14 (by decide) (fun h2 => ?_) (fun h2 => ?_)
    · refine z_iload_n dJ9_floorDiv_7cf53_21 rfl rfl ?_
      refine z_iret hR dJ9_floorDiv_7cf53_22 (⟨rfl, by rw [fdv, if_neg (fun q => q.2 h2)]⟩)
    · refine z_iload_n dJ9_floorDiv_7cf53_17 rfl rfl ?_
      refine z_iconst (v := 1) dJ9_floorDiv_7cf53_18 (by decide) ?_
      refine z_isub dJ9_floorDiv_7cf53_19 ?_
      refine z_iret hR dJ9_floorDiv_7cf53_20 (⟨rfl, by rw [fdv, if_pos ⟨Int32.not_le.mp h, h2⟩]⟩)
theorem c_floorMod (μ : zM) (x y : Int32) (hy : ¬ y = 0) : zCi yJ9_floorMod_7cf53 prog_7_method_50_code 3 (some .int) 1 [zI x, zI y] μ (fmd x y) := by
  refine zCt.of "java/lang/Math" rfl (by decide +kernel) rfl (Nat.le_of_ble_eq_true rfl) (fun K hR => ?_)
  refine z_ls (ls' := [zI x, zI y, zN]) rfl ?_
  refine z_iload_n dJ9_floorMod_7cf53_0 rfl rfl ?_
  refine z_iload_n dJ9_floorMod_7cf53_1 rfl rfl ?_
  refine z_irem dJ9_floorMod_7cf53_2 hy ?_
  refine z_istS_n dJ9_floorMod_7cf53_3 rfl (by decide) rfl ?_
  refine z_iload_n dJ9_floorMod_7cf53_4 rfl rfl ?_
  refine z_iload_n dJ9_floorMod_7cf53_5 rfl rfl ?_
  refine z_ixor dJ9_floorMod_7cf53_6 ?_
  refine z_if_ge (tgt := 18) dJ9_floorMod_7cf53_7 (by decide) (fun h => ?_) (fun h => ?_)
  · refine z_iload_n dJ9_floorMod_7cf53_18 rfl rfl ?_
    refine z_iret hR dJ9_floorMod_7cf53_19 (⟨rfl, by rw [fmd, if_neg (fun q => absurd q.1 (Int32.not_lt.mpr h))]⟩)
  · refine z_iload_n dJ9_floorMod_7cf53_10 rfl rfl ?_
    refine z_if_eq (tgt := 18) dJ9_floorMod_7cf53_11 (by decide) (fun h2 => ?_) (fun h2 => ?_)
    · refine z_iload_n dJ9_floorMod_7cf53_18 rfl rfl ?_
      refine z_iret hR dJ9_floorMod_7cf53_19 (⟨rfl, by rw [fmd, if_neg (fun q => q.2 h2)]⟩)
    · refine z_iload_n dJ9_floorMod_7cf53_14 rfl rfl ?_
      refine z_iload_n dJ9_floorMod_7cf53_15 rfl rfl ?_
      refine z_iadd dJ9_floorMod_7cf53_16 ?_
      refine z_iret hR dJ9_floorMod_7cf53_17 (⟨rfl, by rw [fmd, if_pos ⟨Int32.not_le.mp h, h2⟩]⟩)
theorem c_within (μ : zM) (v l h : Int32) : zCi yX3_within prog_1_method_30_code 3 (some .boolean) 1 [zI v, zI l, zI h] μ (zb (l ≤ v ∧ v ≤ h)) := by
  refine zCt.of "DyeTank" rfl (by decide +kernel) rfl (Nat.le_of_ble_eq_true rfl) (fun K hR => ?_)
  refine z_ls (ls' := [zI v, zI l, zI h]) rfl ?_
  refine z_iload_n dX3_within_0 rfl rfl ?_
  refine z_iload_n dX3_within_1 rfl rfl ?_
  refine z_icmp_lt (tgt := 14) dX3_within_2 (by decide) (fun h1 => ?_) (fun h1 => ?_)
  · refine z_iconst (v := 0) dX3_within_14 (by decide) ?_
    refine z_bret hR dX3_within_15 (Or.inl rfl) ⟨rfl, by rw [zb_f (fun q => absurd q.1 (Int32.not_le.mpr h1))]⟩
  · refine z_iload_n dX3_within_5 rfl rfl ?_
    refine z_iload_n dX3_within_6 rfl rfl ?_
    refine z_icmp_gt (tgt := 14) dX3_within_7 (by decide) (fun h2 => ?_) (fun h2 => ?_)
    · refine z_iconst (v := 0) dX3_within_14 (by decide) ?_
      refine z_bret hR dX3_within_15 (Or.inl rfl) ⟨rfl, by rw [zb_f (fun q => absurd q.2 (Int32.not_le.mpr h2))]⟩
    · refine z_iconst (v := 1) dX3_within_10 (by decide) ?_
      refine z_goto (tgt := 15) dX3_within_11 (by decide) ?_
      refine z_bret hR dX3_within_15 (Or.inr rfl) ⟨rfl, by rw [zb_t ⟨Int32.not_lt.mp h1, Int32.not_lt.mp h2⟩]⟩
theorem c_in (μ : zM) (v l h : Int32) : zCi yX4_in prog_6_method_2_code 3 (some .boolean) 1 [zI v, zI l, zI h] μ (zb (l ≤ v ∧ v ≤ h)) := by
  refine zCt.of "DyeTankModel" rfl (by decide +kernel) rfl (Nat.le_of_ble_eq_true rfl) (fun K hR => ?_)
  refine z_ls (ls' := [zI v, zI l, zI h]) rfl ?_
  refine z_iload_n dX4_in_0 rfl rfl ?_
  refine z_iload_n dX4_in_1 rfl rfl ?_
  refine z_icmp_lt (tgt := 14) dX4_in_2 (by decide) (fun h1 => ?_) (fun h1 => ?_)
  · refine z_iconst (v := 0) dX4_in_14 (by decide) ?_
    refine z_bret hR dX4_in_15 (Or.inl rfl) ⟨rfl, by rw [zb_f (fun q => absurd q.1 (Int32.not_le.mpr h1))]⟩
  · refine z_iload_n dX4_in_5 rfl rfl ?_
    refine z_iload_n dX4_in_6 rfl rfl ?_
    refine z_icmp_gt (tgt := 14) dX4_in_7 (by decide) (fun h2 => ?_) (fun h2 => ?_)
    · refine z_iconst (v := 0) dX4_in_14 (by decide) ?_
      refine z_bret hR dX4_in_15 (Or.inl rfl) ⟨rfl, by rw [zb_f (fun q => absurd q.2 (Int32.not_le.mpr h2))]⟩
    · refine z_iconst (v := 1) dX4_in_10 (by decide) ?_
      refine z_goto (tgt := 15) dX4_in_11 (by decide) ?_
      refine z_bret hR dX4_in_15 (Or.inr rfl) ⟨rfl, by rw [zb_t ⟨Int32.not_lt.mp h1, Int32.not_lt.mp h2⟩]⟩
theorem c_down (μ : zM) (x y : Int32) (hy : ¬ y = 0) : zCi yX4_down prog_6_method_3_code 2 (some .int) 1 [zI x, zI y] μ (x / y - zb (x - x / y * y < 0)) := by
  refine zCt.of "DyeTankModel" rfl (by decide +kernel) rfl (Nat.le_of_ble_eq_true rfl) (fun K hR => ?_)
  refine z_ls (ls' := [zI x, zI y]) rfl ?_
  refine z_iload_n dX4_down_0 rfl rfl ?_
  refine z_iload_n dX4_down_1 rfl rfl ?_
  refine z_idiv dX4_down_2 hy ?_
  refine z_iload_n dX4_down_3 rfl rfl ?_
  refine z_iload_n dX4_down_4 rfl rfl ?_
  refine z_irem dX4_down_5 hy ?_
  refine z_if_ge (tgt := 13) dX4_down_6 (by decide) (fun h => ?_) (fun h => ?_)
  · refine z_iconst (v := 0) dX4_down_13 (by decide) ?_
    refine z_isub dX4_down_14 ?_
    refine z_iret hR dX4_down_15 (⟨rfl, by rw [zb_f (Int32.not_lt.mpr h)]⟩)
  · refine z_iconst (v := 1) dX4_down_9 (by decide) ?_
    refine z_goto (tgt := 14) dX4_down_10 (by decide) ?_
    refine z_isub dX4_down_14 ?_
    refine z_iret hR dX4_down_15 (⟨rfl, by rw [zb_t (Int32.not_le.mp h)]⟩)
theorem c_mod (μ : zM) (x y : Int32) (hy : ¬ y = 0) : zCi yX4_mod prog_6_method_4_code 3 (some .int) 1 [zI x, zI y] μ (if x - x / y * y < 0 then x - x / y * y + y else x - x / y * y) := by
  refine zCt.of "DyeTankModel" rfl (by decide +kernel) rfl (Nat.le_of_ble_eq_true rfl) (fun K hR => ?_)
  refine z_ls (ls' := [zI x, zI y, zN]) rfl ?_
  refine z_iload_n dX4_mod_0 rfl rfl ?_
  refine z_iload_n dX4_mod_1 rfl rfl ?_
  refine z_irem dX4_mod_2 hy ?_
  refine z_istS_n dX4_mod_3 rfl (by decide) rfl ?_
  refine z_iload_n dX4_mod_4 rfl rfl ?_
  refine z_if_ge (tgt := 14) dX4_mod_5 (by decide) (fun h => ?_) (fun h => ?_)
  · refine z_iload_n dX4_mod_14 rfl rfl ?_
    refine z_iret hR dX4_mod_15 (⟨rfl, by rw [if_neg (Int32.not_lt.mpr h)]⟩)
  · refine z_iload_n dX4_mod_8 rfl rfl ?_
    refine z_iload_n dX4_mod_9 rfl rfl ?_
    refine z_iadd dX4_mod_10 ?_
    refine z_goto (tgt := 15) dX4_mod_11 (by decide) ?_
    refine z_iret hR dX4_mod_15 (⟨rfl, by rw [if_pos (Int32.not_le.mp h)]⟩)
end
section
/-! pure words: numbers, sums, velocities, pushes -/
theorem inc1 (i : Nat) : nI i + Int32.ofInt 1 = nI (i + 1) := by
  rw [show Int32.ofInt 1 = 1 by decide]
  exact nI_1 i
theorem nle {a b : Nat} (h : nI a ≤ nI b) (ha : a < 2 ^ 31 := by omega) (hb : b < 2 ^ 31 := by omega) : a ≤ b := (nI_leI ha hb).mp h
theorem nnle {a b : Nat} (h : ¬ nI a ≤ nI b) (ha : a < 2 ^ 31 := by omega) (hb : b < 2 ^ 31 := by omega) : b < a := Nat.not_le.mp fun q => h ((nI_leI ha hb).mpr q)
theorem nlt {a b : Nat} (h : nI a < nI b) (ha : a < 2 ^ 31 := by omega) (hb : b < 2 ^ 31 := by omega) : a < b := (nI_ltI ha hb).mp h
theorem nnlt {a b : Nat} (h : ¬ nI a < nI b) (ha : a < 2 ^ 31 := by omega) (hb : b < 2 ^ 31 := by omega) : b ≤ a := Nat.not_lt.mp fun q => h ((nI_ltI ha hb).mpr q)
def sm (f : Nat → Int32) : Nat → Int32
  | 0 => 0
  | n + 1 => sm f n + f n
def sml (f : Nat → Int64) : Nat → Int64
  | 0 => 0
  | n + 1 => sml f n + f n
def mxf (f : Nat → Int32) : Nat → Int32
  | 0 => 0
  | n + 1 => if mxf f n < f n then f n else mxf f n
def cnf (f : Nat → Int32) : Nat → Int32
  | 0 => 0
  | n + 1 => if 0 < f n then cnf f n + 1 else cnf f n
def absI (x : Int32) : Int32 := if 0 ≤ x then x else 0 - x
def absL (x : Int64) : Int64 := if 0 < x then x else -x
def vel (P : Nat → Int32) (r : Nat) : Int32 := fdv (P r) (nI (2 * r + 1))
def clP (x : Int32) : Int32 := if x < -500 then -500 else if 500 < x then 500 else x
def psh (S P : Nat → Int32) (r : Nat) : Int32 := clP (S 5 * (vel P r - S 4) / 100)
theorem wt_eq (r : Nat) : 2 * nI r + 1 = nI (2 * r + 1) := by
  show nI 2 * nI r + nI 1 = _
  rw [pk_mul, nI_add]
theorem wt_ne {r : Nat} (h : r < 100) : ¬ nI (2 * r + 1) = 0 := nI_ne0 (by omega) (by omega)
/-- the component's clamp is the plain one -/
theorem clP_eq (x : Int32) : (if (-500 : Int32) < (if x < (500 : Int32) then x else 500) then (if x < (500 : Int32) then x else 500) else -500) = clP x := by
  unfold clP
  by_cases h1 : x < 500
  · rw [if_pos h1]
    by_cases h2 : (-500 : Int32) < x
    · rw [if_pos h2, if_neg (by rw [Int32.not_lt]; exact Int32.le_of_lt h2), if_neg (by rw [Int32.not_lt]; exact Int32.le_of_lt h1)]
    · rw [if_neg h2]
      by_cases h3 : x < -500
      · rw [if_pos h3]
      · rw [if_neg h3, if_neg (by rw [Int32.not_lt]; exact Int32.le_of_lt h1)]
        exact Int32.le_antisymm (Int32.not_lt.mp h3) (Int32.not_lt.mp h2)
  · rw [if_neg h1, if_pos (by decide)]
    have h4 : ¬ x < -500 := fun q => h1 (Int32.lt_trans q (by decide))
    rw [if_neg h4]
    by_cases h3 : 500 < x
    · rw [if_pos h3]
    · rw [if_neg h3]
      exact Int32.le_antisymm (Int32.not_lt.mp h1) (Int32.not_lt.mp h3)
def rwi (L r : Nat) : Nat := (L * 12 + r) * 24
def rowS (f : Nat → Int32) (L r : Nat) : Int32 := sm (fun j => f (rwi L r + j)) 24
def ringS (f : Nat → Int32) (r : Nat) : Int32 := rowS f 0 r + rowS f 1 r
def meanP (f : Nat → Int32) (n : Nat) (all : Int32) : Int64 := if all = 0 then -6 else 1000 * sml (fun r => (nI r).toInt64 * (ringS f r).toInt64) n / all.toInt64
theorem neg_msb (x : Int32) : x < 0 ↔ x.toBitVec.msb = true := by
  rw [Int32.lt_iff_toInt_lt, Int32.toInt_zero, BitVec.msb_eq_toInt, decide_eq_true_iff]
  exact Iff.rfl
theorem xor_neg {x y : Int32} (hy : 0 < y.toInt) : x ^^^ y < 0 ↔ x < 0 := by
  have h : ¬ y < 0 := by rw [Int32.lt_iff_toInt_lt, Int32.toInt_zero]; omega
  rw [neg_msb] at h
  rw [neg_msb, neg_msb, Int32.toBitVec_xor, BitVec.msb_xor]
  cases h1 : y.toBitVec.msb
  · simp
  · exact absurd h1 h
theorem rem_neg {x y : Int32} (hy : 0 < y.toInt) : x - x / y * y < 0 ↔ (x < 0 ∧ ¬ (x - x / y * y = 0)) := by
  rw [Int32.lt_iff_toInt_lt, Int32.lt_iff_toInt_lt, Int32.toInt_zero, ← Int32.toInt_inj, Int32.toInt_zero, rem_toInt]
  constructor
  · intro h
    refine ⟨?_, by omega⟩
    rcases Int.lt_or_le x.toInt 0 with q | q
    · exact q
    · have := Int.tmod_nonneg y.toInt q
      omega
  · rintro ⟨h1, h2⟩
    have h3 : (-x.toInt).tmod y.toInt = -(x.toInt.tmod y.toInt) := Int.neg_tmod _ _
    have := Int.tmod_nonneg y.toInt (show 0 ≤ -x.toInt by omega)
    omega
theorem fmd_fmv {x y : Int32} (hy : 0 < y.toInt) : fmd x y = fmv x y := by
  have key : (x ^^^ y < 0 ∧ ¬ (x - x / y * y = 0)) ↔ x - x / y * y < 0 := by rw [xor_neg hy, rem_neg hy]
  unfold fmd fmv fmOf
  by_cases h : x - x / y * y < 0
  · rw [if_pos (key.mpr h), if_neg (Int32.not_le.mpr h)]
  · rw [if_neg (fun q => h (key.mp q)), if_pos (Int32.not_lt.mp h)]
theorem fmd_mod {x y : Int32} (hy : 0 < y.toInt) : fmd x y = if x - x / y * y < 0 then x - x / y * y + y else x - x / y * y := by
  rw [fmd_fmv hy]
  unfold fmv fmOf
  by_cases h : x - x / y * y < 0
  · rw [if_pos h, if_neg (Int32.not_le.mpr h)]
  · rw [if_neg h, if_pos (Int32.not_lt.mp h)]
theorem fmd_ok (x : Int32) : ∃ a, a < 3600 ∧ fmd x 3600 = nI a := by
  have h0 : (3600 : Int32).toInt = 3600 := by decide
  obtain ⟨c, h1, h2⟩ := fmv_nat (a := x) (m := 3600) (by rw [h0]; omega)
  rw [h0] at h2
  exact ⟨c, by omega, by rw [fmd_fmv (by rw [h0]; omega)]; exact h1⟩
theorem fdv_down {x y : Int32} (hy : 0 < y.toInt) : fdv x y = x / y - zb (x - x / y * y < 0) := by
  have e : (x / y * y = x) ↔ (x - x / y * y = 0) := by
    constructor
    · intro h
      rw [h, Int32.sub_self]
    · intro h
      have := congrArg (fun z => z + x / y * y) h
      simpa using this.symm
  have key : (x ^^^ y < 0 ∧ ¬ (x / y * y = x)) ↔ x - x / y * y < 0 := by rw [xor_neg hy, rem_neg hy, e]
  unfold fdv
  by_cases h : x - x / y * y < 0
  · rw [if_pos (key.mpr h), zb_t h]
  · rw [if_neg (fun q => h (key.mp q)), zb_f h, Int32.sub_zero]
end
section
theorem c_hasRing (μ : zM) (t : Nat) (ht : t < 4) (x : Int32) : zCi yX2_hasRing prog_4_method_4_code 2 (some .boolean) 1 [zR (5, t, 0), zI x] μ (zb (0 ≤ x ∧ x < μ (5, t, 0) 0)) := by
  refine zCt.of "DyeTank$Tank" rfl (by decide +kernel) rfl (Nat.le_of_ble_eq_true rfl) (fun K hR => ?_)
  have v5 := zv_5 t ht
  have v6 := zv_6 t ht
  have v7 := zv_7 t ht
  have v8 := zv_8 t ht
  have v9 := zv_9 t ht
  have v10 := zv_10 t ht
  have v12 := zv_12 t ht
  have v16 := zv_16 t ht
  have v17 := zv_17 t ht
  have v18 := zv_18 t ht
  refine z_ls (ls' := [zR (5, t, 0), zI x]) rfl ?_
  refine z_iload_n dX2_hasRing_0 rfl rfl ?_
  refine z_if_lt (tgt := 16) dX2_hasRing_1 (by decide) (fun h1 => ?_) (fun h1 => ?_)
  · refine z_iconst (v := 0) dX2_hasRing_16 (by decide) ?_
    refine z_bret hR dX2_hasRing_17 (Or.inl rfl) ⟨rfl, by rw [zb_f (fun q => absurd q.1 (Int32.not_le.mpr h1))]⟩
  · refine z_iload_n dX2_hasRing_4 rfl rfl ?_
    refine z_aload_n dX2_hasRing_5 rfl rfl ?_
    refine zg_X2_rings dX2_hasRing_6 tw_71 ?_
    refine z_icmp_ge (tgt := 16) dX2_hasRing_9 (by decide) (fun h2 => ?_) (fun h2 => ?_)
    · refine z_iconst (v := 0) dX2_hasRing_16 (by decide) ?_
      refine z_bret hR dX2_hasRing_17 (Or.inl rfl) ⟨rfl, by rw [zb_f (fun q => absurd q.2 (Int32.not_lt.mpr h2))]⟩
    · refine z_iconst (v := 1) dX2_hasRing_12 (by decide) ?_
      refine z_goto (tgt := 17) dX2_hasRing_13 (by decide) ?_
      refine z_bret hR dX2_hasRing_17 (Or.inr rfl) ⟨rfl, by rw [zb_t ⟨Int32.not_lt.mp h1, Int32.not_le.mp h2⟩]⟩
theorem c_hasMarker (μ : zM) (t : Nat) (ht : t < 4) (x : Int32) : zCi yX2_hasMarker prog_4_method_5_code 2 (some .boolean) 1 [zR (5, t, 0), zI x] μ (zb (0 ≤ x ∧ x < μ (5, t, 0) 2)) := by
  refine zCt.of "DyeTank$Tank" rfl (by decide +kernel) rfl (Nat.le_of_ble_eq_true rfl) (fun K hR => ?_)
  have v5 := zv_5 t ht
  have v6 := zv_6 t ht
  have v7 := zv_7 t ht
  have v8 := zv_8 t ht
  have v9 := zv_9 t ht
  have v10 := zv_10 t ht
  have v12 := zv_12 t ht
  have v16 := zv_16 t ht
  have v17 := zv_17 t ht
  have v18 := zv_18 t ht
  refine z_ls (ls' := [zR (5, t, 0), zI x]) rfl ?_
  refine z_iload_n dX2_hasMarker_0 rfl rfl ?_
  refine z_if_lt (tgt := 16) dX2_hasMarker_1 (by decide) (fun h1 => ?_) (fun h1 => ?_)
  · refine z_iconst (v := 0) dX2_hasMarker_16 (by decide) ?_
    refine z_bret hR dX2_hasMarker_17 (Or.inl rfl) ⟨rfl, by rw [zb_f (fun q => absurd q.1 (Int32.not_le.mpr h1))]⟩
  · refine z_iload_n dX2_hasMarker_4 rfl rfl ?_
    refine z_aload_n dX2_hasMarker_5 rfl rfl ?_
    refine zg_X2_markerCount dX2_hasMarker_6 tw_75 ?_
    refine z_icmp_ge (tgt := 16) dX2_hasMarker_9 (by decide) (fun h2 => ?_) (fun h2 => ?_)
    · refine z_iconst (v := 0) dX2_hasMarker_16 (by decide) ?_
      refine z_bret hR dX2_hasMarker_17 (Or.inl rfl) ⟨rfl, by rw [zb_f (fun q => absurd q.2 (Int32.not_lt.mpr h2))]⟩
    · refine z_iconst (v := 1) dX2_hasMarker_12 (by decide) ?_
      refine z_goto (tgt := 17) dX2_hasMarker_13 (by decide) ?_
      refine z_bret hR dX2_hasMarker_17 (Or.inr rfl) ⟨rfl, by rw [zb_t ⟨Int32.not_lt.mp h1, Int32.not_le.mp h2⟩]⟩
theorem c_lastPlace (μ : zM) (t : Nat) (ht : t < 4) : zCi yX2_lastPlace prog_4_method_6_code 1 (some .int) 1 [zR (5, t, 0)] μ (1000 * μ (5, t, 0) 0 - 1) := by
  refine zCt.of "DyeTank$Tank" rfl (by decide +kernel) rfl (Nat.le_of_ble_eq_true rfl) (fun K hR => ?_)
  have v5 := zv_5 t ht
  have v6 := zv_6 t ht
  have v7 := zv_7 t ht
  have v8 := zv_8 t ht
  have v9 := zv_9 t ht
  have v10 := zv_10 t ht
  have v12 := zv_12 t ht
  have v16 := zv_16 t ht
  have v17 := zv_17 t ht
  have v18 := zv_18 t ht
  refine z_ls (ls' := [zR (5, t, 0)]) rfl ?_
  refine z_sipush (v := 1000) dX2_lastPlace_0 (by decide) ?_
  refine z_aload_n dX2_lastPlace_3 rfl rfl ?_
  refine zg_X2_rings dX2_lastPlace_4 tw_71 ?_
  refine z_imul dX2_lastPlace_7 ?_
  refine z_iconst (v := 1) dX2_lastPlace_8 (by decide) ?_
  refine z_isub dX2_lastPlace_9 ?_
  refine z_iret hR dX2_lastPlace_10 (⟨rfl, rfl⟩)
theorem c_weightOf (μ : zM) (r : Nat) : zCi yX2_weightOf prog_4_method_7_code 1 (some .int) 1 [zI (nI r)] μ (nI (2 * r + 1)) := by
  refine zCt.of "DyeTank$Tank" rfl (by decide +kernel) rfl (Nat.le_of_ble_eq_true rfl) (fun K hR => ?_)
  refine z_ls (ls' := [zI (nI r)]) rfl ?_
  refine z_iconst (v := 2) dX2_weightOf_0 (by decide) ?_
  refine z_iload_n dX2_weightOf_1 rfl rfl ?_
  refine z_imul dX2_weightOf_2 ?_
  refine z_iconst (v := 1) dX2_weightOf_3 (by decide) ?_
  refine z_iadd dX2_weightOf_4 ?_
  refine z_iret hR dX2_weightOf_5 (⟨rfl, by rw [wt_eq]⟩)
theorem c_velocityOf (μ : zM) (t : Nat) (ht : t < 4) (r : Nat) (hr : r < 12) : zCi yX2_velocityOf prog_4_method_8_code 2 (some .int) 2 [zR (5, t, 0), zI (nI r)] μ (vel (μ (7, t, 0)) r) := by
  refine zCt.of "DyeTank$Tank" rfl (by decide +kernel) rfl (Nat.le_of_ble_eq_true rfl) (fun K hR => ?_)
  have v5 := zv_5 t ht
  have v6 := zv_6 t ht
  have v7 := zv_7 t ht
  have v8 := zv_8 t ht
  have v9 := zv_9 t ht
  have v10 := zv_10 t ht
  have v12 := zv_12 t ht
  have v16 := zv_16 t ht
  have v17 := zv_17 t ht
  have v18 := zv_18 t ht
  refine z_ls (ls' := [zR (5, t, 0), zI (nI r)]) rfl ?_
  refine z_aload_n dX2_velocityOf_0 rfl rfl ?_
  refine zg_X2_momenta dX2_velocityOf_1 tw_79 ?_
  refine z_iload_n dX2_velocityOf_4 rfl rfl ?_
  refine z_iald dX2_velocityOf_5 (fun _ _ => rfl) rfl hr ?_
  refine z_iload_n dX2_velocityOf_6 rfl rfl ?_
  refine z_cSi (c_weightOf μ r) q_X2_weightOf tw_211 dX2_velocityOf_7 rfl rfl (by omega) (Nat.le_of_ble_eq_true rfl) ?_
  refine z_cSi (c_floorDiv μ _ _ (wt_ne (by omega))) q_J9_floorDiv_7cf53 tw_214 dX2_velocityOf_10 rfl rfl (by omega) (Nat.le_of_ble_eq_true rfl) ?_
  refine z_iret hR dX2_velocityOf_13 (⟨rfl, rfl⟩)
theorem c_pushOf (μ : zM) (t : Nat) (ht : t < 4) (r : Nat) (hr : r < 12) : zCi yX2_pushOf prog_4_method_11_code 3 (some .int) 3 [zR (5, t, 0), zI (nI r)] μ (psh (μ (6, t, 0)) (μ (7, t, 0)) r) := by
  refine zCt.of "DyeTank$Tank" rfl (by decide +kernel) rfl (Nat.le_of_ble_eq_true rfl) (fun K hR => ?_)
  have v5 := zv_5 t ht
  have v6 := zv_6 t ht
  have v7 := zv_7 t ht
  have v8 := zv_8 t ht
  have v9 := zv_9 t ht
  have v10 := zv_10 t ht
  have v12 := zv_12 t ht
  have v16 := zv_16 t ht
  have v17 := zv_17 t ht
  have v18 := zv_18 t ht
  refine z_ls (ls' := [zR (5, t, 0), zI (nI r), zN]) rfl ?_
  refine z_aload_n dX2_pushOf_0 rfl rfl ?_
  refine zg_X2_settings dX2_pushOf_1 tw_77 ?_
  refine z_iconst (v := 5) dX2_pushOf_4 (by decide) ?_
  refine z_iald dX2_pushOf_5 (fun _ _ => rfl) rfl (i := 5) (by decide) ?_
  refine z_aload_n dX2_pushOf_6 rfl rfl ?_
  refine z_iload_n dX2_pushOf_7 rfl rfl ?_
  refine z_cVi (c_velocityOf μ t ht r hr) q_X2_velocityOf tw_277 dX2_pushOf_8 rfl rfl rfl (by omega) (Nat.le_of_ble_eq_true rfl) ?_
  refine z_aload_n dX2_pushOf_11 rfl rfl ?_
  refine zg_X2_settings dX2_pushOf_12 tw_77 ?_
  refine z_iconst (v := 4) dX2_pushOf_15 (by decide) ?_
  refine z_iald dX2_pushOf_16 (fun _ _ => rfl) rfl (i := 4) (by decide) ?_
  refine z_isub dX2_pushOf_17 ?_
  refine z_imul dX2_pushOf_18 ?_
  refine z_bipush (v := 100) dX2_pushOf_19 (by decide) ?_
  refine z_idiv dX2_pushOf_21 (by decide) ?_
  refine z_istS_n dX2_pushOf_22 rfl (by decide) rfl ?_
  refine z_sipush (v := -500) dX2_pushOf_23 (by decide) ?_
  refine z_sipush (v := 500) dX2_pushOf_26 (by decide) ?_
  refine z_iload_n dX2_pushOf_29 rfl rfl ?_
  refine z_mmin dX2_pushOf_30 tw_282 ⟨by omega, Nat.le_of_ble_eq_true rfl⟩ ?_
  refine z_mmax dX2_pushOf_33 tw_229 ⟨by omega, Nat.le_of_ble_eq_true rfl⟩ ?_
  refine z_iret hR dX2_pushOf_36 (⟨rfl, by rw [clP_eq]; rfl⟩)
theorem c_allMomenta (μ : zM) (t n : Nat) (ht : t < 4) (hn : μ (5, t, 0) 0 = nI n) (hn12 : n ≤ 12) : zCi yX2_allMomenta prog_4_method_12_code 3 (some .int) 1 [zR (5, t, 0)] μ (sm (μ (7, t, 0)) n) := by
  refine zCt.of "DyeTank$Tank" rfl (by decide +kernel) rfl (Nat.le_of_ble_eq_true rfl) (fun K hR => ?_)
  have v5 := zv_5 t ht
  have v6 := zv_6 t ht
  have v7 := zv_7 t ht
  have v8 := zv_8 t ht
  have v9 := zv_9 t ht
  have v10 := zv_10 t ht
  have v12 := zv_12 t ht
  have v16 := zv_16 t ht
  have v17 := zv_17 t ht
  have v18 := zv_18 t ht
  have loop : ∀ (f i : Nat), i ≤ n → n < i + f → Z K 1 "DyeTank$Tank" prog_4_method_12_code 3 4 [zR (5, t, 0), zI (sm (μ (7, t, 0)) i), zI (nI i)] [] μ := by
    intro f
    induction f with
    | zero => intro i h1 h2; exact absurd ‹_ < _ + 0› (by omega)
    | succ f ih =>
      intro i h1 h2
      refine z_iload_n dX2_allMomenta_4 rfl rfl ?_
      refine z_aload_n dX2_allMomenta_5 rfl rfl ?_
      refine zg_X2_rings dX2_allMomenta_6 tw_71 ?_
      refine z_top (hn) ?_
      refine z_icmp_ge (tgt := 27) dX2_allMomenta_9 (by decide) (fun hb => ?_) (fun hb => ?_)
      · have hb := nle hb
        have e : i = n := by omega
        subst e
        refine z_iload_n dX2_allMomenta_27 rfl rfl ?_
        refine z_iret hR dX2_allMomenta_28 (⟨rfl, rfl⟩)
      · have hb := nnle hb
        refine z_iload_n dX2_allMomenta_12 rfl rfl ?_
        refine z_aload_n dX2_allMomenta_13 rfl rfl ?_
        refine zg_X2_momenta dX2_allMomenta_14 tw_79 ?_
        refine z_iload_n dX2_allMomenta_17 rfl rfl ?_
        refine z_iald dX2_allMomenta_18 (fun _ _ => rfl) rfl (by omega) ?_
        refine z_iadd dX2_allMomenta_19 ?_
        refine z_istS_n dX2_allMomenta_20 rfl (by decide) rfl ?_
        refine z_incS dX2_allMomenta_21 rfl (inc1 _) (by decide) rfl ?_
        refine z_goto (tgt := 4) dX2_allMomenta_24 (by decide) ?_
        exact ih (i + 1) (by omega) (by omega)
  refine z_ls (ls' := [zR (5, t, 0), zN, zN]) rfl ?_
  refine z_iconst (v := 0) dX2_allMomenta_0 (by decide) ?_
  refine z_istS_n dX2_allMomenta_1 rfl (by decide) rfl ?_
  refine z_iconst (v := 0) dX2_allMomenta_2 (by decide) ?_
  refine z_istS_n dX2_allMomenta_3 rfl (by decide) rfl ?_
  exact loop (n + 1) 0 (by omega) (by omega)
theorem c_rowOf (μ : zM) (L r : Nat) : zCi yX2_rowOf prog_4_method_15_code 2 (some .int) 1 [zI (nI L), zI (nI r)] μ (nI (rwi L r)) := by
  refine zCt.of "DyeTank$Tank" rfl (by decide +kernel) rfl (Nat.le_of_ble_eq_true rfl) (fun K hR => ?_)
  refine z_ls (ls' := [zI (nI L), zI (nI r)]) rfl ?_
  refine z_iload_n dX2_rowOf_0 rfl rfl ?_
  refine z_bipush (v := 12) dX2_rowOf_1 (by decide) ?_
  refine z_imul dX2_rowOf_3 ?_
  refine z_iload_n dX2_rowOf_4 rfl rfl ?_
  refine z_iadd dX2_rowOf_5 ?_
  refine z_bipush (v := 24) dX2_rowOf_6 (by decide) ?_
  refine z_imul dX2_rowOf_8 ?_
  refine z_iret hR dX2_rowOf_9 (⟨rfl, by show zI ((nI L * nI 12 + nI r) * nI 24) = _; rw [pk_mul, nI_add, pk_mul]; rfl⟩)
theorem c_cellIn (μ : zM) (t : Nat) (ht : t < 4) (L r : Nat) (hr : r < 12) (x : Int32) : zCi yX2_cellIn prog_4_method_16_code 4 (some .int) 2 [zR (5, t, 0), zI (nI L), zI (nI r), zI x] μ (nI (rwi L r) + fmd (x - μ (8, t, 0) r / 150) 24) := by
  refine zCt.of "DyeTank$Tank" rfl (by decide +kernel) rfl (Nat.le_of_ble_eq_true rfl) (fun K hR => ?_)
  have v5 := zv_5 t ht
  have v6 := zv_6 t ht
  have v7 := zv_7 t ht
  have v8 := zv_8 t ht
  have v9 := zv_9 t ht
  have v10 := zv_10 t ht
  have v12 := zv_12 t ht
  have v16 := zv_16 t ht
  have v17 := zv_17 t ht
  have v18 := zv_18 t ht
  refine z_ls (ls' := [zR (5, t, 0), zI (nI L), zI (nI r), zI x]) rfl ?_
  refine z_iload_n dX2_cellIn_0 rfl rfl ?_
  refine z_iload_n dX2_cellIn_1 rfl rfl ?_
  refine z_cSi (c_rowOf μ L r) q_X2_rowOf tw_254 dX2_cellIn_2 rfl rfl (by omega) (Nat.le_of_ble_eq_true rfl) ?_
  refine z_iload_n dX2_cellIn_5 rfl rfl ?_
  refine z_aload_n dX2_cellIn_6 rfl rfl ?_
  refine zg_X2_angles dX2_cellIn_7 tw_81 ?_
  refine z_iload_n dX2_cellIn_10 rfl rfl ?_
  refine z_iald dX2_cellIn_11 (fun _ _ => rfl) rfl hr ?_
  refine z_sipush (v := 150) dX2_cellIn_12 (by decide) ?_
  refine z_idiv dX2_cellIn_15 (by decide) ?_
  refine z_isub dX2_cellIn_16 ?_
  refine z_bipush (v := 24) dX2_cellIn_17 (by decide) ?_
  refine z_cSi (c_floorMod μ _ _ (by decide)) q_J9_floorMod_7cf53 tw_257 dX2_cellIn_19 rfl rfl (by omega) (Nat.le_of_ble_eq_true rfl) ?_
  refine z_iadd dX2_cellIn_22 ?_
  refine z_iret hR dX2_cellIn_23 (⟨rfl, rfl⟩)
theorem c_amountInRow (μ : zM) (t : Nat) (ht : t < 4) (c L r : Nat) (hc : c < 3) (hL : L < 2) (hr : r < 12) : zCi yX2_amountInRow prog_4_method_19_code 8 (some .int) 2 [zR (5, t, 0), zI (nI c), zI (nI L), zI (nI r)] μ (rowS (μ (11, t, c)) L r) := by
  refine zCt.of "DyeTank$Tank" rfl (by decide +kernel) rfl (Nat.le_of_ble_eq_true rfl) (fun K hR => ?_)
  have v5 := zv_5 t ht
  have v6 := zv_6 t ht
  have v7 := zv_7 t ht
  have v8 := zv_8 t ht
  have v9 := zv_9 t ht
  have v10 := zv_10 t ht
  have v12 := zv_12 t ht
  have v16 := zv_16 t ht
  have v17 := zv_17 t ht
  have v18 := zv_18 t ht
  have v11 := zv_11 t ht c hc
  have hrw : rwi L r + 24 ≤ 576 := by unfold rwi; omega
  have loop : ∀ (f i : Nat), i ≤ 24 → 24 < i + f → Z K 2 "DyeTank$Tank" prog_4_method_19_code 8 22 [zR (5, t, 0), zI (nI c), zI (nI L), zI (nI r), zR (11, t, c), zI (nI (rwi L r)), zI (sm (fun j => μ (11, t, c) (rwi L r + j)) i), zI (nI (rwi L r + i))] [] μ := by
    intro f
    induction f with
    | zero => intro i h1 h2; exact absurd ‹_ < _ + 0› (by omega)
    | succ f ih =>
      intro i h1 h2
      refine z_iload dX2_amountInRow_22 rfl ?_
      refine z_iload dX2_amountInRow_24 rfl ?_
      refine z_bipush (v := 24) dX2_amountInRow_26 (by decide) ?_
      refine z_iadd dX2_amountInRow_28 ?_
      refine z_top ((show nI (rwi L r) + nI 24 = nI (rwi L r + 24) from nI_add _ _)) ?_
      refine z_icmp_ge (tgt := 48) dX2_amountInRow_29 (by decide) (fun hb => ?_) (fun hb => ?_)
      · have hb := nle hb
        have e : i = 24 := by omega
        subst e
        refine z_iload dX2_amountInRow_48 rfl ?_
        refine z_iret hR dX2_amountInRow_50 (⟨rfl, rfl⟩)
      · have hb := nnle hb
        refine z_iload dX2_amountInRow_32 rfl ?_
        refine z_aload dX2_amountInRow_34 rfl ?_
        refine z_iload dX2_amountInRow_36 rfl ?_
        refine z_iald dX2_amountInRow_38 (fun _ _ => rfl) rfl (by omega) ?_
        refine z_iadd dX2_amountInRow_39 ?_
        refine z_istS dX2_amountInRow_40 (by decide) rfl ?_
        refine z_incS dX2_amountInRow_42 rfl (inc1 _) (by decide) rfl ?_
        refine z_goto (tgt := 22) dX2_amountInRow_45 (by decide) ?_
        exact ih (i + 1) (by omega) (by omega)
  refine z_ls (ls' := [zR (5, t, 0), zI (nI c), zI (nI L), zI (nI r), zN, zN, zN, zN]) rfl ?_
  refine z_aload_n dX2_amountInRow_0 rfl rfl ?_
  refine zg_X2_dyes dX2_amountInRow_1 tw_85 ?_
  refine z_iload_n dX2_amountInRow_4 rfl rfl ?_
  refine z_ald10 dX2_amountInRow_5 rfl hc ?_
  refine z_astS dX2_amountInRow_6 (by decide) rfl ?_
  refine z_iload_n dX2_amountInRow_8 rfl rfl ?_
  refine z_iload_n dX2_amountInRow_9 rfl rfl ?_
  refine z_cSi (c_rowOf μ L r) q_X2_rowOf tw_254 dX2_amountInRow_10 rfl rfl (by omega) (Nat.le_of_ble_eq_true rfl) ?_
  refine z_istS dX2_amountInRow_13 (by decide) rfl ?_
  refine z_iconst (v := 0) dX2_amountInRow_15 (by decide) ?_
  refine z_istS dX2_amountInRow_16 (by decide) rfl ?_
  refine z_iload dX2_amountInRow_18 rfl ?_
  refine z_istS dX2_amountInRow_20 (by decide) rfl ?_
  exact loop 25 0 (by omega) (by omega)
theorem c_amountInRing (μ : zM) (t : Nat) (ht : t < 4) (c r : Nat) (hc : c < 3) (hr : r < 12) : zCi yX2_amountInRing prog_4_method_17_code 3 (some .int) 3 [zR (5, t, 0), zI (nI c), zI (nI r)] μ (ringS (μ (11, t, c)) r) := by
  refine zCt.of "DyeTank$Tank" rfl (by decide +kernel) rfl (Nat.le_of_ble_eq_true rfl) (fun K hR => ?_)
  have v5 := zv_5 t ht
  have v6 := zv_6 t ht
  have v7 := zv_7 t ht
  have v8 := zv_8 t ht
  have v9 := zv_9 t ht
  have v10 := zv_10 t ht
  have v12 := zv_12 t ht
  have v16 := zv_16 t ht
  have v17 := zv_17 t ht
  have v18 := zv_18 t ht
  refine z_ls (ls' := [zR (5, t, 0), zI (nI c), zI (nI r)]) rfl ?_
  refine z_aload_n dX2_amountInRing_0 rfl rfl ?_
  refine z_iload_n dX2_amountInRing_1 rfl rfl ?_
  refine z_iconst (v := 0) dX2_amountInRing_2 (by decide) ?_
  refine z_iload_n dX2_amountInRing_3 rfl rfl ?_
  refine z_cVi (c_amountInRow μ t ht c 0 r hc (by decide) hr) q_X2_amountInRow tw_336 dX2_amountInRing_4 rfl rfl rfl (by omega) (Nat.le_of_ble_eq_true rfl) ?_
  refine z_aload_n dX2_amountInRing_7 rfl rfl ?_
  refine z_iload_n dX2_amountInRing_8 rfl rfl ?_
  refine z_iconst (v := 1) dX2_amountInRing_9 (by decide) ?_
  refine z_iload_n dX2_amountInRing_10 rfl rfl ?_
  refine z_cVi (c_amountInRow μ t ht c 1 r hc (by decide) hr) q_X2_amountInRow tw_336 dX2_amountInRing_11 rfl rfl rfl (by omega) (Nat.le_of_ble_eq_true rfl) ?_
  refine z_iadd dX2_amountInRing_14 ?_
  refine z_iret hR dX2_amountInRing_15 (⟨rfl, rfl⟩)
theorem c_amountInTop (μ : zM) (t n : Nat) (ht : t < 4) (hn : μ (5, t, 0) 0 = nI n) (hn12 : n ≤ 12) (c : Nat) (hc : c < 3) : zCi yX2_amountInTop prog_4_method_18_code 4 (some .int) 3 [zR (5, t, 0), zI (nI c)] μ (sm (fun r => rowS (μ (11, t, c)) 0 r) n) := by
  refine zCt.of "DyeTank$Tank" rfl (by decide +kernel) rfl (Nat.le_of_ble_eq_true rfl) (fun K hR => ?_)
  have v5 := zv_5 t ht
  have v6 := zv_6 t ht
  have v7 := zv_7 t ht
  have v8 := zv_8 t ht
  have v9 := zv_9 t ht
  have v10 := zv_10 t ht
  have v12 := zv_12 t ht
  have v16 := zv_16 t ht
  have v17 := zv_17 t ht
  have v18 := zv_18 t ht
  have loop : ∀ (f i : Nat), i ≤ n → n < i + f → Z K 3 "DyeTank$Tank" prog_4_method_18_code 4 4 [zR (5, t, 0), zI (nI c), zI (sm (fun r => rowS (μ (11, t, c)) 0 r) i), zI (nI i)] [] μ := by
    intro f
    induction f with
    | zero => intro i h1 h2; exact absurd ‹_ < _ + 0› (by omega)
    | succ f ih =>
      intro i h1 h2
      refine z_iload_n dX2_amountInTop_4 rfl rfl ?_
      refine z_aload_n dX2_amountInTop_5 rfl rfl ?_
      refine zg_X2_rings dX2_amountInTop_6 tw_71 ?_
      refine z_top (hn) ?_
      refine z_icmp_ge (tgt := 28) dX2_amountInTop_9 (by decide) (fun hb => ?_) (fun hb => ?_)
      · have hb := nle hb
        have e : i = n := by omega
        subst e
        refine z_iload_n dX2_amountInTop_28 rfl rfl ?_
        refine z_iret hR dX2_amountInTop_29 (⟨rfl, rfl⟩)
      · have hb := nnle hb
        refine z_iload_n dX2_amountInTop_12 rfl rfl ?_
        refine z_aload_n dX2_amountInTop_13 rfl rfl ?_
        refine z_iload_n dX2_amountInTop_14 rfl rfl ?_
        refine z_iconst (v := 0) dX2_amountInTop_15 (by decide) ?_
        refine z_iload_n dX2_amountInTop_16 rfl rfl ?_
        refine z_cVi (c_amountInRow μ t ht c 0 i hc (by decide) (by omega)) q_X2_amountInRow tw_336 dX2_amountInTop_17 rfl rfl rfl (by omega) (Nat.le_of_ble_eq_true rfl) ?_
        refine z_iadd dX2_amountInTop_20 ?_
        refine z_istS_n dX2_amountInTop_21 rfl (by decide) rfl ?_
        refine z_incS dX2_amountInTop_22 rfl (inc1 _) (by decide) rfl ?_
        refine z_goto (tgt := 4) dX2_amountInTop_25 (by decide) ?_
        exact ih (i + 1) (by omega) (by omega)
  refine z_ls (ls' := [zR (5, t, 0), zI (nI c), zN, zN]) rfl ?_
  refine z_iconst (v := 0) dX2_amountInTop_0 (by decide) ?_
  refine z_istS_n dX2_amountInTop_1 rfl (by decide) rfl ?_
  refine z_iconst (v := 0) dX2_amountInTop_2 (by decide) ?_
  refine z_istS_n dX2_amountInTop_3 rfl (by decide) rfl ?_
  exact loop (n + 1) 0 (by omega) (by omega)
end
section
theorem c_greatestShear (μ : zM) (t n : Nat) (ht : t < 4) (hn : μ (5, t, 0) 0 = nI n) (hn2 : 2 ≤ n) (hn12 : n ≤ 12) : zCi yX2_greatestShear prog_4_method_13_code 3 (some .int) 3 [zR (5, t, 0)] μ (mxf (fun r => absI (vel (μ (7, t, 0)) r - vel (μ (7, t, 0)) (r + 1))) (n - 1)) := by
  refine zCt.of "DyeTank$Tank" rfl (by decide +kernel) rfl (Nat.le_of_ble_eq_true rfl) (fun K hR => ?_)
  have v5 := zv_5 t ht
  have v6 := zv_6 t ht
  have v7 := zv_7 t ht
  have v8 := zv_8 t ht
  have v9 := zv_9 t ht
  have v10 := zv_10 t ht
  have v12 := zv_12 t ht
  have v16 := zv_16 t ht
  have v17 := zv_17 t ht
  have v18 := zv_18 t ht
  have loop : ∀ (f i : Nat), i ≤ n - 1 → n - 1 < i + f → Z K 3 "DyeTank$Tank" prog_4_method_13_code 3 4 [zR (5, t, 0), zI (mxf (fun r => absI (vel (μ (7, t, 0)) r - vel (μ (7, t, 0)) (r + 1))) i), zI (nI i)] [] μ := by
    intro f
    induction f with
    | zero => intro i h1 h2; exact absurd ‹_ < _ + 0› (by omega)
    | succ f ih =>
      intro i h1 h2
      refine z_iload_n dX2_greatestShear_4 rfl rfl ?_
      refine z_aload_n dX2_greatestShear_5 rfl rfl ?_
      refine zg_X2_rings dX2_greatestShear_6 tw_71 ?_
      refine z_top (hn) ?_
      refine z_iconst (v := 1) dX2_greatestShear_9 (by decide) ?_
      refine z_isub dX2_greatestShear_10 ?_
      refine z_top ((show nI n - nI 1 = nI (n - 1) from pk_sub (by omega))) ?_
      refine z_icmp_ge (tgt := 41) dX2_greatestShear_11 (by decide) (fun hb => ?_) (fun hb => ?_)
      · have hb := nle hb
        have e : i = n - 1 := by omega
        rw [e]
        refine z_iload_n dX2_greatestShear_41 rfl rfl ?_
        refine z_iret hR dX2_greatestShear_42 (⟨rfl, rfl⟩)
      · have hb := nnle hb
        refine z_iload_n dX2_greatestShear_14 rfl rfl ?_
        refine z_aload_n dX2_greatestShear_15 rfl rfl ?_
        refine z_iload_n dX2_greatestShear_16 rfl rfl ?_
        refine z_cVi (c_velocityOf μ t ht i (by omega)) q_X2_velocityOf tw_277 dX2_greatestShear_17 rfl rfl rfl (by omega) (Nat.le_of_ble_eq_true rfl) ?_
        refine z_aload_n dX2_greatestShear_20 rfl rfl ?_
        refine z_iload_n dX2_greatestShear_21 rfl rfl ?_
        refine z_iconst (v := 1) dX2_greatestShear_22 (by decide) ?_
        refine z_iadd dX2_greatestShear_23 ?_
        refine z_top ((nI_1 i)) ?_
        refine z_cVi (c_velocityOf μ t ht (i + 1) (by omega)) q_X2_velocityOf tw_277 dX2_greatestShear_24 rfl rfl rfl (by omega) (Nat.le_of_ble_eq_true rfl) ?_
        refine z_isub dX2_greatestShear_27 ?_
        refine z_mabs dX2_greatestShear_28 tw_289 ⟨by omega, Nat.le_of_ble_eq_true rfl⟩ ?_
        refine z_mmax dX2_greatestShear_31 tw_229 ⟨by omega, Nat.le_of_ble_eq_true rfl⟩ ?_
        refine z_istS_n dX2_greatestShear_34 rfl (by decide) rfl ?_
        refine z_incS dX2_greatestShear_35 rfl (inc1 _) (by decide) rfl ?_
        refine z_goto (tgt := 4) dX2_greatestShear_38 (by decide) ?_
        exact ih (i + 1) (by omega) (by omega)
  refine z_ls (ls' := [zR (5, t, 0), zN, zN]) rfl ?_
  refine z_iconst (v := 0) dX2_greatestShear_0 (by decide) ?_
  refine z_istS_n dX2_greatestShear_1 rfl (by decide) rfl ?_
  refine z_iconst (v := 0) dX2_greatestShear_2 (by decide) ?_
  refine z_istS_n dX2_greatestShear_3 rfl (by decide) rfl ?_
  exact loop n 0 (by omega) (by omega)
theorem c_turnsWithFloor (μ : zM) (t n : Nat) (ht : t < 4) (hn : μ (5, t, 0) 0 = nI n) (hn12 : n ≤ 12) (b : Int32) : zCi yX2_turnsWithFloor prog_4_method_14_code 3 (some .boolean) 3 [zR (5, t, 0), zI b] μ (zb (∀ r, r < n → absI (vel (μ (7, t, 0)) r - μ (6, t, 0) 4) ≤ b)) := by
  refine zCt.of "DyeTank$Tank" rfl (by decide +kernel) rfl (Nat.le_of_ble_eq_true rfl) (fun K hR => ?_)
  have v5 := zv_5 t ht
  have v6 := zv_6 t ht
  have v7 := zv_7 t ht
  have v8 := zv_8 t ht
  have v9 := zv_9 t ht
  have v10 := zv_10 t ht
  have v12 := zv_12 t ht
  have v16 := zv_16 t ht
  have v17 := zv_17 t ht
  have v18 := zv_18 t ht
  have loop : ∀ (f i : Nat), i ≤ n → n < i + f → (∀ r, r < i → absI (vel (μ (7, t, 0)) r - μ (6, t, 0) 4) ≤ b) → Z K 3 "DyeTank$Tank" prog_4_method_14_code 3 2 [zR (5, t, 0), zI b, zI (nI i)] [] μ := by
    intro f
    induction f with
    | zero => intro i h1 h2 h3; exact absurd ‹_ < _ + 0› (by omega)
    | succ f ih =>
      intro i h1 h2 hI
      refine z_iload_n dX2_turnsWithFloor_2 rfl rfl ?_
      refine z_aload_n dX2_turnsWithFloor_3 rfl rfl ?_
      refine zg_X2_rings dX2_turnsWithFloor_4 tw_71 ?_
      refine z_top (hn) ?_
      refine z_icmp_ge (tgt := 37) dX2_turnsWithFloor_7 (by decide) (fun hb => ?_) (fun hb => ?_)
      · have hb := nle hb
        have e : i = n := by omega
        subst e
        refine z_iconst (v := 1) dX2_turnsWithFloor_37 (by decide) ?_
        refine z_bret hR dX2_turnsWithFloor_38 (Or.inr rfl) ⟨rfl, by rw [zb_t hI]⟩
      · have hb := nnle hb
        refine z_aload_n dX2_turnsWithFloor_10 rfl rfl ?_
        refine z_iload_n dX2_turnsWithFloor_11 rfl rfl ?_
        refine z_cVi (c_velocityOf μ t ht i (by omega)) q_X2_velocityOf tw_277 dX2_turnsWithFloor_12 rfl rfl rfl (by omega) (Nat.le_of_ble_eq_true rfl) ?_
        refine z_aload_n dX2_turnsWithFloor_15 rfl rfl ?_
        refine zg_X2_settings dX2_turnsWithFloor_16 tw_77 ?_
        refine z_iconst (v := 4) dX2_turnsWithFloor_19 (by decide) ?_
        refine z_iald dX2_turnsWithFloor_20 (fun _ _ => rfl) rfl (i := 4) (by decide) ?_
        refine z_isub dX2_turnsWithFloor_21 ?_
        refine z_mabs dX2_turnsWithFloor_22 tw_289 ⟨by omega, Nat.le_of_ble_eq_true rfl⟩ ?_
        refine z_iload_n dX2_turnsWithFloor_25 rfl rfl ?_
        refine z_icmp_le (tgt := 31) dX2_turnsWithFloor_26 (by decide) (fun hc => ?_) (fun hc => ?_)
        · refine z_incS dX2_turnsWithFloor_31 rfl (inc1 _) (by decide) rfl ?_
          refine z_goto (tgt := 2) dX2_turnsWithFloor_34 (by decide) ?_
          refine ih (i + 1) (by omega) (by omega) ?_
          intro r hr
          rcases Nat.lt_or_ge r i with h | h
          · exact hI r h
          · have : r = i := by omega
            subst this
            exact hc
        · refine z_iconst (v := 0) dX2_turnsWithFloor_29 (by decide) ?_
          refine z_bret hR dX2_turnsWithFloor_30 (Or.inl rfl) ⟨rfl, by rw [zb_f (fun q => hc (q i hb))]⟩
  refine z_ls (ls' := [zR (5, t, 0), zI b, zN]) rfl ?_
  refine z_iconst (v := 0) dX2_turnsWithFloor_0 (by decide) ?_
  refine z_istS_n dX2_turnsWithFloor_1 rfl (by decide) rfl ?_
  exact loop (n + 1) 0 (by omega) (by omega) (fun r hr => absurd hr (by omega))
theorem c_cellsWith (μ : zM) (t : Nat) (ht : t < 4) (c : Nat) (hc : c < 3) : zCi yX2_cellsWith prog_4_method_20_code 5 (some .int) 1 [zR (5, t, 0), zI (nI c)] μ (cnf (μ (11, t, c)) 576) := by
  refine zCt.of "DyeTank$Tank" rfl (by decide +kernel) rfl (Nat.le_of_ble_eq_true rfl) (fun K hR => ?_)
  have v5 := zv_5 t ht
  have v6 := zv_6 t ht
  have v7 := zv_7 t ht
  have v8 := zv_8 t ht
  have v9 := zv_9 t ht
  have v10 := zv_10 t ht
  have v12 := zv_12 t ht
  have v16 := zv_16 t ht
  have v17 := zv_17 t ht
  have v18 := zv_18 t ht
  have v11 := zv_11 t ht c hc
  have loop : ∀ (f i : Nat), i ≤ 576 → 576 < i + f → Z K 1 "DyeTank$Tank" prog_4_method_20_code 5 12 [zR (5, t, 0), zI (nI c), zR (11, t, c), zI (cnf (μ (11, t, c)) i), zI (nI i)] [] μ := by
    intro f
    induction f with
    | zero => intro i h1 h2; exact absurd ‹_ < _ + 0› (by omega)
    | succ f ih =>
      intro i h1 h2
      refine z_iload dX2_cellsWith_12 rfl ?_
      refine z_aload_n dX2_cellsWith_14 rfl rfl ?_
      refine z_alen dX2_cellsWith_15 (fun _ _ => rfl) ?_
      refine z_icmp_ge (tgt := 35) dX2_cellsWith_16 (by decide) (fun hb => ?_) (fun hb => ?_)
      · have hb := nle hb
        have e : i = 576 := by omega
        subst e
        refine z_iload_n dX2_cellsWith_35 rfl rfl ?_
        refine z_iret hR dX2_cellsWith_36 (⟨rfl, rfl⟩)
      · have hb := nnle hb
        refine z_aload_n dX2_cellsWith_19 rfl rfl ?_
        refine z_iload dX2_cellsWith_20 rfl ?_
        refine z_iald dX2_cellsWith_22 (fun _ _ => rfl) rfl (by omega) ?_
        refine z_if_le (tgt := 29) dX2_cellsWith_23 (by decide) (fun hc => ?_) (fun hc => ?_)
        · refine z_incS dX2_cellsWith_29 rfl (inc1 _) (by decide) rfl ?_
          refine z_goto (tgt := 12) dX2_cellsWith_32 (by decide) ?_
          have e : cnf (μ (11, t, c)) (i + 1) = cnf (μ (11, t, c)) i := if_neg (Int32.not_lt.mpr hc)
          have := ih (i + 1) (by omega) (by omega)
          rw [e] at this
          exact this
        · refine z_incS dX2_cellsWith_26 rfl rfl (by decide) rfl ?_
          refine z_incS dX2_cellsWith_29 rfl (inc1 _) (by decide) rfl ?_
          refine z_goto (tgt := 12) dX2_cellsWith_32 (by decide) ?_
          have e : cnf (μ (11, t, c)) (i + 1) = cnf (μ (11, t, c)) i + 1 := if_pos (Int32.not_le.mp hc)
          have := ih (i + 1) (by omega) (by omega)
          rw [e] at this
          exact this
  refine z_ls (ls' := [zR (5, t, 0), zI (nI c), zN, zN, zN]) rfl ?_
  refine z_aload_n dX2_cellsWith_0 rfl rfl ?_
  refine zg_X2_dyes dX2_cellsWith_1 tw_85 ?_
  refine z_iload_n dX2_cellsWith_4 rfl rfl ?_
  refine z_ald10 dX2_cellsWith_5 rfl hc ?_
  refine z_astS_n dX2_cellsWith_6 rfl (by decide) rfl ?_
  refine z_iconst (v := 0) dX2_cellsWith_7 (by decide) ?_
  refine z_istS_n dX2_cellsWith_8 rfl (by decide) rfl ?_
  refine z_iconst (v := 0) dX2_cellsWith_9 (by decide) ?_
  refine z_istS dX2_cellsWith_10 (by decide) rfl ?_
  exact loop 577 0 (by omega) (by omega)
theorem c_greatestAmount (μ : zM) (t : Nat) (ht : t < 4) (c : Nat) (hc : c < 3) : zCi yX2_greatestAmount prog_4_method_21_code 5 (some .int) 1 [zR (5, t, 0), zI (nI c)] μ (mxf (μ (11, t, c)) 576) := by
  refine zCt.of "DyeTank$Tank" rfl (by decide +kernel) rfl (Nat.le_of_ble_eq_true rfl) (fun K hR => ?_)
  have v5 := zv_5 t ht
  have v6 := zv_6 t ht
  have v7 := zv_7 t ht
  have v8 := zv_8 t ht
  have v9 := zv_9 t ht
  have v10 := zv_10 t ht
  have v12 := zv_12 t ht
  have v16 := zv_16 t ht
  have v17 := zv_17 t ht
  have v18 := zv_18 t ht
  have v11 := zv_11 t ht c hc
  have loop : ∀ (f i : Nat), i ≤ 576 → 576 < i + f → Z K 1 "DyeTank$Tank" prog_4_method_21_code 5 12 [zR (5, t, 0), zI (nI c), zR (11, t, c), zI (mxf (μ (11, t, c)) i), zI (nI i)] [] μ := by
    intro f
    induction f with
    | zero => intro i h1 h2; exact absurd ‹_ < _ + 0› (by omega)
    | succ f ih =>
      intro i h1 h2
      refine z_iload dX2_greatestAmount_12 rfl ?_
      refine z_aload_n dX2_greatestAmount_14 rfl rfl ?_
      refine z_alen dX2_greatestAmount_15 (fun _ _ => rfl) ?_
      refine z_icmp_ge (tgt := 34) dX2_greatestAmount_16 (by decide) (fun hb => ?_) (fun hb => ?_)
      · have hb := nle hb
        have e : i = 576 := by omega
        subst e
        refine z_iload_n dX2_greatestAmount_34 rfl rfl ?_
        refine z_iret hR dX2_greatestAmount_35 (⟨rfl, rfl⟩)
      · have hb := nnle hb
        refine z_iload_n dX2_greatestAmount_19 rfl rfl ?_
        refine z_aload_n dX2_greatestAmount_20 rfl rfl ?_
        refine z_iload dX2_greatestAmount_21 rfl ?_
        refine z_iald dX2_greatestAmount_23 (fun _ _ => rfl) rfl (by omega) ?_
        refine z_mmax dX2_greatestAmount_24 tw_229 ⟨by omega, Nat.le_of_ble_eq_true rfl⟩ ?_
        refine z_istS_n dX2_greatestAmount_27 rfl (by decide) rfl ?_
        refine z_incS dX2_greatestAmount_28 rfl (inc1 _) (by decide) rfl ?_
        refine z_goto (tgt := 12) dX2_greatestAmount_31 (by decide) ?_
        exact ih (i + 1) (by omega) (by omega)
  refine z_ls (ls' := [zR (5, t, 0), zI (nI c), zN, zN, zN]) rfl ?_
  refine z_aload_n dX2_greatestAmount_0 rfl rfl ?_
  refine zg_X2_dyes dX2_greatestAmount_1 tw_85 ?_
  refine z_iload_n dX2_greatestAmount_4 rfl rfl ?_
  refine z_ald10 dX2_greatestAmount_5 rfl hc ?_
  refine z_astS_n dX2_greatestAmount_6 rfl (by decide) rfl ?_
  refine z_iconst (v := 0) dX2_greatestAmount_7 (by decide) ?_
  refine z_istS_n dX2_greatestAmount_8 rfl (by decide) rfl ?_
  refine z_iconst (v := 0) dX2_greatestAmount_9 (by decide) ?_
  refine z_istS dX2_greatestAmount_10 (by decide) rfl ?_
  exact loop 577 0 (by omega) (by omega)
theorem toI64_ne {x : Int32} (h : ¬ x = 0) : ¬ x.toInt64 = 0 := by
  intro q
  apply h
  have h1 : x.toInt64.toInt = x.toInt := Int32.toInt_toInt64 x
  rw [q] at h1
  exact Int32.toInt_inj.mp (by rw [← h1]; rfl)
theorem c_meanPlace (μ : zM) (t n : Nat) (ht : t < 4) (hn : μ (5, t, 0) 0 = nI n) (hn12 : n ≤ 12) (c : Nat) (hc : c < 3) : zCl yX2_meanPlace prog_4_method_22_code 5 (some .long) 4 [zR (5, t, 0), zI (nI c)] μ (meanP (μ (11, t, c)) n (μ (9, t, 0) c)) := by
  refine zCt.of "DyeTank$Tank" rfl (by decide +kernel) rfl (Nat.le_of_ble_eq_true rfl) (fun K hR => ?_)
  have v5 := zv_5 t ht
  have v6 := zv_6 t ht
  have v7 := zv_7 t ht
  have v8 := zv_8 t ht
  have v9 := zv_9 t ht
  have v10 := zv_10 t ht
  have v12 := zv_12 t ht
  have v16 := zv_16 t ht
  have v17 := zv_17 t ht
  have v18 := zv_18 t ht
  refine z_ls (ls' := [zR (5, t, 0), zI (nI c), zN, zN, zN]) rfl ?_
  refine z_aload_n dX2_meanPlace_0 rfl rfl ?_
  refine zg_X2_totals dX2_meanPlace_1 tw_83 ?_
  refine z_iload_n dX2_meanPlace_4 rfl rfl ?_
  refine z_iald dX2_meanPlace_5 (fun _ _ => rfl) rfl hc ?_
  refine z_if_ne (tgt := 13) dX2_meanPlace_6 (by decide) (fun h0 => ?_) (fun h0 => ?_)
  · have loop : ∀ (f i : Nat), i ≤ n → n < i + f → Z K 4 "DyeTank$Tank" prog_4_method_22_code 5 18 [zR (5, t, 0), zI (nI c), zL (sml (fun r => (nI r).toInt64 * (ringS (μ (11, t, c)) r).toInt64) i), zN, zI (nI i)] [] μ := by
      intro f
      induction f with
      | zero => intro i h1 h2; exact absurd ‹_ < _ + 0› (by omega)
      | succ f ih =>
        intro i h1 h2
        refine z_iload dX2_meanPlace_18 rfl ?_
        refine z_aload_n dX2_meanPlace_20 rfl rfl ?_
        refine zg_X2_rings dX2_meanPlace_21 tw_71 ?_
        refine z_top (hn) ?_
        refine z_icmp_ge (tgt := 48) dX2_meanPlace_24 (by decide) (fun hb => ?_) (fun hb => ?_)
        · have hb := nle hb
          have e : i = n := by omega
          subst e
          refine z_ldc2 (v := 1000) dX2_meanPlace_48 tw_297 ?_
          refine z_lload_n dX2_meanPlace_51 rfl rfl ?_
          refine z_lmul dX2_meanPlace_52 ?_
          refine z_aload_n dX2_meanPlace_53 rfl rfl ?_
          refine zg_X2_totals dX2_meanPlace_54 tw_83 ?_
          refine z_iload_n dX2_meanPlace_57 rfl rfl ?_
          refine z_iald dX2_meanPlace_58 (fun _ _ => rfl) rfl hc ?_
          refine z_i2l dX2_meanPlace_59 ?_
          refine z_ldiv dX2_meanPlace_60 (toI64_ne h0) ?_
          refine z_lret hR dX2_meanPlace_61 (⟨rfl, by rw [meanP, if_neg h0]⟩)
        · have hb := nnle hb
          refine z_lload_n dX2_meanPlace_27 rfl rfl ?_
          refine z_iload dX2_meanPlace_28 rfl ?_
          refine z_i2l dX2_meanPlace_30 ?_
          refine z_aload_n dX2_meanPlace_31 rfl rfl ?_
          refine z_iload_n dX2_meanPlace_32 rfl rfl ?_
          refine z_iload dX2_meanPlace_33 rfl ?_
          refine z_cVi (c_amountInRing μ t ht c i hc (by omega)) q_X2_amountInRing tw_366 dX2_meanPlace_35 rfl rfl rfl (by omega) (Nat.le_of_ble_eq_true rfl) ?_
          refine z_i2l dX2_meanPlace_38 ?_
          refine z_lmul dX2_meanPlace_39 ?_
          refine z_ladd dX2_meanPlace_40 ?_
          refine z_lstS_n dX2_meanPlace_41 rfl (by decide) rfl ?_
          refine z_incS dX2_meanPlace_42 rfl (inc1 _) (by decide) rfl ?_
          refine z_goto (tgt := 18) dX2_meanPlace_45 (by decide) ?_
          exact ih (i + 1) (by omega) (by omega)
    refine z_lconst (v := 0) dX2_meanPlace_13 (by decide) ?_
    refine z_lstS_n dX2_meanPlace_14 rfl (by decide) rfl ?_
    refine z_iconst (v := 0) dX2_meanPlace_15 (by decide) ?_
    refine z_istS dX2_meanPlace_16 (by decide) rfl ?_
    exact loop (n + 1) 0 (by omega) (by omega)
  · refine z_ldc2 (v := -6) dX2_meanPlace_9 tw_365 ?_
    refine z_lret hR dX2_meanPlace_12 (⟨rfl, by rw [meanP, if_pos h0]⟩)
def unevS (f : Nat → Int32) (n : Nat) (all : Int64) (L : Nat) : Int64 := sml (fun k => absL ((f (rwi L 0 + k)).toInt64 * (2 * (nI n).toInt64 * 24) - all)) (24 * n)
def unev (f : Nat → Int32) (n : Nat) (all : Int64) : Int64 := (unevS f n all 0 + unevS f n all 1) / (2 * (nI n).toInt64 * 24)
theorem cells_ne {n : Nat} (h1 : 1 ≤ n) (h2 : n ≤ 12) : ¬ (2 * (nI n).toInt64 * 24) = 0 := by
  have h : n = 1 ∨ n = 2 ∨ n = 3 ∨ n = 4 ∨ n = 5 ∨ n = 6 ∨ n = 7 ∨ n = 8 ∨ n = 9 ∨ n = 10 ∨ n = 11 ∨ n = 12 := by omega
  rcases h with rfl | rfl | rfl | rfl | rfl | rfl | rfl | rfl | rfl | rfl | rfl | rfl <;> decide +kernel
theorem c_unevenness (μ : zM) (t n : Nat) (ht : t < 4) (hn : μ (5, t, 0) 0 = nI n) (hn2 : 2 ≤ n) (hn12 : n ≤ 12) (c : Nat) (hc : c < 3) : zCl yX2_unevenness prog_4_method_23_code 11 (some .long) 2 [zR (5, t, 0), zI (nI c)] μ (unev (μ (11, t, c)) n (μ (9, t, 0) c).toInt64) := by
  refine zCt.of "DyeTank$Tank" rfl (by decide +kernel) rfl (Nat.le_of_ble_eq_true rfl) (fun K hR => ?_)
  have v5 := zv_5 t ht
  have v6 := zv_6 t ht
  have v7 := zv_7 t ht
  have v8 := zv_8 t ht
  have v9 := zv_9 t ht
  have v10 := zv_10 t ht
  have v12 := zv_12 t ht
  have v16 := zv_16 t ht
  have v17 := zv_17 t ht
  have v18 := zv_18 t ht
  have v11 := zv_11 t ht c hc
  have inner : ∀ (L : Nat) (lv : Int32), lv = nI L → L < 2 → ∀ (cs s0 : Int64), cs = 2 * (nI n).toInt64 * 24 → ∀ (f i : Nat) (s : Int64), i ≤ 24 * n → 24 * n < i + f → s = s0 + sml (fun k => absL ((μ (11, t, c) (rwi L 0 + k)).toInt64 * (2 * (nI n).toInt64 * 24) - (μ (9, t, 0) c).toInt64)) i → (∀ s', s' = s0 + unevS (μ (11, t, c)) n (μ (9, t, 0) c).toInt64 L → Z K 2 "DyeTank$Tank" prog_4_method_23_code 11 91 [zR (5, t, 0), zI (nI c), zL (μ (9, t, 0) c).toInt64, zN, zL cs, zN, zL s', zN, zI lv, zI (nI (rwi L 0)), zI (nI (rwi L 0 + 24 * n))] [] μ) → Z K 2 "DyeTank$Tank" prog_4_method_23_code 11 47 [zR (5, t, 0), zI (nI c), zL (μ (9, t, 0) c).toInt64, zN, zL cs, zN, zL s, zN, zI lv, zI (nI (rwi L 0)), zI (nI (rwi L 0 + i))] [] μ := by
    intro L lv hlv hL cs s0 hcs
    have hrw : rwi L 0 + 288 ≤ 576 := by unfold rwi; omega
    intro f
    induction f with
    | zero => intro i s h1 h2 h3 h4; exact absurd ‹_ < _ + 0› (by omega)
    | succ f ih =>
      intro i s h1 h2 hs hend
      refine z_iload dX2_unevenness_47 rfl ?_
      refine z_iload dX2_unevenness_49 rfl ?_
      refine z_aload_n dX2_unevenness_51 rfl rfl ?_
      refine zg_X2_rings dX2_unevenness_52 tw_71 ?_
      refine z_top (hn) ?_
      refine z_bipush (v := 24) dX2_unevenness_55 (by decide) ?_
      refine z_imul dX2_unevenness_57 ?_
      refine z_top ((show nI n * nI 24 = nI (24 * n) by rw [pk_mul, Nat.mul_comm])) ?_
      refine z_iadd dX2_unevenness_58 ?_
      refine z_top ((nI_add _ _)) ?_
      refine z_icmp_ge (tgt := 91) dX2_unevenness_59 (by decide) (fun hb => ?_) (fun hb => ?_)
      · have hb := nle hb
        have e : i = 24 * n := by omega
        subst e
        exact hend s hs
      · have hb := nnle hb
        refine z_lload dX2_unevenness_62 rfl ?_
        refine z_aload_n dX2_unevenness_64 rfl rfl ?_
        refine zg_X2_dyes dX2_unevenness_65 tw_85 ?_
        refine z_iload_n dX2_unevenness_68 rfl rfl ?_
        refine z_ald10 dX2_unevenness_69 rfl hc ?_
        refine z_iload dX2_unevenness_70 rfl ?_
        refine z_iald dX2_unevenness_72 (fun _ _ => rfl) rfl (by omega) ?_
        refine z_i2l dX2_unevenness_73 ?_
        refine z_lload dX2_unevenness_74 rfl ?_
        refine z_lmul dX2_unevenness_76 ?_
        refine z_lload_n dX2_unevenness_77 rfl rfl ?_
        refine z_lsub dX2_unevenness_78 ?_
        refine z_mabsl dX2_unevenness_79 tw_373 ⟨by omega, Nat.le_of_ble_eq_true rfl⟩ ?_
        refine z_ladd dX2_unevenness_82 ?_
        refine z_lstS dX2_unevenness_83 (by decide) rfl ?_
        refine z_incS dX2_unevenness_85 rfl (inc1 _) (by decide) rfl ?_
        refine z_goto (tgt := 47) dX2_unevenness_88 (by decide) ?_
        refine ih (i + 1) _ (by omega) (by omega) ?_ hend
        rw [hs, sml, ← Int64.add_assoc, hcs]
        rfl
  refine z_ls (ls' := [zR (5, t, 0), zI (nI c), zN, zN, zN, zN, zN, zN, zN, zN, zN]) rfl ?_
  refine z_aload_n dX2_unevenness_0 rfl rfl ?_
  refine zg_X2_totals dX2_unevenness_1 tw_83 ?_
  refine z_iload_n dX2_unevenness_4 rfl rfl ?_
  refine z_iald dX2_unevenness_5 (fun _ _ => rfl) rfl hc ?_
  refine z_i2l dX2_unevenness_6 ?_
  refine z_lstS_n dX2_unevenness_7 rfl (by decide) rfl ?_
  refine z_ldc2 (v := 2) dX2_unevenness_8 tw_371 ?_
  refine z_aload_n dX2_unevenness_11 rfl rfl ?_
  refine zg_X2_rings dX2_unevenness_12 tw_71 ?_
  refine z_top (hn) ?_
  refine z_i2l dX2_unevenness_15 ?_
  refine z_lmul dX2_unevenness_16 ?_
  refine z_ldc2 (v := 24) dX2_unevenness_17 tw_372 ?_
  refine z_lmul dX2_unevenness_20 ?_
  generalize hcs : 2 * (nI n).toInt64 * 24 = cs
  refine z_lstS dX2_unevenness_21 (by decide) rfl ?_
  refine z_lconst (v := 0) dX2_unevenness_23 (by decide) ?_
  refine z_lstS dX2_unevenness_24 (by decide) rfl ?_
  refine z_iconst (v := 0) dX2_unevenness_26 (by decide) ?_
  refine z_istS dX2_unevenness_27 (by decide) rfl ?_
  refine z_iload dX2_unevenness_29 rfl ?_
  refine z_iconst (v := 1) dX2_unevenness_31 (by decide) ?_
  refine z_icmp_gt (tgt := 97) dX2_unevenness_32 (by decide) (fun h9 => absurd h9 ((show ¬ (1 : Int32) < 0 by decide))) (fun _ => ?_)
  refine z_iload dX2_unevenness_35 rfl ?_
  refine z_iconst (v := 0) dX2_unevenness_37 (by decide) ?_
  refine z_cSi (c_rowOf μ 0 0) q_X2_rowOf tw_254 dX2_unevenness_38 rfl rfl (by omega) (Nat.le_of_ble_eq_true rfl) ?_
  refine z_istS dX2_unevenness_41 (by decide) rfl ?_
  refine z_iload dX2_unevenness_43 rfl ?_
  refine z_istS dX2_unevenness_45 (by decide) rfl ?_
  refine inner 0 0 (by decide) (by decide) cs 0 hcs.symm (24 * n + 1) 0 0 (by omega) (by omega) (by rw [sml, Int64.add_zero]) (fun s1 hs1 => ?_)
  refine z_incS dX2_unevenness_91 rfl (show (0 : Int32) + Int32.ofInt 1 = 1 by decide) (by decide) rfl ?_
  refine z_goto (tgt := 29) dX2_unevenness_94 (by decide) ?_
  refine z_iload dX2_unevenness_29 rfl ?_
  refine z_iconst (v := 1) dX2_unevenness_31 (by decide) ?_
  refine z_icmp_gt (tgt := 97) dX2_unevenness_32 (by decide) (fun h9 => absurd h9 ((show ¬ (1 : Int32) < 1 by decide))) (fun _ => ?_)
  refine z_iload dX2_unevenness_35 rfl ?_
  refine z_iconst (v := 0) dX2_unevenness_37 (by decide) ?_
  refine z_cSi (c_rowOf μ 1 0) q_X2_rowOf tw_254 dX2_unevenness_38 rfl rfl (by omega) (Nat.le_of_ble_eq_true rfl) ?_
  refine z_istS dX2_unevenness_41 (by decide) rfl ?_
  refine z_iload dX2_unevenness_43 rfl ?_
  refine z_istS dX2_unevenness_45 (by decide) rfl ?_
  refine inner 1 1 (by decide) (by decide) cs s1 hcs.symm (24 * n + 1) 0 s1 (by omega) (by omega) (by rw [sml, Int64.add_zero]) (fun s2 hs2 => ?_)
  refine z_incS dX2_unevenness_91 rfl (show (1 : Int32) + Int32.ofInt 1 = 2 by decide) (by decide) rfl ?_
  refine z_goto (tgt := 29) dX2_unevenness_94 (by decide) ?_
  refine z_iload dX2_unevenness_29 rfl ?_
  refine z_iconst (v := 1) dX2_unevenness_31 (by decide) ?_
  refine z_icmp_gt (tgt := 97) dX2_unevenness_32 (by decide) (fun _ => ?_) (fun h9 => absurd ((show (1 : Int32) < 2 by decide)) h9)
  refine z_lload dX2_unevenness_97 rfl ?_
  refine z_lload dX2_unevenness_99 rfl ?_
  refine z_ldiv dX2_unevenness_101 (by rw [← hcs]; exact cells_ne (by omega) hn12) ?_
  refine z_lret hR dX2_unevenness_102 (⟨rfl, by rw [hs2, hs1, Int64.zero_add, unev, hcs]⟩)
end
section
/-! stores put together -/
theorem st_st (μ : zM) (a : zA) (f g : Nat → Int32) : st (st μ a f) a g = st μ a g := by
  funext b
  unfold st
  by_cases h : b = a
  · rw [if_pos h, if_pos h]
  · rw [if_neg h, if_neg h, if_neg h]
theorem st_upd (μ : zM) (a : zA) (f : Nat → Int32) (k : Nat) (x : Int32) : st (st μ a f) a (upd ((st μ a f) a) k x) = st μ a (upd f k x) := by rw [st_eq, st_st]
theorem st_self (μ : zM) (a : zA) : st μ a (μ a) = μ := by
  funext b
  unfold st
  by_cases h : b = a
  · rw [if_pos h, h]
  · rw [if_neg h]
def zoff (S : List zA) (μ μ' : zM) : Prop := ∀ b, b ∉ S → μ' b = μ b
theorem zoff.rf {S : List zA} {μ : zM} : zoff S μ μ := fun _ _ => rfl
theorem zoff.put {S : List zA} {μ μ' : zM} (h : zoff S μ μ') {a : zA} (ha : a ∈ S) (f : Nat → Int32) : zoff S μ (st μ' a f) := fun b hb => by
  have hne : b ≠ a := by
    intro e
    rw [e] at hb
    exact hb ha
  rw [st_ne μ' f hne]
  exact h b hb
theorem zoff.at {S : List zA} {μ μ' : zM} (h : zoff S μ μ') (b : zA) (hb : b ∉ S := by simp) : μ' b = μ b := h b hb
theorem z_gen {K : zK} {d nL pc : Nat} {own : String} {cc : ByteArray} {ls sk : List zV} {μ : zM} (P : zM → Prop) (h : P μ) (k : ∀ μ', P μ' → Z K d own cc nL pc ls sk μ') : Z K d own cc nL pc ls sk μ := k μ h
theorem zoff.tr {S S' : List zA} {μ μ' μ'' : zM} (h : zoff S μ μ') (h' : zoff S' μ' μ'') (hs : ∀ a ∈ S', a ∈ S) : zoff S μ μ'' := fun b hb => (h' b (fun q => hb (hs b q))).trans (h b hb)
theorem zoff.sub {S S' : List zA} {μ μ' : zM} (h : zoff S μ μ') (hs : ∀ a ∈ S, a ∈ S') : zoff S' μ μ' := fun b hb => h b (fun q => hb (hs b q))
theorem pre_upd {f g : Nat → Int32} {i : Nat} {v : Int32} (hv : v = f i) : upd (fun j => if j < i then f j else g j) i v = fun j => if j < i + 1 then f j else g j := by
  funext j
  unfold upd
  by_cases h : j = i
  · subst h
    rw [if_pos rfl, if_pos (by omega), hv]
  · rw [if_neg h]
    show (if j < i then f j else g j) = _
    by_cases h8 : j < i
    · rw [if_pos h8, if_pos (by omega)]
    · rw [if_neg h8, if_neg (by omega)]
theorem pre_0 {f g : Nat → Int32} : (fun j => if j < 0 then f j else g j) = g := by
  funext j
  exact if_neg (by omega)
theorem pre_at {f g : Nat → Int32} {i : Nat} : (fun j => if j < i then f j else g j) i = g i := if_neg (by omega)
theorem pre_up {f : Nat → Int32} {A : Nat → Int32} {i : Nat} {v : Int32} (hv : v = f i) (h : ∀ j, j < i → A j = f j) : ∀ j, j < i + 1 → upd A i v j = f j := by
  intro j hj
  unfold upd
  by_cases e : j = i
  · rw [if_pos e, e, hv]
  · rw [if_neg e]
    exact h j (by omega)
theorem c_fill (μ : zM) (a : zA) (n : Nat) (hv : a ∈ zcells) (he : ∀ G f, zent G a f = zarI G n f) (hn : n < 5000) (v : Int32) : zCv yJ7_fill_53178 prog_9_method_103_code 4 (none : Option Jvm.ClassFile.FieldType) 1 [zR a, zI v] μ (fun μ' => μ' = st μ a (fun k => if k < n then v else μ a k)) := by
  refine zCt.of "java/util/Arrays" rfl (by decide +kernel) rfl (Nat.le_of_ble_eq_true rfl) (fun K hR => ?_)
  have loop : ∀ (f i : Nat), i ≤ n → n < i + f → Z K 1 "java/util/Arrays" prog_9_method_103_code 4 5 [zR a, zI v, zI (nI i), zI (nI n)] [] (st μ a (fun k => if k < i then v else μ a k)) := by
    intro f
    induction f with
    | zero => intro i h1 h2; exact absurd ‹_ < _ + 0› (by omega)
    | succ f ih =>
      intro i h1 h2
      refine z_iload_n dJ7_fill_53178_5 rfl rfl ?_
      refine z_iload_n dJ7_fill_53178_6 rfl rfl ?_
      refine z_icmp_ge (tgt := 20) dJ7_fill_53178_7 (by decide) (fun hb => ?_) (fun hb => ?_)
      · have hb := nle hb
        have e : i = n := by omega
        subst e
        refine z_vret hR dJ7_fill_53178_20 (⟨rfl, rfl⟩)
      · have hb := nnle hb
        refine z_aload_n dJ7_fill_53178_10 rfl rfl ?_
        refine z_iload_n dJ7_fill_53178_11 rfl rfl ?_
        refine z_iload_n dJ7_fill_53178_12 rfl rfl ?_
        refine z_iast dJ7_fill_53178_13 he rfl hb ?_ hv hn
        refine z_incS dJ7_fill_53178_14 rfl (inc1 _) (by decide) rfl ?_
        refine z_goto (tgt := 5) dJ7_fill_53178_17 (by decide) ?_
        refine z_mu ?_ (ih (i + 1) (by omega) (by omega))
        rw [st_upd]
        congr 1
        funext k
        unfold upd
        by_cases h : k = i
        · subst h
          rw [if_pos rfl, if_pos (by omega)]
        · rw [if_neg h]
          show (if k < i then v else μ a k) = _
          by_cases h3 : k < i
          · rw [if_pos h3, if_pos (by omega)]
          · rw [if_neg h3, if_neg (by omega)]
  refine z_ls (ls' := [zR a, zI v, zN, zN]) rfl ?_
  refine z_iconst (v := 0) dJ7_fill_53178_0 (by decide) ?_
  refine z_istS_n dJ7_fill_53178_1 rfl (by decide) rfl ?_
  refine z_aload_n dJ7_fill_53178_2 rfl rfl ?_
  refine z_alen dJ7_fill_53178_3 he ?_ hv
  refine z_istS_n dJ7_fill_53178_4 rfl (by decide) rfl ?_
  refine z_mu ?_ (loop (n + 1) 0 (by omega) (by omega))
  have e : (fun k => if k < 0 then v else μ a k) = μ a := by funext k; exact if_neg (by omega)
  rw [e, st_self]
/-! markers -/
theorem c_ringNow (μ : zM) (t i : Nat) (ht : t < 4) (hi : i < 6) : zCi yX0_ringNow prog_2_method_4_code 1 (some .int) 1 [zR (13, t, i)] μ (μ (13, t, i) 0 / 1000) := by
  refine zCt.of "DyeTank$Marker" rfl (by decide +kernel) rfl (Nat.le_of_ble_eq_true rfl) (fun K hR => ?_)
  have v13 := zv_13 t ht i hi
  refine z_ls (ls' := [zR (13, t, i)]) rfl ?_
  refine z_aload_n dX0_ringNow_0 rfl rfl ?_
  refine zg_X0_place dX0_ringNow_1 tw_32 ?_
  refine z_sipush (v := 1000) dX0_ringNow_4 (by decide) ?_
  refine z_idiv dX0_ringNow_7 (by decide) ?_
  refine z_iret hR dX0_ringNow_8 (⟨rfl, rfl⟩)
theorem c_putIn (μ : zM) (t i : Nat) (ht : t < 4) (hi : i < 6) (p a : Int32) : zCv yX0_putIn prog_2_method_2_code 3 (none : Option Jvm.ClassFile.FieldType) 1 [zR (13, t, i), zI p, zI a] μ (fun μ' => ∃ f, μ' = st μ (13, t, i) f ∧ f 0 = p ∧ f 1 = a ∧ f 2 = 0 ∧ f 3 = 0 ∧ f 4 = 0) := by
  refine zCt.of "DyeTank$Marker" rfl (by decide +kernel) rfl (Nat.le_of_ble_eq_true rfl) (fun K hR => ?_)
  have v13 := zv_13 t ht i hi
  refine z_ls (ls' := [zR (13, t, i), zI p, zI a]) rfl ?_
  refine z_aload_n dX0_putIn_0 rfl rfl ?_
  refine z_iload_n dX0_putIn_1 rfl rfl ?_
  refine zp_X0_place dX0_putIn_2 tw_32 ?_
  refine z_aload_n dX0_putIn_5 rfl rfl ?_
  refine z_iload_n dX0_putIn_6 rfl rfl ?_
  refine zp_X0_angle dX0_putIn_7 tw_34 ?_
  refine z_mu (st_upd _ _ _ _ _) ?_
  refine z_aload_n dX0_putIn_10 rfl rfl ?_
  refine z_iconst (v := 0) dX0_putIn_11 (by decide) ?_
  refine zp_X0_kept dX0_putIn_12 tw_36 ?_
  refine z_mu (st_upd _ _ _ _ _) ?_
  refine z_aload_n dX0_putIn_15 rfl rfl ?_
  refine z_iconst (v := 0) dX0_putIn_16 (by decide) ?_
  refine zp_X0_crossings dX0_putIn_17 tw_38 ?_
  refine z_mu (st_upd _ _ _ _ _) ?_
  refine z_aload_n dX0_putIn_20 rfl rfl ?_
  refine z_iconst (v := 0) dX0_putIn_21 (by decide) ?_
  refine zp_X0_next dX0_putIn_22 tw_40 ?_
  refine z_mu (st_upd _ _ _ _ _) ?_
  refine z_vret hR dX0_putIn_25 (⟨rfl, _, rfl, rfl, rfl, rfl, rfl, rfl⟩)
def nxt (x : Int32) : Int32 := if x < 49 then x + 1 else 0
def kp (x : Int32) : Int32 := if x + 1 < 50 then x + 1 else 50
theorem c_keepPosition (μ : zM) (t i k : Nat) (ht : t < 4) (hi : i < 6) (hk : k < 50) (hx : μ (13, t, i) 4 = nI k) : zCv yX0_keepPosition prog_2_method_6_code 1 (none : Option Jvm.ClassFile.FieldType) 1 [zR (13, t, i)] μ (fun μ' => zoff [(13, t, i), (14, t, i), (15, t, i)] μ μ' ∧ μ' (13, t, i) = upd (upd (μ (13, t, i)) 4 (nxt (nI k))) 2 (kp (μ (13, t, i) 2)) ∧ μ' (14, t, i) = upd (μ (14, t, i)) k (μ (13, t, i) 0) ∧ μ' (15, t, i) = upd (μ (15, t, i)) k (μ (13, t, i) 1)) := by
  refine zCt.of "DyeTank$Marker" rfl (by decide +kernel) rfl (Nat.le_of_ble_eq_true rfl) (fun K hR => ?_)
  have v13 := zv_13 t ht i hi
  have v14 := zv_14 t ht i hi
  have v15 := zv_15 t ht i hi
  refine z_ls (ls' := [zR (13, t, i)]) rfl ?_
  refine z_aload_n dX0_keepPosition_0 rfl rfl ?_
  refine zg_X0_places dX0_keepPosition_1 tw_41 ?_
  refine z_aload_n dX0_keepPosition_4 rfl rfl ?_
  refine zg_X0_next dX0_keepPosition_5 tw_40 ?_
  refine z_top (hx) ?_
  refine z_aload_n dX0_keepPosition_8 rfl rfl ?_
  refine zg_X0_place dX0_keepPosition_9 tw_32 ?_
  refine z_iast dX0_keepPosition_12 (fun _ _ => rfl) rfl hk ?_
  refine z_aload_n dX0_keepPosition_13 rfl rfl ?_
  refine zg_X0_angles dX0_keepPosition_14 tw_42 ?_
  refine z_aload_n dX0_keepPosition_17 rfl rfl ?_
  refine zg_X0_next dX0_keepPosition_18 tw_40 ?_
  refine z_top ((show _ = nI k by simp [st, hx])) ?_
  refine z_aload_n dX0_keepPosition_21 rfl rfl ?_
  refine zg_X0_angle dX0_keepPosition_22 tw_34 ?_
  refine z_iast dX0_keepPosition_25 (fun _ _ => rfl) rfl hk ?_
  refine z_gen (fun μ' => zoff [(14, t, i), (15, t, i)] μ μ' ∧ μ' (14, t, i) = upd (μ (14, t, i)) k (μ (13, t, i) 0) ∧ μ' (15, t, i) = upd (μ (15, t, i)) k (μ (13, t, i) 1)) ⟨(zoff.rf.put (by simp) _).put (by simp) _, by simp [st], by simp [st]⟩ (fun μ2 hh => ?_)
  obtain ⟨ho, h14, h15⟩ := hh
  have h13 := ho.at (13, t, i)
  have fin : ∀ v, v = nxt (nI k) → Z K 1 "DyeTank$Marker" prog_2_method_6_code 1 46 [zR (13, t, i)] [zI v, zR (13, t, i)] μ2 := by
    intro v hv
    refine zp_X0_next dX0_keepPosition_46 tw_40 ?_
    refine z_aload_n dX0_keepPosition_49 rfl rfl ?_
    refine z_bipush (v := 50) dX0_keepPosition_50 (by decide) ?_
    refine z_aload_n dX0_keepPosition_52 rfl rfl ?_
    refine zg_X0_kept dX0_keepPosition_53 tw_36 ?_
    refine z_top ((show _ = μ (13, t, i) 2 by simp [st, upd, h13])) ?_
    refine z_iconst (v := 1) dX0_keepPosition_56 (by decide) ?_
    refine z_iadd dX0_keepPosition_57 ?_
    refine z_mmin dX0_keepPosition_58 tw_321 ⟨by omega, Nat.le_of_ble_eq_true rfl⟩ ?_
    refine zp_X0_kept dX0_keepPosition_61 tw_36 ?_
    refine z_vret hR dX0_keepPosition_64 (⟨rfl, ((ho.sub (by simp)).put (by simp) _).put (by simp) _, by rw [hv, ← h13]; simp [st, kp], by simp [st, h14], by simp [st, h15]⟩)
  have h134 : μ2 (13, t, i) 4 = nI k := by rw [h13]; exact hx
  refine z_aload_n dX0_keepPosition_26 rfl rfl ?_
  refine z_aload_n dX0_keepPosition_27 rfl rfl ?_
  refine zg_X0_next dX0_keepPosition_28 tw_40 ?_
  refine z_top (h134) ?_
  refine z_bipush (v := 49) dX0_keepPosition_31 (by decide) ?_
  refine z_icmp_ge (tgt := 45) dX0_keepPosition_33 (by decide) (fun hb => ?_) (fun hb => ?_)
  · refine z_iconst (v := 0) dX0_keepPosition_45 (by decide) ?_
    exact fin 0 (by unfold nxt; rw [if_neg (by rw [Int32.not_lt]; exact hb)])
  · refine z_aload_n dX0_keepPosition_36 rfl rfl ?_
    refine zg_X0_next dX0_keepPosition_37 tw_40 ?_
    refine z_top (h134) ?_
    refine z_iconst (v := 1) dX0_keepPosition_40 (by decide) ?_
    refine z_iadd dX0_keepPosition_41 ?_
    refine z_goto (tgt := 46) dX0_keepPosition_42 (by decide) ?_
    exact fin _ (by unfold nxt; rw [if_pos (Int32.not_le.mp hb)])
/-- a step of a marker: its ring's velocity and push -/
def mvp (last p x : Int32) : Int32 := if 0 < (if p + x < last then p + x else last) then (if p + x < last then p + x else last) else 0
theorem c_move (μ : zM) (t i k : Nat) (ht : t < 4) (hi : i < 6) (hk : k < 50) (hx : μ (13, t, i) 4 = nI k) (v x last : Int32) : zCv yX0_move prog_2_method_5_code 5 (none : Option Jvm.ClassFile.FieldType) 2 [zR (13, t, i), zI v, zI x, zI last] μ (fun μ' => zoff [(13, t, i), (14, t, i), (15, t, i)] μ μ' ∧ μ' (13, t, i) 0 = mvp last (μ (13, t, i) 0) x ∧ μ' (13, t, i) 1 = fmd (μ (13, t, i) 1 + v) 3600 ∧ μ' (13, t, i) 2 = kp (μ (13, t, i) 2) ∧ μ' (13, t, i) 3 = (if mvp last (μ (13, t, i) 0) x / 1000 = μ (13, t, i) 0 / 1000 then μ (13, t, i) 3 else μ (13, t, i) 3 + 1) ∧ μ' (13, t, i) 4 = nxt (nI k) ∧ μ' (14, t, i) = upd (μ (14, t, i)) k (mvp last (μ (13, t, i) 0) x) ∧ μ' (15, t, i) = upd (μ (15, t, i)) k (fmd (μ (13, t, i) 1 + v) 3600)) := by
  refine zCt.of "DyeTank$Marker" rfl (by decide +kernel) rfl (Nat.le_of_ble_eq_true rfl) (fun K hR => ?_)
  have v13 := zv_13 t ht i hi
  have v14 := zv_14 t ht i hi
  have v15 := zv_15 t ht i hi
  refine z_ls (ls' := [zR (13, t, i), zI v, zI x, zI last, zN]) rfl ?_
  refine z_aload_n dX0_move_0 rfl rfl ?_
  refine z_cVi (c_ringNow μ t i ht hi) q_X0_ringNow tw_319 dX0_move_1 rfl rfl rfl (by omega) (Nat.le_of_ble_eq_true rfl) ?_
  refine z_istS dX0_move_4 (by decide) rfl ?_
  refine z_aload_n dX0_move_6 rfl rfl ?_
  refine z_aload_n dX0_move_7 rfl rfl ?_
  refine zg_X0_angle dX0_move_8 tw_34 ?_
  refine z_iload_n dX0_move_11 rfl rfl ?_
  refine z_iadd dX0_move_12 ?_
  refine z_sipush (v := 3600) dX0_move_13 (by decide) ?_
  refine z_cSi (c_floorMod μ _ _ (by decide)) q_J9_floorMod_7cf53 tw_320 dX0_move_16 rfl rfl (by omega) (Nat.le_of_ble_eq_true rfl) ?_
  refine zp_X0_angle dX0_move_19 tw_34 ?_
  refine z_aload_n dX0_move_22 rfl rfl ?_
  refine z_iconst (v := 0) dX0_move_23 (by decide) ?_
  refine z_iload_n dX0_move_24 rfl rfl ?_
  refine z_aload_n dX0_move_25 rfl rfl ?_
  refine zg_X0_place dX0_move_26 tw_32 ?_
  refine z_top ((show _ = μ (13, t, i) 0 by simp [st, upd])) ?_
  refine z_iload_n dX0_move_29 rfl rfl ?_
  refine z_iadd dX0_move_30 ?_
  refine z_mmin dX0_move_31 tw_321 ⟨by omega, Nat.le_of_ble_eq_true rfl⟩ ?_
  refine z_mmax dX0_move_34 tw_322 ⟨by omega, Nat.le_of_ble_eq_true rfl⟩ ?_
  refine zp_X0_place dX0_move_37 tw_32 ?_
  refine z_gen (fun μ' => ∃ g, μ' = st μ (13, t, i) g ∧ g 0 = mvp last (μ (13, t, i) 0) x ∧ g 1 = fmd (μ (13, t, i) 1 + v) 3600 ∧ g 2 = μ (13, t, i) 2 ∧ g 3 = μ (13, t, i) 3 ∧ g 4 = nI k) ⟨_, st_upd _ _ _ _ _, rfl, rfl, rfl, rfl, hx⟩ (fun μ1 hh => ?_)
  obtain ⟨g, rfl, g0, g1, g2, g3, g4⟩ := hh
  have fin : ∀ g', g' 0 = g 0 → g' 1 = g 1 → g' 2 = g 2 → g' 4 = g 4 → g' 3 = (if mvp last (μ (13, t, i) 0) x / 1000 = μ (13, t, i) 0 / 1000 then μ (13, t, i) 3 else μ (13, t, i) 3 + 1) → Z K 2 "DyeTank$Marker" prog_2_method_5_code 5 59 [zR (13, t, i), zI v, zI x, zI last, zI (μ (13, t, i) 0 / 1000)] [] (st μ (13, t, i) g') := by
    intro g' e0 e1 e2 e4 e3
    refine z_aload_n dX0_move_59 rfl rfl ?_
    refine z_cVv (c_keepPosition (st μ (13, t, i) g') t i k ht hi hk (by rw [st_eq, e4, g4])) q_X0_keepPosition tw_323 dX0_move_60 rfl rfl rfl (by omega) (Nat.le_of_ble_eq_true rfl) (fun μ2 hh => ?_)
    obtain ⟨ho, h13, h14, h15⟩ := hh
    have e14 : st μ (13, t, i) g' (14, t, i) = μ (14, t, i) := st_ne _ _ (by simp)
    have e15 : st μ (13, t, i) g' (15, t, i) = μ (15, t, i) := st_ne _ _ (by simp)
    rw [st_eq] at h13 h14 h15
    rw [e14] at h14
    rw [e15] at h15
    refine z_vret hR dX0_move_63 (⟨rfl, zoff.tr (zoff.rf.put (by simp) _) ho (by simp), by rw [h13]; simp [upd, e0, g0], by rw [h13]; simp [upd, e1, g1], by rw [h13]; simp [upd, e2, g2], by rw [h13]; simp [upd, e3], by rw [h13]; simp [upd], by rw [h14, e0, g0], by rw [h15, e1, g1]⟩)
  refine z_aload_n dX0_move_40 rfl rfl ?_
  refine z_cVi (c_ringNow _ t i ht hi) q_X0_ringNow tw_319 dX0_move_41 rfl rfl rfl (by omega) (Nat.le_of_ble_eq_true rfl) ?_
  refine z_top ((show _ = mvp last (μ (13, t, i) 0) x / 1000 by rw [st_eq, g0])) ?_
  refine z_iload dX0_move_44 rfl ?_
  refine z_icmp_eq (tgt := 59) dX0_move_46 (by decide) (fun hb => ?_) (fun hb => ?_)
  · exact fin g rfl rfl rfl rfl (by rw [g3, if_pos hb])
  · refine z_aload_n dX0_move_49 rfl rfl ?_
    refine z_dup dX0_move_50 rfl ?_
    refine zg_X0_crossings dX0_move_51 tw_38 ?_
    refine z_iconst (v := 1) dX0_move_54 (by decide) ?_
    refine z_iadd dX0_move_55 ?_
    refine zp_X0_crossings dX0_move_56 tw_38 ?_
    refine z_mu (st_upd _ _ _ _ _) ?_
    exact fin _ rfl rfl rfl rfl (by rw [if_neg hb]; show st μ (13, t, i) g (13, t, i) 3 + 1 = _; rw [st_eq, g3])
theorem c_isNear (μ : zM) (t i j : Nat) (ht : t < 4) (hi : i < 6) (hj : j < 6) (near : Int32) : zCi yX0_isNear prog_2_method_9_code 4 (some .boolean) 2 [zR (13, t, i), zR (13, t, j), zI near] μ (zb (μ (13, t, i) 0 / 1000 = μ (13, t, j) 0 / 1000 ∧ (if 3600 - absI (μ (13, t, i) 1 - μ (13, t, j) 1) < absI (μ (13, t, i) 1 - μ (13, t, j) 1) then 3600 - absI (μ (13, t, i) 1 - μ (13, t, j) 1) else absI (μ (13, t, i) 1 - μ (13, t, j) 1)) ≤ near)) := by
  refine zCt.of "DyeTank$Marker" rfl (by decide +kernel) rfl (Nat.le_of_ble_eq_true rfl) (fun K hR => ?_)
  have v13 := zv_13 t ht i hi
  have v13b := zv_13 t ht j hj
  refine z_ls (ls' := [zR (13, t, i), zR (13, t, j), zI near, zN]) rfl ?_
  refine z_aload_n dX0_isNear_0 rfl rfl ?_
  refine zg_X0_angle dX0_isNear_1 tw_34 ?_
  refine z_aload_n dX0_isNear_4 rfl rfl ?_
  refine zg_X0_angle dX0_isNear_5 tw_34 ?_
  refine z_isub dX0_isNear_8 ?_
  refine z_mabs dX0_isNear_9 tw_447 ⟨by omega, Nat.le_of_ble_eq_true rfl⟩ ?_
  refine z_istS_n dX0_isNear_12 rfl (by decide) rfl ?_
  refine z_aload_n dX0_isNear_13 rfl rfl ?_
  refine z_cVi (c_ringNow _ t i ht hi) q_X0_ringNow tw_319 dX0_isNear_14 rfl rfl rfl (by omega) (Nat.le_of_ble_eq_true rfl) ?_
  refine z_aload_n dX0_isNear_17 rfl rfl ?_
  refine z_cVi (c_ringNow _ t j ht hj) q_X0_ringNow tw_319 dX0_isNear_18 rfl rfl rfl (by omega) (Nat.le_of_ble_eq_true rfl) ?_
  refine z_icmp_ne (tgt := 41) dX0_isNear_21 (by decide) (fun h1 => ?_) (fun h1 => ?_)
  · refine z_iconst (v := 0) dX0_isNear_41 (by decide) ?_
    refine z_bret hR dX0_isNear_42 (Or.inl rfl) ⟨rfl, by rw [zb_f (fun q => h1 q.1)]⟩
  · refine z_iload_n dX0_isNear_24 rfl rfl ?_
    refine z_sipush (v := 3600) dX0_isNear_25 (by decide) ?_
    refine z_iload_n dX0_isNear_28 rfl rfl ?_
    refine z_isub dX0_isNear_29 ?_
    refine z_mmin dX0_isNear_30 tw_321 ⟨by omega, Nat.le_of_ble_eq_true rfl⟩ ?_
    refine z_iload_n dX0_isNear_33 rfl rfl ?_
    refine z_icmp_gt (tgt := 41) dX0_isNear_34 (by decide) (fun h2 => ?_) (fun h2 => ?_)
    · refine z_iconst (v := 0) dX0_isNear_41 (by decide) ?_
      refine z_bret hR dX0_isNear_42 (Or.inl rfl) ⟨rfl, by rw [zb_f (fun q => absurd q.2 (Int32.not_le.mpr h2))]⟩
    · refine z_iconst (v := 1) dX0_isNear_37 (by decide) ?_
      refine z_goto (tgt := 42) dX0_isNear_38 (by decide) ?_
      refine z_bret hR dX0_isNear_42 (Or.inr rfl) ⟨rfl, by rw [zb_t ⟨h1, Int32.not_lt.mp h2⟩]⟩
end
section
/-! steps 1 and 2 of a tick: what becomes of momenta and angles -/
def mv (S P : Nat → Int32) (j : Nat) : Int32 := S 0 * (vel P j - vel P (j + 1)) / 100
def inn (S P : Nat → Int32) (j : Nat) : Int32 := if j = 0 then 0 else mv S P (j - 1)
def out (S P : Nat → Int32) (n j : Nat) : Int32 := if j + 1 < n then mv S P j else 0
def wal (S P : Nat → Int32) (n j : Nat) : Int32 := if j + 1 = n then S 1 * (S 2 - vel P j) / 100 else 0
def fri (S P : Nat → Int32) (j : Nat) : Int32 := S 3 * (S 4 - vel P j) * nI (2 * j + 1) / 1000
def mom (S P : Nat → Int32) (n j : Nat) : Int32 := if j < n then P j + inn S P j - out S P n j + wal S P n j + fri S P j else P j
def ang (S P A : Nat → Int32) (n j : Nat) : Int32 := if j < n then fmd (A j + vel (mom S P n) j) 3600 else A j
def momB (S P : Nat → Int32) (i j : Nat) : Int32 := if j < i then P j + inn S P j - mv S P j else if j = i then P j + inn S P j else P j
def momC (S P : Nat → Int32) (n j : Nat) : Int32 := momB S P (n - 1) j + wal S P n j
theorem momB_0 (S P : Nat → Int32) : momB S P 0 = P := by
  funext j
  unfold momB inn
  rw [if_neg (by omega)]
  by_cases h : j = 0
  · rw [if_pos h, if_pos h, Int32.add_zero]
  · rw [if_neg h]
theorem momB_s (S P : Nat → Int32) (i : Nat) : upd (upd (momB S P i) i (momB S P i i - mv S P i)) (i + 1) (upd (momB S P i) i (momB S P i i - mv S P i) (i + 1) + mv S P i) = momB S P (i + 1) := by
  funext j
  unfold upd
  by_cases h1 : j = i + 1
  · subst h1
    rw [if_pos rfl, if_neg (by omega)]
    unfold momB inn
    rw [if_neg (by omega), if_neg (by omega), if_neg (by omega), if_pos rfl, if_neg (by omega), Nat.add_sub_cancel]
  · rw [if_neg h1]
    by_cases h2 : j = i
    · subst h2
      rw [if_pos rfl]
      unfold momB
      rw [if_neg (by omega), if_pos rfl, if_pos (by omega)]
    · rw [if_neg h2]
      unfold momB
      by_cases h3 : j < i
      · rw [if_pos h3, if_pos (by omega)]
      · rw [if_neg h3, if_neg h2, if_neg (by omega), if_neg h1]
theorem mom_eq (S P : Nat → Int32) {n : Nat} (hn : 2 ≤ n) : (fun j => if j < n then momC S P n j + fri S P j else momC S P n j) = mom S P n := by
  funext j
  unfold mom momC momB out wal
  by_cases h : j < n
  · rw [if_pos h, if_pos h]
    by_cases h1 : j + 1 < n
    · rw [if_pos (show j < n - 1 by omega), if_pos h1]
    · rw [if_neg (show ¬ j < n - 1 by omega), if_pos (show j = n - 1 by omega), if_neg h1, Int32.sub_zero]
  · rw [if_neg h, if_neg h, if_neg (show ¬ j < n - 1 by omega), if_neg (show ¬ j = n - 1 by omega), if_neg (show ¬ j + 1 = n by omega), Int32.add_zero]
theorem c_changeMomenta (μ : zM) (t n : Nat) (ht : t < 4) (hn : μ (5, t, 0) 0 = nI n) (hn2 : 2 ≤ n) (hn12 : n ≤ 12) : zCv yX2_changeMomenta prog_4_method_26_code 4 (none : Option Jvm.ClassFile.FieldType) 3 [zR (5, t, 0)] μ (fun μ' => zoff [(7, t, 0), (16, t, 0)] μ μ' ∧ μ' (7, t, 0) = mom (μ (6, t, 0)) (μ (7, t, 0)) n) := by
  refine zCt.of "DyeTank$Tank" rfl (by decide +kernel) rfl (Nat.le_of_ble_eq_true rfl) (fun K hR => ?_)
  have v5 := zv_5 t ht
  have v6 := zv_6 t ht
  have v7 := zv_7 t ht
  have v8 := zv_8 t ht
  have v9 := zv_9 t ht
  have v10 := zv_10 t ht
  have v12 := zv_12 t ht
  have v16 := zv_16 t ht
  have v17 := zv_17 t ht
  have v18 := zv_18 t ht
  have fin : ∀ (x3 : zV) (lst : Int32) (f i : Nat) (μ' : zM), i ≤ n → n < i + f → zoff [(7, t, 0), (16, t, 0)] μ μ' → (∀ j, j < n → μ' (16, t, 0) j = vel (μ (7, t, 0)) j) → μ' (7, t, 0) = (fun j => if j < i then momC (μ (6, t, 0)) (μ (7, t, 0)) n j + fri (μ (6, t, 0)) (μ (7, t, 0)) j else momC (μ (6, t, 0)) (μ (7, t, 0)) n j) → Z K 3 "DyeTank$Tank" prog_4_method_26_code 4 129 [zR (5, t, 0), zI lst, zI (nI i), x3] [] μ' := by
    intro x3 lst
    intro f
    induction f with
    | zero => intro i μ' h1 h2 h3 h4 h5; exact absurd ‹_ < _ + 0› (by omega)
    | succ f ih =>
      intro i μ' h1 h2 ho hV h7
      have h6 := ho.at (6, t, 0)
      have hr := ho.at (5, t, 0)
      refine z_iload_n dX2_changeMomenta_129 rfl rfl ?_
      refine z_aload_n dX2_changeMomenta_130 rfl rfl ?_
      refine zg_X2_rings dX2_changeMomenta_131 tw_71 ?_
      refine z_top ((show _ = nI n by rw [hr]; exact hn)) ?_
      refine z_icmp_ge (tgt := 181) dX2_changeMomenta_134 (by decide) (fun hb => ?_) (fun hb => ?_)
      · have hb := nle hb
        have e : i = n := by omega
        subst e
        refine z_vret hR dX2_changeMomenta_181 (⟨rfl, ho, by rw [h7]; exact mom_eq _ _ hn2⟩)
      · have hb := nnle hb
        refine z_aload_n dX2_changeMomenta_137 rfl rfl ?_
        refine zg_X2_momenta dX2_changeMomenta_138 tw_79 ?_
        refine z_iload_n dX2_changeMomenta_141 rfl rfl ?_
        refine z_dup2 dX2_changeMomenta_142 rfl rfl ?_
        refine z_iald dX2_changeMomenta_143 (fun _ _ => rfl) rfl (by omega) ?_
        refine z_aload_n dX2_changeMomenta_144 rfl rfl ?_
        refine zg_X2_settings dX2_changeMomenta_145 tw_77 ?_
        refine z_iconst (v := 3) dX2_changeMomenta_148 (by decide) ?_
        refine z_iald dX2_changeMomenta_149 (fun _ _ => rfl) rfl (i := 3) (by decide) ?_
        refine z_aload_n dX2_changeMomenta_150 rfl rfl ?_
        refine zg_X2_settings dX2_changeMomenta_151 tw_77 ?_
        refine z_iconst (v := 4) dX2_changeMomenta_154 (by decide) ?_
        refine z_iald dX2_changeMomenta_155 (fun _ _ => rfl) rfl (i := 4) (by decide) ?_
        refine z_aload_n dX2_changeMomenta_156 rfl rfl ?_
        refine zg_X2_speeds dX2_changeMomenta_157 tw_89 ?_
        refine z_iload_n dX2_changeMomenta_160 rfl rfl ?_
        refine z_iald dX2_changeMomenta_161 (fun _ _ => rfl) rfl (by omega) ?_
        refine z_isub dX2_changeMomenta_162 ?_
        refine z_imul dX2_changeMomenta_163 ?_
        refine z_iload_n dX2_changeMomenta_164 rfl rfl ?_
        refine z_cSi (c_weightOf _ i) q_X2_weightOf tw_211 dX2_changeMomenta_165 rfl rfl (by omega) (Nat.le_of_ble_eq_true rfl) ?_
        refine z_imul dX2_changeMomenta_168 ?_
        refine z_sipush (v := 1000) dX2_changeMomenta_169 (by decide) ?_
        have h7i : μ' (7, t, 0) i = momC (μ (6, t, 0)) (μ (7, t, 0)) n i := by rw [h7]; exact if_neg (by omega)
        refine z_idiv dX2_changeMomenta_172 (by decide) ?_
        refine z_iadd dX2_changeMomenta_173 ?_
        refine z_top ((show _ = momC (μ (6, t, 0)) (μ (7, t, 0)) n i + fri (μ (6, t, 0)) (μ (7, t, 0)) i by rw [h7i, h6, hV i hb]; rfl)) ?_
        refine z_iast dX2_changeMomenta_174 (fun _ _ => rfl) rfl (by omega) ?_
        refine z_incS dX2_changeMomenta_175 rfl (inc1 _) (by decide) rfl ?_
        refine z_goto (tgt := 129) dX2_changeMomenta_178 (by decide) ?_
        refine ih (i + 1) _ (by omega) (by omega) (ho.put (by simp) _) (by simpa [st] using hV) ?_
        rw [st_eq, h7]
        exact pre_upd rfl
  have mid : ∀ (f i : Nat) (x3 : zV) (μ' : zM), i ≤ n - 1 → n - 1 < i + f → zoff [(7, t, 0), (16, t, 0)] μ μ' → (∀ j, j < n → μ' (16, t, 0) j = vel (μ (7, t, 0)) j) → μ' (7, t, 0) = momB (μ (6, t, 0)) (μ (7, t, 0)) i → Z K 3 "DyeTank$Tank" prog_4_method_26_code 4 36 [zR (5, t, 0), zI (nI (n - 1)), zI (nI i), x3] [] μ' := by
    intro f
    induction f with
    | zero => intro i x3 μ' h1 h2 h3 h4 h5; exact absurd ‹_ < _ + 0› (by omega)
    | succ f ih =>
      intro i x3 μ' h1 h2 ho hV h7
      have h6 := ho.at (6, t, 0)
      refine z_iload_n dX2_changeMomenta_36 rfl rfl ?_
      refine z_iload_n dX2_changeMomenta_37 rfl rfl ?_
      refine z_icmp_ge (tgt := 95) dX2_changeMomenta_38 (by decide) (fun hb => ?_) (fun hb => ?_)
      · have hb := nle hb
        have e : i = n - 1 := by omega
        refine z_aload_n dX2_changeMomenta_95 rfl rfl ?_
        refine zg_X2_momenta dX2_changeMomenta_96 tw_79 ?_
        refine z_iload_n dX2_changeMomenta_99 rfl rfl ?_
        refine z_dup2 dX2_changeMomenta_100 rfl rfl ?_
        refine z_iald dX2_changeMomenta_101 (fun _ _ => rfl) rfl (show n - 1 < 12 by omega) ?_
        refine z_aload_n dX2_changeMomenta_102 rfl rfl ?_
        refine zg_X2_settings dX2_changeMomenta_103 tw_77 ?_
        refine z_iconst (v := 1) dX2_changeMomenta_106 (by decide) ?_
        refine z_iald dX2_changeMomenta_107 (fun _ _ => rfl) rfl (i := 1) (by decide) ?_
        refine z_aload_n dX2_changeMomenta_108 rfl rfl ?_
        refine zg_X2_settings dX2_changeMomenta_109 tw_77 ?_
        refine z_iconst (v := 2) dX2_changeMomenta_112 (by decide) ?_
        refine z_iald dX2_changeMomenta_113 (fun _ _ => rfl) rfl (i := 2) (by decide) ?_
        refine z_aload_n dX2_changeMomenta_114 rfl rfl ?_
        refine zg_X2_speeds dX2_changeMomenta_115 tw_89 ?_
        refine z_iload_n dX2_changeMomenta_118 rfl rfl ?_
        refine z_iald dX2_changeMomenta_119 (fun _ _ => rfl) rfl (show n - 1 < 12 by omega) ?_
        refine z_isub dX2_changeMomenta_120 ?_
        refine z_imul dX2_changeMomenta_121 ?_
        refine z_bipush (v := 100) dX2_changeMomenta_122 (by decide) ?_
        refine z_idiv dX2_changeMomenta_124 (by decide) ?_
        refine z_iadd dX2_changeMomenta_125 ?_
        refine z_top ((show _ = momC (μ (6, t, 0)) (μ (7, t, 0)) n (n - 1) by rw [h7, h6, hV (n - 1) (by omega), e]; unfold momC wal; rw [if_pos (by omega)])) ?_
        refine z_iast dX2_changeMomenta_126 (fun _ _ => rfl) rfl (show n - 1 < 12 by omega) ?_
        refine z_iconst (v := 0) dX2_changeMomenta_127 (by decide) ?_
        refine z_istS_n dX2_changeMomenta_128 rfl (by decide) rfl ?_
        refine fin x3 _ (n + 1) 0 _ (by omega) (by omega) (ho.put (by simp) _) (by simpa [st] using hV) ?_
        rw [st_eq, h7]
        funext j
        rw [if_neg (by omega)]
        unfold upd
        by_cases h : j = n - 1
        · subst h
          rw [if_pos rfl]
        · rw [if_neg h, e]
          unfold momC wal
          rw [if_neg (by omega), Int32.add_zero]
      · have hb := nnle hb
        refine z_aload_n dX2_changeMomenta_41 rfl rfl ?_
        refine zg_X2_settings dX2_changeMomenta_42 tw_77 ?_
        refine z_iconst (v := 0) dX2_changeMomenta_45 (by decide) ?_
        refine z_iald dX2_changeMomenta_46 (fun _ _ => rfl) rfl (i := 0) (by decide) ?_
        refine z_aload_n dX2_changeMomenta_47 rfl rfl ?_
        refine zg_X2_speeds dX2_changeMomenta_48 tw_89 ?_
        refine z_iload_n dX2_changeMomenta_51 rfl rfl ?_
        refine z_iald dX2_changeMomenta_52 (fun _ _ => rfl) rfl (by omega) ?_
        refine z_aload_n dX2_changeMomenta_53 rfl rfl ?_
        refine zg_X2_speeds dX2_changeMomenta_54 tw_89 ?_
        refine z_iload_n dX2_changeMomenta_57 rfl rfl ?_
        refine z_iconst (v := 1) dX2_changeMomenta_58 (by decide) ?_
        refine z_iadd dX2_changeMomenta_59 ?_
        refine z_top ((nI_1 i)) ?_
        refine z_iald dX2_changeMomenta_60 (fun _ _ => rfl) rfl (show i + 1 < 12 by omega) ?_
        refine z_isub dX2_changeMomenta_61 ?_
        refine z_imul dX2_changeMomenta_62 ?_
        refine z_bipush (v := 100) dX2_changeMomenta_63 (by decide) ?_
        refine z_idiv dX2_changeMomenta_65 (by decide) ?_
        refine z_top ((show _ = mv (μ (6, t, 0)) (μ (7, t, 0)) i by rw [h6, hV i (by omega), hV (i + 1) (by omega)]; rfl)) ?_
        refine z_istS_n dX2_changeMomenta_66 rfl (by decide) rfl ?_
        refine z_aload_n dX2_changeMomenta_67 rfl rfl ?_
        refine zg_X2_momenta dX2_changeMomenta_68 tw_79 ?_
        refine z_iload_n dX2_changeMomenta_71 rfl rfl ?_
        refine z_dup2 dX2_changeMomenta_72 rfl rfl ?_
        refine z_iald dX2_changeMomenta_73 (fun _ _ => rfl) rfl (by omega) ?_
        refine z_iload_n dX2_changeMomenta_74 rfl rfl ?_
        refine z_isub dX2_changeMomenta_75 ?_
        refine z_iast dX2_changeMomenta_76 (fun _ _ => rfl) rfl (by omega) ?_
        refine z_aload_n dX2_changeMomenta_77 rfl rfl ?_
        refine zg_X2_momenta dX2_changeMomenta_78 tw_79 ?_
        refine z_iload_n dX2_changeMomenta_81 rfl rfl ?_
        refine z_iconst (v := 1) dX2_changeMomenta_82 (by decide) ?_
        refine z_iadd dX2_changeMomenta_83 ?_
        refine z_top ((nI_1 i)) ?_
        refine z_dup2 dX2_changeMomenta_84 rfl rfl ?_
        refine z_iald dX2_changeMomenta_85 (fun _ _ => rfl) rfl (show i + 1 < 12 by omega) ?_
        refine z_iload_n dX2_changeMomenta_86 rfl rfl ?_
        refine z_iadd dX2_changeMomenta_87 ?_
        refine z_iast dX2_changeMomenta_88 (fun _ _ => rfl) rfl (show i + 1 < 12 by omega) ?_
        refine z_incS dX2_changeMomenta_89 rfl (inc1 _) (by decide) rfl ?_
        refine z_goto (tgt := 36) dX2_changeMomenta_92 (by decide) ?_
        refine ih (i + 1) _ _ (by omega) (by omega) ((ho.put (by simp) _).put (by simp) _) (by simpa [st] using hV) ?_
        rw [st_eq, st_eq, h7]
        exact momB_s _ _ i
  have ini : ∀ (f i : Nat), i ≤ n → n < i + f → Z K 3 "DyeTank$Tank" prog_4_method_26_code 4 2 [zR (5, t, 0), zI (nI i), zN, zN] [] (st μ (16, t, 0) (fun j => if j < i then vel (μ (7, t, 0)) j else μ (16, t, 0) j)) := by
    intro f
    induction f with
    | zero => intro i h1 h2; exact absurd ‹_ < _ + 0› (by omega)
    | succ f ih =>
      intro i h1 h2
      refine z_iload_n dX2_changeMomenta_2 rfl rfl ?_
      refine z_aload_n dX2_changeMomenta_3 rfl rfl ?_
      refine zg_X2_rings dX2_changeMomenta_4 tw_71 ?_
      refine z_top ((show _ = nI n by simpa [st] using hn)) ?_
      refine z_icmp_ge (tgt := 27) dX2_changeMomenta_7 (by decide) (fun hb => ?_) (fun hb => ?_)
      · have hb := nle hb
        have e : i = n := by omega
        subst e
        refine z_aload_n dX2_changeMomenta_27 rfl rfl ?_
        refine zg_X2_rings dX2_changeMomenta_28 tw_71 ?_
        refine z_top ((show _ = nI i by simpa [st] using hn)) ?_
        refine z_iconst (v := 1) dX2_changeMomenta_31 (by decide) ?_
        refine z_isub dX2_changeMomenta_32 ?_
        refine z_top ((show nI i - nI 1 = nI (i - 1) from pk_sub (by omega))) ?_
        refine z_istS_n dX2_changeMomenta_33 rfl (by decide) rfl ?_
        refine z_iconst (v := 0) dX2_changeMomenta_34 (by decide) ?_
        refine z_istS_n dX2_changeMomenta_35 rfl (by decide) rfl ?_
        refine mid i 0 _ _ (by omega) (by omega) (zoff.rf.put (by simp) _) ?_ ?_
        · intro j hj
          rw [st_eq, if_pos hj]
        · rw [momB_0]
          simp [st]
      · have hb := nnle hb
        refine z_aload_n dX2_changeMomenta_10 rfl rfl ?_
        refine zg_X2_speeds dX2_changeMomenta_11 tw_89 ?_
        refine z_iload_n dX2_changeMomenta_14 rfl rfl ?_
        refine z_aload_n dX2_changeMomenta_15 rfl rfl ?_
        refine z_iload_n dX2_changeMomenta_16 rfl rfl ?_
        refine z_cVi (c_velocityOf _ t ht i (by omega)) q_X2_velocityOf tw_277 dX2_changeMomenta_17 rfl rfl rfl (by omega) (Nat.le_of_ble_eq_true rfl) ?_
        refine z_top ((show _ = vel (μ (7, t, 0)) i by simp [st])) ?_
        refine z_iast dX2_changeMomenta_20 (fun _ _ => rfl) rfl (by omega) ?_
        refine z_incS dX2_changeMomenta_21 rfl (inc1 _) (by decide) rfl ?_
        refine z_goto (tgt := 2) dX2_changeMomenta_24 (by decide) ?_
        refine z_mu ?_ (ih (i + 1) (by omega) (by omega))
        rw [st_upd, pre_upd rfl]
  refine z_ls (ls' := [zR (5, t, 0), zN, zN, zN]) rfl ?_
  refine z_iconst (v := 0) dX2_changeMomenta_0 (by decide) ?_
  refine z_istS_n dX2_changeMomenta_1 rfl (by decide) rfl ?_
  refine z_mu ?_ (ini (n + 1) 0 (by omega) (by omega))
  rw [pre_0, st_self]
theorem c_turn (μ : zM) (t n : Nat) (ht : t < 4) (hn : μ (5, t, 0) 0 = nI n) (hn2 : 2 ≤ n) (hn12 : n ≤ 12) : zCv yX2_turn prog_4_method_25_code 2 (none : Option Jvm.ClassFile.FieldType) 4 [zR (5, t, 0)] μ (fun μ' => zoff [(7, t, 0), (8, t, 0), (16, t, 0), (17, t, 0)] μ μ' ∧ μ' (7, t, 0) = mom (μ (6, t, 0)) (μ (7, t, 0)) n ∧ μ' (8, t, 0) = ang (μ (6, t, 0)) (μ (7, t, 0)) (μ (8, t, 0)) n ∧ (∀ j, j < n → μ' (16, t, 0) j = vel (mom (μ (6, t, 0)) (μ (7, t, 0)) n) j) ∧ (∀ j, j < n → μ' (17, t, 0) j = psh (μ (6, t, 0)) (mom (μ (6, t, 0)) (μ (7, t, 0)) n) j)) := by
  refine zCt.of "DyeTank$Tank" rfl (by decide +kernel) rfl (Nat.le_of_ble_eq_true rfl) (fun K hR => ?_)
  have v5 := zv_5 t ht
  have v6 := zv_6 t ht
  have v7 := zv_7 t ht
  have v8 := zv_8 t ht
  have v9 := zv_9 t ht
  have v10 := zv_10 t ht
  have v12 := zv_12 t ht
  have v16 := zv_16 t ht
  have v17 := zv_17 t ht
  have v18 := zv_18 t ht
  have loop : ∀ (f i : Nat) (μ' : zM), i ≤ n → n < i + f → zoff [(7, t, 0), (8, t, 0), (16, t, 0), (17, t, 0)] μ μ' → μ' (7, t, 0) = mom (μ (6, t, 0)) (μ (7, t, 0)) n → μ' (8, t, 0) = (fun j => if j < i then fmd (μ (8, t, 0) j + vel (mom (μ (6, t, 0)) (μ (7, t, 0)) n) j) 3600 else μ (8, t, 0) j) → (∀ j, j < i → μ' (16, t, 0) j = vel (mom (μ (6, t, 0)) (μ (7, t, 0)) n) j) → (∀ j, j < i → μ' (17, t, 0) j = psh (μ (6, t, 0)) (mom (μ (6, t, 0)) (μ (7, t, 0)) n) j) → Z K 4 "DyeTank$Tank" prog_4_method_25_code 2 6 [zR (5, t, 0), zI (nI i)] [] μ' := by
    intro f
    induction f with
    | zero => intro i μ' h1 h2 h3 h4 h5 h6 h7; exact absurd ‹_ < _ + 0› (by omega)
    | succ f ih =>
      intro i μ' h1 h2 ho h7 h8 h16 h17
      have h6 := ho.at (6, t, 0)
      have hr := ho.at (5, t, 0)
      refine z_iload_n dX2_turn_6 rfl rfl ?_
      refine z_aload_n dX2_turn_7 rfl rfl ?_
      refine zg_X2_rings dX2_turn_8 tw_71 ?_
      refine z_top ((show _ = nI n by rw [hr]; exact hn)) ?_
      refine z_icmp_ge (tgt := 67) dX2_turn_11 (by decide) (fun hb => ?_) (fun hb => ?_)
      · have hb := nle hb
        have e : i = n := by omega
        subst e
        refine z_vret hR dX2_turn_67 (⟨rfl, ho, h7, by rw [h8]; rfl, h16, h17⟩)
      · have hb := nnle hb
        refine z_aload_n dX2_turn_14 rfl rfl ?_
        refine zg_X2_speeds dX2_turn_15 tw_89 ?_
        refine z_iload_n dX2_turn_18 rfl rfl ?_
        refine z_aload_n dX2_turn_19 rfl rfl ?_
        refine z_iload_n dX2_turn_20 rfl rfl ?_
        refine z_cVi (c_velocityOf _ t ht i (by omega)) q_X2_velocityOf tw_277 dX2_turn_21 rfl rfl rfl (by omega) (Nat.le_of_ble_eq_true rfl) ?_
        refine z_top ((show _ = vel (mom (μ (6, t, 0)) (μ (7, t, 0)) n) i by rw [h7])) ?_
        refine z_iast dX2_turn_24 (fun _ _ => rfl) rfl (by omega) ?_
        refine z_aload_n dX2_turn_25 rfl rfl ?_
        refine zg_X2_pushes dX2_turn_26 tw_90 ?_
        refine z_iload_n dX2_turn_29 rfl rfl ?_
        refine z_aload_n dX2_turn_30 rfl rfl ?_
        refine z_iload_n dX2_turn_31 rfl rfl ?_
        refine z_cVi (c_pushOf _ t ht i (by omega)) q_X2_pushOf tw_278 dX2_turn_32 rfl rfl rfl (by omega) (Nat.le_of_ble_eq_true rfl) ?_
        refine z_top ((show _ = psh (μ (6, t, 0)) (mom (μ (6, t, 0)) (μ (7, t, 0)) n) i by simp [st, h6, h7])) ?_
        refine z_iast dX2_turn_35 (fun _ _ => rfl) rfl (by omega) ?_
        refine z_aload_n dX2_turn_36 rfl rfl ?_
        refine zg_X2_angles dX2_turn_37 tw_81 ?_
        refine z_iload_n dX2_turn_40 rfl rfl ?_
        refine z_aload_n dX2_turn_41 rfl rfl ?_
        refine zg_X2_angles dX2_turn_42 tw_81 ?_
        refine z_iload_n dX2_turn_45 rfl rfl ?_
        refine z_iald dX2_turn_46 (fun _ _ => rfl) rfl (by omega) ?_
        refine z_aload_n dX2_turn_47 rfl rfl ?_
        refine zg_X2_speeds dX2_turn_48 tw_89 ?_
        refine z_iload_n dX2_turn_51 rfl rfl ?_
        refine z_iald dX2_turn_52 (fun _ _ => rfl) rfl (by omega) ?_
        refine z_iadd dX2_turn_53 ?_
        refine z_top ((show _ = μ (8, t, 0) i + vel (mom (μ (6, t, 0)) (μ (7, t, 0)) n) i by simp [st, upd, h8])) ?_
        refine z_sipush (v := 3600) dX2_turn_54 (by decide) ?_
        refine z_cSi (c_floorMod _ _ _ (by decide)) q_J9_floorMod_7cf53 tw_257 dX2_turn_57 rfl rfl (by omega) (Nat.le_of_ble_eq_true rfl) ?_
        refine z_iast dX2_turn_60 (fun _ _ => rfl) rfl (by omega) ?_
        refine z_incS dX2_turn_61 rfl (inc1 _) (by decide) rfl ?_
        refine z_goto (tgt := 6) dX2_turn_64 (by decide) ?_
        refine ih (i + 1) _ (by omega) (by omega) (((ho.put (by simp) _).put (by simp) _).put (by simp) _) (by simp [st, h7]) ?_ ?_ ?_
        · simp [st]
          rw [h8]
          exact pre_upd rfl
        · simp only [st_ne _ _ (show ((16, t, 0) : zA) ≠ (8, t, 0) by simp), st_ne _ _ (show ((16, t, 0) : zA) ≠ (17, t, 0) by simp), st_eq]
          exact pre_up rfl h16
        · simp only [st_ne _ _ (show ((17, t, 0) : zA) ≠ (8, t, 0) by simp), st_ne _ _ (show ((17, t, 0) : zA) ≠ (16, t, 0) by simp), st_eq]
          exact pre_up rfl h17
  refine z_ls (ls' := [zR (5, t, 0), zN]) rfl ?_
  refine z_aload_n dX2_turn_0 rfl rfl ?_
  refine z_cVv (c_changeMomenta μ t n ht hn hn2 hn12) q_X2_changeMomenta tw_273 dX2_turn_1 rfl rfl rfl (by omega) (Nat.le_of_ble_eq_true rfl) (fun μ1 hh => ?_)
  obtain ⟨ho, h7⟩ := hh
  refine z_iconst (v := 0) dX2_turn_4 (by decide) ?_
  refine z_istS_n dX2_turn_5 rfl (by decide) rfl ?_
  refine loop (n + 1) 0 μ1 (by omega) (by omega) (ho.sub (by simp)) h7 ?_ (fun j hj => absurd hj (by omega)) (fun j hj => absurd hj (by omega))
  rw [ho.at (8, t, 0)]
  exact pre_0.symm
end
section
/-! steps 3 and 4 of a tick, for one colour: dye goes to the next ring, and between the layers -/
def mva (x s : Int32) : Int32 := (x.toInt64 * s.toInt64 / 1000).toInt32
def con (src dst : Nat) (b : Int32) (i : Nat) : Int32 := (if i = dst then b else 0) - (if i = src then b else 0)
def sec (A : Nat → Int32) (r : Nat) : Nat := (A r).toNatClampNeg / 150
def jj (A : Nat → Int32) (r tg j : Nat) : Nat := (sec A r + 24 - sec A tg + j) % 24
/-- what a ring's layer gives to a ring: at each place -/
def gv (D A : Nat → Int32) (L r tg : Nat) (s : Int32) (m i : Nat) : Int32 := sm (fun j => con (rwi L r + j) (rwi L tg + jj A r tg j) (mva (D (rwi L r + j)) s) i) m
theorem mva_0 (s : Int32) : mva 0 s = 0 := by
  unfold mva
  rw [show (0 : Int32).toInt64 = 0 by decide, Int64.zero_mul]
  decide
theorem con_upd {f : Nat → Int32} {src dst : Nat} (b : Int32) (h : src ≠ dst) : upd (upd f src (f src - b)) dst (upd f src (f src - b) dst + b) = fun i => f i + con src dst b i := by
  funext i
  unfold upd con
  by_cases h1 : i = dst
  · rw [if_pos h1, if_neg (fun e => h e.symm), if_pos h1, if_neg (fun e => h (e.symm.trans h1)), Int32.sub_zero, h1]
  · rw [if_neg h1, if_neg h1]
    by_cases h2 : i = src
    · rw [if_pos h2, if_pos h2, Int32.zero_sub, h2, Int32.sub_eq_add_neg]
    · rw [if_neg h2, if_neg h2, Int32.sub_zero, Int32.add_zero]
theorem con_0 (src dst i : Nat) : con src dst 0 i = 0 := by
  unfold con
  split <;> split <;> decide
theorem fmd24 : ∀ x, x < 24 → ∀ y, y < 24 → fmd (nI x - nI y) 24 = nI ((x + 24 - y) % 24) := by decide +kernel
theorem sec_eq {x : Int32} (a : Nat) (ha : a < 3600) (h : x = nI a) : x / 150 = nI (x.toNatClampNeg / 150) ∧ x.toNatClampNeg / 150 < 24 := by
  subst h
  rw [nI_clamp (by omega)]
  exact ⟨pk_div (d := 150) (by omega) (by omega) (by omega), by omega⟩
theorem sm_add0 (f : Nat → Int32) (g : Nat → Nat → Int32) (k i : Nat) : f i + sm (fun j => g j i) k + g k i = f i + sm (fun j => g j i) (k + 1) := by
  rw [sm, Int32.add_assoc]
theorem c_moveRow0 (μ : zM) (t c : Nat) (ht : t < 4) (hc : c < 3) (L r : Nat) (T s : Int32) (h : s = 0 ∨ ¬ (0 ≤ T ∧ T < μ (5, t, 0) 0)) : zCv yX2_moveRow prog_4_method_28_code 12 (none : Option Jvm.ClassFile.FieldType) 2 [zR (5, t, 0), zR (11, t, c), zI (nI L), zI (nI r), zI T, zI s] μ (fun μ' => μ' = μ) := by
  refine zCt.of "DyeTank$Tank" rfl (by decide +kernel) rfl (Nat.le_of_ble_eq_true rfl) (fun K hR => ?_)
  have v5 := zv_5 t ht
  have v6 := zv_6 t ht
  have v7 := zv_7 t ht
  have v8 := zv_8 t ht
  have v9 := zv_9 t ht
  have v10 := zv_10 t ht
  have v12 := zv_12 t ht
  have v16 := zv_16 t ht
  have v17 := zv_17 t ht
  have v18 := zv_18 t ht
  refine z_ls (ls' := [zR (5, t, 0), zR (11, t, c), zI (nI L), zI (nI r), zI T, zI s, zN, zN, zN, zN, zN, zN]) rfl ?_
  refine z_iload dX2_moveRow_0 rfl ?_
  refine z_if_eq (tgt := 14) dX2_moveRow_2 (by decide) (fun h1 => ?_) (fun h1 => ?_)
  · refine z_vret hR dX2_moveRow_14 (⟨rfl, rfl⟩)
  · refine z_aload_n dX2_moveRow_5 rfl rfl ?_
    refine z_iload dX2_moveRow_6 rfl ?_
    refine z_cVi (c_hasRing μ t ht T) q_X2_hasRing tw_296 dX2_moveRow_8 rfl rfl rfl (by omega) (Nat.le_of_ble_eq_true rfl) ?_
    refine z_bne (tgt := 15) dX2_moveRow_11 (by decide) (fun h2 => ?_) (fun h2 => ?_)
    · exact absurd h2 (h.resolve_left h1)
    · refine z_vret hR dX2_moveRow_14 (⟨rfl, rfl⟩)
theorem c_moveRow (μ : zM) (t c n : Nat) (ht : t < 4) (hc : c < 3) (hn : μ (5, t, 0) 0 = nI n) (hn12 : n ≤ 12) (L r tg : Nat) (hL : L < 2) (hr : r < n) (htg : tg < n) (hne : tg ≠ r) (s : Int32) (hs : ¬ s = 0) (hA : ∀ r, r < n → ∃ a, a < 3600 ∧ μ (8, t, 0) r = nI a) (hD : ∀ i, i < 576 → 0 ≤ μ (18, t, 0) i) : zCv yX2_moveRow prog_4_method_28_code 12 (none : Option Jvm.ClassFile.FieldType) 2 [zR (5, t, 0), zR (11, t, c), zI (nI L), zI (nI r), zI (nI tg), zI s] μ (fun μ' => μ' = st μ (11, t, c) (fun i => μ (11, t, c) i + gv (μ (18, t, 0)) (μ (8, t, 0)) L r tg s 24 i)) := by
  refine zCt.of "DyeTank$Tank" rfl (by decide +kernel) rfl (Nat.le_of_ble_eq_true rfl) (fun K hR => ?_)
  have v5 := zv_5 t ht
  have v6 := zv_6 t ht
  have v7 := zv_7 t ht
  have v8 := zv_8 t ht
  have v9 := zv_9 t ht
  have v10 := zv_10 t ht
  have v12 := zv_12 t ht
  have v16 := zv_16 t ht
  have v17 := zv_17 t ht
  have v18 := zv_18 t ht
  have v11 := zv_11 t ht c hc
  obtain ⟨a, ha, ea⟩ := hA r hr
  obtain ⟨b, hb0, eb⟩ := hA tg htg
  obtain ⟨e1, l1⟩ := sec_eq a ha ea
  obtain ⟨e2, l2⟩ := sec_eq b hb0 eb
  have hrw : rwi L r + 24 ≤ 576 := by unfold rwi; omega
  have hrw2 : rwi L tg + 24 ≤ 576 := by unfold rwi; omega
  have hapart : ∀ j k, j < 24 → k < 24 → rwi L r + j ≠ rwi L tg + k := by
    intro j k hj hk
    unfold rwi
    omega
  have loop : ∀ (f k : Nat) (x10 x11 : zV), zcat x10 = 1 → k ≤ 24 → 24 < k + f → Z K 2 "DyeTank$Tank" prog_4_method_28_code 12 62 [zR (5, t, 0), zR (11, t, c), zI (nI L), zI (nI r), zI (nI tg), zI s, zI (nI (rwi L r)), zI (nI (rwi L tg)), zI (nI (jj (μ (8, t, 0)) r tg k)), zI (nI k), x10, x11] [] (st μ (11, t, c) (fun i => μ (11, t, c) i + gv (μ (18, t, 0)) (μ (8, t, 0)) L r tg s k i)) := by
    intro f
    induction f with
    | zero => intro k x10 x11 h1 h2 h3; exact absurd ‹_ < _ + 0› (by omega)
    | succ f ih =>
      intro k x10 x11 hx10 h1 h2
      have hj : jj (μ (8, t, 0)) r tg k < 24 := Nat.mod_lt _ (by omega)
      generalize hM : st μ (11, t, c) (fun i => μ (11, t, c) i + gv (μ (18, t, 0)) (μ (8, t, 0)) L r tg s k i) = M
      have m18 : M (18, t, 0) = μ (18, t, 0) := by rw [← hM]; exact st_ne _ _ (by simp)
      have m11 : M (11, t, c) = fun i => μ (11, t, c) i + gv (μ (18, t, 0)) (μ (8, t, 0)) L r tg s k i := by rw [← hM]; exact st_eq _ _ _
      refine z_iload dX2_moveRow_62 rfl ?_
      refine z_bipush (v := 24) dX2_moveRow_64 (by decide) ?_
      refine z_icmp_ge (tgt := 147) dX2_moveRow_66 (by decide) (fun hb => ?_) (fun hb => ?_)
      · have hb := nle (a := 24) hb
        have e : k = 24 := by omega
        subst e
        refine z_vret hR dX2_moveRow_147 (⟨rfl, hM.symm⟩)
      · have hb := nnle (a := 24) hb
        have tail : ∀ (x10 x11 : zV) (M' : zM), zcat x10 = 1 → M' = st μ (11, t, c) (fun i => μ (11, t, c) i + gv (μ (18, t, 0)) (μ (8, t, 0)) L r tg s (k + 1) i) → Z K 2 "DyeTank$Tank" prog_4_method_28_code 12 124 [zR (5, t, 0), zR (11, t, c), zI (nI L), zI (nI r), zI (nI tg), zI s, zI (nI (rwi L r)), zI (nI (rwi L tg)), zI (nI (jj (μ (8, t, 0)) r tg k)), zI (nI k), x10, x11] [] M' := by
          intro x10 x11 M' hx eM
          subst eM
          refine z_iload dX2_moveRow_124 rfl ?_
          refine z_bipush (v := 23) dX2_moveRow_126 (by decide) ?_
          refine z_icmp_ge (tgt := 138) dX2_moveRow_128 (by decide) (fun hq => ?_) (fun hq => ?_)
          · have hq := nle (a := 23) hq
            refine z_iconst (v := 0) dX2_moveRow_138 (by decide) ?_
            refine z_istS dX2_moveRow_139 (by decide) rfl ?_
            refine z_incS dX2_moveRow_141 rfl (inc1 _) (by decide) rfl ?_
            refine z_goto (tgt := 62) dX2_moveRow_144 (by decide) ?_
            refine z_ls ?_ (ih (k + 1) x10 x11 hx (by omega) (by omega))
            have : jj (μ (8, t, 0)) r tg (k + 1) = 0 := by unfold jj at hq hj ⊢; omega
            rw [this]
            rfl
          · have hq := nnle (a := 23) hq
            refine z_iload dX2_moveRow_131 rfl ?_
            refine z_iconst (v := 1) dX2_moveRow_133 (by decide) ?_
            refine z_iadd dX2_moveRow_134 ?_
            refine z_goto (tgt := 139) dX2_moveRow_135 (by decide) ?_
            refine z_istS dX2_moveRow_139 (by decide) rfl ?_
            refine z_incS dX2_moveRow_141 rfl (inc1 _) (by decide) rfl ?_
            refine z_goto (tgt := 62) dX2_moveRow_144 (by decide) ?_
            refine z_ls ?_ (ih (k + 1) x10 x11 hx (by omega) (by omega))
            have : jj (μ (8, t, 0)) r tg (k + 1) = jj (μ (8, t, 0)) r tg k + 1 := by unfold jj at hq hj ⊢; omega
            have e3 : nI (jj (μ (8, t, 0)) r tg (k + 1)) = nI (jj (μ (8, t, 0)) r tg k) + 1 := by rw [this, nI_1]
            rw [e3]
            rfl
        refine z_aload_n dX2_moveRow_69 rfl rfl ?_
        refine zg_X2_old dX2_moveRow_70 tw_91 ?_
        refine z_iload dX2_moveRow_73 rfl ?_
        refine z_iload dX2_moveRow_75 rfl ?_
        refine z_iadd dX2_moveRow_77 ?_
        refine z_top ((nI_add _ _)) ?_
        refine z_iald dX2_moveRow_78 (fun _ _ => rfl) rfl (show rwi L r + k < 576 by omega) ?_
        refine z_top ((show _ = μ (18, t, 0) (rwi L r + k) by rw [m18])) ?_
        refine z_istS dX2_moveRow_79 (by decide) rfl ?_
        refine z_iload dX2_moveRow_81 rfl ?_
        refine z_if_le (tgt := 124) dX2_moveRow_83 (by decide) (fun hz => ?_) (fun hz => ?_)
        · have hz0 : μ (18, t, 0) (rwi L r + k) = 0 := Int32.le_antisymm hz (hD _ (by omega))
          refine tail _ _ M rfl ?_
          rw [← hM]
          congr 1
          funext i
          show _ + sm _ k = _ + (sm _ k + con _ _ (mva (μ (18, t, 0) (rwi L r + k)) s) i)
          rw [hz0, mva_0, con_0, Int32.add_zero]
        · refine z_iload dX2_moveRow_86 rfl ?_
          refine z_i2l dX2_moveRow_88 ?_
          refine z_iload dX2_moveRow_89 rfl ?_
          refine z_i2l dX2_moveRow_91 ?_
          refine z_lmul dX2_moveRow_92 ?_
          refine z_ldc2 (v := 1000) dX2_moveRow_93 tw_297 ?_
          refine z_ldiv dX2_moveRow_96 (by decide) ?_
          refine z_l2i dX2_moveRow_97 ?_
          refine z_top ((show _ = mva (μ (18, t, 0) (rwi L r + k)) s from rfl)) ?_
          generalize hb1 : mva (μ (18, t, 0) (rwi L r + k)) s = b1
          refine z_istS dX2_moveRow_98 (by decide) rfl ?_
          refine z_aload_n dX2_moveRow_100 rfl rfl ?_
          refine z_iload dX2_moveRow_101 rfl ?_
          refine z_iload dX2_moveRow_103 rfl ?_
          refine z_iadd dX2_moveRow_105 ?_
          refine z_top ((nI_add _ _)) ?_
          refine z_dup2 dX2_moveRow_106 rfl rfl ?_
          refine z_iald dX2_moveRow_107 (fun _ _ => rfl) rfl (show rwi L r + k < 576 by omega) ?_
          refine z_iload dX2_moveRow_108 rfl ?_
          refine z_isub dX2_moveRow_110 ?_
          refine z_iast dX2_moveRow_111 (fun _ _ => rfl) rfl (show rwi L r + k < 576 by omega) ?_
          refine z_aload_n dX2_moveRow_112 rfl rfl ?_
          refine z_iload dX2_moveRow_113 rfl ?_
          refine z_iload dX2_moveRow_115 rfl ?_
          refine z_iadd dX2_moveRow_117 ?_
          refine z_top ((nI_add _ _)) ?_
          refine z_dup2 dX2_moveRow_118 rfl rfl ?_
          refine z_iald dX2_moveRow_119 (fun _ _ => rfl) rfl (show rwi L tg + jj (μ (8, t, 0)) r tg k < 576 by omega) ?_
          refine z_iload dX2_moveRow_120 rfl ?_
          refine z_iadd dX2_moveRow_122 ?_
          refine z_iast dX2_moveRow_123 (fun _ _ => rfl) rfl (show rwi L tg + jj (μ (8, t, 0)) r tg k < 576 by omega) ?_
          refine tail _ _ _ rfl ?_
          rw [st_eq, st_st, con_upd b1 (hapart k _ hb hj), m11, ← hM, st_st]
          congr 1
          funext i
          show _ + sm _ k + con _ _ b1 i = _ + (sm _ k + con _ _ (mva (μ (18, t, 0) (rwi L r + k)) s) i)
          rw [hb1, Int32.add_assoc]
  refine z_ls (ls' := [zR (5, t, 0), zR (11, t, c), zI (nI L), zI (nI r), zI (nI tg), zI s, zN, zN, zN, zN, zN, zN]) rfl ?_
  refine z_iload dX2_moveRow_0 rfl ?_
  refine z_if_eq (tgt := 14) dX2_moveRow_2 (by decide) (fun h9 => absurd h9 (hs)) (fun _ => ?_)
  refine z_aload_n dX2_moveRow_5 rfl rfl ?_
  refine z_iload dX2_moveRow_6 rfl ?_
  refine z_cVi (c_hasRing μ t ht _) q_X2_hasRing tw_296 dX2_moveRow_8 rfl rfl rfl (by omega) (Nat.le_of_ble_eq_true rfl) ?_
  refine z_bne (tgt := 15) dX2_moveRow_11 (by decide) (fun h2 => ?_) (fun h2 => ?_)
  · refine z_iload_n dX2_moveRow_15 rfl rfl ?_
    refine z_iload_n dX2_moveRow_16 rfl rfl ?_
    refine z_cSi (c_rowOf μ L r) q_X2_rowOf tw_254 dX2_moveRow_17 rfl rfl (by omega) (Nat.le_of_ble_eq_true rfl) ?_
    refine z_istS dX2_moveRow_20 (by decide) rfl ?_
    refine z_iload_n dX2_moveRow_22 rfl rfl ?_
    refine z_iload dX2_moveRow_23 rfl ?_
    refine z_cSi (c_rowOf μ L tg) q_X2_rowOf tw_254 dX2_moveRow_25 rfl rfl (by omega) (Nat.le_of_ble_eq_true rfl) ?_
    refine z_istS dX2_moveRow_28 (by decide) rfl ?_
    refine z_aload_n dX2_moveRow_30 rfl rfl ?_
    refine zg_X2_angles dX2_moveRow_31 tw_81 ?_
    refine z_iload_n dX2_moveRow_34 rfl rfl ?_
    refine z_iald dX2_moveRow_35 (fun _ _ => rfl) rfl (show r < 12 by omega) ?_
    refine z_sipush (v := 150) dX2_moveRow_36 (by decide) ?_
    refine z_idiv dX2_moveRow_39 (by decide) ?_
    refine z_top (e1) ?_
    refine z_aload_n dX2_moveRow_40 rfl rfl ?_
    refine zg_X2_angles dX2_moveRow_41 tw_81 ?_
    refine z_iload dX2_moveRow_44 rfl ?_
    refine z_iald dX2_moveRow_46 (fun _ _ => rfl) rfl (show tg < 12 by omega) ?_
    refine z_sipush (v := 150) dX2_moveRow_47 (by decide) ?_
    refine z_idiv dX2_moveRow_50 (by decide) ?_
    refine z_top (e2) ?_
    refine z_isub dX2_moveRow_51 ?_
    refine z_bipush (v := 24) dX2_moveRow_52 (by decide) ?_
    refine z_cSi (c_floorMod μ _ _ (by decide)) q_J9_floorMod_7cf53 tw_257 dX2_moveRow_54 rfl rfl (by omega) (Nat.le_of_ble_eq_true rfl) ?_
    refine z_top ((show _ = nI (jj (μ (8, t, 0)) r tg 0) by rw [fmd24 _ l1 _ l2]; rfl)) ?_
    refine z_istS dX2_moveRow_57 (by decide) rfl ?_
    refine z_iconst (v := 0) dX2_moveRow_59 (by decide) ?_
    refine z_istS dX2_moveRow_60 (by decide) rfl ?_
    refine z_mu ?_ (loop 25 0 zN zN rfl (by omega) (by omega))
    have e : (fun i => μ (11, t, c) i + gv (μ (18, t, 0)) (μ (8, t, 0)) L r tg s 0 i) = μ (11, t, c) := by
      funext i
      show _ + sm _ 0 = _
      rw [sm, Int32.add_zero]
    rw [e, st_self]
  · refine absurd ⟨nI_pos' (by omega), ?_⟩ h2
    rw [hn]
    exact nI_lt htg (by omega)
def mxb (m a b : Int32) : Int32 := ((a - b).toInt64 * m.toInt64 / 2000).toInt32
def mixF (m : Int32) (n : Nat) (f : Nat → Int32) (i : Nat) : Int32 := if i < n then f i - mxb m (f i) (f (288 + i)) else if 288 ≤ i ∧ i < 288 + n then f i + mxb m (f (i - 288)) (f i) else f i
theorem mixF_0 (m : Int32) (f : Nat → Int32) : mixF m 0 f = f := by
  funext i
  unfold mixF
  rw [if_neg (by omega), if_neg (by omega)]
theorem mixF_s (m : Int32) (f : Nat → Int32) (k : Nat) (hk : k < 288) : upd (upd (mixF m k f) k (mixF m k f k - mxb m (f k) (f (288 + k)))) (288 + k) (upd (mixF m k f) k (mixF m k f k - mxb m (f k) (f (288 + k))) (288 + k) + mxb m (f k) (f (288 + k))) = mixF m (k + 1) f := by
  have h1 : mixF m k f k = f k := by unfold mixF; rw [if_neg (by omega), if_neg (by omega)]
  have h2 : mixF m k f (288 + k) = f (288 + k) := by unfold mixF; rw [if_neg (by omega), if_neg (by omega)]
  funext i
  unfold upd
  by_cases e1 : i = 288 + k
  · subst e1
    rw [if_pos rfl, if_neg (by omega), h2]
    unfold mixF
    rw [if_neg (by omega), if_pos (by omega), Nat.add_sub_cancel_left]
  · rw [if_neg e1]
    by_cases e2 : i = k
    · subst e2
      rw [if_pos rfl, h1]
      unfold mixF
      rw [if_pos (by omega)]
    · rw [if_neg e2]
      unfold mixF
      by_cases h3 : i < k
      · rw [if_pos h3, if_pos (by omega)]
      · rw [if_neg h3, if_neg (show ¬ i < k + 1 by omega)]
        by_cases h4 : 288 ≤ i ∧ i < 288 + k
        · rw [if_pos h4, if_pos (by omega)]
        · rw [if_neg h4, if_neg (by omega)]
theorem mxb_0 (m a b : Int32) (h : (a - b).toInt64 = 0) : mxb m a b = 0 := by
  unfold mxb
  rw [h, Int64.zero_mul]
  decide
theorem lcmp_0 (x : Int64) : lg_cmp x 0 = 0 ↔ x = 0 := by
  unfold lg_cmp
  constructor
  · intro h
    by_cases h1 : (0 : Int64) < x
    · rw [if_pos h1] at h
      cases h
    · rw [if_neg h1] at h
      by_cases h2 : x = 0
      · exact h2
      · rw [if_neg h2] at h
        cases h
  · intro h
    subst h
    decide
theorem c_mixLayers (μ : zM) (t c n : Nat) (ht : t < 4) (hc : c < 3) (hn : μ (5, t, 0) 0 = nI n) (hn12 : n ≤ 12) : zCv yX2_mixLayers prog_4_method_29_code 7 (none : Option Jvm.ClassFile.FieldType) 2 [zR (5, t, 0), zR (11, t, c)] μ (fun μ' => μ' = st μ (11, t, c) (mixF (μ (6, t, 0) 6) (24 * n) (μ (11, t, c)))) := by
  refine zCt.of "DyeTank$Tank" rfl (by decide +kernel) rfl (Nat.le_of_ble_eq_true rfl) (fun K hR => ?_)
  have v5 := zv_5 t ht
  have v6 := zv_6 t ht
  have v7 := zv_7 t ht
  have v8 := zv_8 t ht
  have v9 := zv_9 t ht
  have v10 := zv_10 t ht
  have v12 := zv_12 t ht
  have v16 := zv_16 t ht
  have v17 := zv_17 t ht
  have v18 := zv_18 t ht
  have v11 := zv_11 t ht c hc
  have loop : ∀ (f k : Nat) (x4 x5 x6 : zV), k ≤ 24 * n → 24 * n < k + f → Z K 2 "DyeTank$Tank" prog_4_method_29_code 7 8 [zR (5, t, 0), zR (11, t, c), zI (nI (288 + k)), zI (nI k), x4, x5, x6] [] (st μ (11, t, c) (mixF (μ (6, t, 0) 6) k (μ (11, t, c)))) := by
    intro f
    induction f with
    | zero => intro k x4 x5 x6 h1 h2; exact absurd ‹_ < _ + 0› (by omega)
    | succ f ih =>
      intro k x4 x5 x6 h1 h2
      generalize hM : st μ (11, t, c) (mixF (μ (6, t, 0) 6) k (μ (11, t, c))) = M
      have m5 : M (5, t, 0) = μ (5, t, 0) := by rw [← hM]; exact st_ne _ _ (by simp)
      have m6 : M (6, t, 0) = μ (6, t, 0) := by rw [← hM]; exact st_ne _ _ (by simp)
      have m11 : M (11, t, c) = mixF (μ (6, t, 0) 6) k (μ (11, t, c)) := by rw [← hM]; exact st_eq _ _ _
      refine z_iload_n dX2_mixLayers_8 rfl rfl ?_
      refine z_aload_n dX2_mixLayers_9 rfl rfl ?_
      refine zg_X2_rings dX2_mixLayers_10 tw_71 ?_
      refine z_top ((show _ = nI n by rw [m5]; exact hn)) ?_
      refine z_bipush (v := 24) dX2_mixLayers_13 (by decide) ?_
      refine z_imul dX2_mixLayers_15 ?_
      refine z_top ((show nI n * nI 24 = nI (24 * n) by rw [pk_mul, Nat.mul_comm])) ?_
      refine z_icmp_ge (tgt := 79) dX2_mixLayers_16 (by decide) (fun hb => ?_) (fun hb => ?_)
      · have hb := nle hb
        have e : k = 24 * n := by omega
        subst e
        refine z_vret hR dX2_mixLayers_79 (⟨rfl, hM.symm⟩)
      · have hb := nnle hb
        have a1 : M (11, t, c) k = μ (11, t, c) k := by rw [m11]; unfold mixF; rw [if_neg (by omega), if_neg (by omega)]
        have a2 : M (11, t, c) (288 + k) = μ (11, t, c) (288 + k) := by rw [m11]; unfold mixF; rw [if_neg (by omega), if_neg (by omega)]
        have tail : ∀ (x4 x5 x6 : zV) (M' : zM), M' = st μ (11, t, c) (mixF (μ (6, t, 0) 6) (k + 1) (μ (11, t, c))) → Z K 2 "DyeTank$Tank" prog_4_method_29_code 7 70 [zR (5, t, 0), zR (11, t, c), zI (nI (288 + k)), zI (nI k), x4, x5, x6] [] M' := by
          intro x4 x5 x6 M' eM
          subst eM
          refine z_incS dX2_mixLayers_70 rfl (inc1 _) (by decide) rfl ?_
          refine z_incS dX2_mixLayers_73 rfl (inc1 _) (by decide) rfl ?_
          refine z_goto (tgt := 8) dX2_mixLayers_76 (by decide) ?_
          exact ih (k + 1) x4 x5 x6 (by omega) (by omega)
        refine z_aload_n dX2_mixLayers_19 rfl rfl ?_
        refine z_iload_n dX2_mixLayers_20 rfl rfl ?_
        refine z_iald dX2_mixLayers_21 (fun _ _ => rfl) rfl (show k < 576 by omega) ?_
        refine z_aload_n dX2_mixLayers_22 rfl rfl ?_
        refine z_iload_n dX2_mixLayers_23 rfl rfl ?_
        refine z_iald dX2_mixLayers_24 (fun _ _ => rfl) rfl (show 288 + k < 576 by omega) ?_
        refine z_isub dX2_mixLayers_25 ?_
        refine z_top ((show _ = μ (11, t, c) k - μ (11, t, c) (288 + k) by rw [a1, a2])) ?_
        refine z_i2l dX2_mixLayers_26 ?_
        refine z_lstS dX2_mixLayers_27 (by decide) rfl ?_
        refine z_lload dX2_mixLayers_29 rfl ?_
        refine z_lconst (v := 0) dX2_mixLayers_31 (by decide) ?_
        refine z_lcmp dX2_mixLayers_32 ?_
        refine z_if_eq (tgt := 70) dX2_mixLayers_33 (by decide) (fun hz => ?_) (fun hz => ?_)
        · have hz := (lcmp_0 _).mp hz
          refine tail _ _ _ M ?_
          rw [← hM]
          congr 1
          have h0 := mxb_0 (μ (6, t, 0) 6) _ _ hz
          have h9 := mixF_s (μ (6, t, 0) 6) (μ (11, t, c)) k (by omega)
          rw [h0, Int32.sub_zero, Int32.add_zero] at h9
          rw [← h9]
          funext i
          unfold upd
          by_cases q1 : i = 288 + k
          · rw [if_pos q1, if_neg (by omega), q1]
          · rw [if_neg q1]
            by_cases q2 : i = k
            · rw [if_pos q2, q2]
            · rw [if_neg q2]
        · refine z_lload dX2_mixLayers_36 rfl ?_
          refine z_aload_n dX2_mixLayers_38 rfl rfl ?_
          refine zg_X2_settings dX2_mixLayers_39 tw_77 ?_
          refine z_bipush (v := 6) dX2_mixLayers_42 (by decide) ?_
          refine z_iald dX2_mixLayers_44 (fun _ _ => rfl) rfl (i := 6) (by decide) ?_
          refine z_i2l dX2_mixLayers_45 ?_
          refine z_lmul dX2_mixLayers_46 ?_
          refine z_ldc2 (v := 2000) dX2_mixLayers_47 tw_302 ?_
          refine z_ldiv dX2_mixLayers_50 (by decide) ?_
          refine z_l2i dX2_mixLayers_51 ?_
          refine z_top ((show _ = mxb (μ (6, t, 0) 6) (μ (11, t, c) k) (μ (11, t, c) (288 + k)) by rw [m6]; rfl)) ?_
          refine z_istS dX2_mixLayers_52 (by decide) rfl ?_
          refine z_aload_n dX2_mixLayers_54 rfl rfl ?_
          refine z_iload_n dX2_mixLayers_55 rfl rfl ?_
          refine z_dup2 dX2_mixLayers_56 rfl rfl ?_
          refine z_iald dX2_mixLayers_57 (fun _ _ => rfl) rfl (show k < 576 by omega) ?_
          refine z_iload dX2_mixLayers_58 rfl ?_
          refine z_isub dX2_mixLayers_60 ?_
          refine z_iast dX2_mixLayers_61 (fun _ _ => rfl) rfl (show k < 576 by omega) ?_
          refine z_aload_n dX2_mixLayers_62 rfl rfl ?_
          refine z_iload_n dX2_mixLayers_63 rfl rfl ?_
          refine z_dup2 dX2_mixLayers_64 rfl rfl ?_
          refine z_iald dX2_mixLayers_65 (fun _ _ => rfl) rfl (show 288 + k < 576 by omega) ?_
          refine z_iload dX2_mixLayers_66 rfl ?_
          refine z_iadd dX2_mixLayers_68 ?_
          refine z_iast dX2_mixLayers_69 (fun _ _ => rfl) rfl (show 288 + k < 576 by omega) ?_
          refine tail _ _ _ _ ?_
          rw [st_eq, st_st, m11, mixF_s _ _ _ (by omega), ← hM, st_st]
  refine z_ls (ls' := [zR (5, t, 0), zR (11, t, c), zN, zN, zN, zN, zN]) rfl ?_
  refine z_iconst (v := 1) dX2_mixLayers_0 (by decide) ?_
  refine z_iconst (v := 0) dX2_mixLayers_1 (by decide) ?_
  refine z_cSi (c_rowOf μ 1 0) q_X2_rowOf tw_254 dX2_mixLayers_2 rfl rfl (by omega) (Nat.le_of_ble_eq_true rfl) ?_
  refine z_istS_n dX2_mixLayers_5 rfl (by decide) rfl ?_
  refine z_iconst (v := 0) dX2_mixLayers_6 (by decide) ?_
  refine z_istS_n dX2_mixLayers_7 rfl (by decide) rfl ?_
  refine z_mu ?_ (loop (24 * n + 1) 0 zN zN zN (by omega) (by omega))
  rw [mixF_0, st_self]
def tgo (w : Bool) (r n : Nat) : Option Nat := if w then (if r = 0 then none else some (r - 1)) else (if r + 1 < n then some (r + 1) else none)
def inw (L : Nat) (x : Int32) : Bool := decide (0 < x) == (L == 1)
def rmv (D A : Nat → Int32) (n L r : Nat) (x : Int32) (i : Nat) : Int32 := if x = 0 then 0 else match tgo (inw L x) r n with
  | none => 0
  | some tg => gv D A L r tg (absI x) 24 i
def dyf (D A : Nat → Int32) (n : Nat) (x : Nat → Int32) (i : Nat) : Int32 := D i + sm (fun r => rmv D A n 1 r (x r) i + rmv D A n 0 r (x r) i) n
theorem absI_ne {x : Int32} (h : ¬ x = 0) : ¬ absI x = 0 := by
  unfold absI
  by_cases h1 : 0 ≤ x
  · rw [if_pos h1]
    exact h
  · rw [if_neg h1]
    intro q
    apply h
    rw [Int32.zero_sub] at q
    exact absurd q (Int32.neg_ne_zero.mpr h)
theorem c_moveRowX (μ : zM) (t c n : Nat) (ht : t < 4) (hc : c < 3) (hn : μ (5, t, 0) 0 = nI n) (hn12 : n ≤ 12) (L r : Nat) (hL : L < 2) (hr : r < n) (x T : Int32) (hT : T = if inw L x then nI r - 1 else nI r + 1) (hA : ∀ r, r < n → ∃ a, a < 3600 ∧ μ (8, t, 0) r = nI a) (hD : ∀ i, i < 576 → 0 ≤ μ (18, t, 0) i) : zCv yX2_moveRow prog_4_method_28_code 12 (none : Option Jvm.ClassFile.FieldType) 2 [zR (5, t, 0), zR (11, t, c), zI (nI L), zI (nI r), zI T, zI (absI x)] μ (fun μ' => μ' = st μ (11, t, c) (fun i => μ (11, t, c) i + rmv (μ (18, t, 0)) (μ (8, t, 0)) n L r x i)) := by
  have same : ∀ (g : Nat → Int32), (∀ i, g i = 0) → st μ (11, t, c) (fun i => μ (11, t, c) i + g i) = μ := by
    intro g hg
    have e : (fun i => μ (11, t, c) i + g i) = μ (11, t, c) := by
      funext i
      rw [hg i, Int32.add_zero]
    rw [e, st_self]
  by_cases hx : x = 0
  · rw [same _ (fun i => by unfold rmv; rw [if_pos hx])]
    exact c_moveRow0 μ t c ht hc L r T _ (Or.inl (by rw [hx]; decide))
  · cases hg : tgo (inw L x) r n with
    | none =>
      rw [same _ (fun i => by unfold rmv; rw [if_neg hx, hg])]
      refine c_moveRow0 μ t c ht hc L r T _ (Or.inr ?_)
      rintro ⟨h1, h2⟩
      rw [hn] at h2
      unfold tgo at hg
      by_cases hw : inw L x = true
      · rw [if_pos hw] at hg hT
        by_cases h0 : r = 0
        · rw [hT, h0] at h1
          exact absurd h1 (by decide)
        · rw [if_neg h0] at hg
          cases hg
      · rw [if_neg hw] at hg hT
        by_cases h0 : r + 1 < n
        · rw [if_pos h0] at hg
          cases hg
        · rw [hT, nI_1] at h2
          have := nlt h2
          omega
    | some tg =>
      have e : (fun i => μ (11, t, c) i + rmv (μ (18, t, 0)) (μ (8, t, 0)) n L r x i) = fun i => μ (11, t, c) i + gv (μ (18, t, 0)) (μ (8, t, 0)) L r tg (absI x) 24 i := by
        funext i
        unfold rmv
        rw [if_neg hx, hg]
      have hk : T = nI tg ∧ tg < n ∧ tg ≠ r := by
        unfold tgo at hg
        by_cases hw : inw L x = true
        · rw [if_pos hw] at hg hT
          by_cases h0 : r = 0
          · rw [if_pos h0] at hg
            cases hg
          · rw [if_neg h0] at hg
            cases hg
            refine ⟨?_, by omega, by omega⟩
            rw [hT]
            exact pk_sub (b := 1) (by omega)
        · rw [if_neg hw] at hg hT
          by_cases h0 : r + 1 < n
          · rw [if_pos h0] at hg
            cases hg
            exact ⟨by rw [hT, nI_1], h0, by omega⟩
          · rw [if_neg h0] at hg
            cases hg
      rw [e, hk.1]
      exact c_moveRow μ t c n ht hc hn hn12 L r tg hL hr hk.2.1 hk.2.2 (absI x) (absI_ne hx) hA hD
theorem sm_congr {f g : Nat → Int32} : ∀ (k : Nat), (∀ j, j < k → f j = g j) → sm f k = sm g k
  | 0, _ => rfl
  | k + 1, h => by
    rw [sm, sm, sm_congr k (fun j hj => h j (by omega)), h k (by omega)]
theorem rmv_congr {D D' A : Nat → Int32} {n L r : Nat} (hL : L < 2) (hr : r < 12) (h : ∀ i, i < 576 → D i = D' i) (x : Int32) : rmv D A n L r x = rmv D' A n L r x := by
  funext i
  unfold rmv
  have e : ∀ tg, gv D A L r tg (absI x) 24 i = gv D' A L r tg (absI x) 24 i := by
    intro tg
    unfold gv
    refine sm_congr 24 (fun j hj => ?_)
    rw [h (rwi L r + j) (by unfold rwi; omega)]
  split
  · rfl
  · split
    · rfl
    · exact e _
theorem mixF_m0 (n : Nat) (f : Nat → Int32) : mixF 0 n f = f := by
  funext i
  have h : ∀ a b, mxb 0 a b = 0 := by
    intro a b
    unfold mxb
    rw [show (0 : Int32).toInt64 = 0 by decide, Int64.mul_zero]
    decide
  unfold mixF
  rw [h, h, Int32.sub_zero, Int32.add_zero]
  split
  · rfl
  · split <;> rfl
theorem c_carry (μ : zM) (t c n : Nat) (ht : t < 4) (hc : c < 3) (hn : μ (5, t, 0) 0 = nI n) (hn12 : n ≤ 12) (x : Nat → Int32) (hx : ∀ r, r < n → μ (17, t, 0) r = x r) (hA : ∀ r, r < n → ∃ a, a < 3600 ∧ μ (8, t, 0) r = nI a) (hD : ∀ i, i < 576 → 0 ≤ μ (11, t, c) i) (h6 : 0 ≤ μ (6, t, 0) 6) : zCv yX2_carry prog_4_method_27_code 6 (none : Option Jvm.ClassFile.FieldType) 3 [zR (5, t, 0), zI (nI c)] μ (fun μ' => zoff [(11, t, c), (18, t, 0)] μ μ' ∧ μ' (11, t, c) = mixF (μ (6, t, 0) 6) (24 * n) (dyf (μ (11, t, c)) (μ (8, t, 0)) n x)) := by
  refine zCt.of "DyeTank$Tank" rfl (by decide +kernel) rfl (Nat.le_of_ble_eq_true rfl) (fun K hR => ?_)
  have v5 := zv_5 t ht
  have v6 := zv_6 t ht
  have v7 := zv_7 t ht
  have v8 := zv_8 t ht
  have v9 := zv_9 t ht
  have v10 := zv_10 t ht
  have v12 := zv_12 t ht
  have v16 := zv_16 t ht
  have v17 := zv_17 t ht
  have v18 := zv_18 t ht
  have v11 := zv_11 t ht c hc
  have loop : ∀ (f r : Nat) (x4 x5 : zV) (μ' : zM), r ≤ n → n < r + f → zcat x4 = 1 → zoff [(11, t, c), (18, t, 0)] μ μ' → (∀ i, i < 576 → μ' (18, t, 0) i = μ (11, t, c) i) → μ' (11, t, c) = (fun i => μ (11, t, c) i + sm (fun r => rmv (μ (11, t, c)) (μ (8, t, 0)) n 1 r (x r) i + rmv (μ (11, t, c)) (μ (8, t, 0)) n 0 r (x r) i) r) → Z K 3 "DyeTank$Tank" prog_4_method_27_code 6 24 [zR (5, t, 0), zI (nI c), zR (11, t, c), zI (nI r), x4, x5] [] μ' := by
    intro f
    induction f with
    | zero => intro r x4 x5 μ' h1 h2 h3 h4 h5 h6; exact absurd ‹_ < _ + 0› (by omega)
    | succ f ih =>
      intro r x4 x5 μ' h1 h2 hx4 ho h18 h11
      have e5 := ho.at (5, t, 0)
      have e6 := ho.at (6, t, 0)
      have e8 := ho.at (8, t, 0)
      have e17 := ho.at (17, t, 0)
      refine z_iload_n dX2_carry_24 rfl rfl ?_
      refine z_aload_n dX2_carry_25 rfl rfl ?_
      refine zg_X2_rings dX2_carry_26 tw_71 ?_
      refine z_top ((show _ = nI n by rw [e5]; exact hn)) ?_
      refine z_icmp_ge (tgt := 111) dX2_carry_29 (by decide) (fun hb => ?_) (fun hb => ?_)
      · have hb := nle hb
        have e : r = n := by omega
        subst e
        refine z_aload_n dX2_carry_111 rfl rfl ?_
        refine zg_X2_settings dX2_carry_112 tw_77 ?_
        refine z_bipush (v := 6) dX2_carry_115 (by decide) ?_
        refine z_iald dX2_carry_117 (fun _ _ => rfl) rfl (i := 6) (by decide) ?_
        refine z_if_le (tgt := 126) dX2_carry_118 (by decide) (fun hm => ?_) (fun hm => ?_)
        · rw [e6] at hm
          have hm0 : μ (6, t, 0) 6 = 0 := Int32.le_antisymm hm h6
          refine z_vret hR dX2_carry_126 (⟨rfl, ho, by rw [hm0, mixF_m0, h11]; rfl⟩)
        · refine z_aload_n dX2_carry_121 rfl rfl ?_
          refine z_aload_n dX2_carry_122 rfl rfl ?_
          refine z_cVv (c_mixLayers μ' t c r ht hc (by rw [e5]; exact hn) hn12) q_X2_mixLayers tw_298 dX2_carry_123 rfl rfl rfl (by omega) (Nat.le_of_ble_eq_true rfl) (fun μ2 hh => ?_)
          subst hh
          refine z_vret hR dX2_carry_126 (⟨rfl, ho.put (by simp) _, by rw [st_eq, h11, e6]; rfl⟩)
      · have hb := nnle hb
        have hxr : μ' (17, t, 0) r = x r := by rw [e17]; exact hx r hb
        have hAp : ∀ r, r < n → ∃ a, a < 3600 ∧ μ' (8, t, 0) r = nI a := by rw [e8]; exact hA
        have hDp : ∀ i, i < 576 → 0 ≤ μ' (18, t, 0) i := fun i hi => by rw [h18 i hi]; exact hD i hi
        have second : ∀ (v : Int32) (μ2 : zM), (v = if 0 < x r then 1 else 0) → μ2 = st μ' (11, t, c) (fun i => μ' (11, t, c) i + rmv (μ' (18, t, 0)) (μ' (8, t, 0)) n 1 r (x r) i) → Z K 3 "DyeTank$Tank" prog_4_method_27_code 6 82 [zR (5, t, 0), zI (nI c), zR (11, t, c), zI (nI r), zI v, zI (absI (x r))] [] μ2 := by
          intro v μ2 hv e2
          have o2 : zoff [(11, t, c)] μ' μ2 := by rw [e2]; exact zoff.rf.put (by simp) _
          have a18 := o2.at (18, t, 0)
          have a8 := o2.at (8, t, 0)
          have a5 := o2.at (5, t, 0)
          have call : ∀ T, (T = if inw 0 (x r) then nI r - 1 else nI r + 1) → Z K 3 "DyeTank$Tank" prog_4_method_27_code 6 100 [zR (5, t, 0), zI (nI c), zR (11, t, c), zI (nI r), zI v, zI (absI (x r))] [zI T, zI (nI r), zI (nI 0), zR (11, t, c), zR (5, t, 0)] μ2 := by
            intro T hT
            refine z_iload dX2_carry_100 rfl ?_
            refine z_cVv (c_moveRowX μ2 t c n ht hc (by rw [a5, e5]; exact hn) hn12 0 r (by decide) hb (x r) T hT (by rw [a8]; exact hAp) (by rw [a18]; exact hDp)) q_X2_moveRow tw_292 dX2_carry_102 rfl rfl rfl (by omega) (Nat.le_of_ble_eq_true rfl) (fun μ3 hh => ?_)
            refine z_incS dX2_carry_105 rfl (inc1 _) (by decide) rfl ?_
            refine z_goto (tgt := 24) dX2_carry_108 (by decide) ?_
            refine ih (r + 1) _ _ _ (by omega) (by omega) rfl ?_ ?_ ?_
            · rw [hh]
              exact ((zoff.tr ho o2 (by simp)).put (by simp) _)
            · intro i hi
              rw [hh, st_ne _ _ (by simp), a18]
              exact h18 i hi
            · rw [hh, st_eq, a18, a8, e2, st_eq, h11, e8, rmv_congr (D' := μ (11, t, c)) (by decide) (by omega) h18, rmv_congr (D' := μ (11, t, c)) (by decide) (by omega) h18]
              funext i
              show _ + sm _ r + _ + _ = _ + (sm _ r + (_ + _))
              rw [Int32.add_assoc, Int32.add_assoc]
          refine z_aload_n dX2_carry_82 rfl rfl ?_
          refine z_aload_n dX2_carry_83 rfl rfl ?_
          refine z_iconst (v := 0) dX2_carry_84 (by decide) ?_
          refine z_iload_n dX2_carry_85 rfl rfl ?_
          refine z_iload dX2_carry_86 rfl ?_
          refine z_if_eq (tgt := 97) dX2_carry_88 (by decide) (fun h0 => ?_) (fun h0 => ?_)
          · refine z_iload_n dX2_carry_97 rfl rfl ?_
            refine z_iconst (v := 1) dX2_carry_98 (by decide) ?_
            refine z_isub dX2_carry_99 ?_
            refine call _ ?_
            rw [hv] at h0
            by_cases hp : 0 < x r
            · rw [if_pos hp] at h0
              exact absurd h0 (by decide)
            · have : inw 0 (x r) = true := by unfold inw; rw [decide_eq_false hp]; rfl
              rw [if_pos this]
          · refine z_iload_n dX2_carry_91 rfl rfl ?_
            refine z_iconst (v := 1) dX2_carry_92 (by decide) ?_
            refine z_iadd dX2_carry_93 ?_
            refine z_goto (tgt := 100) dX2_carry_94 (by decide) ?_
            refine call _ ?_
            rw [hv] at h0
            by_cases hp : 0 < x r
            · have : ¬ inw 0 (x r) = true := by unfold inw; rw [decide_eq_true hp]; decide
              rw [if_neg this]
            · rw [if_neg hp] at h0
              exact absurd rfl h0
        have go : ∀ (v : Int32), (v = if 0 < x r then 1 else 0) → Z K 3 "DyeTank$Tank" prog_4_method_27_code 6 46 [zR (5, t, 0), zI (nI c), zR (11, t, c), zI (nI r), x4, x5] [zI v] μ' := by
          intro v hv
          have call : ∀ T, (T = if inw 1 (x r) then nI r - 1 else nI r + 1) → Z K 3 "DyeTank$Tank" prog_4_method_27_code 6 77 [zR (5, t, 0), zI (nI c), zR (11, t, c), zI (nI r), zI v, zI (absI (x r))] [zI T, zI (nI r), zI (nI 1), zR (11, t, c), zR (5, t, 0)] μ' := by
            intro T hT
            refine z_iload dX2_carry_77 rfl ?_
            refine z_cVv (c_moveRowX μ' t c n ht hc (by rw [e5]; exact hn) hn12 1 r (by decide) hb (x r) T hT hAp hDp) q_X2_moveRow tw_292 dX2_carry_79 rfl rfl rfl (by omega) (Nat.le_of_ble_eq_true rfl) (fun μ2 hh => ?_)
            exact second v μ2 hv hh
          refine z_istS dX2_carry_46 (by decide) rfl ?_
          refine z_aload_n dX2_carry_48 rfl rfl ?_
          refine zg_X2_pushes dX2_carry_49 tw_90 ?_
          refine z_iload_n dX2_carry_52 rfl rfl ?_
          refine z_iald dX2_carry_53 (fun _ _ => rfl) rfl (by omega) ?_
          refine z_top (hxr) ?_
          refine z_mabs dX2_carry_54 tw_289 ⟨by omega, Nat.le_of_ble_eq_true rfl⟩ ?_
          refine z_istS dX2_carry_57 (by decide) rfl ?_
          refine z_aload_n dX2_carry_59 rfl rfl ?_
          refine z_aload_n dX2_carry_60 rfl rfl ?_
          refine z_iconst (v := 1) dX2_carry_61 (by decide) ?_
          refine z_iload_n dX2_carry_62 rfl rfl ?_
          refine z_iload dX2_carry_63 rfl ?_
          refine z_if_eq (tgt := 74) dX2_carry_65 (by decide) (fun h0 => ?_) (fun h0 => ?_)
          · refine z_iload_n dX2_carry_74 rfl rfl ?_
            refine z_iconst (v := 1) dX2_carry_75 (by decide) ?_
            refine z_iadd dX2_carry_76 ?_
            refine call _ ?_
            rw [hv] at h0
            by_cases hp : 0 < x r
            · rw [if_pos hp] at h0
              exact absurd h0 (by decide)
            · have : ¬ inw 1 (x r) = true := by unfold inw; rw [decide_eq_false hp]; decide
              rw [if_neg this]
          · refine z_iload_n dX2_carry_68 rfl rfl ?_
            refine z_iconst (v := 1) dX2_carry_69 (by decide) ?_
            refine z_isub dX2_carry_70 ?_
            refine z_goto (tgt := 77) dX2_carry_71 (by decide) ?_
            refine call _ ?_
            rw [hv] at h0
            by_cases hp : 0 < x r
            · have : inw 1 (x r) = true := by unfold inw; rw [decide_eq_true hp]; rfl
              rw [if_pos this]
            · rw [if_neg hp] at h0
              exact absurd rfl h0
        refine z_aload_n dX2_carry_32 rfl rfl ?_
        refine zg_X2_pushes dX2_carry_33 tw_90 ?_
        refine z_iload_n dX2_carry_36 rfl rfl ?_
        refine z_iald dX2_carry_37 (fun _ _ => rfl) rfl (by omega) ?_
        refine z_top (hxr) ?_
        refine z_if_le (tgt := 45) dX2_carry_38 (by decide) (fun hp => ?_) (fun hp => ?_)
        · refine z_iconst (v := 0) dX2_carry_45 (by decide) ?_
          exact go 0 (by rw [if_neg (by rw [Int32.not_lt]; exact hp)])
        · refine z_iconst (v := 1) dX2_carry_41 (by decide) ?_
          refine z_goto (tgt := 46) dX2_carry_42 (by decide) ?_
          exact go 1 (by rw [if_pos (Int32.not_le.mp hp)])
  refine z_ls (ls' := [zR (5, t, 0), zI (nI c), zN, zN, zN, zN]) rfl ?_
  refine z_aload_n dX2_carry_0 rfl rfl ?_
  refine zg_X2_dyes dX2_carry_1 tw_85 ?_
  refine z_iload_n dX2_carry_4 rfl rfl ?_
  refine z_ald10 dX2_carry_5 rfl hc ?_
  refine z_astS_n dX2_carry_6 rfl (by decide) rfl ?_
  refine z_aload_n dX2_carry_7 rfl rfl ?_
  refine z_iconst (v := 0) dX2_carry_8 (by decide) ?_
  refine z_aload_n dX2_carry_9 rfl rfl ?_
  refine zg_X2_old dX2_carry_10 tw_91 ?_
  refine z_iconst (v := 0) dX2_carry_13 (by decide) ?_
  refine z_aload_n dX2_carry_14 rfl rfl ?_
  refine zg_X2_old dX2_carry_15 tw_91 ?_
  refine z_alen dX2_carry_18 (fun _ _ => rfl) ?_
  refine z_copy dX2_carry_19 tw_65 (fun _ _ => rfl) (fun _ _ => rfl) (sp := 0) (dp := 0) (n := 576) rfl rfl rfl (by decide) (by decide) ⟨by omega, Nat.le_of_ble_eq_true rfl⟩ ?_
  refine z_iconst (v := 0) dX2_carry_22 (by decide) ?_
  refine z_istS_n dX2_carry_23 rfl (by decide) rfl ?_
  refine loop (n + 1) 0 zN zN _ (by omega) (by omega) rfl (zoff.rf.put (by simp) _) ?_ ?_
  · intro i hi
    rw [st_eq]
    unfold va_cpy
    rw [if_pos (by omega)]
    congr 1
    omega
  · rw [st_ne _ _ (by simp)]
    funext i
    show _ = _ + sm _ 0
    rw [sm, Int32.add_zero]
end
section
/-! frames by kind: only rows of these kinds of tank t move -/
def zoffK (ks : List Nat) (t : Nat) (μ μ' : zM) : Prop := ∀ b : zA, (b.1 ∉ ks ∨ b.2.1 ≠ t) → μ' b = μ b
theorem zoffK.rf {ks : List Nat} {t : Nat} {μ : zM} : zoffK ks t μ μ := fun _ _ => rfl
theorem zoffK.of {S : List zA} {ks : List Nat} {t : Nat} {μ μ' : zM} (h : zoff S μ μ') (hs : ∀ a ∈ S, a.1 ∈ ks ∧ a.2.1 = t) : zoffK ks t μ μ' := fun b hb => h b (fun q => by
  obtain ⟨h1, h2⟩ := hs b q
  rcases hb with hb | hb
  · exact hb h1
  · exact hb h2)
theorem zoffK.tr {ks ks' : List Nat} {t : Nat} {μ μ' μ'' : zM} (h : zoffK ks t μ μ') (h' : zoffK ks' t μ' μ'') (hs : ∀ k ∈ ks', k ∈ ks) : zoffK ks t μ μ'' := fun b hb => (h' b (hb.imp (fun q z => q (hs _ z)) id)).trans (h b hb)
theorem zoffK.sub {ks ks' : List Nat} {t : Nat} {μ μ' : zM} (h : zoffK ks t μ μ') (hs : ∀ k ∈ ks, k ∈ ks') : zoffK ks' t μ μ' := fun b hb => h b (hb.imp (fun q z => q (hs _ z)) id)
theorem zoffK.put {ks : List Nat} {t : Nat} {μ μ' : zM} (h : zoffK ks t μ μ') (a : zA) (f : Nat → Int32) (h1 : a.1 ∈ ks := by simp) (h2 : a.2.1 = t := by rfl) : zoffK ks t μ (st μ' a f) := fun b hb => by
  have hne : b ≠ a := by
    intro e
    rw [e] at hb
    rcases hb with hb | hb
    · exact hb h1
    · exact hb h2
  rw [st_ne μ' f hne]
  exact h b hb
theorem zoffK.at {ks : List Nat} {t : Nat} {μ μ' : zM} (h : zoffK ks t μ μ') (b : zA) (hb : b.1 ∉ ks := by simp) : μ' b = μ b := h b (Or.inl hb)
/-! markers move -/
def rgo (x : Int32) : Nat := x.toNatClampNeg / 1000
/-- marker m of tank t has moved, by the velocity v and the push x of its ring -/
def MS (μ μ' : zM) (t m : Nat) : Prop := μ' (13, t, m) 0 = mvp (1000 * μ (5, t, 0) 0 - 1) (μ (13, t, m) 0) (μ (17, t, 0) (rgo (μ (13, t, m) 0))) ∧ μ' (13, t, m) 1 = fmd (μ (13, t, m) 1 + μ (16, t, 0) (rgo (μ (13, t, m) 0))) 3600 ∧ μ' (13, t, m) 2 = kp (μ (13, t, m) 2) ∧ μ' (13, t, m) 3 = (if mvp (1000 * μ (5, t, 0) 0 - 1) (μ (13, t, m) 0) (μ (17, t, 0) (rgo (μ (13, t, m) 0))) / 1000 = μ (13, t, m) 0 / 1000 then μ (13, t, m) 3 else μ (13, t, m) 3 + 1) ∧ μ' (13, t, m) 4 = nxt (μ (13, t, m) 4) ∧ μ' (14, t, m) = upd (μ (14, t, m)) (μ (13, t, m) 4).toNatClampNeg (mvp (1000 * μ (5, t, 0) 0 - 1) (μ (13, t, m) 0) (μ (17, t, 0) (rgo (μ (13, t, m) 0)))) ∧ μ' (15, t, m) = upd (μ (15, t, m)) (μ (13, t, m) 4).toNatClampNeg (fmd (μ (13, t, m) 1 + μ (16, t, 0) (rgo (μ (13, t, m) 0))) 3600)
/-- what a marker must be -/
def MK (μ : zM) (t n m : Nat) : Prop := ∃ p k : Nat, p < 1000 * n ∧ k < 50 ∧ μ (13, t, m) 0 = nI p ∧ μ (13, t, m) 4 = nI k
theorem c_moveMarkers (μ : zM) (t n mk : Nat) (ht : t < 4) (hn : μ (5, t, 0) 0 = nI n) (hn12 : n ≤ 12) (hmk : μ (5, t, 0) 2 = nI mk) (hmk6 : mk ≤ 6) (hm : ∀ m, m < mk → MK μ t n m) : zCv yX2_moveMarkers prog_4_method_30_code 4 (none : Option Jvm.ClassFile.FieldType) 3 [zR (5, t, 0)] μ (fun μ' => zoffK [13, 14, 15] t μ μ' ∧ ∀ m, m < mk → MS μ μ' t m) := by
  refine zCt.of "DyeTank$Tank" rfl (by decide +kernel) rfl (Nat.le_of_ble_eq_true rfl) (fun K hR => ?_)
  have v5 := zv_5 t ht
  have v6 := zv_6 t ht
  have v7 := zv_7 t ht
  have v8 := zv_8 t ht
  have v9 := zv_9 t ht
  have v10 := zv_10 t ht
  have v12 := zv_12 t ht
  have v16 := zv_16 t ht
  have v17 := zv_17 t ht
  have v18 := zv_18 t ht
  have loop : ∀ (f i : Nat) (x2 x3 : zV) (μ' : zM), zcat x2 = 1 → i ≤ mk → mk < i + f → zoffK [13, 14, 15] t μ μ' → (∀ m, m < i → MS μ μ' t m) → (∀ m, i ≤ m → μ' (13, t, m) = μ (13, t, m) ∧ μ' (14, t, m) = μ (14, t, m) ∧ μ' (15, t, m) = μ (15, t, m)) → Z K 3 "DyeTank$Tank" prog_4_method_30_code 4 2 [zR (5, t, 0), zI (nI i), x2, x3] [] μ' := by
    intro f
    induction f with
    | zero => intro i x2 x3 μ' h1 h2 h3 h4 h5 h6; exact absurd ‹_ < _ + 0› (by omega)
    | succ f ih =>
      intro i x2 x3 μ' hx2 h1 h2 ho hd hk
      have e5 := ho.at (5, t, 0)
      have e16 := ho.at (16, t, 0)
      have e17 := ho.at (17, t, 0)
      refine z_iload_n dX2_moveMarkers_2 rfl rfl ?_
      refine z_aload_n dX2_moveMarkers_3 rfl rfl ?_
      refine zg_X2_markerCount dX2_moveMarkers_4 tw_75 ?_
      refine z_top ((show _ = nI mk by rw [e5]; exact hmk)) ?_
      refine z_icmp_ge (tgt := 56) dX2_moveMarkers_7 (by decide) (fun hb => ?_) (fun hb => ?_)
      · have hb := nle hb
        have e : i = mk := by omega
        subst e
        refine z_vret hR dX2_moveMarkers_56 (⟨rfl, ho, hd⟩)
      · have hb := nnle hb
        obtain ⟨p, k, hp, hk50, ep, ek⟩ := hm i hb
        obtain ⟨k13, k14, k15⟩ := hk i (Nat.le_refl _)
        have ring : μ' (13, t, i) 0 / 1000 = nI (p / 1000) := by
          rw [k13, ep]
          exact pk_div (d := 1000) (by omega) (by omega) (by omega)
        have hrg : rgo (μ (13, t, i) 0) = p / 1000 := by
          unfold rgo
          rw [ep, nI_clamp (by omega)]
        have hlt : p / 1000 < n := by omega
        have v13 := zv_13 t ht i (by omega)
        refine z_aload_n dX2_moveMarkers_10 rfl rfl ?_
        refine zg_X2_markers dX2_moveMarkers_11 tw_87 ?_
        refine z_iload_n dX2_moveMarkers_14 rfl rfl ?_
        refine z_ald12 dX2_moveMarkers_15 rfl (by omega) ?_
        refine z_astS_n dX2_moveMarkers_16 rfl (by decide) rfl ?_
        refine z_aload_n dX2_moveMarkers_17 rfl rfl ?_
        refine z_cVi (c_ringNow μ' t i ht (by omega)) q_X0_ringNow tw_307 dX2_moveMarkers_18 rfl rfl rfl (by omega) (Nat.le_of_ble_eq_true rfl) ?_
        refine z_top (ring) ?_
        refine z_istS_n dX2_moveMarkers_21 rfl (by decide) rfl ?_
        refine z_aload_n dX2_moveMarkers_22 rfl rfl ?_
        refine z_iload_n dX2_moveMarkers_23 rfl rfl ?_
        refine z_cVi (c_hasRing μ' t ht _) q_X2_hasRing tw_296 dX2_moveMarkers_24 rfl rfl rfl (by omega) (Nat.le_of_ble_eq_true rfl) ?_
        refine z_beq (tgt := 50) dX2_moveMarkers_27 (by decide) (fun hr => ?_) (fun hr => ?_)
        · refine absurd ⟨nI_pos' (by omega), ?_⟩ hr
          rw [e5, hn]
          exact nI_lt hlt (by omega)
        · refine z_aload_n dX2_moveMarkers_30 rfl rfl ?_
          refine z_aload_n dX2_moveMarkers_31 rfl rfl ?_
          refine zg_X2_speeds dX2_moveMarkers_32 tw_89 ?_
          refine z_iload_n dX2_moveMarkers_35 rfl rfl ?_
          refine z_iald dX2_moveMarkers_36 (fun _ _ => rfl) rfl (by omega) ?_
          refine z_aload_n dX2_moveMarkers_37 rfl rfl ?_
          refine zg_X2_pushes dX2_moveMarkers_38 tw_90 ?_
          refine z_iload_n dX2_moveMarkers_41 rfl rfl ?_
          refine z_iald dX2_moveMarkers_42 (fun _ _ => rfl) rfl (by omega) ?_
          refine z_aload_n dX2_moveMarkers_43 rfl rfl ?_
          refine z_cVi (c_lastPlace μ' t ht) q_X2_lastPlace tw_311 dX2_moveMarkers_44 rfl rfl rfl (by omega) (Nat.le_of_ble_eq_true rfl) ?_
          refine z_cVv (c_move μ' t i k ht (by omega) hk50 (by rw [k13]; exact ek) _ _ _) q_X0_move tw_315 dX2_moveMarkers_47 rfl rfl rfl (by omega) (Nat.le_of_ble_eq_true rfl) (fun μ2 hh => ?_)
          obtain ⟨o2, q0, q1, q2, q3, q4, q14, q15⟩ := hh
          have o3 : zoffK [13, 14, 15] t μ' μ2 := zoffK.of o2 (by simp)
          refine z_incS dX2_moveMarkers_50 rfl (inc1 _) (by decide) rfl ?_
          refine z_goto (tgt := 2) dX2_moveMarkers_53 (by decide) ?_
          refine ih (i + 1) _ _ μ2 rfl (by omega) (by omega) (ho.tr o3 (by simp)) ?_ ?_
          · intro m hmi
            by_cases e : m = i
            · subst e
              rw [k13] at q0 q1 q2 q3
              rw [k13, k14] at q14
              rw [k13, k15] at q15
              unfold MS
              rw [hrg, ek, nI_clamp (by omega)]
              rw [e5, e17] at q0 q3 q14
              rw [e16] at q1 q15
              exact ⟨q0, q1, q2, q3, q4, q14, q15⟩
            · have w13 := o2 (13, t, m) (by simp [e])
              have w14 := o2 (14, t, m) (by simp [e])
              have w15 := o2 (15, t, m) (by simp [e])
              have := hd m (by omega)
              unfold MS at this ⊢
              rw [w13, w14, w15]
              exact this
          · intro m hmi
            have e : m ≠ i := by omega
            have w13 := o2 (13, t, m) (by simp [e])
            have w14 := o2 (14, t, m) (by simp [e])
            have w15 := o2 (15, t, m) (by simp [e])
            rw [w13, w14, w15]
            exact hk m (by omega)
  refine z_ls (ls' := [zR (5, t, 0), zN, zN, zN]) rfl ?_
  refine z_iconst (v := 0) dX2_moveMarkers_0 (by decide) ?_
  refine z_istS_n dX2_moveMarkers_1 rfl (by decide) rfl ?_
  exact loop (mk + 1) 0 zN zN μ rfl (by omega) (by omega) zoffK.rf (fun m h => absurd h (by omega)) (fun m _ => ⟨rfl, rfl, rfl⟩)
/-- a colour behind a tick -/
def dyN (D A S x : Nat → Int32) (n : Nat) (T : Int32) : Nat → Int32 := if 0 < T then mixF (S 6) (24 * n) (dyf D A n x) else D
theorem ang_ok {S P A : Nat → Int32} {n r : Nat} (hr : r < n) : ∃ a, a < 3600 ∧ ang S P A n r = nI a := by
  unfold ang
  rw [if_pos hr]
  exact fmd_ok _
theorem c_makeTick (μ : zM) (t n mk : Nat) (ht : t < 4) (hn : μ (5, t, 0) 0 = nI n) (hn2 : 2 ≤ n) (hn12 : n ≤ 12) (hmk : μ (5, t, 0) 2 = nI mk) (hmk6 : mk ≤ 6) (hm : ∀ m, m < mk → MK μ t n m) (hD : ∀ c, c < 3 → ∀ i, i < 576 → 0 ≤ μ (11, t, c) i) (h6 : 0 ≤ μ (6, t, 0) 6) : zCv yX2_makeTick prog_4_method_24_code 2 (none : Option Jvm.ClassFile.FieldType) 5 [zR (5, t, 0)] μ (fun μ' => zoffK [5, 7, 8, 11, 13, 14, 15, 16, 17, 18] t μ μ' ∧ μ' (5, t, 0) = upd (μ (5, t, 0)) 1 (μ (5, t, 0) 1 + 1) ∧ μ' (7, t, 0) = mom (μ (6, t, 0)) (μ (7, t, 0)) n ∧ μ' (8, t, 0) = ang (μ (6, t, 0)) (μ (7, t, 0)) (μ (8, t, 0)) n ∧ (∀ c, c < 3 → μ' (11, t, c) = dyN (μ (11, t, c)) (ang (μ (6, t, 0)) (μ (7, t, 0)) (μ (8, t, 0)) n) (μ (6, t, 0)) (psh (μ (6, t, 0)) (mom (μ (6, t, 0)) (μ (7, t, 0)) n)) n (μ (9, t, 0) c)) ∧ ∃ μ1, (∀ m, m < mk → MS μ1 μ' t m) ∧ μ1 (5, t, 0) = μ (5, t, 0) ∧ (∀ m, μ1 (13, t, m) = μ (13, t, m) ∧ μ1 (14, t, m) = μ (14, t, m) ∧ μ1 (15, t, m) = μ (15, t, m)) ∧ (∀ j, j < n → μ1 (16, t, 0) j = vel (mom (μ (6, t, 0)) (μ (7, t, 0)) n) j) ∧ (∀ j, j < n → μ1 (17, t, 0) j = psh (μ (6, t, 0)) (mom (μ (6, t, 0)) (μ (7, t, 0)) n) j)) := by
  refine zCt.of "DyeTank$Tank" rfl (by decide +kernel) rfl (Nat.le_of_ble_eq_true rfl) (fun K hR => ?_)
  have v5 := zv_5 t ht
  have v6 := zv_6 t ht
  have v7 := zv_7 t ht
  have v8 := zv_8 t ht
  have v9 := zv_9 t ht
  have v10 := zv_10 t ht
  have v12 := zv_12 t ht
  have v16 := zv_16 t ht
  have v17 := zv_17 t ht
  have v18 := zv_18 t ht
  refine z_ls (ls' := [zR (5, t, 0), zN]) rfl ?_
  refine z_aload_n dX2_makeTick_0 rfl rfl ?_
  refine z_cVv (c_turn μ t n ht hn hn2 hn12) q_X2_turn tw_269 dX2_makeTick_1 rfl rfl rfl (by omega) (Nat.le_of_ble_eq_true rfl) (fun μ0 hh => ?_)
  obtain ⟨o0, h7, h8, h16, h17⟩ := hh
  have p0 : zoffK [7, 8, 16, 17] t μ μ0 := zoffK.of o0 (by simp)
  have loop : ∀ (f i : Nat) (μ' : zM), i ≤ 3 → 3 < i + f → zoffK [11, 18] t μ0 μ' → (∀ c, c < i → μ' (11, t, c) = dyN (μ (11, t, c)) (ang (μ (6, t, 0)) (μ (7, t, 0)) (μ (8, t, 0)) n) (μ (6, t, 0)) (psh (μ (6, t, 0)) (mom (μ (6, t, 0)) (μ (7, t, 0)) n)) n (μ (9, t, 0) c)) → (∀ c, i ≤ c → μ' (11, t, c) = μ (11, t, c)) → Z K 5 "DyeTank$Tank" prog_4_method_24_code 2 6 [zR (5, t, 0), zI (nI i)] [] μ' := by
    intro f
    induction f with
    | zero => intro i μ' h1 h2 h3 h4 h5; exact absurd ‹_ < _ + 0› (by omega)
    | succ f ih =>
      intro i μ' h1 h2 ho hd hk
      have e5 : μ' (5, t, 0) = μ (5, t, 0) := (ho.at (5, t, 0)).trans (p0.at (5, t, 0))
      have e6 : μ' (6, t, 0) = μ (6, t, 0) := (ho.at (6, t, 0)).trans (p0.at (6, t, 0))
      have e9 : μ' (9, t, 0) = μ (9, t, 0) := (ho.at (9, t, 0)).trans (p0.at (9, t, 0))
      have e7 : μ' (7, t, 0) = μ0 (7, t, 0) := ho.at (7, t, 0)
      have e8 : μ' (8, t, 0) = μ0 (8, t, 0) := ho.at (8, t, 0)
      have e16 : μ' (16, t, 0) = μ0 (16, t, 0) := ho.at (16, t, 0)
      have e17 : μ' (17, t, 0) = μ0 (17, t, 0) := ho.at (17, t, 0)
      have e13 : ∀ m, μ' (13, t, m) = μ (13, t, m) ∧ μ' (14, t, m) = μ (14, t, m) ∧ μ' (15, t, m) = μ (15, t, m) := fun m => ⟨(ho.at (13, t, m)).trans (p0.at (13, t, m)), (ho.at (14, t, m)).trans (p0.at (14, t, m)), (ho.at (15, t, m)).trans (p0.at (15, t, m))⟩
      refine z_iload_n dX2_makeTick_6 rfl rfl ?_
      refine z_iconst (v := 3) dX2_makeTick_7 (by decide) ?_
      refine z_icmp_ge (tgt := 31) dX2_makeTick_8 (by decide) (fun hb => ?_) (fun hb => ?_)
      · have hb := nle (a := 3) hb
        have e : i = 3 := by omega
        subst e
        refine z_aload_n dX2_makeTick_31 rfl rfl ?_
        refine z_cVv (c_moveMarkers μ' t n mk ht (by rw [e5]; exact hn) hn12 (by rw [e5]; exact hmk) hmk6 (fun m h => by unfold MK; rw [(e13 m).1]; exact hm m h)) q_X2_moveMarkers tw_303 dX2_makeTick_32 rfl rfl rfl (by omega) (Nat.le_of_ble_eq_true rfl) (fun μ2 hh => ?_)
        obtain ⟨o2, hms⟩ := hh
        refine z_aload_n dX2_makeTick_35 rfl rfl ?_
        refine z_dup dX2_makeTick_36 rfl ?_
        refine zg_X2_time dX2_makeTick_37 tw_73 ?_
        refine z_iconst (v := 1) dX2_makeTick_40 (by decide) ?_
        refine z_iadd dX2_makeTick_41 ?_
        refine zp_X2_time dX2_makeTick_42 tw_73 ?_
        refine z_vret hR dX2_makeTick_45 (⟨rfl, ?_, ?_, ?_, ?_, ?_, μ', ?_, e5, e13, ?_, ?_⟩)
        · exact (((p0.sub (ks' := [5, 7, 8, 11, 13, 14, 15, 16, 17, 18]) (by simp)).tr ho (by simp)).tr o2 (by simp)).put (5, t, 0) _
        · rw [st_eq, o2.at (5, t, 0), e5]
        · rw [st_ne _ _ (by simp), o2.at (7, t, 0), e7, h7]
        · rw [st_ne _ _ (by simp), o2.at (8, t, 0), e8, h8]
        · intro c hc
          rw [st_ne _ _ (by simp), o2.at (11, t, c)]
          exact hd c hc
        · intro m h
          have := hms m h
          unfold MS at this ⊢
          rw [st_ne _ _ (show ((13, t, m) : zA) ≠ (5, t, 0) by simp), st_ne _ _ (show ((14, t, m) : zA) ≠ (5, t, 0) by simp), st_ne _ _ (show ((15, t, m) : zA) ≠ (5, t, 0) by simp)]
          exact this
        · rw [e16]
          exact h16
        · rw [e17]
          exact h17
      · have hb := nnle (a := 3) hb
        refine z_aload_n dX2_makeTick_11 rfl rfl ?_
        refine zg_X2_totals dX2_makeTick_12 tw_83 ?_
        refine z_iload_n dX2_makeTick_15 rfl rfl ?_
        refine z_iald dX2_makeTick_16 (fun _ _ => rfl) rfl (by omega) ?_
        refine z_top ((show _ = μ (9, t, 0) i by rw [e9])) ?_
        refine z_if_le (tgt := 25) dX2_makeTick_17 (by decide) (fun hz => ?_) (fun hz => ?_)
        · refine z_incS dX2_makeTick_25 rfl (inc1 _) (by decide) rfl ?_
          refine z_goto (tgt := 6) dX2_makeTick_28 (by decide) ?_
          refine ih (i + 1) μ' (by omega) (by omega) ho ?_ (fun c hc => hk c (by omega))
          intro c hc
          by_cases e : c = i
          · subst e
            unfold dyN
            rw [if_neg (Int32.not_lt.mpr hz)]
            exact hk c (Nat.le_refl _)
          · exact hd c (by omega)
        · refine z_aload_n dX2_makeTick_20 rfl rfl ?_
          refine z_iload_n dX2_makeTick_21 rfl rfl ?_
          refine z_cVv (c_carry μ' t i n ht (by omega) (by rw [e5]; exact hn) hn12 (psh (μ (6, t, 0)) (mom (μ (6, t, 0)) (μ (7, t, 0)) n)) (by rw [e17]; exact h17) (by rw [e8, h8]; exact fun r hr => ang_ok hr) (by rw [hk i (Nat.le_refl _)]; exact hD i hb) (by rw [e6]; exact h6)) q_X2_carry tw_285 dX2_makeTick_22 rfl rfl rfl (by omega) (Nat.le_of_ble_eq_true rfl) (fun μ2 hh => ?_)
          obtain ⟨o2, h11⟩ := hh
          have o3 : zoffK [11, 18] t μ' μ2 := zoffK.of o2 (by simp)
          refine z_incS dX2_makeTick_25 rfl (inc1 _) (by decide) rfl ?_
          refine z_goto (tgt := 6) dX2_makeTick_28 (by decide) ?_
          refine ih (i + 1) μ2 (by omega) (by omega) (ho.tr o3 (by simp)) ?_ ?_
          · intro c hc
            by_cases e : c = i
            · subst e
              unfold dyN
              rw [if_pos (Int32.not_le.mp hz), h11, e6, e8, h8, hk c (Nat.le_refl _)]
            · rw [o2 (11, t, c) (by simp [e])]
              exact hd c (by omega)
          · intro c hc
            have e : c ≠ i := by omega
            rw [o2 (11, t, c) (by simp [e])]
            exact hk c (by omega)
  refine z_iconst (v := 0) dX2_makeTick_4 (by decide) ?_
  refine z_istS_n dX2_makeTick_5 rfl (by decide) rfl ?_
  exact loop 4 0 μ0 (by omega) (by omega) zoffK.rf (fun c h => absurd h (by omega)) (fun c _ => p0.at (11, t, c))
end
