-- ===== PART A: goes FIRST, ahead of the names: the tables' words, and 'selects' of the private methods out of them =====
/-- a private method of a class that the tables say can be made, by its rows of tables_1 -/
def lw_okq (q : MethodName × Nat) : Prop := (q.1.cls ≠ "java/lang/invoke/MethodHandle" ∧ q.1.cls ≠ "java/lang/invoke/VarHandle") ∧ Cond.instantiable q.1.cls q.2 ∈ tables_1 ∧ Cond.privateMethod q.1 ∈ tables_1 ∧ Cond.instanceMethod q.1 ∈ tables_1
theorem lw_p0 : lw_okq (⟨"DyeTank$Tank", "amountInRow", "(III)I"⟩, 12) := ⟨⟨by decide +kernel, by decide +kernel⟩, List.mem_of_getElem? (i := 17) (by decide +kernel), List.mem_of_getElem? (i := 250) (by decide +kernel), List.mem_of_getElem? (i := 251) (by decide +kernel)⟩
theorem lw_p1 : lw_okq (⟨"DyeTank$Tank", "changeMomenta", "()V"⟩, 12) := ⟨⟨by decide +kernel, by decide +kernel⟩, List.mem_of_getElem? (i := 17) (by decide +kernel), List.mem_of_getElem? (i := 282) (by decide +kernel), List.mem_of_getElem? (i := 283) (by decide +kernel)⟩
theorem lw_p2 : lw_okq (⟨"DyeTank$Tank", "moveRow", "([IIIII)V"⟩, 12) := ⟨⟨by decide +kernel, by decide +kernel⟩, List.mem_of_getElem? (i := 17) (by decide +kernel), List.mem_of_getElem? (i := 294) (by decide +kernel), List.mem_of_getElem? (i := 295) (by decide +kernel)⟩
theorem lw_p3 : lw_okq (⟨"DyeTank$Tank", "mixLayers", "([I)V"⟩, 12) := ⟨⟨by decide +kernel, by decide +kernel⟩, List.mem_of_getElem? (i := 17) (by decide +kernel), List.mem_of_getElem? (i := 300) (by decide +kernel), List.mem_of_getElem? (i := 301) (by decide +kernel)⟩
theorem lw_p4 : lw_okq (⟨"DyeTank$Marker", "keepPosition", "()V"⟩, 7) := ⟨⟨by decide +kernel, by decide +kernel⟩, List.mem_of_getElem? (i := 26) (by decide +kernel), List.mem_of_getElem? (i := 322) (by decide +kernel), List.mem_of_getElem? (i := 323) (by decide +kernel)⟩
theorem lw_p5 : lw_okq (⟨"DyeTank", "isPlaceOfDye", "(IIII)Z"⟩, 5) := ⟨⟨by decide +kernel, by decide +kernel⟩, List.mem_of_getElem? (i := 9) (by decide +kernel), List.mem_of_getElem? (i := 343) (by decide +kernel), List.mem_of_getElem? (i := 344) (by decide +kernel)⟩
theorem lw_p6 : lw_okq (⟨"DyeTank", "placeWith", "(III)J"⟩, 5) := ⟨⟨by decide +kernel, by decide +kernel⟩, List.mem_of_getElem? (i := 9) (by decide +kernel), List.mem_of_getElem? (i := 496) (by decide +kernel), List.mem_of_getElem? (i := 497) (by decide +kernel)⟩
theorem lw_p7 : lw_okq (⟨"DyeTank$Pad", "character", "()C"⟩, 9) := ⟨⟨by decide +kernel, by decide +kernel⟩, List.mem_of_getElem? (i := 118) (by decide +kernel), List.mem_of_getElem? (i := 528) (by decide +kernel), List.mem_of_getElem? (i := 529) (by decide +kernel)⟩
theorem lw_p8 : lw_okq (⟨"DyeTank$Pad", "readNumber", "(II)I"⟩, 9) := ⟨⟨by decide +kernel, by decide +kernel⟩, List.mem_of_getElem? (i := 118) (by decide +kernel), List.mem_of_getElem? (i := 536) (by decide +kernel), List.mem_of_getElem? (i := 537) (by decide +kernel)⟩
theorem lw_p9 : lw_okq (⟨"DyeTank$Pad", "digit", "()I"⟩, 9) := ⟨⟨by decide +kernel, by decide +kernel⟩, List.mem_of_getElem? (i := 118) (by decide +kernel), List.mem_of_getElem? (i := 540) (by decide +kernel), List.mem_of_getElem? (i := 541) (by decide +kernel)⟩
theorem lw_p10 : lw_okq (⟨"DyeTank$Pad", "readRing", "()Z"⟩, 9) := ⟨⟨by decide +kernel, by decide +kernel⟩, List.mem_of_getElem? (i := 118) (by decide +kernel), List.mem_of_getElem? (i := 544) (by decide +kernel), List.mem_of_getElem? (i := 545) (by decide +kernel)⟩
theorem lw_p11 : lw_okq (⟨"DyeTank$Pad", "readVelocity", "()Z"⟩, 9) := ⟨⟨by decide +kernel, by decide +kernel⟩, List.mem_of_getElem? (i := 118) (by decide +kernel), List.mem_of_getElem? (i := 548) (by decide +kernel), List.mem_of_getElem? (i := 549) (by decide +kernel)⟩
theorem lw_p12 : lw_okq (⟨"DyeTank$Pad", "readColour", "()Z"⟩, 9) := ⟨⟨by decide +kernel, by decide +kernel⟩, List.mem_of_getElem? (i := 118) (by decide +kernel), List.mem_of_getElem? (i := 552) (by decide +kernel), List.mem_of_getElem? (i := 553) (by decide +kernel)⟩
theorem lw_p13 : lw_okq (⟨"DyeTank$Pad", "readLayer", "()Z"⟩, 9) := ⟨⟨by decide +kernel, by decide +kernel⟩, List.mem_of_getElem? (i := 118) (by decide +kernel), List.mem_of_getElem? (i := 556) (by decide +kernel), List.mem_of_getElem? (i := 557) (by decide +kernel)⟩
theorem lw_p14 : lw_okq (⟨"DyeTank$Pad", "readSector", "()Z"⟩, 9) := ⟨⟨by decide +kernel, by decide +kernel⟩, List.mem_of_getElem? (i := 118) (by decide +kernel), List.mem_of_getElem? (i := 560) (by decide +kernel), List.mem_of_getElem? (i := 561) (by decide +kernel)⟩
theorem lw_p15 : lw_okq (⟨"DyeTank$Pad", "readAmount", "()Z"⟩, 9) := ⟨⟨by decide +kernel, by decide +kernel⟩, List.mem_of_getElem? (i := 118) (by decide +kernel), List.mem_of_getElem? (i := 564) (by decide +kernel), List.mem_of_getElem? (i := 565) (by decide +kernel)⟩
def lw_privs_1 : List (MethodName × Nat) := [(⟨"DyeTank$Tank", "amountInRow", "(III)I"⟩, 12), (⟨"DyeTank$Tank", "changeMomenta", "()V"⟩, 12), (⟨"DyeTank$Tank", "moveRow", "([IIIII)V"⟩, 12), (⟨"DyeTank$Tank", "mixLayers", "([I)V"⟩, 12), (⟨"DyeTank$Marker", "keepPosition", "()V"⟩, 7), (⟨"DyeTank", "isPlaceOfDye", "(IIII)Z"⟩, 5), (⟨"DyeTank", "placeWith", "(III)J"⟩, 5), (⟨"DyeTank$Pad", "character", "()C"⟩, 9), (⟨"DyeTank$Pad", "readNumber", "(II)I"⟩, 9), (⟨"DyeTank$Pad", "digit", "()I"⟩, 9), (⟨"DyeTank$Pad", "readRing", "()Z"⟩, 9), (⟨"DyeTank$Pad", "readVelocity", "()Z"⟩, 9), (⟨"DyeTank$Pad", "readColour", "()Z"⟩, 9), (⟨"DyeTank$Pad", "readLayer", "()Z"⟩, 9), (⟨"DyeTank$Pad", "readSector", "()Z"⟩, 9), (⟨"DyeTank$Pad", "readAmount", "()Z"⟩, 9)]
theorem lw_r1 : ∀ q ∈ lw_privs_1, lw_okq q := List.forall_mem_cons.mpr ⟨lw_p0, List.forall_mem_cons.mpr ⟨lw_p1, List.forall_mem_cons.mpr ⟨lw_p2, List.forall_mem_cons.mpr ⟨lw_p3, List.forall_mem_cons.mpr ⟨lw_p4, List.forall_mem_cons.mpr ⟨lw_p5, List.forall_mem_cons.mpr ⟨lw_p6, List.forall_mem_cons.mpr ⟨lw_p7, List.forall_mem_cons.mpr ⟨lw_p8, List.forall_mem_cons.mpr ⟨lw_p9, List.forall_mem_cons.mpr ⟨lw_p10, List.forall_mem_cons.mpr ⟨lw_p11, List.forall_mem_cons.mpr ⟨lw_p12, List.forall_mem_cons.mpr ⟨lw_p13, List.forall_mem_cons.mpr ⟨lw_p14, List.forall_mem_cons.mpr ⟨lw_p15, fun _ h => absurd h List.not_mem_nil⟩⟩⟩⟩⟩⟩⟩⟩⟩⟩⟩⟩⟩⟩⟩⟩
theorem lw_p16 : lw_okq (⟨"DyeTank", "carriedOut", "()Z"⟩, 5) := ⟨⟨by decide +kernel, by decide +kernel⟩, List.mem_of_getElem? (i := 9) (by decide +kernel), List.mem_of_getElem? (i := 574) (by decide +kernel), List.mem_of_getElem? (i := 575) (by decide +kernel)⟩
def lw_privs_2 : List (MethodName × Nat) := [(⟨"DyeTank", "carriedOut", "()Z"⟩, 5)]
theorem lw_r2 : ∀ q ∈ lw_privs_2, lw_okq q := List.forall_mem_cons.mpr ⟨lw_p16, fun _ h => absurd h List.not_mem_nil⟩
def lw_privs : List (MethodName × Nat) := lw_privs_1 ++ (lw_privs_2)
def lw_tbl : List Cond := k2_sels lw_privs ++ tables_1
theorem lw_privs_ok : ∀ q ∈ lw_privs, lw_okq q := by
  show ∀ q ∈ lw_privs_1 ++ (lw_privs_2), lw_okq q
  exact List.forall_mem_append.mpr ⟨lw_r1, lw_r2⟩
def RX0 : String := "DyeTank$Marker"
def TX0 : u_T := fun k => match k with
  | 0 => ("DyeTank$Marker", "place", "I", false)
  | 1 => ("DyeTank$Marker", "angle", "I", false)
  | 2 => ("DyeTank$Marker", "kept", "I", false)
  | 3 => ("DyeTank$Marker", "crossings", "I", false)
  | 4 => ("DyeTank$Marker", "next", "I", false)
  | 5 => ("DyeTank$Marker", "places", "[I", true)
  | _ => ("DyeTank$Marker", "angles", "[I", true)
def tyX0 : Nat → FieldType := fun k => match k with
  | 0 => .int
  | 1 => .int
  | 2 => .int
  | 3 => .int
  | 4 => .int
  | 5 => .array .int
  | _ => .array .int
abbrev wsX00 : List Cond := u_ws RX0 TX0 7
theorem nmX0 : ∀ a, a < 7 → ∀ b, b < 7 → a ≠ b → (TX0 a).2.1 ≠ (TX0 b).2.1 := by decide +kernel
theorem tyX0_ok : ∀ k, k < 7 → parseFieldDescriptor (TX0 k).2.2.1 = some (tyX0 k) := by decide +kernel
abbrev cX0_init : ByteArray := prog_2_method_1_code
def yX0_init : MethodName := ⟨RX0, "<init>", "()V"⟩
abbrev cX0_putIn : ByteArray := prog_2_method_2_code
def yX0_putIn : MethodName := ⟨RX0, "putIn", "(II)V"⟩
abbrev cX0_becomeLike : ByteArray := prog_2_method_3_code
def yX0_becomeLike : MethodName := ⟨RX0, "becomeLike", "(LDyeTank$Marker;)V"⟩
abbrev cX0_ringNow : ByteArray := prog_2_method_4_code
def yX0_ringNow : MethodName := ⟨RX0, "ringNow", "()I"⟩
abbrev cX0_move : ByteArray := prog_2_method_5_code
def yX0_move : MethodName := ⟨RX0, "move", "(III)V"⟩
abbrev cX0_keepPosition : ByteArray := prog_2_method_6_code
def yX0_keepPosition : MethodName := ⟨RX0, "keepPosition", "()V"⟩
abbrev cX0_placeBack : ByteArray := prog_2_method_7_code
def yX0_placeBack : MethodName := ⟨RX0, "placeBack", "(I)I"⟩
abbrev cX0_angleBack : ByteArray := prog_2_method_8_code
def yX0_angleBack : MethodName := ⟨RX0, "angleBack", "(I)I"⟩
abbrev cX0_isNear : ByteArray := prog_2_method_9_code
def yX0_isNear : MethodName := ⟨RX0, "isNear", "(LDyeTank$Marker;I)Z"⟩
def RX1 : String := "DyeTank$Pad"
def TX1 : u_T := fun k => match k with
  | 0 => ("DyeTank$Pad", "length", "I", false)
  | 1 => ("DyeTank$Pad", "at", "I", false)
  | 2 => ("DyeTank$Pad", "kind", "C", false)
  | 3 => ("DyeTank$Pad", "colour", "I", false)
  | 4 => ("DyeTank$Pad", "layer", "I", false)
  | 5 => ("DyeTank$Pad", "ring", "I", false)
  | 6 => ("DyeTank$Pad", "sector", "I", false)
  | 7 => ("DyeTank$Pad", "number", "I", false)
  | _ => ("DyeTank$Pad", "text", "[C", true)
def tyX1 : Nat → FieldType := fun k => match k with
  | 0 => .int
  | 1 => .int
  | 2 => .char
  | 3 => .int
  | 4 => .int
  | 5 => .int
  | 6 => .int
  | 7 => .int
  | _ => .array .char
abbrev wsX10 : List Cond := u_ws RX1 TX1 9
theorem nmX1 : ∀ a, a < 9 → ∀ b, b < 9 → a ≠ b → (TX1 a).2.1 ≠ (TX1 b).2.1 := by decide +kernel
theorem tyX1_ok : ∀ k, k < 9 → parseFieldDescriptor (TX1 k).2.2.1 = some (tyX1 k) := by decide +kernel
abbrev cX1_init : ByteArray := prog_3_method_1_code
def yX1_init : MethodName := ⟨RX1, "<init>", "()V"⟩
abbrev cX1_append : ByteArray := prog_3_method_2_code
def yX1_append : MethodName := ⟨RX1, "append", "(C)V"⟩
abbrev cX1_firstFault : ByteArray := prog_3_method_3_code
def yX1_firstFault : MethodName := ⟨RX1, "firstFault", "()I"⟩
abbrev cX1_readStep : ByteArray := prog_3_method_4_code
def yX1_readStep : MethodName := ⟨RX1, "readStep", "()Z"⟩
abbrev cX1_readRing : ByteArray := prog_3_method_5_code
def yX1_readRing : MethodName := ⟨RX1, "readRing", "()Z"⟩
abbrev cX1_readVelocity : ByteArray := prog_3_method_6_code
def yX1_readVelocity : MethodName := ⟨RX1, "readVelocity", "()Z"⟩
abbrev cX1_readColour : ByteArray := prog_3_method_7_code
def yX1_readColour : MethodName := ⟨RX1, "readColour", "()Z"⟩
abbrev cX1_readLayer : ByteArray := prog_3_method_8_code
def yX1_readLayer : MethodName := ⟨RX1, "readLayer", "()Z"⟩
abbrev cX1_readSector : ByteArray := prog_3_method_9_code
def yX1_readSector : MethodName := ⟨RX1, "readSector", "()Z"⟩
abbrev cX1_readAmount : ByteArray := prog_3_method_10_code
def yX1_readAmount : MethodName := ⟨RX1, "readAmount", "()Z"⟩
abbrev cX1_readNumber : ByteArray := prog_3_method_11_code
def yX1_readNumber : MethodName := ⟨RX1, "readNumber", "(II)I"⟩
abbrev cX1_digit : ByteArray := prog_3_method_12_code
def yX1_digit : MethodName := ⟨RX1, "digit", "()I"⟩
abbrev cX1_take : ByteArray := prog_3_method_13_code
def yX1_take : MethodName := ⟨RX1, "take", "(C)Z"⟩
abbrev cX1_character : ByteArray := prog_3_method_14_code
def yX1_character : MethodName := ⟨RX1, "character", "()C"⟩
def RX2 : String := "DyeTank$Tank"
def TX2 : u_T := fun k => match k with
  | 0 => ("DyeTank$Tank", "rings", "I", false)
  | 1 => ("DyeTank$Tank", "time", "I", false)
  | 2 => ("DyeTank$Tank", "markerCount", "I", false)
  | 3 => ("DyeTank$Tank", "settings", "[I", true)
  | 4 => ("DyeTank$Tank", "momenta", "[I", true)
  | 5 => ("DyeTank$Tank", "angles", "[I", true)
  | 6 => ("DyeTank$Tank", "totals", "[I", true)
  | 7 => ("DyeTank$Tank", "dyes", "[[I", true)
  | 8 => ("DyeTank$Tank", "markers", "[LDyeTank$Marker;", true)
  | 9 => ("DyeTank$Tank", "speeds", "[I", true)
  | 10 => ("DyeTank$Tank", "pushes", "[I", true)
  | _ => ("DyeTank$Tank", "old", "[I", true)
def tyX2 : Nat → FieldType := fun k => match k with
  | 0 => .int
  | 1 => .int
  | 2 => .int
  | 3 => .array .int
  | 4 => .array .int
  | 5 => .array .int
  | 6 => .array .int
  | 7 => .array (.array .int)
  | 8 => .array (.object "DyeTank$Marker")
  | 9 => .array .int
  | 10 => .array .int
  | _ => .array .int
abbrev wsX20 : List Cond := u_ws RX2 TX2 12
theorem nmX2 : ∀ a, a < 12 → ∀ b, b < 12 → a ≠ b → (TX2 a).2.1 ≠ (TX2 b).2.1 := by decide +kernel
theorem tyX2_ok : ∀ k, k < 12 → parseFieldDescriptor (TX2 k).2.2.1 = some (tyX2 k) := by decide +kernel
abbrev cX2_init : ByteArray := prog_4_method_1_code
def yX2_init : MethodName := ⟨RX2, "<init>", "()V"⟩
abbrev cX2_startAgain : ByteArray := prog_4_method_2_code
def yX2_startAgain : MethodName := ⟨RX2, "startAgain", "(I)V"⟩
abbrev cX2_becomeLike : ByteArray := prog_4_method_3_code
def yX2_becomeLike : MethodName := ⟨RX2, "becomeLike", "(LDyeTank$Tank;)V"⟩
abbrev cX2_hasRing : ByteArray := prog_4_method_4_code
def yX2_hasRing : MethodName := ⟨RX2, "hasRing", "(I)Z"⟩
abbrev cX2_hasMarker : ByteArray := prog_4_method_5_code
def yX2_hasMarker : MethodName := ⟨RX2, "hasMarker", "(I)Z"⟩
abbrev cX2_lastPlace : ByteArray := prog_4_method_6_code
def yX2_lastPlace : MethodName := ⟨RX2, "lastPlace", "()I"⟩
abbrev cX2_weightOf : ByteArray := prog_4_method_7_code
def yX2_weightOf : MethodName := ⟨RX2, "weightOf", "(I)I"⟩
abbrev cX2_velocityOf : ByteArray := prog_4_method_8_code
def yX2_velocityOf : MethodName := ⟨RX2, "velocityOf", "(I)I"⟩
abbrev cX2_giveVelocity : ByteArray := prog_4_method_9_code
def yX2_giveVelocity : MethodName := ⟨RX2, "giveVelocity", "(II)V"⟩
abbrev cX2_giveVelocities : ByteArray := prog_4_method_10_code
def yX2_giveVelocities : MethodName := ⟨RX2, "giveVelocities", "(II)V"⟩
abbrev cX2_pushOf : ByteArray := prog_4_method_11_code
def yX2_pushOf : MethodName := ⟨RX2, "pushOf", "(I)I"⟩
abbrev cX2_allMomenta : ByteArray := prog_4_method_12_code
def yX2_allMomenta : MethodName := ⟨RX2, "allMomenta", "()I"⟩
abbrev cX2_greatestShear : ByteArray := prog_4_method_13_code
def yX2_greatestShear : MethodName := ⟨RX2, "greatestShear", "()I"⟩
abbrev cX2_turnsWithFloor : ByteArray := prog_4_method_14_code
def yX2_turnsWithFloor : MethodName := ⟨RX2, "turnsWithFloor", "(I)Z"⟩
abbrev cX2_rowOf : ByteArray := prog_4_method_15_code
def yX2_rowOf : MethodName := ⟨RX2, "rowOf", "(II)I"⟩
abbrev cX2_cellIn : ByteArray := prog_4_method_16_code
def yX2_cellIn : MethodName := ⟨RX2, "cellIn", "(III)I"⟩
abbrev cX2_amountInRing : ByteArray := prog_4_method_17_code
def yX2_amountInRing : MethodName := ⟨RX2, "amountInRing", "(II)I"⟩
abbrev cX2_amountInTop : ByteArray := prog_4_method_18_code
def yX2_amountInTop : MethodName := ⟨RX2, "amountInTop", "(I)I"⟩
abbrev cX2_amountInRow : ByteArray := prog_4_method_19_code
def yX2_amountInRow : MethodName := ⟨RX2, "amountInRow", "(III)I"⟩
abbrev cX2_cellsWith : ByteArray := prog_4_method_20_code
def yX2_cellsWith : MethodName := ⟨RX2, "cellsWith", "(I)I"⟩
abbrev cX2_greatestAmount : ByteArray := prog_4_method_21_code
def yX2_greatestAmount : MethodName := ⟨RX2, "greatestAmount", "(I)I"⟩
abbrev cX2_meanPlace : ByteArray := prog_4_method_22_code
def yX2_meanPlace : MethodName := ⟨RX2, "meanPlace", "(I)J"⟩
abbrev cX2_unevenness : ByteArray := prog_4_method_23_code
def yX2_unevenness : MethodName := ⟨RX2, "unevenness", "(I)J"⟩
abbrev cX2_makeTick : ByteArray := prog_4_method_24_code
def yX2_makeTick : MethodName := ⟨RX2, "makeTick", "()V"⟩
abbrev cX2_turn : ByteArray := prog_4_method_25_code
def yX2_turn : MethodName := ⟨RX2, "turn", "()V"⟩
abbrev cX2_changeMomenta : ByteArray := prog_4_method_26_code
def yX2_changeMomenta : MethodName := ⟨RX2, "changeMomenta", "()V"⟩
abbrev cX2_carry : ByteArray := prog_4_method_27_code
def yX2_carry : MethodName := ⟨RX2, "carry", "(I)V"⟩
abbrev cX2_moveRow : ByteArray := prog_4_method_28_code
def yX2_moveRow : MethodName := ⟨RX2, "moveRow", "([IIIII)V"⟩
abbrev cX2_mixLayers : ByteArray := prog_4_method_29_code
def yX2_mixLayers : MethodName := ⟨RX2, "mixLayers", "([I)V"⟩
abbrev cX2_moveMarkers : ByteArray := prog_4_method_30_code
def yX2_moveMarkers : MethodName := ⟨RX2, "moveMarkers", "()V"⟩
def RX3 : String := "DyeTank"
def TX3 : u_T := fun k => match k with
  | 0 => ("DyeTank", "tank", "LDyeTank$Tank;", true)
  | 1 => ("DyeTank", "copy", "LDyeTank$Tank;", true)
  | 2 => ("DyeTank", "slots", "[LDyeTank$Tank;", true)
  | 3 => ("DyeTank", "saved", "[Z", true)
  | _ => ("DyeTank", "pad", "LDyeTank$Pad;", true)
def tyX3 : Nat → FieldType := fun k => match k with
  | 0 => .object "DyeTank$Tank"
  | 1 => .object "DyeTank$Tank"
  | 2 => .array (.object "DyeTank$Tank")
  | 3 => .array .boolean
  | _ => .object "DyeTank$Pad"
abbrev wsX30 : List Cond := u_ws RX3 TX3 5
theorem nmX3 : ∀ a, a < 5 → ∀ b, b < 5 → a ≠ b → (TX3 a).2.1 ≠ (TX3 b).2.1 := by decide +kernel
theorem tyX3_ok : ∀ k, k < 5 → parseFieldDescriptor (TX3 k).2.2.1 = some (tyX3 k) := by decide +kernel
abbrev cX3_init : ByteArray := prog_1_method_1_code
def yX3_init : MethodName := ⟨RX3, "<init>", "()V"⟩
abbrev cX3_setUp : ByteArray := prog_1_method_2_code
def yX3_setUp : MethodName := ⟨RX3, "setUp", "(I)I"⟩
abbrev cX3_set : ByteArray := prog_1_method_3_code
def yX3_set : MethodName := ⟨RX3, "set", "(II)I"⟩
abbrev cX3_spin : ByteArray := prog_1_method_4_code
def yX3_spin : MethodName := ⟨RX3, "spin", "(II)I"⟩
abbrev cX3_spinAll : ByteArray := prog_1_method_5_code
def yX3_spinAll : MethodName := ⟨RX3, "spinAll", "(II)I"⟩
abbrev cX3_pour : ByteArray := prog_1_method_6_code
def yX3_pour : MethodName := ⟨RX3, "pour", "(IIIII)I"⟩
abbrev cX3_tick : ByteArray := prog_1_method_7_code
def yX3_tick : MethodName := ⟨RX3, "tick", "(I)I"⟩
abbrev cX3_ring : ByteArray := prog_1_method_8_code
def yX3_ring : MethodName := ⟨RX3, "ring", "(II)I"⟩
abbrev cX3_dye : ByteArray := prog_1_method_9_code
def yX3_dye : MethodName := ⟨RX3, "dye", "(IIII)I"⟩
abbrev cX3_colour : ByteArray := prog_1_method_10_code
def yX3_colour : MethodName := ⟨RX3, "colour", "(II)J"⟩
abbrev cX3_state : ByteArray := prog_1_method_11_code
def yX3_state : MethodName := ⟨RX3, "state", "(I)I"⟩
abbrev cX3_marker : ByteArray := prog_1_method_12_code
def yX3_marker : MethodName := ⟨RX3, "marker", "(II)I"⟩
abbrev cX3_where : ByteArray := prog_1_method_13_code
def yX3_where : MethodName := ⟨RX3, "where", "(II)I"⟩
abbrev cX3_path : ByteArray := prog_1_method_14_code
def yX3_path : MethodName := ⟨RX3, "path", "(III)I"⟩
abbrev cX3_settles : ByteArray := prog_1_method_15_code
def yX3_settles : MethodName := ⟨RX3, "settles", "(II)I"⟩
abbrev cX3_arrives : ByteArray := prog_1_method_16_code
def yX3_arrives : MethodName := ⟨RX3, "arrives", "(IIII)I"⟩
abbrev cX3_meet : ByteArray := prog_1_method_17_code
def yX3_meet : MethodName := ⟨RX3, "meet", "(IIII)I"⟩
abbrev cX3_leastEkman : ByteArray := prog_1_method_18_code
def yX3_leastEkman : MethodName := ⟨RX3, "leastEkman", "(III)I"⟩
abbrev cX3_placeWith : ByteArray := prog_1_method_19_code
def yX3_placeWith : MethodName := ⟨RX3, "placeWith", "(III)J"⟩
abbrev cX3_say : ByteArray := prog_1_method_20_code
def yX3_say : MethodName := ⟨RX3, "say", "(I)I"⟩
abbrev cX3_wipe : ByteArray := prog_1_method_21_code
def yX3_wipe : MethodName := ⟨RX3, "wipe", "()I"⟩
abbrev cX3_fault : ByteArray := prog_1_method_22_code
def yX3_fault : MethodName := ⟨RX3, "fault", "()I"⟩
abbrev cX3_carryOut : ByteArray := prog_1_method_23_code
def yX3_carryOut : MethodName := ⟨RX3, "carryOut", "()I"⟩
abbrev cX3_carriedOut : ByteArray := prog_1_method_24_code
def yX3_carriedOut : MethodName := ⟨RX3, "carriedOut", "()Z"⟩
abbrev cX3_save : ByteArray := prog_1_method_25_code
def yX3_save : MethodName := ⟨RX3, "save", "(I)I"⟩
abbrev cX3_restore : ByteArray := prog_1_method_26_code
def yX3_restore : MethodName := ⟨RX3, "restore", "(I)I"⟩
abbrev cX3_isPlaceOfDye : ByteArray := prog_1_method_27_code
def yX3_isPlaceOfDye : MethodName := ⟨RX3, "isPlaceOfDye", "(IIII)Z"⟩
abbrev cX3_isColour : ByteArray := prog_1_method_28_code
def yX3_isColour : MethodName := ⟨RX3, "isColour", "(I)Z"⟩
abbrev cX3_isSpeed : ByteArray := prog_1_method_29_code
def yX3_isSpeed : MethodName := ⟨RX3, "isSpeed", "(I)Z"⟩
abbrev cX3_within : ByteArray := prog_1_method_30_code
def yX3_within : MethodName := ⟨RX3, "within", "(III)Z"⟩
def RX4 : String := "DyeTankModel"
def TX4 : u_T := fun k => match k with
  | _ => ("", "", "", false)
def tyX4 : Nat → FieldType := fun k => match k with
  | _ => .int
abbrev wsX40 : List Cond := u_ws RX4 TX4 0
theorem nmX4 : ∀ a, a < 0 → ∀ b, b < 0 → a ≠ b → (TX4 a).2.1 ≠ (TX4 b).2.1 := by decide +kernel
theorem tyX4_ok : ∀ k, k < 0 → parseFieldDescriptor (TX4 k).2.2.1 = some (tyX4 k) := by decide +kernel
def RJ9 : String := "java/lang/Math"
def TJ9 : u_T := fun k => match k with
  | _ => ("", "", "", false)
def tyJ9 : Nat → FieldType := fun k => match k with
  | _ => .int
abbrev wsJ90 : List Cond := u_ws RJ9 TJ9 0
theorem nmJ9 : ∀ a, a < 0 → ∀ b, b < 0 → a ≠ b → (TJ9 a).2.1 ≠ (TJ9 b).2.1 := by decide +kernel
theorem tyJ9_ok : ∀ k, k < 0 → parseFieldDescriptor (TJ9 k).2.2.1 = some (tyJ9 k) := by decide +kernel
abbrev cJ9_floorDiv_7cf53 : ByteArray := prog_7_method_47_code
def yJ9_floorDiv_7cf53 : MethodName := ⟨RJ9, "floorDiv", "(II)I"⟩
abbrev cJ9_floorMod_7cf53 : ByteArray := prog_7_method_50_code
def yJ9_floorMod_7cf53 : MethodName := ⟨RJ9, "floorMod", "(II)I"⟩
abbrev cJ9_abs_0f7a4 : ByteArray := prog_7_method_59_code
def yJ9_abs_0f7a4 : MethodName := ⟨RJ9, "abs", "(I)I"⟩
abbrev cJ9_abs_067f4 : ByteArray := prog_7_method_61_code
def yJ9_abs_067f4 : MethodName := ⟨RJ9, "abs", "(J)J"⟩
abbrev cJ9_max_7cf53 : ByteArray := prog_7_method_65_code
def yJ9_max_7cf53 : MethodName := ⟨RJ9, "max", "(II)I"⟩
abbrev cJ9_min_7cf53 : ByteArray := prog_7_method_69_code
def yJ9_min_7cf53 : MethodName := ⟨RJ9, "min", "(II)I"⟩
def RJ10 : String := "java/lang/System"
def TJ10 : u_T := fun k => match k with
  | _ => ("", "", "", false)
def tyJ10 : Nat → FieldType := fun k => match k with
  | _ => .int
abbrev wsJ100 : List Cond := u_ws RJ10 TJ10 0
theorem nmJ10 : ∀ a, a < 0 → ∀ b, b < 0 → a ≠ b → (TJ10 a).2.1 ≠ (TJ10 b).2.1 := by decide +kernel
theorem tyJ10_ok : ∀ k, k < 0 → parseFieldDescriptor (TJ10 k).2.2.1 = some (tyJ10 k) := by decide +kernel
def RJ7 : String := "java/util/Arrays"
def TJ7 : u_T := fun k => match k with
  | _ => ("", "", "", false)
def tyJ7 : Nat → FieldType := fun k => match k with
  | _ => .int
abbrev wsJ70 : List Cond := u_ws RJ7 TJ7 0
theorem nmJ7 : ∀ a, a < 0 → ∀ b, b < 0 → a ≠ b → (TJ7 a).2.1 ≠ (TJ7 b).2.1 := by decide +kernel
theorem tyJ7_ok : ∀ k, k < 0 → parseFieldDescriptor (TJ7 k).2.2.1 = some (tyJ7 k) := by decide +kernel
abbrev cJ7_fill_53178 : ByteArray := prog_9_method_103_code
def yJ7_fill_53178 : MethodName := ⟨RJ7, "fill", "([II)V"⟩
def RL : String := "DyeTankLaw"
abbrev cL_cell : ByteArray := method_2_code
def yL_cell : MethodName := ⟨RL, "cell", "([II)I"⟩
abbrev cL_up : ByteArray := method_3_code
def yL_up : MethodName := ⟨RL, "up", "(II)I"⟩
abbrev cL_law : ByteArray := code
def yL_law : MethodName := ⟨RL, "law", "([I)Z"⟩
abbrev cL_act : ByteArray := method_5_code
def yL_act : MethodName := ⟨RL, "act", "(LDyeTank;[IIII)Z"⟩
abbrev cL_marched : ByteArray := method_6_code
def yL_marched : MethodName := ⟨RL, "marched", "(LDyeTank;I)Z"⟩
abbrev cL_whole : ByteArray := method_7_code
def yL_whole : MethodName := ⟨RL, "whole", "(LDyeTank;[I)Z"⟩
abbrev cL_alone : ByteArray := method_8_code
def yL_alone : MethodName := ⟨RL, "alone", "(LDyeTank;I)Z"⟩
abbrev cL_settled : ByteArray := method_9_code
def yL_settled : MethodName := ⟨RL, "settled", "(LDyeTank;I)Z"⟩
abbrev cL_arrived : ByteArray := method_10_code
def yL_arrived : MethodName := ⟨RL, "arrived", "(LDyeTank;[II)Z"⟩
abbrev cL_met : ByteArray := method_11_code
def yL_met : MethodName := ⟨RL, "met", "(LDyeTank;I)Z"⟩
abbrev cL_pumped : ByteArray := method_12_code
def yL_pumped : MethodName := ⟨RL, "pumped", "(LDyeTank;[II)Z"⟩
abbrev cL_told : ByteArray := method_13_code
def yL_told : MethodName := ⟨RL, "told", "(LDyeTank;I)Z"⟩
abbrev cL_kept : ByteArray := method_14_code
def yL_kept : MethodName := ⟨RL, "kept", "(LDyeTank;[II)Z"⟩
abbrev cL_refused : ByteArray := method_15_code
def yL_refused : MethodName := ⟨RL, "refused", "(LDyeTank;I)Z"⟩
abbrev vwCl : List vw_C := [(RX0, TX0, 7), (RX1, TX1, 9), (RX2, TX2, 12), (RX3, TX3, 5)]
