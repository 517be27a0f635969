section
-- ===== PART A: goes FIRST, ahead of the names: the tables' words, and 'selects' of the private methods out of them =====
/-- a private method of a class that the tables say can be made, by its rows of tables_1 -/
def lw_okq (q : MethodName × Nat) : Prop := (q.1.cls ≠ "java/lang/invoke/MethodHandle" ∧ q.1.cls ≠ "java/lang/invoke/VarHandle") ∧ Cond.instantiable q.1.cls q.2 ∈ tables_1 ∧ Cond.privateMethod q.1 ∈ tables_1 ∧ Cond.instanceMethod q.1 ∈ tables_1
theorem lw_p0 : lw_okq (⟨"TankDivers$Game", "drawLot", "()V"⟩, 10) := ⟨⟨by decide +kernel, by decide +kernel⟩, List.mem_of_getElem? (i := 20) (by decide +kernel), List.mem_of_getElem? (i := 192) (by decide +kernel), List.mem_of_getElem? (i := 193) (by decide +kernel)⟩
theorem lw_p1 : lw_okq (⟨"TankDivers$History", "stateAt", "(I)LTankDivers$Game;"⟩, 2) := ⟨⟨by decide +kernel, by decide +kernel⟩, List.mem_of_getElem? (i := 142) (by decide +kernel), List.mem_of_getElem? (i := 329) (by decide +kernel), List.mem_of_getElem? (i := 330) (by decide +kernel)⟩
theorem lw_p2 : lw_okq (⟨"TankDivers$History", "dropOldest", "()V"⟩, 2) := ⟨⟨by decide +kernel, by decide +kernel⟩, List.mem_of_getElem? (i := 142) (by decide +kernel), List.mem_of_getElem? (i := 364) (by decide +kernel), List.mem_of_getElem? (i := 365) (by decide +kernel)⟩
theorem lw_p3 : lw_okq (⟨"TankDivers$Game", "stepUp", "(I)I"⟩, 10) := ⟨⟨by decide +kernel, by decide +kernel⟩, List.mem_of_getElem? (i := 20) (by decide +kernel), List.mem_of_getElem? (i := 471) (by decide +kernel), List.mem_of_getElem? (i := 472) (by decide +kernel)⟩
theorem lw_p4 : lw_okq (⟨"TankDivers$Game", "stepDown", "(I)I"⟩, 10) := ⟨⟨by decide +kernel, by decide +kernel⟩, List.mem_of_getElem? (i := 20) (by decide +kernel), List.mem_of_getElem? (i := 479) (by decide +kernel), List.mem_of_getElem? (i := 480) (by decide +kernel)⟩
theorem lw_p5 : lw_okq (⟨"TankDivers$Odds", "moveUp", "(LTankDivers$Game;)V"⟩, 2) := ⟨⟨by decide +kernel, by decide +kernel⟩, List.mem_of_getElem? (i := 173) (by decide +kernel), List.mem_of_getElem? (i := 504) (by decide +kernel), List.mem_of_getElem? (i := 505) (by decide +kernel)⟩
theorem lw_p6 : lw_okq (⟨"TankDivers$Game", "throwDie", "()I"⟩, 10) := ⟨⟨by decide +kernel, by decide +kernel⟩, List.mem_of_getElem? (i := 20) (by decide +kernel), List.mem_of_getElem? (i := 535) (by decide +kernel), List.mem_of_getElem? (i := 536) (by decide +kernel)⟩
theorem lw_p7 : lw_okq (⟨"TankDivers$Game", "whyNoDeed", "(II)I"⟩, 10) := ⟨⟨by decide +kernel, by decide +kernel⟩, List.mem_of_getElem? (i := 20) (by decide +kernel), List.mem_of_getElem? (i := 551) (by decide +kernel), List.mem_of_getElem? (i := 552) (by decide +kernel)⟩
theorem lw_p8 : lw_okq (⟨"TankDivers$Game", "whyNotTake", "()I"⟩, 10) := ⟨⟨by decide +kernel, by decide +kernel⟩, List.mem_of_getElem? (i := 20) (by decide +kernel), List.mem_of_getElem? (i := 555) (by decide +kernel), List.mem_of_getElem? (i := 556) (by decide +kernel)⟩
theorem lw_p9 : lw_okq (⟨"TankDivers$Game", "whyNotLay", "(I)I"⟩, 10) := ⟨⟨by decide +kernel, by decide +kernel⟩, List.mem_of_getElem? (i := 20) (by decide +kernel), List.mem_of_getElem? (i := 560) (by decide +kernel), List.mem_of_getElem? (i := 561) (by decide +kernel)⟩
theorem lw_p10 : lw_okq (⟨"TankDivers$Game", "endRound", "()V"⟩, 10) := ⟨⟨by decide +kernel, by decide +kernel⟩, List.mem_of_getElem? (i := 20) (by decide +kernel), List.mem_of_getElem? (i := 583) (by decide +kernel), List.mem_of_getElem? (i := 584) (by decide +kernel)⟩
theorem lw_p11 : lw_okq (⟨"TankDivers$Crew", "sinkStacksOf", "(ILTankDivers$Row;I)I"⟩, 9) := ⟨⟨by decide +kernel, by decide +kernel⟩, List.mem_of_getElem? (i := 56) (by decide +kernel), List.mem_of_getElem? (i := 591) (by decide +kernel), List.mem_of_getElem? (i := 592) (by decide +kernel)⟩
def lw_privs_1 : List (MethodName × Nat) := [(⟨"TankDivers$Game", "drawLot", "()V"⟩, 10), (⟨"TankDivers$History", "stateAt", "(I)LTankDivers$Game;"⟩, 2), (⟨"TankDivers$History", "dropOldest", "()V"⟩, 2), (⟨"TankDivers$Game", "stepUp", "(I)I"⟩, 10), (⟨"TankDivers$Game", "stepDown", "(I)I"⟩, 10), (⟨"TankDivers$Odds", "moveUp", "(LTankDivers$Game;)V"⟩, 2), (⟨"TankDivers$Game", "throwDie", "()I"⟩, 10), (⟨"TankDivers$Game", "whyNoDeed", "(II)I"⟩, 10), (⟨"TankDivers$Game", "whyNotTake", "()I"⟩, 10), (⟨"TankDivers$Game", "whyNotLay", "(I)I"⟩, 10), (⟨"TankDivers$Game", "endRound", "()V"⟩, 10), (⟨"TankDivers$Crew", "sinkStacksOf", "(ILTankDivers$Row;I)I"⟩, 9)]
theorem lw_r1 : ∀ q ∈ lw_privs_1, lw_okq q := List.forall_mem_cons.mpr ⟨lw_p0, List.forall_mem_cons.mpr ⟨lw_p1, List.forall_mem_cons.mpr ⟨lw_p2, List.forall_mem_cons.mpr ⟨lw_p3, List.forall_mem_cons.mpr ⟨lw_p4, List.forall_mem_cons.mpr ⟨lw_p5, List.forall_mem_cons.mpr ⟨lw_p6, List.forall_mem_cons.mpr ⟨lw_p7, List.forall_mem_cons.mpr ⟨lw_p8, List.forall_mem_cons.mpr ⟨lw_p9, List.forall_mem_cons.mpr ⟨lw_p10, List.forall_mem_cons.mpr ⟨lw_p11, fun _ h => absurd h List.not_mem_nil⟩⟩⟩⟩⟩⟩⟩⟩⟩⟩⟩⟩
def lw_privs : List (MethodName × Nat) := lw_privs_1
def lw_tbl : List Cond := k2_sels lw_privs ++ tables_1
theorem lw_privs_ok : ∀ q ∈ lw_privs, lw_okq q := lw_r1

def RX0 : String := "TankDivers$Crew"
def TX0 : u_T := fun k => match k with
  | 0 => ("TankDivers$Crew", "places", "LTankDivers$Row;", true)
  | 1 => ("TankDivers$Crew", "goingUp", "LTankDivers$Row;", true)
  | 2 => ("TankDivers$Crew", "home", "LTankDivers$Row;", true)
  | 3 => ("TankDivers$Crew", "held", "LTankDivers$Row;", true)
  | 4 => ("TankDivers$Crew", "piles", "LTankDivers$Row;", true)
  | 5 => ("TankDivers$Crew", "scores", "LTankDivers$Row;", true)
  | 6 => ("TankDivers$Crew", "owned", "LTankDivers$Row;", true)
  | 7 => ("TankDivers$Crew", "drowned", "LTankDivers$Row;", true)
  | _ => ("TankDivers$Crew", "size", "I", false)
def tyX0 : Nat → FieldType := fun k => match k with
  | 0 => .object "TankDivers$Row"
  | 1 => .object "TankDivers$Row"
  | 2 => .object "TankDivers$Row"
  | 3 => .object "TankDivers$Row"
  | 4 => .object "TankDivers$Row"
  | 5 => .object "TankDivers$Row"
  | 6 => .object "TankDivers$Row"
  | 7 => .object "TankDivers$Row"
  | _ => .int
abbrev wsX00 : List Cond := u_ws RX0 TX0 9
theorem nmX0 : ∀ a, a < 9 → ∀ b, b < 9 → a ≠ b → (TX0 a).2.1 ≠ (TX0 b).2.1 := by decide +kernel
theorem tyX0_ok : ∀ k, k < 9 → parseFieldDescriptor (TX0 k).2.2.1 = some (tyX0 k) := by decide +kernel
abbrev cX0_init : ByteArray := prog_2_method_1_code
def yX0_init : MethodName := ⟨RX0, "<init>", "()V"⟩
abbrev cX0_has : ByteArray := prog_2_method_2_code
def yX0_has : MethodName := ⟨RX0, "has", "(I)Z"⟩
abbrev cX0_muster : ByteArray := prog_2_method_3_code
def yX0_muster : MethodName := ⟨RX0, "muster", "(I)V"⟩
abbrev cX0_toShip : ByteArray := prog_2_method_4_code
def yX0_toShip : MethodName := ⟨RX0, "toShip", "()V"⟩
abbrev cX0_propertyOf : ByteArray := prog_2_method_5_code
def yX0_propertyOf : MethodName := ⟨RX0, "propertyOf", "(II)I"⟩
abbrev cX0_cellOf : ByteArray := prog_2_method_6_code
def yX0_cellOf : MethodName := ⟨RX0, "cellOf", "(II)I"⟩
abbrev cX0_pileOf : ByteArray := prog_2_method_7_code
def yX0_pileOf : MethodName := ⟨RX0, "pileOf", "(II)I"⟩
abbrev cX0_addPile : ByteArray := prog_2_method_8_code
def yX0_addPile : MethodName := ⟨RX0, "addPile", "(II)V"⟩
abbrev cX0_removePile : ByteArray := prog_2_method_9_code
def yX0_removePile : MethodName := ⟨RX0, "removePile", "(II)I"⟩
abbrev cX0_treasuresHeldBy : ByteArray := prog_2_method_10_code
def yX0_treasuresHeldBy : MethodName := ⟨RX0, "treasuresHeldBy", "(I)I"⟩
abbrev cX0_valuesHeldBy : ByteArray := prog_2_method_11_code
def yX0_valuesHeldBy : MethodName := ⟨RX0, "valuesHeldBy", "(I)I"⟩
abbrev cX0_heldTreasures : ByteArray := prog_2_method_12_code
def yX0_heldTreasures : MethodName := ⟨RX0, "heldTreasures", "()I"⟩
abbrev cX0_heldValues : ByteArray := prog_2_method_13_code
def yX0_heldValues : MethodName := ⟨RX0, "heldValues", "()I"⟩
abbrev cX0_heldByThoseOut : ByteArray := prog_2_method_14_code
def yX0_heldByThoseOut : MethodName := ⟨RX0, "heldByThoseOut", "()I"⟩
abbrev cX0_ownedValues : ByteArray := prog_2_method_15_code
def yX0_ownedValues : MethodName := ⟨RX0, "ownedValues", "()I"⟩
abbrev cX0_isHome : ByteArray := prog_2_method_16_code
def yX0_isHome : MethodName := ⟨RX0, "isHome", "(I)Z"⟩
abbrev cX0_allHome : ByteArray := prog_2_method_17_code
def yX0_allHome : MethodName := ⟨RX0, "allHome", "()Z"⟩
abbrev cX0_diverAt : ByteArray := prog_2_method_18_code
def yX0_diverAt : MethodName := ⟨RX0, "diverAt", "(I)I"⟩
abbrev cX0_isFreeFor : ByteArray := prog_2_method_19_code
def yX0_isFreeFor : MethodName := ⟨RX0, "isFreeFor", "(II)Z"⟩
abbrev cX0_nextOut : ByteArray := prog_2_method_20_code
def yX0_nextOut : MethodName := ⟨RX0, "nextOut", "(I)I"⟩
abbrev cX0_deepest : ByteArray := prog_2_method_21_code
def yX0_deepest : MethodName := ⟨RX0, "deepest", "()I"⟩
abbrev cX0_best : ByteArray := prog_2_method_22_code
def yX0_best : MethodName := ⟨RX0, "best", "()I"⟩
abbrev cX0_bringStacks : ByteArray := prog_2_method_23_code
def yX0_bringStacks : MethodName := ⟨RX0, "bringStacks", "()V"⟩
abbrev cX0_sinkInto : ByteArray := prog_2_method_24_code
def yX0_sinkInto : MethodName := ⟨RX0, "sinkInto", "(LTankDivers$Row;I)I"⟩
abbrev cX0_sinkStacksOf : ByteArray := prog_2_method_25_code
def yX0_sinkStacksOf : MethodName := ⟨RX0, "sinkStacksOf", "(ILTankDivers$Row;I)I"⟩
abbrev cX0_copyFrom : ByteArray := prog_2_method_26_code
def yX0_copyFrom : MethodName := ⟨RX0, "copyFrom", "(LTankDivers$Crew;)V"⟩
def RX1 : String := "TankDivers$Game"
def TX1 : u_T := fun k => match k with
  | 0 => ("TankDivers$Game", "path", "LTankDivers$Path;", true)
  | 1 => ("TankDivers$Game", "crew", "LTankDivers$Crew;", true)
  | 2 => ("TankDivers$Game", "lost", "LTankDivers$Row;", true)
  | 3 => ("TankDivers$Game", "lot", "I", false)
  | 4 => ("TankDivers$Game", "round", "I", false)
  | 5 => ("TankDivers$Game", "onTurn", "I", false)
  | 6 => ("TankDivers$Game", "deedDue", "Z", false)
  | 7 => ("TankDivers$Game", "tank", "I", false)
  | 8 => ("TankDivers$Game", "shown", "I", false)
  | _ => ("TankDivers$Game", "refused", "I", false)
def tyX1 : Nat → FieldType := fun k => match k with
  | 0 => .object "TankDivers$Path"
  | 1 => .object "TankDivers$Crew"
  | 2 => .object "TankDivers$Row"
  | 3 => .int
  | 4 => .int
  | 5 => .int
  | 6 => .boolean
  | 7 => .int
  | 8 => .int
  | _ => .int
abbrev wsX10 : List Cond := u_ws RX1 TX1 10
theorem nmX1 : ∀ a, a < 10 → ∀ b, b < 10 → a ≠ b → (TX1 a).2.1 ≠ (TX1 b).2.1 := by decide +kernel
theorem tyX1_ok : ∀ k, k < 10 → parseFieldDescriptor (TX1 k).2.2.1 = some (tyX1 k) := by decide +kernel
abbrev cX1_init : ByteArray := prog_3_method_1_code
def yX1_init : MethodName := ⟨RX1, "<init>", "()V"⟩
abbrev cX1_deal : ByteArray := prog_3_method_2_code
def yX1_deal : MethodName := ⟨RX1, "deal", "(II)V"⟩
abbrev cX1_drawLot : ByteArray := prog_3_method_3_code
def yX1_drawLot : MethodName := ⟨RX1, "drawLot", "()V"⟩
abbrev cX1_throwDie : ByteArray := prog_3_method_4_code
def yX1_throwDie : MethodName := ⟨RX1, "throwDie", "()I"⟩
abbrev cX1_isOver : ByteArray := prog_3_method_5_code
def yX1_isOver : MethodName := ⟨RX1, "isOver", "()Z"⟩
abbrev cX1_placeOnTurn : ByteArray := prog_3_method_6_code
def yX1_placeOnTurn : MethodName := ⟨RX1, "placeOnTurn", "()I"⟩
abbrev cX1_allValues : ByteArray := prog_3_method_7_code
def yX1_allValues : MethodName := ⟨RX1, "allValues", "()I"⟩
abbrev cX1_allTreasures : ByteArray := prog_3_method_8_code
def yX1_allTreasures : MethodName := ⟨RX1, "allTreasures", "()I"⟩
abbrev cX1_whyNoMove : ByteArray := prog_3_method_9_code
def yX1_whyNoMove : MethodName := ⟨RX1, "whyNoMove", "(Z)I"⟩
abbrev cX1_goesUp : ByteArray := prog_3_method_10_code
def yX1_goesUp : MethodName := ⟨RX1, "goesUp", "()Z"⟩
abbrev cX1_makeMove : ByteArray := prog_3_method_11_code
def yX1_makeMove : MethodName := ⟨RX1, "makeMove", "(Z)I"⟩
abbrev cX1_landing : ByteArray := prog_3_method_12_code
def yX1_landing : MethodName := ⟨RX1, "landing", "(IZI)I"⟩
abbrev cX1_stepUp : ByteArray := prog_3_method_13_code
def yX1_stepUp : MethodName := ⟨RX1, "stepUp", "(I)I"⟩
abbrev cX1_stepDown : ByteArray := prog_3_method_14_code
def yX1_stepDown : MethodName := ⟨RX1, "stepDown", "(I)I"⟩
abbrev cX1_doDeed : ByteArray := prog_3_method_15_code
def yX1_doDeed : MethodName := ⟨RX1, "doDeed", "(II)I"⟩
abbrev cX1_whyNoDeed : ByteArray := prog_3_method_16_code
def yX1_whyNoDeed : MethodName := ⟨RX1, "whyNoDeed", "(II)I"⟩
abbrev cX1_whyNotTake : ByteArray := prog_3_method_17_code
def yX1_whyNotTake : MethodName := ⟨RX1, "whyNotTake", "()I"⟩
abbrev cX1_whyNotLay : ByteArray := prog_3_method_18_code
def yX1_whyNotLay : MethodName := ⟨RX1, "whyNotLay", "(I)I"⟩
abbrev cX1_endRound : ByteArray := prog_3_method_19_code
def yX1_endRound : MethodName := ⟨RX1, "endRound", "()V"⟩
abbrev cX1_copyFrom : ByteArray := prog_3_method_20_code
def yX1_copyFrom : MethodName := ⟨RX1, "copyFrom", "(LTankDivers$Game;)V"⟩
def RX2 : String := "TankDivers$History"
def TX2 : u_T := fun k => match k with
  | 0 => ("TankDivers$History", "states", "[LTankDivers$Game;", true)
  | _ => ("TankDivers$History", "size", "I", false)
def tyX2 : Nat → FieldType := fun k => match k with
  | 0 => .array (.object "TankDivers$Game")
  | _ => .int
abbrev wsX20 : List Cond := u_ws RX2 TX2 2
theorem nmX2 : ∀ a, a < 2 → ∀ b, b < 2 → a ≠ b → (TX2 a).2.1 ≠ (TX2 b).2.1 := by decide +kernel
theorem tyX2_ok : ∀ k, k < 2 → parseFieldDescriptor (TX2 k).2.2.1 = some (tyX2 k) := by decide +kernel
abbrev cX2_init : ByteArray := prog_4_method_1_code
def yX2_init : MethodName := ⟨RX2, "<init>", "()V"⟩
abbrev cX2_size : ByteArray := prog_4_method_2_code
def yX2_size : MethodName := ⟨RX2, "size", "()I"⟩
abbrev cX2_record : ByteArray := prog_4_method_3_code
def yX2_record : MethodName := ⟨RX2, "record", "(LTankDivers$Game;)V"⟩
abbrev cX2_dropOldest : ByteArray := prog_4_method_4_code
def yX2_dropOldest : MethodName := ⟨RX2, "dropOldest", "()V"⟩
abbrev cX2_takeBack : ByteArray := prog_4_method_5_code
def yX2_takeBack : MethodName := ⟨RX2, "takeBack", "(LTankDivers$Game;)I"⟩
abbrev cX2_stateAt : ByteArray := prog_4_method_6_code
def yX2_stateAt : MethodName := ⟨RX2, "stateAt", "(I)LTankDivers$Game;"⟩
def RX3 : String := "TankDivers$Odds"
def TX3 : u_T := fun k => match k with
  | 0 => ("TankDivers$Odds", "now", "LTankDivers$Row;", true)
  | _ => ("TankDivers$Odds", "next", "LTankDivers$Row;", true)
def tyX3 : Nat → FieldType := fun k => match k with
  | 0 => .object "TankDivers$Row"
  | _ => .object "TankDivers$Row"
abbrev wsX30 : List Cond := u_ws RX3 TX3 2
theorem nmX3 : ∀ a, a < 2 → ∀ b, b < 2 → a ≠ b → (TX3 a).2.1 ≠ (TX3 b).2.1 := by decide +kernel
theorem tyX3_ok : ∀ k, k < 2 → parseFieldDescriptor (TX3 k).2.2.1 = some (tyX3 k) := by decide +kernel
abbrev cX3_init : ByteArray := prog_5_method_1_code
def yX3_init : MethodName := ⟨RX3, "<init>", "()V"⟩
abbrev cX3_byThrows : ByteArray := prog_5_method_2_code
def yX3_byThrows : MethodName := ⟨RX3, "byThrows", "(LTankDivers$Game;IZ)I"⟩
abbrev cX3_bySums : ByteArray := prog_5_method_3_code
def yX3_bySums : MethodName := ⟨RX3, "bySums", "(LTankDivers$Game;IZ)I"⟩
abbrev cX3_throwsShowing : ByteArray := prog_5_method_4_code
def yX3_throwsShowing : MethodName := ⟨RX3, "throwsShowing", "(I)I"⟩
abbrev cX3_home : ByteArray := prog_5_method_5_code
def yX3_home : MethodName := ⟨RX3, "home", "(LTankDivers$Game;I)I"⟩
abbrev cX3_moveUp : ByteArray := prog_5_method_6_code
def yX3_moveUp : MethodName := ⟨RX3, "moveUp", "(LTankDivers$Game;)V"⟩
def RX4 : String := "TankDivers$Pad"
def TX4 : u_T := fun k => match k with
  | 0 => ("TankDivers$Pad", "letters", "LTankDivers$Row;", true)
  | _ => ("TankDivers$Pad", "length", "I", false)
def tyX4 : Nat → FieldType := fun k => match k with
  | 0 => .object "TankDivers$Row"
  | _ => .int
abbrev wsX40 : List Cond := u_ws RX4 TX4 2
theorem nmX4 : ∀ a, a < 2 → ∀ b, b < 2 → a ≠ b → (TX4 a).2.1 ≠ (TX4 b).2.1 := by decide +kernel
theorem tyX4_ok : ∀ k, k < 2 → parseFieldDescriptor (TX4 k).2.2.1 = some (tyX4 k) := by decide +kernel
abbrev cX4_init : ByteArray := prog_6_method_1_code
def yX4_init : MethodName := ⟨RX4, "<init>", "()V"⟩
abbrev cX4_length : ByteArray := prog_6_method_2_code
def yX4_length : MethodName := ⟨RX4, "length", "()I"⟩
abbrev cX4_letterAt : ByteArray := prog_6_method_3_code
def yX4_letterAt : MethodName := ⟨RX4, "letterAt", "(I)I"⟩
abbrev cX4_write : ByteArray := prog_6_method_4_code
def yX4_write : MethodName := ⟨RX4, "write", "(I)I"⟩
abbrev cX4_wipe : ByteArray := prog_6_method_5_code
def yX4_wipe : MethodName := ⟨RX4, "wipe", "()I"⟩
abbrev cX4_firstFault : ByteArray := prog_6_method_6_code
def yX4_firstFault : MethodName := ⟨RX4, "firstFault", "()I"⟩
abbrev cX4_dueBehind : ByteArray := prog_6_method_7_code
def yX4_dueBehind : MethodName := ⟨RX4, "dueBehind", "(II)I"⟩
def RX5 : String := "TankDivers$Path"
def TX5 : u_T := fun k => match k with
  | 0 => ("TankDivers$Path", "piles", "LTankDivers$Row;", true)
  | _ => ("TankDivers$Path", "spaces", "I", false)
def tyX5 : Nat → FieldType := fun k => match k with
  | 0 => .object "TankDivers$Row"
  | _ => .int
abbrev wsX50 : List Cond := u_ws RX5 TX5 2
theorem nmX5 : ∀ a, a < 2 → ∀ b, b < 2 → a ≠ b → (TX5 a).2.1 ≠ (TX5 b).2.1 := by decide +kernel
theorem tyX5_ok : ∀ k, k < 2 → parseFieldDescriptor (TX5 k).2.2.1 = some (tyX5 k) := by decide +kernel
abbrev cX5_init : ByteArray := prog_7_method_1_code
def yX5_init : MethodName := ⟨RX5, "<init>", "()V"⟩
abbrev cX5_pileAt : ByteArray := prog_7_method_2_code
def yX5_pileAt : MethodName := ⟨RX5, "pileAt", "(I)I"⟩
abbrev cX5_setPile : ByteArray := prog_7_method_3_code
def yX5_setPile : MethodName := ⟨RX5, "setPile", "(II)V"⟩
abbrev cX5_addSpace : ByteArray := prog_7_method_4_code
def yX5_addSpace : MethodName := ⟨RX5, "addSpace", "(I)V"⟩
abbrev cX5_blanks : ByteArray := prog_7_method_5_code
def yX5_blanks : MethodName := ⟨RX5, "blanks", "()I"⟩
abbrev cX5_treasures : ByteArray := prog_7_method_6_code
def yX5_treasures : MethodName := ⟨RX5, "treasures", "()I"⟩
abbrev cX5_values : ByteArray := prog_7_method_7_code
def yX5_values : MethodName := ⟨RX5, "values", "()I"⟩
abbrev cX5_closeUp : ByteArray := prog_7_method_8_code
def yX5_closeUp : MethodName := ⟨RX5, "closeUp", "()V"⟩
abbrev cX5_addStacks : ByteArray := prog_7_method_9_code
def yX5_addStacks : MethodName := ⟨RX5, "addStacks", "(LTankDivers$Row;I)V"⟩
abbrev cX5_copyFrom : ByteArray := prog_7_method_10_code
def yX5_copyFrom : MethodName := ⟨RX5, "copyFrom", "(LTankDivers$Path;)V"⟩
def RX6 : String := "TankDivers$Pile"
def TX6 : u_T := fun k => match k with
  | _ => ("", "", "", false)
def tyX6 : Nat → FieldType := fun k => match k with
  | _ => .int
abbrev wsX60 : List Cond := u_ws RX6 TX6 0
theorem nmX6 : ∀ a, a < 0 → ∀ b, b < 0 → a ≠ b → (TX6 a).2.1 ≠ (TX6 b).2.1 := by decide +kernel
theorem tyX6_ok : ∀ k, k < 0 → parseFieldDescriptor (TX6 k).2.2.1 = some (tyX6 k) := by decide +kernel
abbrev cX6_sizeOf : ByteArray := prog_8_method_2_code
def yX6_sizeOf : MethodName := ⟨RX6, "sizeOf", "(I)I"⟩
abbrev cX6_valueAt : ByteArray := prog_8_method_3_code
def yX6_valueAt : MethodName := ⟨RX6, "valueAt", "(II)I"⟩
abbrev cX6_sumOf : ByteArray := prog_8_method_4_code
def yX6_sumOf : MethodName := ⟨RX6, "sumOf", "(I)I"⟩
abbrev cX6_withOnTop : ByteArray := prog_8_method_5_code
def yX6_withOnTop : MethodName := ⟨RX6, "withOnTop", "(II)I"⟩
def RX7 : String := "TankDivers$Row"
def TX7 : u_T := fun k => match k with
  | _ => ("TankDivers$Row", "cells", "[I", true)
def tyX7 : Nat → FieldType := fun k => match k with
  | _ => .array .int
abbrev wsX70 : List Cond := u_ws RX7 TX7 1
theorem nmX7 : ∀ a, a < 1 → ∀ b, b < 1 → a ≠ b → (TX7 a).2.1 ≠ (TX7 b).2.1 := by decide +kernel
theorem tyX7_ok : ∀ k, k < 1 → parseFieldDescriptor (TX7 k).2.2.1 = some (tyX7 k) := by decide +kernel
abbrev cX7_init : ByteArray := prog_9_method_1_code
def yX7_init : MethodName := ⟨RX7, "<init>", "(I)V"⟩
abbrev cX7_get : ByteArray := prog_9_method_2_code
def yX7_get : MethodName := ⟨RX7, "get", "(I)I"⟩
abbrev cX7_set : ByteArray := prog_9_method_3_code
def yX7_set : MethodName := ⟨RX7, "set", "(II)V"⟩
abbrev cX7_add : ByteArray := prog_9_method_4_code
def yX7_add : MethodName := ⟨RX7, "add", "(II)V"⟩
abbrev cX7_sum : ByteArray := prog_9_method_5_code
def yX7_sum : MethodName := ⟨RX7, "sum", "()I"⟩
abbrev cX7_wipe : ByteArray := prog_9_method_6_code
def yX7_wipe : MethodName := ⟨RX7, "wipe", "()V"⟩
abbrev cX7_copyFrom : ByteArray := prog_9_method_7_code
def yX7_copyFrom : MethodName := ⟨RX7, "copyFrom", "(LTankDivers$Row;)V"⟩
def RX8 : String := "TankDivers"
def TX8 : u_T := fun k => match k with
  | 0 => ("TankDivers", "game", "LTankDivers$Game;", true)
  | 1 => ("TankDivers", "snapshot", "LTankDivers$Game;", true)
  | 2 => ("TankDivers", "history", "LTankDivers$History;", true)
  | 3 => ("TankDivers", "pad", "LTankDivers$Pad;", true)
  | 4 => ("TankDivers", "odds", "LTankDivers$Odds;", true)
  | 5 => ("TankDivers", "hasSnapshot", "Z", false)
  | 6 => ("TankDivers", "stopReason", "I", false)
  | _ => ("TankDivers", "stopPosition", "I", false)
def tyX8 : Nat → FieldType := fun k => match k with
  | 0 => .object "TankDivers$Game"
  | 1 => .object "TankDivers$Game"
  | 2 => .object "TankDivers$History"
  | 3 => .object "TankDivers$Pad"
  | 4 => .object "TankDivers$Odds"
  | 5 => .boolean
  | 6 => .int
  | _ => .int
abbrev wsX80 : List Cond := u_ws RX8 TX8 8
theorem nmX8 : ∀ a, a < 8 → ∀ b, b < 8 → a ≠ b → (TX8 a).2.1 ≠ (TX8 b).2.1 := by decide +kernel
theorem tyX8_ok : ∀ k, k < 8 → parseFieldDescriptor (TX8 k).2.2.1 = some (tyX8 k) := by decide +kernel
abbrev cX8_init : ByteArray := prog_1_method_1_code
def yX8_init : MethodName := ⟨RX8, "<init>", "()V"⟩
abbrev cX8_begin : ByteArray := prog_1_method_2_code
def yX8_begin : MethodName := ⟨RX8, "begin", "(II)I"⟩
abbrev cX8_move : ByteArray := prog_1_method_3_code
def yX8_move : MethodName := ⟨RX8, "move", "(Z)I"⟩
abbrev cX8_take : ByteArray := prog_1_method_4_code
def yX8_take : MethodName := ⟨RX8, "take", "()I"⟩
abbrev cX8_lay : ByteArray := prog_1_method_5_code
def yX8_lay : MethodName := ⟨RX8, "lay", "(I)I"⟩
abbrev cX8_nothing : ByteArray := prog_1_method_6_code
def yX8_nothing : MethodName := ⟨RX8, "nothing", "()I"⟩
abbrev cX8_append : ByteArray := prog_1_method_7_code
def yX8_append : MethodName := ⟨RX8, "append", "(I)I"⟩
abbrev cX8_clear : ByteArray := prog_1_method_8_code
def yX8_clear : MethodName := ⟨RX8, "clear", "()I"⟩
abbrev cX8_fault : ByteArray := prog_1_method_9_code
def yX8_fault : MethodName := ⟨RX8, "fault", "()I"⟩
abbrev cX8_play : ByteArray := prog_1_method_10_code
def yX8_play : MethodName := ⟨RX8, "play", "()I"⟩
abbrev cX8_why : ByteArray := prog_1_method_11_code
def yX8_why : MethodName := ⟨RX8, "why", "(I)I"⟩
abbrev cX8_diver : ByteArray := prog_1_method_12_code
def yX8_diver : MethodName := ⟨RX8, "diver", "(II)I"⟩
abbrev cX8_stack : ByteArray := prog_1_method_13_code
def yX8_stack : MethodName := ⟨RX8, "stack", "(III)I"⟩
abbrev cX8_space : ByteArray := prog_1_method_14_code
def yX8_space : MethodName := ⟨RX8, "space", "(II)I"⟩
abbrev cX8_count : ByteArray := prog_1_method_15_code
def yX8_count : MethodName := ⟨RX8, "count", "(I)I"⟩
abbrev cX8_leader : ByteArray := prog_1_method_16_code
def yX8_leader : MethodName := ⟨RX8, "leader", "()I"⟩
abbrev cX8_chances : ByteArray := prog_1_method_17_code
def yX8_chances : MethodName := ⟨RX8, "chances", "(IZI)I"⟩
abbrev cX8_homeward : ByteArray := prog_1_method_18_code
def yX8_homeward : MethodName := ⟨RX8, "homeward", "(I)I"⟩
abbrev cX8_used : ByteArray := prog_1_method_19_code
def yX8_used : MethodName := ⟨RX8, "used", "()I"⟩
abbrev cX8_undo : ByteArray := prog_1_method_21_code
def yX8_undo : MethodName := ⟨RX8, "undo", "()I"⟩
abbrev cX8_save : ByteArray := prog_1_method_22_code
def yX8_save : MethodName := ⟨RX8, "save", "()I"⟩
abbrev cX8_restore : ByteArray := prog_1_method_23_code
def yX8_restore : MethodName := ⟨RX8, "restore", "()I"⟩
def RX9 : String := "TankDiversModel"
def TX9 : u_T := fun k => match k with
  | _ => ("", "", "", false)
def tyX9 : Nat → FieldType := fun k => match k with
  | _ => .int
abbrev wsX90 : List Cond := u_ws RX9 TX9 0
theorem nmX9 : ∀ a, a < 0 → ∀ b, b < 0 → a ≠ b → (TX9 a).2.1 ≠ (TX9 b).2.1 := by decide +kernel
theorem tyX9_ok : ∀ k, k < 0 → parseFieldDescriptor (TX9 k).2.2.1 = some (tyX9 k) := by decide +kernel
def RJ9 : String := "java/lang/Math"
def TJ9 : u_T := fun k => match k with
  | _ => ("", "", "", false)
def tyJ9 : Nat → FieldType := fun k => match k with
  | _ => .int
abbrev wsJ90 : List Cond := u_ws RJ9 TJ9 0
theorem nmJ9 : ∀ a, a < 0 → ∀ b, b < 0 → a ≠ b → (TJ9 a).2.1 ≠ (TJ9 b).2.1 := by decide +kernel
theorem tyJ9_ok : ∀ k, k < 0 → parseFieldDescriptor (TJ9 k).2.2.1 = some (tyJ9 k) := by decide +kernel
abbrev cJ9_abs_0f7a4 : ByteArray := prog_12_method_59_code
def yJ9_abs_0f7a4 : MethodName := ⟨RJ9, "abs", "(I)I"⟩
abbrev cJ9_max_7cf53 : ByteArray := prog_12_method_65_code
def yJ9_max_7cf53 : MethodName := ⟨RJ9, "max", "(II)I"⟩
abbrev cJ9_min_7cf53 : ByteArray := prog_12_method_69_code
def yJ9_min_7cf53 : MethodName := ⟨RJ9, "min", "(II)I"⟩
def RL : String := "TankDiversLaw"
abbrev cL_lot : ByteArray := method_2_code
def yL_lot : MethodName := ⟨RL, "lot", "([II)I"⟩
abbrev cL_low : ByteArray := method_3_code
def yL_low : MethodName := ⟨RL, "low", "(II)I"⟩
abbrev cL_look : ByteArray := method_4_code
def yL_look : MethodName := ⟨RL, "look", "(LTankDivers;)J"⟩
abbrev cL_holds : ByteArray := method_5_code
def yL_holds : MethodName := ⟨RL, "holds", "(LTankDivers;)Z"⟩
abbrev cL_would : ByteArray := method_6_code
def yL_would : MethodName := ⟨RL, "would", "(LTankDivers;I)Z"⟩
abbrev cL_types : ByteArray := method_7_code
def yL_types : MethodName := ⟨RL, "types", "(LTankDivers;I)Z"⟩
abbrev cL_plays : ByteArray := method_8_code
def yL_plays : MethodName := ⟨RL, "plays", "(LTankDivers;I)Z"⟩
abbrev cL_deeds : ByteArray := method_9_code
def yL_deeds : MethodName := ⟨RL, "deeds", "(LTankDivers;II)Z"⟩
abbrev cL_moves : ByteArray := method_10_code
def yL_moves : MethodName := ⟨RL, "moves", "(LTankDivers;I)Z"⟩
abbrev cL_acts : ByteArray := method_11_code
def yL_acts : MethodName := ⟨RL, "acts", "(LTankDivers;II)Z"⟩
abbrev cL_law : ByteArray := code
def yL_law : MethodName := ⟨RL, "law", "([I)Z"⟩

abbrev vwCl : List vw_C := [(RX0, TX0, 9), (RX1, TX1, 10), (RX2, TX2, 2), (RX3, TX3, 2), (RX4, TX4, 2), (RX5, TX5, 2), (RX7, TX7, 1), (RX8, TX8, 8)]
/-! ===== methods by number ===== -/
def oNs : List String := [RX0, RX1, RX2, RX3, RX4, RX5, RX6, RX7, RX8, RX9, RJ9, RL]
def mYs : List MethodName := [yX0_init, yX0_has, yX0_muster, yX0_toShip, yX0_propertyOf, yX0_cellOf, yX0_pileOf, yX0_addPile, yX0_removePile, yX0_treasuresHeldBy, yX0_valuesHeldBy, yX0_heldTreasures, yX0_heldValues, yX0_heldByThoseOut, yX0_ownedValues, yX0_isHome, yX0_allHome, yX0_diverAt, yX0_isFreeFor, yX0_nextOut, yX0_deepest, yX0_best, yX0_bringStacks, yX0_sinkInto, yX0_sinkStacksOf, yX0_copyFrom, yX1_init, yX1_deal, yX1_drawLot, yX1_throwDie, yX1_isOver, yX1_placeOnTurn, yX1_allValues, yX1_allTreasures, yX1_whyNoMove, yX1_goesUp, yX1_makeMove, yX1_landing, yX1_stepUp, yX1_stepDown, yX1_doDeed, yX1_whyNoDeed, yX1_whyNotTake, yX1_whyNotLay, yX1_endRound, yX1_copyFrom, yX2_init, yX2_size, yX2_record, yX2_dropOldest, yX2_takeBack, yX2_stateAt, yX3_init, yX3_byThrows, yX3_bySums, yX3_throwsShowing, yX3_home, yX3_moveUp, yX4_init, yX4_length, yX4_letterAt, yX4_write, yX4_wipe, yX4_firstFault, yX4_dueBehind, yX5_init, yX5_pileAt, yX5_setPile, yX5_addSpace, yX5_blanks, yX5_treasures, yX5_values, yX5_closeUp, yX5_addStacks, yX5_copyFrom, yX6_sizeOf, yX6_valueAt, yX6_sumOf, yX6_withOnTop, yX7_init, yX7_get, yX7_set, yX7_add, yX7_sum, yX7_wipe, yX7_copyFrom, yX8_init, yX8_begin, yX8_move, yX8_take, yX8_lay, yX8_nothing, yX8_append, yX8_clear, yX8_fault, yX8_play, yX8_why, yX8_diver, yX8_stack, yX8_space, yX8_count, yX8_leader, yX8_chances, yX8_homeward, yX8_used, yL_low, yX8_undo, yX8_save, yX8_restore, yL_look, yL_holds, yL_would, yL_types, yL_plays, yL_deeds, yL_moves, yL_acts]
def mBs : List ByteArray := [prog_2_method_1_code, prog_2_method_2_code, prog_2_method_3_code, prog_2_method_4_code, prog_2_method_5_code, prog_2_method_6_code, prog_2_method_7_code, prog_2_method_8_code, prog_2_method_9_code, prog_2_method_10_code, prog_2_method_11_code, prog_2_method_12_code, prog_2_method_13_code, prog_2_method_14_code, prog_2_method_15_code, prog_2_method_16_code, prog_2_method_17_code, prog_2_method_18_code, prog_2_method_19_code, prog_2_method_20_code, prog_2_method_21_code, prog_2_method_22_code, prog_2_method_23_code, prog_2_method_24_code, prog_2_method_25_code, prog_2_method_26_code, prog_3_method_1_code, prog_3_method_2_code, prog_3_method_3_code, prog_3_method_4_code, prog_3_method_5_code, prog_3_method_6_code, prog_3_method_7_code, prog_3_method_8_code, prog_3_method_9_code, prog_3_method_10_code, prog_3_method_11_code, prog_3_method_12_code, prog_3_method_13_code, prog_3_method_14_code, prog_3_method_15_code, prog_3_method_16_code, prog_3_method_17_code, prog_3_method_18_code, prog_3_method_19_code, prog_3_method_20_code, prog_4_method_1_code, prog_4_method_2_code, prog_4_method_3_code, prog_4_method_4_code, prog_4_method_5_code, prog_4_method_6_code, prog_5_method_1_code, prog_5_method_2_code, prog_5_method_3_code, prog_5_method_4_code, prog_5_method_5_code, prog_5_method_6_code, prog_6_method_1_code, prog_6_method_2_code, prog_6_method_3_code, prog_6_method_4_code, prog_6_method_5_code, prog_6_method_6_code, prog_6_method_7_code, prog_7_method_1_code, prog_7_method_2_code, prog_7_method_3_code, prog_7_method_4_code, prog_7_method_5_code, prog_7_method_6_code, prog_7_method_7_code, prog_7_method_8_code, prog_7_method_9_code, prog_7_method_10_code, prog_8_method_2_code, prog_8_method_3_code, prog_8_method_4_code, prog_8_method_5_code, prog_9_method_1_code, prog_9_method_2_code, prog_9_method_3_code, prog_9_method_4_code, prog_9_method_5_code, prog_9_method_6_code, prog_9_method_7_code, prog_1_method_1_code, prog_1_method_2_code, prog_1_method_3_code, prog_1_method_4_code, prog_1_method_5_code, prog_1_method_6_code, prog_1_method_7_code, prog_1_method_8_code, prog_1_method_9_code, prog_1_method_10_code, prog_1_method_11_code, prog_1_method_12_code, prog_1_method_13_code, prog_1_method_14_code, prog_1_method_15_code, prog_1_method_16_code, prog_1_method_17_code, prog_1_method_18_code, prog_1_method_19_code, method_3_code, prog_1_method_21_code, prog_1_method_22_code, prog_1_method_23_code, method_4_code, method_5_code, method_6_code, method_7_code, method_8_code, method_9_code, method_10_code, method_11_code]
def mLs : List Nat := [1, 2, 2, 1, 3, 2, 3, 3, 6, 4, 4, 3, 3, 3, 1, 2, 1, 3, 4, 4, 3, 3, 2, 6, 8, 2, 1, 4, 1, 1, 1, 1, 1, 1, 2, 1, 4, 7, 3, 3, 6, 3, 1, 2, 2, 2, 2, 1, 3, 3, 3, 2, 1, 8, 7, 1, 4, 5, 1, 1, 2, 2, 2, 3, 2, 1, 2, 3, 2, 3, 3, 3, 4, 5, 2, 1, 2, 1, 2, 2, 2, 3, 3, 3, 2, 3, 1, 3, 2, 1, 2, 1, 2, 1, 1, 6, 2, 3, 6, 3, 2, 1, 4, 2, 1, 2, 1, 1, 1, 5, 12, 11, 7, 16, 14, 14, 9]
def mRs : List (Option FieldType) := [none, (some FieldType.boolean), none, none, (some FieldType.int), (some FieldType.int), (some FieldType.int), none, (some FieldType.int), (some FieldType.int), (some FieldType.int), (some FieldType.int), (some FieldType.int), (some FieldType.int), (some FieldType.int), (some FieldType.boolean), (some FieldType.boolean), (some FieldType.int), (some FieldType.boolean), (some FieldType.int), (some FieldType.int), (some FieldType.int), none, (some FieldType.int), (some FieldType.int), none, none, none, none, (some FieldType.int), (some FieldType.boolean), (some FieldType.int), (some FieldType.int), (some FieldType.int), (some FieldType.int), (some FieldType.boolean), (some FieldType.int), (some FieldType.int), (some FieldType.int), (some FieldType.int), (some FieldType.int), (some FieldType.int), (some FieldType.int), (some FieldType.int), none, none, none, (some FieldType.int), none, none, (some FieldType.int), (some (FieldType.object "TankDivers$Game")), none, (some FieldType.int), (some FieldType.int), (some FieldType.int), (some FieldType.int), none, none, (some FieldType.int), (some FieldType.int), (some FieldType.int), (some FieldType.int), (some FieldType.int), (some FieldType.int), none, (some FieldType.int), none, none, (some FieldType.int), (some FieldType.int), (some FieldType.int), none, none, none, (some FieldType.int), (some FieldType.int), (some FieldType.int), (some FieldType.int), none, (some FieldType.int), none, none, (some FieldType.int), none, none, none, (some FieldType.int), (some FieldType.int), (some FieldType.int), (some FieldType.int), (some FieldType.int), (some FieldType.int), (some FieldType.int), (some FieldType.int), (some FieldType.int), (some FieldType.int), (some FieldType.int), (some FieldType.int), (some FieldType.int), (some FieldType.int), (some FieldType.int), (some FieldType.int), (some FieldType.int), (some FieldType.int), (some FieldType.int), (some FieldType.int), (some FieldType.int), (some FieldType.int), (some FieldType.long), (some FieldType.boolean), (some FieldType.boolean), (some FieldType.boolean), (some FieldType.boolean), (some FieldType.boolean), (some FieldType.boolean), (some FieldType.boolean)]
def mNs : List Nat := [1, 2, 2, 1, 3, 2, 3, 3, 3, 2, 2, 1, 1, 1, 1, 2, 1, 2, 3, 2, 1, 1, 1, 3, 4, 2, 1, 3, 1, 1, 1, 1, 1, 1, 2, 1, 2, 4, 2, 2, 3, 3, 1, 2, 1, 2, 1, 1, 2, 1, 2, 2, 1, 4, 4, 1, 3, 2, 1, 1, 2, 2, 1, 1, 2, 1, 2, 3, 2, 1, 1, 1, 1, 3, 2, 1, 2, 1, 2, 2, 2, 3, 3, 1, 1, 2, 1, 3, 2, 1, 2, 1, 2, 1, 1, 1, 2, 3, 4, 3, 2, 1, 4, 2, 1, 2, 1, 1, 1, 1, 1, 2, 2, 2, 3, 2, 3]
def mSs : List Bool := [false, false, false, false, false, true, false, false, false, false, false, false, false, false, false, false, false, false, false, false, false, false, false, false, false, false, false, false, false, false, false, false, false, false, false, false, false, false, false, false, false, false, false, false, false, false, false, false, false, false, false, false, false, false, false, true, false, false, false, false, false, false, false, false, true, false, false, false, false, false, false, false, false, false, false, true, true, true, true, false, false, false, false, false, false, false, false, false, false, false, false, false, false, false, false, false, false, false, false, false, false, false, false, false, false, true, false, false, false, true, true, true, true, true, true, true, true]
def mOs : List Nat := [0, 0, 0, 0, 0, 0, 0, 0, 0, 0, 0, 0, 0, 0, 0, 0, 0, 0, 0, 0, 0, 0, 0, 0, 0, 0, 1, 1, 1, 1, 1, 1, 1, 1, 1, 1, 1, 1, 1, 1, 1, 1, 1, 1, 1, 1, 2, 2, 2, 2, 2, 2, 3, 3, 3, 3, 3, 3, 4, 4, 4, 4, 4, 4, 4, 5, 5, 5, 5, 5, 5, 5, 5, 5, 5, 6, 6, 6, 6, 7, 7, 7, 7, 7, 7, 7, 8, 8, 8, 8, 8, 8, 8, 8, 8, 8, 8, 8, 8, 8, 8, 8, 8, 8, 8, 11, 8, 8, 8, 11, 11, 11, 11, 11, 11, 11, 11]
def mDs : List Nat := [2, 0, 2, 1, 3, 0, 1, 2, 2, 1, 2, 2, 3, 2, 1, 1, 1, 1, 1, 2, 1, 1, 3, 2, 1, 2, 3, 3, 0, 1, 0, 1, 4, 3, 2, 1, 4, 3, 2, 2, 5, 3, 2, 2, 4, 3, 4, 0, 4, 1, 4, 0, 2, 4, 4, 1, 5, 4, 2, 0, 1, 1, 0, 1, 0, 2, 1, 1, 1, 1, 1, 2, 2, 2, 2, 0, 0, 1, 1, 1, 0, 0, 1, 0, 0, 1, 5, 5, 5, 6, 6, 6, 2, 1, 2, 6, 0, 4, 2, 2, 4, 2, 5, 6, 3, 0, 5, 4, 5, 5, 5, 7, 3, 7, 7, 6, 8]
def mWs : List Nat := [42, 0, 41, 21, 64, 0, 21, 44, 43, 21, 41, 44, 64, 42, 22, 21, 22, 21, 21, 42, 21, 21, 64, 49, 22, 43, 62, 62, 0, 20, 0, 21, 86, 66, 41, 21, 92, 66, 44, 44, 106, 63, 42, 42, 85, 64, 82, 0, 85, 21, 85, 0, 42, 92, 92, 21, 116, 92, 42, 0, 21, 22, 0, 21, 0, 42, 21, 22, 22, 21, 21, 41, 43, 43, 43, 0, 0, 21, 20, 21, 0, 0, 22, 0, 0, 21, 103, 107, 115, 131, 131, 131, 43, 21, 43, 131, 0, 86, 43, 43, 86, 43, 119, 139, 64, 0, 107, 85, 107, 108, 108, 160, 64, 156, 152, 136, 191]
def mPs : List (Nat × Nat × Nat × Nat) := [(71, 70, 0, 18), (413, 411, 412, 18), (224, 222, 223, 18), (232, 230, 231, 18), (417, 415, 416, 18), (295, 294, 0, 18), (426, 424, 425, 18), (578, 576, 577, 18), (588, 586, 587, 18), (321, 319, 320, 18), (291, 289, 290, 18), (317, 315, 316, 18), (287, 285, 286, 18), (446, 444, 445, 18), (300, 298, 299, 18), (450, 448, 449, 18), (593, 591, 592, 18), (405, 403, 404, 18), (489, 487, 488, 18), (629, 627, 628, 18), (624, 622, 623, 18), (438, 436, 437, 18), (610, 608, 609, 18), (601, 599, 600, 18), (605, 604, 11, 18), (360, 358, 359, 18), (35, 34, 0, 14), (202, 200, 201, 14), (206, 205, 0, 14), (549, 548, 6, 14), (265, 263, 264, 14), (471, 469, 470, 14), (692, 690, 691, 14), (308, 306, 307, 14), (461, 459, 460, 14), (466, 464, 465, 14), (540, 538, 539, 14), (481, 479, 480, 14), (485, 484, 3, 14), (493, 492, 4, 14), (561, 559, 560, 14), (565, 564, 7, 14), (569, 568, 8, 14), (574, 573, 9, 14), (597, 596, 10, 14), (347, 345, 346, 14), (157, 156, 0, 19), (331, 329, 330, 19), (374, 372, 373, 19), (378, 377, 2, 19), (339, 337, 338, 19), (343, 342, 1, 19), (188, 187, 0, 21), (475, 473, 474, 21), (497, 495, 496, 21), (500, 499, 0, 21), (512, 510, 511, 21), (518, 517, 5, 21), (173, 172, 0, 20), (327, 325, 326, 20), (684, 682, 683, 20), (663, 661, 662, 20), (655, 653, 654, 20), (672, 670, 671, 20), (676, 675, 0, 20), (41, 40, 0, 15), (399, 397, 398, 15), (584, 582, 583, 15), (216, 214, 215, 15), (269, 267, 268, 15), (312, 310, 311, 15), (277, 275, 276, 15), (614, 612, 613, 15), (619, 617, 618, 15), (351, 349, 350, 15), (212, 211, 0, 22), (283, 282, 0, 22), (280, 279, 0, 22), (209, 208, 0, 22), (47, 46, 0, 16), (273, 271, 272, 16), (220, 218, 219, 16), (523, 521, 522, 16), (304, 302, 303, 16), (228, 226, 227, 16), (355, 353, 354, 16), (27, 26, 0, 13), (688, 686, 687, 13), (536, 534, 535, 13), (557, 555, 556, 13), (633, 631, 632, 13), (637, 635, 636, 13), (659, 657, 658, 13), (651, 649, 650, 13), (668, 666, 667, 13), (680, 678, 679, 13), (644, 642, 643, 13), (409, 407, 408, 13), (421, 419, 420, 13), (395, 393, 394, 13), (261, 259, 260, 13), (434, 432, 433, 13), (457, 455, 456, 13), (507, 505, 506, 13), (442, 440, 441, 13), (385, 384, 0, 12), (335, 333, 334, 13), (365, 363, 364, 13), (370, 368, 369, 13), (389, 388, 0, 12), (430, 429, 0, 12), (453, 452, 0, 12), (647, 646, 0, 12), (640, 639, 0, 12), (553, 552, 0, 12), (532, 531, 0, 12), (529, 528, 0, 12)]
/-! ===== code: pc, instruction, length, and what its link says: (a, b, place of its word) ===== -/
abbrev AE : Type := Nat × Instr × Nat × Nat × Nat × Nat
/-- TankDivers$Crew.<init>()V -/
def q0 : List AE := [(0, .aload_n 0, 1, 0, 0, 0), (1, .invokespecial 3, 3, 999, 0, 72), (4, .aload_n 0, 1, 0, 0, 0), (5, .new 9, 3, 6, 0, 73), (8, .dup, 1, 0, 0, 0), (9, .iconst 4, 1, 0, 0, 0), (10, .invokespecial 11, 3, 79, 0, 74), (13, .putfield 14, 3, 0, 0, 75), (16, .aload_n 0, 1, 0, 0, 0), (17, .new 9, 3, 6, 0, 73), (20, .dup, 1, 0, 0, 0), (21, .iconst 4, 1, 0, 0, 0), (22, .invokespecial 11, 3, 79, 0, 74), (25, .putfield 20, 3, 0, 1, 77), (28, .aload_n 0, 1, 0, 0, 0), (29, .new 9, 3, 6, 0, 73), (32, .dup, 1, 0, 0, 0), (33, .iconst 4, 1, 0, 0, 0), (34, .invokespecial 11, 3, 79, 0, 74), (37, .putfield 23, 3, 0, 2, 79), (40, .aload_n 0, 1, 0, 0, 0), (41, .new 9, 3, 6, 0, 73), (44, .dup, 1, 0, 0, 0), (45, .iconst 4, 1, 0, 0, 0), (46, .invokespecial 11, 3, 79, 0, 74), (49, .putfield 26, 3, 0, 3, 81), (52, .aload_n 0, 1, 0, 0, 0), (53, .new 9, 3, 6, 0, 73), (56, .dup, 1, 0, 0, 0), (57, .bipush 24, 2, 0, 0, 0), (59, .invokespecial 11, 3, 79, 0, 74), (62, .putfield 29, 3, 0, 4, 84), (65, .aload_n 0, 1, 0, 0, 0), (66, .new 9, 3, 6, 0, 73), (69, .dup, 1, 0, 0, 0), (70, .iconst 4, 1, 0, 0, 0), (71, .invokespecial 11, 3, 79, 0, 74), (74, .putfield 32, 3, 0, 5, 85), (77, .aload_n 0, 1, 0, 0, 0), (78, .new 9, 3, 6, 0, 73), (81, .dup, 1, 0, 0, 0), (82, .iconst 4, 1, 0, 0, 0), (83, .invokespecial 11, 3, 79, 0, 74), (86, .putfield 35, 3, 0, 6, 86), (89, .aload_n 0, 1, 0, 0, 0), (90, .new 9, 3, 6, 0, 73), (93, .dup, 1, 0, 0, 0), (94, .iconst 4, 1, 0, 0, 0), (95, .invokespecial 11, 3, 79, 0, 74), (98, .putfield 38, 3, 0, 7, 88), (101, .return_, 1, 0, 0, 0)]
/-- TankDivers$Crew.has(I)Z -/
def q1 : List AE := [(0, .iload_n 1, 1, 0, 0, 0), (1, .ifCond .lt 15, 3, 0, 0, 0), (4, .iload_n 1, 1, 0, 0, 0), (5, .aload_n 0, 1, 0, 0, 0), (6, .getfield 41, 3, 0, 8, 89), (9, .if_icmp .ge 7, 3, 0, 0, 0), (12, .iconst 1, 1, 0, 0, 0), (13, .goto 4, 3, 0, 0, 0), (16, .iconst 0, 1, 0, 0, 0), (17, .ireturn, 1, 0, 0, 0)]
/-- TankDivers$Crew.muster(I)V -/
def q2 : List AE := [(0, .aload_n 0, 1, 0, 0, 0), (1, .iload_n 1, 1, 0, 0, 0), (2, .putfield 41, 3, 0, 8, 89), (5, .aload_n 0, 1, 0, 0, 0), (6, .getfield 32, 3, 0, 5, 85), (9, .invokevirtual 45, 3, 84, 0, 225), (12, .aload_n 0, 1, 0, 0, 0), (13, .getfield 35, 3, 0, 6, 86), (16, .invokevirtual 45, 3, 84, 0, 225), (19, .aload_n 0, 1, 0, 0, 0), (20, .getfield 38, 3, 0, 7, 88), (23, .invokevirtual 45, 3, 84, 0, 225), (26, .aload_n 0, 1, 0, 0, 0), (27, .invokevirtual 48, 3, 3, 0, 229), (30, .return_, 1, 0, 0, 0)]
/-- TankDivers$Crew.toShip()V -/
def q3 : List AE := [(0, .aload_n 0, 1, 0, 0, 0), (1, .getfield 14, 3, 0, 0, 75), (4, .invokevirtual 45, 3, 84, 0, 225), (7, .aload_n 0, 1, 0, 0, 0), (8, .getfield 20, 3, 0, 1, 77), (11, .invokevirtual 45, 3, 84, 0, 225), (14, .aload_n 0, 1, 0, 0, 0), (15, .getfield 23, 3, 0, 2, 79), (18, .invokevirtual 45, 3, 84, 0, 225), (21, .aload_n 0, 1, 0, 0, 0), (22, .getfield 26, 3, 0, 3, 81), (25, .invokevirtual 45, 3, 84, 0, 225), (28, .return_, 1, 0, 0, 0)]
/-- TankDivers$Crew.propertyOf(II)I -/
def q4 : List AE := [(0, .iload_n 2, 1, 0, 0, 0), (1, .tableswitch 126 0 8 #[51, 60, 69, 78, 87, 93, 99, 108, 117], 51, 0, 0, 0), (52, .aload_n 0, 1, 0, 0, 0), (53, .getfield 14, 3, 0, 0, 75), (56, .iload_n 1, 1, 0, 0, 0), (57, .invokevirtual 51, 3, 80, 0, 292), (60, .ireturn, 1, 0, 0, 0), (61, .aload_n 0, 1, 0, 0, 0), (62, .getfield 20, 3, 0, 1, 77), (65, .iload_n 1, 1, 0, 0, 0), (66, .invokevirtual 51, 3, 80, 0, 292), (69, .ireturn, 1, 0, 0, 0), (70, .aload_n 0, 1, 0, 0, 0), (71, .getfield 23, 3, 0, 2, 79), (74, .iload_n 1, 1, 0, 0, 0), (75, .invokevirtual 51, 3, 80, 0, 292), (78, .ireturn, 1, 0, 0, 0), (79, .aload_n 0, 1, 0, 0, 0), (80, .getfield 26, 3, 0, 3, 81), (83, .iload_n 1, 1, 0, 0, 0), (84, .invokevirtual 51, 3, 80, 0, 292), (87, .ireturn, 1, 0, 0, 0), (88, .aload_n 0, 1, 0, 0, 0), (89, .iload_n 1, 1, 0, 0, 0), (90, .invokevirtual 55, 3, 9, 0, 318), (93, .ireturn, 1, 0, 0, 0), (94, .aload_n 0, 1, 0, 0, 0), (95, .iload_n 1, 1, 0, 0, 0), (96, .invokevirtual 58, 3, 10, 0, 288), (99, .ireturn, 1, 0, 0, 0), (100, .aload_n 0, 1, 0, 0, 0), (101, .getfield 32, 3, 0, 5, 85), (104, .iload_n 1, 1, 0, 0, 0), (105, .invokevirtual 51, 3, 80, 0, 292), (108, .ireturn, 1, 0, 0, 0), (109, .aload_n 0, 1, 0, 0, 0), (110, .getfield 35, 3, 0, 6, 86), (113, .iload_n 1, 1, 0, 0, 0), (114, .invokevirtual 51, 3, 80, 0, 292), (117, .ireturn, 1, 0, 0, 0), (118, .aload_n 0, 1, 0, 0, 0), (119, .getfield 38, 3, 0, 7, 88), (122, .iload_n 1, 1, 0, 0, 0), (123, .invokevirtual 51, 3, 80, 0, 292), (126, .ireturn, 1, 0, 0, 0), (127, .iconst (-1), 1, 0, 0, 0), (128, .ireturn, 1, 0, 0, 0)]
/-- TankDivers$Crew.cellOf(II)I -/
def q5 : List AE := [(0, .iload_n 0, 1, 0, 0, 0), (1, .bipush 6, 2, 0, 0, 0), (3, .imul, 1, 0, 0, 0), (4, .iload_n 1, 1, 0, 0, 0), (5, .iadd, 1, 0, 0, 0), (6, .ireturn, 1, 0, 0, 0)]
/-- TankDivers$Crew.pileOf(II)I -/
def q6 : List AE := [(0, .aload_n 0, 1, 0, 0, 0), (1, .getfield 29, 3, 0, 4, 84), (4, .iload_n 1, 1, 0, 0, 0), (5, .iload_n 2, 1, 0, 0, 0), (6, .invokestatic 61, 3, 5, 0, 293), (9, .invokevirtual 51, 3, 80, 0, 292), (12, .ireturn, 1, 0, 0, 0)]
/-- TankDivers$Crew.addPile(II)V -/
def q7 : List AE := [(0, .aload_n 0, 1, 0, 0, 0), (1, .getfield 29, 3, 0, 4, 84), (4, .iload_n 1, 1, 0, 0, 0), (5, .aload_n 0, 1, 0, 0, 0), (6, .getfield 26, 3, 0, 3, 81), (9, .iload_n 1, 1, 0, 0, 0), (10, .invokevirtual 51, 3, 80, 0, 292), (13, .invokestatic 61, 3, 5, 0, 293), (16, .iload_n 2, 1, 0, 0, 0), (17, .invokevirtual 65, 3, 81, 0, 579), (20, .aload_n 0, 1, 0, 0, 0), (21, .getfield 26, 3, 0, 3, 81), (24, .iload_n 1, 1, 0, 0, 0), (25, .iconst 1, 1, 0, 0, 0), (26, .invokevirtual 69, 3, 82, 0, 580), (29, .return_, 1, 0, 0, 0)]
/-- TankDivers$Crew.removePile(II)I -/
def q8 : List AE := [(0, .aload_n 0, 1, 0, 0, 0), (1, .iload_n 1, 1, 0, 0, 0), (2, .iload_n 2, 1, 0, 0, 0), (3, .invokevirtual 72, 3, 6, 0, 589), (6, .istore_n 3, 1, 0, 0, 0), (7, .aload_n 0, 1, 0, 0, 0), (8, .getfield 26, 3, 0, 3, 81), (11, .iload_n 1, 1, 0, 0, 0), (12, .invokevirtual 51, 3, 80, 0, 292), (15, .iconst 1, 1, 0, 0, 0), (16, .isub, 1, 0, 0, 0), (17, .istore 4, 2, 0, 0, 0), (19, .iload_n 2, 1, 0, 0, 0), (20, .istore 5, 2, 0, 0, 0), (22, .iload 5, 2, 0, 0, 0), (24, .iload 4, 2, 0, 0, 0), (26, .if_icmp .ge 37, 3, 0, 0, 0), (29, .aload_n 0, 1, 0, 0, 0), (30, .getfield 29, 3, 0, 4, 84), (33, .iload_n 1, 1, 0, 0, 0), (34, .iload 5, 2, 0, 0, 0), (36, .invokestatic 61, 3, 5, 0, 293), (39, .aload_n 0, 1, 0, 0, 0), (40, .getfield 29, 3, 0, 4, 84), (43, .iload_n 1, 1, 0, 0, 0), (44, .iload 5, 2, 0, 0, 0), (46, .iconst 1, 1, 0, 0, 0), (47, .iadd, 1, 0, 0, 0), (48, .invokestatic 61, 3, 5, 0, 293), (51, .invokevirtual 51, 3, 80, 0, 292), (54, .invokevirtual 65, 3, 81, 0, 579), (57, .iinc 5 1, 3, 0, 0, 0), (60, .goto (-38), 3, 0, 0, 0), (63, .aload_n 0, 1, 0, 0, 0), (64, .getfield 26, 3, 0, 3, 81), (67, .iload_n 1, 1, 0, 0, 0), (68, .iload 4, 2, 0, 0, 0), (70, .invokevirtual 65, 3, 81, 0, 579), (73, .iload_n 3, 1, 0, 0, 0), (74, .ireturn, 1, 0, 0, 0)]
/-- TankDivers$Crew.treasuresHeldBy(I)I -/
def q9 : List AE := [(0, .iconst 0, 1, 0, 0, 0), (1, .istore_n 2, 1, 0, 0, 0), (2, .iconst 0, 1, 0, 0, 0), (3, .istore_n 3, 1, 0, 0, 0), (4, .iload_n 3, 1, 0, 0, 0), (5, .aload_n 0, 1, 0, 0, 0), (6, .getfield 26, 3, 0, 3, 81), (9, .iload_n 1, 1, 0, 0, 0), (10, .invokevirtual 51, 3, 80, 0, 292), (13, .if_icmp .ge 27, 3, 0, 0, 0), (16, .iload_n 2, 1, 0, 0, 0), (17, .aload_n 0, 1, 0, 0, 0), (18, .getfield 29, 3, 0, 4, 84), (21, .iload_n 1, 1, 0, 0, 0), (22, .iload_n 3, 1, 0, 0, 0), (23, .invokestatic 61, 3, 5, 0, 293), (26, .invokevirtual 51, 3, 80, 0, 292), (29, .invokestatic 75, 3, 75, 0, 322), (32, .iadd, 1, 0, 0, 0), (33, .istore_n 2, 1, 0, 0, 0), (34, .iinc 3 1, 3, 0, 0, 0), (37, .goto (-33), 3, 0, 0, 0), (40, .iload_n 2, 1, 0, 0, 0), (41, .ireturn, 1, 0, 0, 0)]
/-- TankDivers$Crew.valuesHeldBy(I)I -/
def q10 : List AE := [(0, .iconst 0, 1, 0, 0, 0), (1, .istore_n 2, 1, 0, 0, 0), (2, .iconst 0, 1, 0, 0, 0), (3, .istore_n 3, 1, 0, 0, 0), (4, .iload_n 3, 1, 0, 0, 0), (5, .aload_n 0, 1, 0, 0, 0), (6, .getfield 26, 3, 0, 3, 81), (9, .iload_n 1, 1, 0, 0, 0), (10, .invokevirtual 51, 3, 80, 0, 292), (13, .if_icmp .ge 27, 3, 0, 0, 0), (16, .iload_n 2, 1, 0, 0, 0), (17, .aload_n 0, 1, 0, 0, 0), (18, .getfield 29, 3, 0, 4, 84), (21, .iload_n 1, 1, 0, 0, 0), (22, .iload_n 3, 1, 0, 0, 0), (23, .invokestatic 61, 3, 5, 0, 293), (26, .invokevirtual 51, 3, 80, 0, 292), (29, .invokestatic 80, 3, 77, 0, 296), (32, .iadd, 1, 0, 0, 0), (33, .istore_n 2, 1, 0, 0, 0), (34, .iinc 3 1, 3, 0, 0, 0), (37, .goto (-33), 3, 0, 0, 0), (40, .iload_n 2, 1, 0, 0, 0), (41, .ireturn, 1, 0, 0, 0)]
/-- TankDivers$Crew.heldTreasures()I -/
def q11 : List AE := [(0, .iconst 0, 1, 0, 0, 0), (1, .istore_n 1, 1, 0, 0, 0), (2, .iconst 0, 1, 0, 0, 0), (3, .istore_n 2, 1, 0, 0, 0), (4, .iload_n 2, 1, 0, 0, 0), (5, .aload_n 0, 1, 0, 0, 0), (6, .getfield 41, 3, 0, 8, 89), (9, .if_icmp .ge 17, 3, 0, 0, 0), (12, .iload_n 1, 1, 0, 0, 0), (13, .aload_n 0, 1, 0, 0, 0), (14, .iload_n 2, 1, 0, 0, 0), (15, .invokevirtual 55, 3, 9, 0, 318), (18, .iadd, 1, 0, 0, 0), (19, .istore_n 1, 1, 0, 0, 0), (20, .iinc 2 1, 3, 0, 0, 0), (23, .goto (-19), 3, 0, 0, 0), (26, .iload_n 1, 1, 0, 0, 0), (27, .ireturn, 1, 0, 0, 0)]
/-- TankDivers$Crew.heldValues()I -/
def q12 : List AE := [(0, .iconst 0, 1, 0, 0, 0), (1, .istore_n 1, 1, 0, 0, 0), (2, .iconst 0, 1, 0, 0, 0), (3, .istore_n 2, 1, 0, 0, 0), (4, .iload_n 2, 1, 0, 0, 0), (5, .aload_n 0, 1, 0, 0, 0), (6, .getfield 41, 3, 0, 8, 89), (9, .if_icmp .ge 17, 3, 0, 0, 0), (12, .iload_n 1, 1, 0, 0, 0), (13, .aload_n 0, 1, 0, 0, 0), (14, .iload_n 2, 1, 0, 0, 0), (15, .invokevirtual 58, 3, 10, 0, 288), (18, .iadd, 1, 0, 0, 0), (19, .istore_n 1, 1, 0, 0, 0), (20, .iinc 2 1, 3, 0, 0, 0), (23, .goto (-19), 3, 0, 0, 0), (26, .iload_n 1, 1, 0, 0, 0), (27, .ireturn, 1, 0, 0, 0)]
/-- TankDivers$Crew.heldByThoseOut()I -/
def q13 : List AE := [(0, .iconst 0, 1, 0, 0, 0), (1, .istore_n 1, 1, 0, 0, 0), (2, .iconst 0, 1, 0, 0, 0), (3, .istore_n 2, 1, 0, 0, 0), (4, .iload_n 2, 1, 0, 0, 0), (5, .aload_n 0, 1, 0, 0, 0), (6, .getfield 41, 3, 0, 8, 89), (9, .if_icmp .ge 32, 3, 0, 0, 0), (12, .iload_n 1, 1, 0, 0, 0), (13, .aload_n 0, 1, 0, 0, 0), (14, .iload_n 2, 1, 0, 0, 0), (15, .invokevirtual 83, 3, 15, 0, 447), (18, .ifCond .eq 7, 3, 0, 0, 0), (21, .iconst 0, 1, 0, 0, 0), (22, .goto 11, 3, 0, 0, 0), (25, .aload_n 0, 1, 0, 0, 0), (26, .getfield 26, 3, 0, 3, 81), (29, .iload_n 2, 1, 0, 0, 0), (30, .invokevirtual 51, 3, 80, 0, 292), (33, .iadd, 1, 0, 0, 0), (34, .istore_n 1, 1, 0, 0, 0), (35, .iinc 2 1, 3, 0, 0, 0), (38, .goto (-34), 3, 0, 0, 0), (41, .iload_n 1, 1, 0, 0, 0), (42, .ireturn, 1, 0, 0, 0)]
/-- TankDivers$Crew.ownedValues()I -/
def q14 : List AE := [(0, .aload_n 0, 1, 0, 0, 0), (1, .getfield 32, 3, 0, 5, 85), (4, .invokevirtual 87, 3, 83, 0, 301), (7, .ireturn, 1, 0, 0, 0)]
/-- TankDivers$Crew.isHome(I)Z -/
def q15 : List AE := [(0, .aload_n 0, 1, 0, 0, 0), (1, .getfield 23, 3, 0, 2, 79), (4, .iload_n 1, 1, 0, 0, 0), (5, .invokevirtual 51, 3, 80, 0, 292), (8, .iconst 1, 1, 0, 0, 0), (9, .if_icmp .ne 7, 3, 0, 0, 0), (12, .iconst 1, 1, 0, 0, 0), (13, .goto 4, 3, 0, 0, 0), (16, .iconst 0, 1, 0, 0, 0), (17, .ireturn, 1, 0, 0, 0)]
/-- TankDivers$Crew.allHome()Z -/
def q16 : List AE := [(0, .aload_n 0, 1, 0, 0, 0), (1, .getfield 23, 3, 0, 2, 79), (4, .invokevirtual 87, 3, 83, 0, 301), (7, .aload_n 0, 1, 0, 0, 0), (8, .getfield 41, 3, 0, 8, 89), (11, .if_icmp .ne 7, 3, 0, 0, 0), (14, .iconst 1, 1, 0, 0, 0), (15, .goto 4, 3, 0, 0, 0), (18, .iconst 0, 1, 0, 0, 0), (19, .ireturn, 1, 0, 0, 0)]
/-- TankDivers$Crew.diverAt(I)I -/
def q17 : List AE := [(0, .iconst 0, 1, 0, 0, 0), (1, .istore_n 2, 1, 0, 0, 0), (2, .iload_n 2, 1, 0, 0, 0), (3, .aload_n 0, 1, 0, 0, 0), (4, .getfield 41, 3, 0, 8, 89), (7, .if_icmp .ge 23, 3, 0, 0, 0), (10, .aload_n 0, 1, 0, 0, 0), (11, .getfield 14, 3, 0, 0, 75), (14, .iload_n 2, 1, 0, 0, 0), (15, .invokevirtual 51, 3, 80, 0, 292), (18, .iload_n 1, 1, 0, 0, 0), (19, .if_icmp .ne 5, 3, 0, 0, 0), (22, .iload_n 2, 1, 0, 0, 0), (23, .ireturn, 1, 0, 0, 0), (24, .iinc 2 1, 3, 0, 0, 0), (27, .goto (-25), 3, 0, 0, 0), (30, .bipush (-4), 2, 0, 0, 0), (32, .ireturn, 1, 0, 0, 0)]
/-- TankDivers$Crew.isFreeFor(II)Z -/
def q18 : List AE := [(0, .iconst 0, 1, 0, 0, 0), (1, .istore_n 3, 1, 0, 0, 0), (2, .iload_n 3, 1, 0, 0, 0), (3, .aload_n 0, 1, 0, 0, 0), (4, .getfield 41, 3, 0, 8, 89), (7, .if_icmp .ge 28, 3, 0, 0, 0), (10, .iload_n 3, 1, 0, 0, 0), (11, .iload_n 1, 1, 0, 0, 0), (12, .if_icmp .eq 17, 3, 0, 0, 0), (15, .aload_n 0, 1, 0, 0, 0), (16, .getfield 14, 3, 0, 0, 75), (19, .iload_n 3, 1, 0, 0, 0), (20, .invokevirtual 51, 3, 80, 0, 292), (23, .iload_n 2, 1, 0, 0, 0), (24, .if_icmp .ne 5, 3, 0, 0, 0), (27, .iconst 0, 1, 0, 0, 0), (28, .ireturn, 1, 0, 0, 0), (29, .iinc 3 1, 3, 0, 0, 0), (32, .goto (-30), 3, 0, 0, 0), (35, .iconst 1, 1, 0, 0, 0), (36, .ireturn, 1, 0, 0, 0)]
/-- TankDivers$Crew.nextOut(I)I -/
def q19 : List AE := [(0, .iload_n 1, 1, 0, 0, 0), (1, .istore_n 2, 1, 0, 0, 0), (2, .iconst 0, 1, 0, 0, 0), (3, .istore_n 3, 1, 0, 0, 0), (4, .iload_n 3, 1, 0, 0, 0), (5, .aload_n 0, 1, 0, 0, 0), (6, .getfield 41, 3, 0, 8, 89), (9, .if_icmp .ge 37, 3, 0, 0, 0), (12, .iload_n 2, 1, 0, 0, 0), (13, .iconst 1, 1, 0, 0, 0), (14, .iadd, 1, 0, 0, 0), (15, .aload_n 0, 1, 0, 0, 0), (16, .getfield 41, 3, 0, 8, 89), (19, .if_icmp .ge 9, 3, 0, 0, 0), (22, .iload_n 2, 1, 0, 0, 0), (23, .iconst 1, 1, 0, 0, 0), (24, .iadd, 1, 0, 0, 0), (25, .goto 4, 3, 0, 0, 0), (28, .iconst 0, 1, 0, 0, 0), (29, .istore_n 2, 1, 0, 0, 0), (30, .aload_n 0, 1, 0, 0, 0), (31, .iload_n 2, 1, 0, 0, 0), (32, .invokevirtual 83, 3, 15, 0, 447), (35, .ifCond .ne 5, 3, 0, 0, 0), (38, .iload_n 2, 1, 0, 0, 0), (39, .ireturn, 1, 0, 0, 0), (40, .iinc 3 1, 3, 0, 0, 0), (43, .goto (-39), 3, 0, 0, 0), (46, .iload_n 1, 1, 0, 0, 0), (47, .ireturn, 1, 0, 0, 0)]
/-- TankDivers$Crew.deepest()I -/
def q20 : List AE := [(0, .iconst 0, 1, 0, 0, 0), (1, .istore_n 1, 1, 0, 0, 0), (2, .iconst 1, 1, 0, 0, 0), (3, .istore_n 2, 1, 0, 0, 0), (4, .iload_n 2, 1, 0, 0, 0), (5, .aload_n 0, 1, 0, 0, 0), (6, .getfield 41, 3, 0, 8, 89), (9, .if_icmp .ge 30, 3, 0, 0, 0), (12, .aload_n 0, 1, 0, 0, 0), (13, .getfield 14, 3, 0, 0, 75), (16, .iload_n 2, 1, 0, 0, 0), (17, .invokevirtual 51, 3, 80, 0, 292), (20, .aload_n 0, 1, 0, 0, 0), (21, .getfield 14, 3, 0, 0, 75), (24, .iload_n 1, 1, 0, 0, 0), (25, .invokevirtual 51, 3, 80, 0, 292), (28, .if_icmp .le 5, 3, 0, 0, 0), (31, .iload_n 2, 1, 0, 0, 0), (32, .istore_n 1, 1, 0, 0, 0), (33, .iinc 2 1, 3, 0, 0, 0), (36, .goto (-32), 3, 0, 0, 0), (39, .iload_n 1, 1, 0, 0, 0), (40, .ireturn, 1, 0, 0, 0)]
/-- TankDivers$Crew.best()I -/
def q21 : List AE := [(0, .iconst 0, 1, 0, 0, 0), (1, .istore_n 1, 1, 0, 0, 0), (2, .iconst 1, 1, 0, 0, 0), (3, .istore_n 2, 1, 0, 0, 0), (4, .iload_n 2, 1, 0, 0, 0), (5, .aload_n 0, 1, 0, 0, 0), (6, .getfield 41, 3, 0, 8, 89), (9, .if_icmp .ge 30, 3, 0, 0, 0), (12, .aload_n 0, 1, 0, 0, 0), (13, .getfield 32, 3, 0, 5, 85), (16, .iload_n 2, 1, 0, 0, 0), (17, .invokevirtual 51, 3, 80, 0, 292), (20, .aload_n 0, 1, 0, 0, 0), (21, .getfield 32, 3, 0, 5, 85), (24, .iload_n 1, 1, 0, 0, 0), (25, .invokevirtual 51, 3, 80, 0, 292), (28, .if_icmp .le 5, 3, 0, 0, 0), (31, .iload_n 2, 1, 0, 0, 0), (32, .istore_n 1, 1, 0, 0, 0), (33, .iinc 2 1, 3, 0, 0, 0), (36, .goto (-32), 3, 0, 0, 0), (39, .iload_n 1, 1, 0, 0, 0), (40, .ireturn, 1, 0, 0, 0)]
/-- TankDivers$Crew.bringStacks()V -/
def q22 : List AE := [(0, .iconst 0, 1, 0, 0, 0), (1, .istore_n 1, 1, 0, 0, 0), (2, .iload_n 1, 1, 0, 0, 0), (3, .aload_n 0, 1, 0, 0, 0), (4, .getfield 41, 3, 0, 8, 89), (7, .if_icmp .ge 55, 3, 0, 0, 0), (10, .aload_n 0, 1, 0, 0, 0), (11, .iload_n 1, 1, 0, 0, 0), (12, .invokevirtual 83, 3, 15, 0, 447), (15, .ifCond .eq 32, 3, 0, 0, 0), (18, .aload_n 0, 1, 0, 0, 0), (19, .getfield 32, 3, 0, 5, 85), (22, .iload_n 1, 1, 0, 0, 0), (23, .aload_n 0, 1, 0, 0, 0), (24, .iload_n 1, 1, 0, 0, 0), (25, .invokevirtual 58, 3, 10, 0, 288), (28, .invokevirtual 69, 3, 82, 0, 580), (31, .aload_n 0, 1, 0, 0, 0), (32, .getfield 35, 3, 0, 6, 86), (35, .iload_n 1, 1, 0, 0, 0), (36, .aload_n 0, 1, 0, 0, 0), (37, .iload_n 1, 1, 0, 0, 0), (38, .invokevirtual 55, 3, 9, 0, 318), (41, .invokevirtual 69, 3, 82, 0, 580), (44, .goto 12, 3, 0, 0, 0), (47, .aload_n 0, 1, 0, 0, 0), (48, .getfield 38, 3, 0, 7, 88), (51, .iload_n 1, 1, 0, 0, 0), (52, .iconst 1, 1, 0, 0, 0), (53, .invokevirtual 69, 3, 82, 0, 580), (56, .iinc 1 1, 3, 0, 0, 0), (59, .goto (-57), 3, 0, 0, 0), (62, .return_, 1, 0, 0, 0)]
/-- TankDivers$Crew.sinkInto(LTankDivers$Row;I)I -/
def q23 : List AE := [(0, .iconst 0, 1, 0, 0, 0), (1, .istore_n 3, 1, 0, 0, 0), (2, .iload_n 2, 1, 0, 0, 0), (3, .istore 4, 2, 0, 0, 0), (5, .iload 4, 2, 0, 0, 0), (7, .ifCond .lt 59, 3, 0, 0, 0), (10, .iconst 0, 1, 0, 0, 0), (11, .istore 5, 2, 0, 0, 0), (13, .iload 5, 2, 0, 0, 0), (15, .aload_n 0, 1, 0, 0, 0), (16, .getfield 41, 3, 0, 8, 89), (19, .if_icmp .ge 41, 3, 0, 0, 0), (22, .aload_n 0, 1, 0, 0, 0), (23, .getfield 14, 3, 0, 0, 75), (26, .iload 5, 2, 0, 0, 0), (28, .invokevirtual 51, 3, 80, 0, 292), (31, .iload 4, 2, 0, 0, 0), (33, .if_icmp .ne 21, 3, 0, 0, 0), (36, .aload_n 0, 1, 0, 0, 0), (37, .iload 5, 2, 0, 0, 0), (39, .invokevirtual 83, 3, 15, 0, 447), (42, .ifCond .ne 12, 3, 0, 0, 0), (45, .aload_n 0, 1, 0, 0, 0), (46, .iload 5, 2, 0, 0, 0), (48, .aload_n 1, 1, 0, 0, 0), (49, .iload_n 3, 1, 0, 0, 0), (50, .invokevirtual 91, 3, 24, 0, 602), (53, .istore_n 3, 1, 0, 0, 0), (54, .iinc 5 1, 3, 0, 0, 0), (57, .goto (-44), 3, 0, 0, 0), (60, .iinc 4 (-1), 3, 0, 0, 0), (63, .goto (-58), 3, 0, 0, 0), (66, .iload_n 3, 1, 0, 0, 0), (67, .ireturn, 1, 0, 0, 0)]
/-- TankDivers$Crew.sinkStacksOf(ILTankDivers$Row;I)I -/
def q24 : List AE := [(0, .iload_n 3, 1, 0, 0, 0), (1, .istore 4, 2, 0, 0, 0), (3, .iconst 0, 1, 0, 0, 0), (4, .istore 5, 2, 0, 0, 0), (6, .iload 5, 2, 0, 0, 0), (8, .aload_n 0, 1, 0, 0, 0), (9, .getfield 26, 3, 0, 3, 81), (12, .iload_n 1, 1, 0, 0, 0), (13, .invokevirtual 51, 3, 80, 0, 292), (16, .if_icmp .ge 59, 3, 0, 0, 0), (19, .aload_n 0, 1, 0, 0, 0), (20, .getfield 29, 3, 0, 4, 84), (23, .iload_n 1, 1, 0, 0, 0), (24, .iload 5, 2, 0, 0, 0), (26, .invokestatic 61, 3, 5, 0, 293), (29, .invokevirtual 51, 3, 80, 0, 292), (32, .istore 6, 2, 0, 0, 0), (34, .iconst 0, 1, 0, 0, 0), (35, .istore 7, 2, 0, 0, 0), (37, .iload 7, 2, 0, 0, 0), (39, .iload 6, 2, 0, 0, 0), (41, .invokestatic 75, 3, 75, 0, 322), (44, .if_icmp .ge 25, 3, 0, 0, 0), (47, .aload_n 2, 1, 0, 0, 0), (48, .iload 4, 2, 0, 0, 0), (50, .iload 6, 2, 0, 0, 0), (52, .iload 7, 2, 0, 0, 0), (54, .invokestatic 95, 3, 76, 0, 606), (57, .invokevirtual 65, 3, 81, 0, 579), (60, .iinc 4 1, 3, 0, 0, 0), (63, .iinc 7 1, 3, 0, 0, 0), (66, .goto (-29), 3, 0, 0, 0), (69, .iinc 5 1, 3, 0, 0, 0), (72, .goto (-66), 3, 0, 0, 0), (75, .iload 4, 2, 0, 0, 0), (77, .ireturn, 1, 0, 0, 0)]
/-- TankDivers$Crew.copyFrom(LTankDivers$Crew;)V -/
def q25 : List AE := [(0, .aload_n 0, 1, 0, 0, 0), (1, .aload_n 1, 1, 0, 0, 0), (2, .getfield 41, 3, 0, 8, 89), (5, .putfield 41, 3, 0, 8, 89), (8, .aload_n 0, 1, 0, 0, 0), (9, .getfield 14, 3, 0, 0, 75), (12, .aload_n 1, 1, 0, 0, 0), (13, .getfield 14, 3, 0, 0, 75), (16, .invokevirtual 98, 3, 85, 0, 361), (19, .aload_n 0, 1, 0, 0, 0), (20, .getfield 20, 3, 0, 1, 77), (23, .aload_n 1, 1, 0, 0, 0), (24, .getfield 20, 3, 0, 1, 77), (27, .invokevirtual 98, 3, 85, 0, 361), (30, .aload_n 0, 1, 0, 0, 0), (31, .getfield 23, 3, 0, 2, 79), (34, .aload_n 1, 1, 0, 0, 0), (35, .getfield 23, 3, 0, 2, 79), (38, .invokevirtual 98, 3, 85, 0, 361), (41, .aload_n 0, 1, 0, 0, 0), (42, .getfield 26, 3, 0, 3, 81), (45, .aload_n 1, 1, 0, 0, 0), (46, .getfield 26, 3, 0, 3, 81), (49, .invokevirtual 98, 3, 85, 0, 361), (52, .aload_n 0, 1, 0, 0, 0), (53, .getfield 29, 3, 0, 4, 84), (56, .aload_n 1, 1, 0, 0, 0), (57, .getfield 29, 3, 0, 4, 84), (60, .invokevirtual 98, 3, 85, 0, 361), (63, .aload_n 0, 1, 0, 0, 0), (64, .getfield 32, 3, 0, 5, 85), (67, .aload_n 1, 1, 0, 0, 0), (68, .getfield 32, 3, 0, 5, 85), (71, .invokevirtual 98, 3, 85, 0, 361), (74, .aload_n 0, 1, 0, 0, 0), (75, .getfield 35, 3, 0, 6, 86), (78, .aload_n 1, 1, 0, 0, 0), (79, .getfield 35, 3, 0, 6, 86), (82, .invokevirtual 98, 3, 85, 0, 361), (85, .aload_n 0, 1, 0, 0, 0), (86, .getfield 38, 3, 0, 7, 88), (89, .aload_n 1, 1, 0, 0, 0), (90, .getfield 38, 3, 0, 7, 88), (93, .invokevirtual 98, 3, 85, 0, 361), (96, .return_, 1, 0, 0, 0)]
/-- TankDivers$Game.<init>()V -/
def q26 : List AE := [(0, .aload_n 0, 1, 0, 0, 0), (1, .invokespecial 3, 3, 999, 0, 36), (4, .aload_n 0, 1, 0, 0, 0), (5, .new 9, 3, 5, 0, 37), (8, .dup, 1, 0, 0, 0), (9, .invokespecial 11, 3, 65, 1, 39), (12, .putfield 12, 3, 1, 0, 112), (15, .aload_n 0, 1, 0, 0, 0), (16, .new 18, 3, 0, 0, 67), (19, .dup, 1, 0, 0, 0), (20, .invokespecial 20, 3, 0, 1, 69), (23, .putfield 21, 3, 1, 1, 115), (26, .aload_n 0, 1, 0, 0, 0), (27, .new 25, 3, 6, 0, 110), (30, .dup, 1, 0, 0, 0), (31, .bipush 16, 2, 0, 0, 0), (33, .invokespecial 27, 3, 79, 0, 111), (36, .putfield 30, 3, 1, 2, 117), (39, .return_, 1, 0, 0, 0)]
/-- TankDivers$Game.deal(II)V -/
def q27 : List AE := [(0, .aload_n 0, 1, 0, 0, 0), (1, .iload_n 2, 1, 0, 0, 0), (2, .putfield 34, 3, 1, 3, 118), (5, .aload_n 0, 1, 0, 0, 0), (6, .getfield 12, 3, 1, 0, 112), (9, .iconst 0, 1, 0, 0, 0), (10, .putfield 38, 3, 5, 1, 58), (13, .iconst 1, 1, 0, 0, 0), (14, .istore_n 3, 1, 0, 0, 0), (15, .iload_n 3, 1, 0, 0, 0), (16, .bipush 16, 2, 0, 0, 0), (18, .if_icmp .gt 38, 3, 0, 0, 0), (21, .aload_n 0, 1, 0, 0, 0), (22, .invokevirtual 41, 3, 28, 0, 203), (25, .aload_n 0, 1, 0, 0, 0), (26, .getfield 12, 3, 1, 0, 112), (29, .iconst 0, 1, 0, 0, 0), (30, .iload_n 3, 1, 0, 0, 0), (31, .iconst 1, 1, 0, 0, 0), (32, .isub, 1, 0, 0, 0), (33, .iconst 4, 1, 0, 0, 0), (34, .idiv, 1, 0, 0, 0), (35, .iconst 4, 1, 0, 0, 0), (36, .imul, 1, 0, 0, 0), (37, .aload_n 0, 1, 0, 0, 0), (38, .getfield 34, 3, 1, 3, 118), (41, .iconst 4, 1, 0, 0, 0), (42, .irem, 1, 0, 0, 0), (43, .iadd, 1, 0, 0, 0), (44, .invokestatic 46, 3, 78, 0, 207), (47, .invokevirtual 50, 3, 68, 0, 213), (50, .iinc 3 1, 3, 0, 0, 0), (53, .goto (-38), 3, 0, 0, 0), (56, .aload_n 0, 1, 0, 0, 0), (57, .getfield 21, 3, 1, 1, 115), (60, .iload_n 1, 1, 0, 0, 0), (61, .invokevirtual 53, 3, 2, 0, 221), (64, .aload_n 0, 1, 0, 0, 0), (65, .iconst 0, 1, 0, 0, 0), (66, .putfield 56, 3, 1, 4, 120), (69, .aload_n 0, 1, 0, 0, 0), (70, .iconst 0, 1, 0, 0, 0), (71, .putfield 59, 3, 1, 5, 122), (74, .aload_n 0, 1, 0, 0, 0), (75, .iconst 0, 1, 0, 0, 0), (76, .putfield 62, 3, 1, 6, 124), (79, .aload_n 0, 1, 0, 0, 0), (80, .bipush 25, 2, 0, 0, 0), (82, .putfield 66, 3, 1, 7, 126), (85, .aload_n 0, 1, 0, 0, 0), (86, .iconst 0, 1, 0, 0, 0), (87, .putfield 69, 3, 1, 8, 128), (90, .return_, 1, 0, 0, 0)]
/-- TankDivers$Game.drawLot()V -/
def q28 : List AE := [(0, .aload_n 0, 1, 0, 0, 0), (1, .sipush 421, 3, 0, 0, 0), (4, .aload_n 0, 1, 0, 0, 0), (5, .getfield 34, 3, 1, 3, 118), (8, .imul, 1, 0, 0, 0), (9, .sipush 1663, 3, 0, 0, 0), (12, .iadd, 1, 0, 0, 0), (13, .sipush 10000, 3, 0, 0, 0), (16, .irem, 1, 0, 0, 0), (17, .putfield 34, 3, 1, 3, 118), (20, .return_, 1, 0, 0, 0)]
/-- TankDivers$Game.throwDie()I -/
def q29 : List AE := [(0, .aload_n 0, 1, 0, 0, 0), (1, .invokevirtual 41, 3, 28, 0, 203), (4, .iconst 1, 1, 0, 0, 0), (5, .aload_n 0, 1, 0, 0, 0), (6, .getfield 34, 3, 1, 3, 118), (9, .iconst 3, 1, 0, 0, 0), (10, .irem, 1, 0, 0, 0), (11, .iadd, 1, 0, 0, 0), (12, .ireturn, 1, 0, 0, 0)]
/-- TankDivers$Game.isOver()Z -/
def q30 : List AE := [(0, .aload_n 0, 1, 0, 0, 0), (1, .getfield 56, 3, 1, 4, 120), (4, .iconst 3, 1, 0, 0, 0), (5, .if_icmp .lt 7, 3, 0, 0, 0), (8, .iconst 1, 1, 0, 0, 0), (9, .goto 4, 3, 0, 0, 0), (12, .iconst 0, 1, 0, 0, 0), (13, .ireturn, 1, 0, 0, 0)]
/-- TankDivers$Game.placeOnTurn()I -/
def q31 : List AE := [(0, .aload_n 0, 1, 0, 0, 0), (1, .getfield 21, 3, 1, 1, 115), (4, .getfield 72, 3, 0, 0, 76), (7, .aload_n 0, 1, 0, 0, 0), (8, .getfield 59, 3, 1, 5, 122), (11, .invokevirtual 75, 3, 80, 0, 467), (14, .ireturn, 1, 0, 0, 0)]
/-- TankDivers$Game.allValues()I -/
def q32 : List AE := [(0, .aload_n 0, 1, 0, 0, 0), (1, .getfield 12, 3, 1, 0, 112), (4, .invokevirtual 79, 3, 71, 0, 693), (7, .aload_n 0, 1, 0, 0, 0), (8, .getfield 21, 3, 1, 1, 115), (11, .invokevirtual 83, 3, 12, 0, 694), (14, .iadd, 1, 0, 0, 0), (15, .aload_n 0, 1, 0, 0, 0), (16, .getfield 21, 3, 1, 1, 115), (19, .invokevirtual 86, 3, 14, 0, 695), (22, .iadd, 1, 0, 0, 0), (23, .ireturn, 1, 0, 0, 0)]
/-- TankDivers$Game.allTreasures()I -/
def q33 : List AE := [(0, .aload_n 0, 1, 0, 0, 0), (1, .getfield 12, 3, 1, 0, 112), (4, .invokevirtual 89, 3, 70, 0, 309), (7, .aload_n 0, 1, 0, 0, 0), (8, .getfield 21, 3, 1, 1, 115), (11, .invokevirtual 92, 3, 11, 0, 314), (14, .iadd, 1, 0, 0, 0), (15, .aload_n 0, 1, 0, 0, 0), (16, .getfield 21, 3, 1, 1, 115), (19, .getfield 95, 3, 0, 6, 87), (22, .invokevirtual 98, 3, 83, 0, 323), (25, .iadd, 1, 0, 0, 0), (26, .ireturn, 1, 0, 0, 0)]
/-- TankDivers$Game.whyNoMove(Z)I -/
def q34 : List AE := [(0, .aload_n 0, 1, 0, 0, 0), (1, .invokevirtual 101, 3, 30, 0, 462), (4, .ifCond .eq 5, 3, 0, 0, 0), (7, .iconst 1, 1, 0, 0, 0), (8, .ireturn, 1, 0, 0, 0), (9, .aload_n 0, 1, 0, 0, 0), (10, .getfield 62, 3, 1, 6, 124), (13, .ifCond .eq 5, 3, 0, 0, 0), (16, .iconst 3, 1, 0, 0, 0), (17, .ireturn, 1, 0, 0, 0), (18, .iload_n 1, 1, 0, 0, 0), (19, .ifCond .eq 21, 3, 0, 0, 0), (22, .aload_n 0, 1, 0, 0, 0), (23, .invokevirtual 105, 3, 35, 0, 463), (26, .ifCond .ne 10, 3, 0, 0, 0), (29, .aload_n 0, 1, 0, 0, 0), (30, .invokevirtual 108, 3, 31, 0, 468), (33, .ifCond .ne 7, 3, 0, 0, 0), (36, .iconst 4, 1, 0, 0, 0), (37, .goto 4, 3, 0, 0, 0), (40, .iconst 0, 1, 0, 0, 0), (41, .ireturn, 1, 0, 0, 0)]
/-- TankDivers$Game.goesUp()Z -/
def q35 : List AE := [(0, .aload_n 0, 1, 0, 0, 0), (1, .getfield 21, 3, 1, 1, 115), (4, .getfield 111, 3, 0, 1, 78), (7, .aload_n 0, 1, 0, 0, 0), (8, .getfield 59, 3, 1, 5, 122), (11, .invokevirtual 75, 3, 80, 0, 467), (14, .iconst 1, 1, 0, 0, 0), (15, .if_icmp .ne 7, 3, 0, 0, 0), (18, .iconst 1, 1, 0, 0, 0), (19, .goto 4, 3, 0, 0, 0), (22, .iconst 0, 1, 0, 0, 0), (23, .ireturn, 1, 0, 0, 0)]
/-- TankDivers$Game.makeMove(Z)I -/
def q36 : List AE := [(0, .aload_n 0, 1, 0, 0, 0), (1, .iload_n 1, 1, 0, 0, 0), (2, .invokevirtual 114, 3, 34, 0, 541), (5, .istore_n 2, 1, 0, 0, 0), (6, .iload_n 2, 1, 0, 0, 0), (7, .ifCond .eq 15, 3, 0, 0, 0), (10, .aload_n 0, 1, 0, 0, 0), (11, .dup, 1, 0, 0, 0), (12, .getfield 118, 3, 1, 9, 130), (15, .iconst 1, 1, 0, 0, 0), (16, .iadd, 1, 0, 0, 0), (17, .putfield 118, 3, 1, 9, 130), (20, .iload_n 2, 1, 0, 0, 0), (21, .ireturn, 1, 0, 0, 0), (22, .aload_n 0, 1, 0, 0, 0), (23, .dup, 1, 0, 0, 0), (24, .getfield 66, 3, 1, 7, 126), (27, .aload_n 0, 1, 0, 0, 0), (28, .getfield 66, 3, 1, 7, 126), (31, .aload_n 0, 1, 0, 0, 0), (32, .getfield 21, 3, 1, 1, 115), (35, .getfield 121, 3, 0, 3, 82), (38, .aload_n 0, 1, 0, 0, 0), (39, .getfield 59, 3, 1, 5, 122), (42, .invokevirtual 75, 3, 80, 0, 467), (45, .invokestatic 124, 3, 902, 0, 542), (48, .isub, 1, 0, 0, 0), (49, .putfield 66, 3, 1, 7, 126), (52, .iload_n 1, 1, 0, 0, 0), (53, .ifCond .eq 18, 3, 0, 0, 0), (56, .aload_n 0, 1, 0, 0, 0), (57, .getfield 21, 3, 1, 1, 115), (60, .getfield 111, 3, 0, 1, 78), (63, .aload_n 0, 1, 0, 0, 0), (64, .getfield 59, 3, 1, 5, 122), (67, .iconst 1, 1, 0, 0, 0), (68, .invokevirtual 129, 3, 81, 0, 545), (71, .aload_n 0, 1, 0, 0, 0), (72, .aload_n 0, 1, 0, 0, 0), (73, .invokevirtual 133, 3, 29, 0, 546), (76, .aload_n 0, 1, 0, 0, 0), (77, .invokevirtual 133, 3, 29, 0, 546), (80, .iadd, 1, 0, 0, 0), (81, .putfield 69, 3, 1, 8, 128), (84, .aload_n 0, 1, 0, 0, 0), (85, .aload_n 0, 1, 0, 0, 0), (86, .invokevirtual 108, 3, 31, 0, 468), (89, .aload_n 0, 1, 0, 0, 0), (90, .invokevirtual 105, 3, 35, 0, 463), (93, .aload_n 0, 1, 0, 0, 0), (94, .getfield 69, 3, 1, 8, 128), (97, .invokevirtual 136, 3, 37, 0, 550), (100, .istore_n 3, 1, 0, 0, 0), (101, .aload_n 0, 1, 0, 0, 0), (102, .getfield 21, 3, 1, 1, 115), (105, .getfield 72, 3, 0, 0, 76), (108, .aload_n 0, 1, 0, 0, 0), (109, .getfield 59, 3, 1, 5, 122), (112, .iload_n 3, 1, 0, 0, 0), (113, .invokevirtual 129, 3, 81, 0, 545), (116, .aload_n 0, 1, 0, 0, 0), (117, .invokevirtual 105, 3, 35, 0, 463), (120, .ifCond .eq 22, 3, 0, 0, 0), (123, .iload_n 3, 1, 0, 0, 0), (124, .ifCond .ne 18, 3, 0, 0, 0), (127, .aload_n 0, 1, 0, 0, 0), (128, .getfield 21, 3, 1, 1, 115), (131, .getfield 140, 3, 0, 2, 80), (134, .aload_n 0, 1, 0, 0, 0), (135, .getfield 59, 3, 1, 5, 122), (138, .iconst 1, 1, 0, 0, 0), (139, .invokevirtual 129, 3, 81, 0, 545), (142, .aload_n 0, 1, 0, 0, 0), (143, .iconst 1, 1, 0, 0, 0), (144, .putfield 62, 3, 1, 6, 124), (147, .bipush 10, 2, 0, 0, 0), (149, .iload_n 3, 1, 0, 0, 0), (150, .iadd, 1, 0, 0, 0), (151, .ireturn, 1, 0, 0, 0)]
/-- TankDivers$Game.landing(IZI)I -/
def q37 : List AE := [(0, .iload_n 3, 1, 0, 0, 0), (1, .aload_n 0, 1, 0, 0, 0), (2, .getfield 21, 3, 1, 1, 115), (5, .getfield 121, 3, 0, 3, 82), (8, .aload_n 0, 1, 0, 0, 0), (9, .getfield 59, 3, 1, 5, 122), (12, .invokevirtual 75, 3, 80, 0, 467), (15, .isub, 1, 0, 0, 0), (16, .istore 4, 2, 0, 0, 0), (18, .iload_n 1, 1, 0, 0, 0), (19, .istore 5, 2, 0, 0, 0), (21, .iconst 0, 1, 0, 0, 0), (22, .istore 6, 2, 0, 0, 0), (24, .iload 6, 2, 0, 0, 0), (26, .iload 4, 2, 0, 0, 0), (28, .if_icmp .ge 30, 3, 0, 0, 0), (31, .iload_n 2, 1, 0, 0, 0), (32, .ifCond .eq 12, 3, 0, 0, 0), (35, .aload_n 0, 1, 0, 0, 0), (36, .iload 5, 2, 0, 0, 0), (38, .invokevirtual 143, 3, 38, 0, 482), (41, .goto 9, 3, 0, 0, 0), (44, .aload_n 0, 1, 0, 0, 0), (45, .iload 5, 2, 0, 0, 0), (47, .invokevirtual 146, 3, 39, 0, 490), (50, .istore 5, 2, 0, 0, 0), (52, .iinc 6 1, 3, 0, 0, 0), (55, .goto (-31), 3, 0, 0, 0), (58, .iload 5, 2, 0, 0, 0), (60, .ireturn, 1, 0, 0, 0)]
/-- TankDivers$Game.stepUp(I)I -/
def q38 : List AE := [(0, .iload_n 1, 1, 0, 0, 0), (1, .iconst 1, 1, 0, 0, 0), (2, .isub, 1, 0, 0, 0), (3, .istore_n 2, 1, 0, 0, 0), (4, .iload_n 2, 1, 0, 0, 0), (5, .ifCond .le 26, 3, 0, 0, 0), (8, .aload_n 0, 1, 0, 0, 0), (9, .getfield 21, 3, 1, 1, 115), (12, .aload_n 0, 1, 0, 0, 0), (13, .getfield 59, 3, 1, 5, 122), (16, .iload_n 2, 1, 0, 0, 0), (17, .invokevirtual 149, 3, 18, 0, 486), (20, .ifCond .eq 5, 3, 0, 0, 0), (23, .iload_n 2, 1, 0, 0, 0), (24, .ireturn, 1, 0, 0, 0), (25, .iinc 2 (-1), 3, 0, 0, 0), (28, .goto (-24), 3, 0, 0, 0), (31, .iconst 0, 1, 0, 0, 0), (32, .ireturn, 1, 0, 0, 0)]
/-- TankDivers$Game.stepDown(I)I -/
def q39 : List AE := [(0, .iload_n 1, 1, 0, 0, 0), (1, .iconst 1, 1, 0, 0, 0), (2, .iadd, 1, 0, 0, 0), (3, .istore_n 2, 1, 0, 0, 0), (4, .iload_n 2, 1, 0, 0, 0), (5, .aload_n 0, 1, 0, 0, 0), (6, .getfield 12, 3, 1, 0, 112), (9, .getfield 38, 3, 5, 1, 58), (12, .if_icmp .gt 26, 3, 0, 0, 0), (15, .aload_n 0, 1, 0, 0, 0), (16, .getfield 21, 3, 1, 1, 115), (19, .aload_n 0, 1, 0, 0, 0), (20, .getfield 59, 3, 1, 5, 122), (23, .iload_n 2, 1, 0, 0, 0), (24, .invokevirtual 149, 3, 18, 0, 486), (27, .ifCond .eq 5, 3, 0, 0, 0), (30, .iload_n 2, 1, 0, 0, 0), (31, .ireturn, 1, 0, 0, 0), (32, .iinc 2 1, 3, 0, 0, 0), (35, .goto (-31), 3, 0, 0, 0), (38, .iload_n 1, 1, 0, 0, 0), (39, .ireturn, 1, 0, 0, 0)]
/-- TankDivers$Game.doDeed(II)I -/
def q40 : List AE := [(0, .aload_n 0, 1, 0, 0, 0), (1, .iload_n 1, 1, 0, 0, 0), (2, .iload_n 2, 1, 0, 0, 0), (3, .invokevirtual 153, 3, 41, 0, 562), (6, .istore_n 3, 1, 0, 0, 0), (7, .iload_n 3, 1, 0, 0, 0), (8, .ifCond .eq 15, 3, 0, 0, 0), (11, .aload_n 0, 1, 0, 0, 0), (12, .dup, 1, 0, 0, 0), (13, .getfield 118, 3, 1, 9, 130), (16, .iconst 1, 1, 0, 0, 0), (17, .iadd, 1, 0, 0, 0), (18, .putfield 118, 3, 1, 9, 130), (21, .iload_n 3, 1, 0, 0, 0), (22, .ireturn, 1, 0, 0, 0), (23, .aload_n 0, 1, 0, 0, 0), (24, .invokevirtual 108, 3, 31, 0, 468), (27, .istore 4, 2, 0, 0, 0), (29, .bipush 10, 2, 0, 0, 0), (31, .istore 5, 2, 0, 0, 0), (33, .iload_n 1, 1, 0, 0, 0), (34, .bipush 116, 2, 0, 0, 0), (36, .if_icmp .ne 55, 3, 0, 0, 0), (39, .aload_n 0, 1, 0, 0, 0), (40, .getfield 21, 3, 1, 1, 115), (43, .aload_n 0, 1, 0, 0, 0), (44, .getfield 59, 3, 1, 5, 122), (47, .aload_n 0, 1, 0, 0, 0), (48, .getfield 12, 3, 1, 0, 112), (51, .iload 4, 2, 0, 0, 0), (53, .invokevirtual 156, 3, 66, 0, 570), (56, .invokevirtual 159, 3, 7, 0, 575), (59, .aload_n 0, 1, 0, 0, 0), (60, .getfield 12, 3, 1, 0, 112), (63, .iload 4, 2, 0, 0, 0), (65, .iconst 0, 1, 0, 0, 0), (66, .invokevirtual 162, 3, 67, 0, 581), (69, .iload 5, 2, 0, 0, 0), (71, .aload_n 0, 1, 0, 0, 0), (72, .getfield 21, 3, 1, 1, 115), (75, .getfield 121, 3, 0, 3, 82), (78, .aload_n 0, 1, 0, 0, 0), (79, .getfield 59, 3, 1, 5, 122), (82, .invokevirtual 75, 3, 80, 0, 467), (85, .iadd, 1, 0, 0, 0), (86, .istore 5, 2, 0, 0, 0), (88, .goto 49, 3, 0, 0, 0), (91, .iload_n 1, 1, 0, 0, 0), (92, .bipush 108, 2, 0, 0, 0), (94, .if_icmp .ne 43, 3, 0, 0, 0), (97, .aload_n 0, 1, 0, 0, 0), (98, .getfield 12, 3, 1, 0, 112), (101, .iload 4, 2, 0, 0, 0), (103, .aload_n 0, 1, 0, 0, 0), (104, .getfield 21, 3, 1, 1, 115), (107, .aload_n 0, 1, 0, 0, 0), (108, .getfield 59, 3, 1, 5, 122), (111, .iload_n 2, 1, 0, 0, 0), (112, .invokevirtual 165, 3, 8, 0, 585), (115, .invokevirtual 162, 3, 67, 0, 581), (118, .iload 5, 2, 0, 0, 0), (120, .aload_n 0, 1, 0, 0, 0), (121, .getfield 21, 3, 1, 1, 115), (124, .getfield 121, 3, 0, 3, 82), (127, .aload_n 0, 1, 0, 0, 0), (128, .getfield 59, 3, 1, 5, 122), (131, .invokevirtual 75, 3, 80, 0, 467), (134, .iadd, 1, 0, 0, 0), (135, .istore 5, 2, 0, 0, 0), (137, .aload_n 0, 1, 0, 0, 0), (138, .iconst 0, 1, 0, 0, 0), (139, .putfield 62, 3, 1, 6, 124), (142, .aload_n 0, 1, 0, 0, 0), (143, .getfield 66, 3, 1, 7, 126), (146, .ifCond .eq 13, 3, 0, 0, 0), (149, .aload_n 0, 1, 0, 0, 0), (150, .getfield 21, 3, 1, 1, 115), (153, .invokevirtual 168, 3, 16, 0, 590), (156, .ifCond .eq 10, 3, 0, 0, 0), (159, .aload_n 0, 1, 0, 0, 0), (160, .invokevirtual 171, 3, 44, 0, 594), (163, .goto 18, 3, 0, 0, 0), (166, .aload_n 0, 1, 0, 0, 0), (167, .aload_n 0, 1, 0, 0, 0), (168, .getfield 21, 3, 1, 1, 115), (171, .aload_n 0, 1, 0, 0, 0), (172, .getfield 59, 3, 1, 5, 122), (175, .invokevirtual 174, 3, 19, 0, 626), (178, .putfield 59, 3, 1, 5, 122), (181, .iload 5, 2, 0, 0, 0), (183, .ireturn, 1, 0, 0, 0)]
/-- TankDivers$Game.whyNoDeed(II)I -/
def q41 : List AE := [(0, .aload_n 0, 1, 0, 0, 0), (1, .invokevirtual 101, 3, 30, 0, 462), (4, .ifCond .eq 5, 3, 0, 0, 0), (7, .iconst 1, 1, 0, 0, 0), (8, .ireturn, 1, 0, 0, 0), (9, .aload_n 0, 1, 0, 0, 0), (10, .getfield 62, 3, 1, 6, 124), (13, .ifCond .ne 5, 3, 0, 0, 0), (16, .iconst 2, 1, 0, 0, 0), (17, .ireturn, 1, 0, 0, 0), (18, .iload_n 1, 1, 0, 0, 0), (19, .bipush 110, 2, 0, 0, 0), (21, .if_icmp .ne 5, 3, 0, 0, 0), (24, .iconst 0, 1, 0, 0, 0), (25, .ireturn, 1, 0, 0, 0), (26, .aload_n 0, 1, 0, 0, 0), (27, .invokevirtual 108, 3, 31, 0, 468), (30, .ifCond .ne 5, 3, 0, 0, 0), (33, .iconst 5, 1, 0, 0, 0), (34, .ireturn, 1, 0, 0, 0), (35, .iload_n 1, 1, 0, 0, 0), (36, .bipush 116, 2, 0, 0, 0), (38, .if_icmp .ne 10, 3, 0, 0, 0), (41, .aload_n 0, 1, 0, 0, 0), (42, .invokevirtual 177, 3, 42, 0, 566), (45, .goto 8, 3, 0, 0, 0), (48, .aload_n 0, 1, 0, 0, 0), (49, .iload_n 2, 1, 0, 0, 0), (50, .invokevirtual 180, 3, 43, 0, 571), (53, .ireturn, 1, 0, 0, 0)]
/-- TankDivers$Game.whyNotTake()I -/
def q42 : List AE := [(0, .aload_n 0, 1, 0, 0, 0), (1, .getfield 12, 3, 1, 0, 112), (4, .aload_n 0, 1, 0, 0, 0), (5, .invokevirtual 108, 3, 31, 0, 468), (8, .invokevirtual 156, 3, 66, 0, 570), (11, .ifCond .ne 6, 3, 0, 0, 0), (14, .bipush 6, 2, 0, 0, 0), (16, .ireturn, 1, 0, 0, 0), (17, .aload_n 0, 1, 0, 0, 0), (18, .getfield 21, 3, 1, 1, 115), (21, .getfield 121, 3, 0, 3, 82), (24, .aload_n 0, 1, 0, 0, 0), (25, .getfield 59, 3, 1, 5, 122), (28, .invokevirtual 75, 3, 80, 0, 467), (31, .bipush 6, 2, 0, 0, 0), (33, .if_icmp .ge 7, 3, 0, 0, 0), (36, .iconst 0, 1, 0, 0, 0), (37, .goto 5, 3, 0, 0, 0), (40, .bipush 8, 2, 0, 0, 0), (42, .ireturn, 1, 0, 0, 0)]
/-- TankDivers$Game.whyNotLay(I)I -/
def q43 : List AE := [(0, .iload_n 1, 1, 0, 0, 0), (1, .ifCond .lt 21, 3, 0, 0, 0), (4, .iload_n 1, 1, 0, 0, 0), (5, .aload_n 0, 1, 0, 0, 0), (6, .getfield 21, 3, 1, 1, 115), (9, .getfield 121, 3, 0, 3, 82), (12, .aload_n 0, 1, 0, 0, 0), (13, .getfield 59, 3, 1, 5, 122), (16, .invokevirtual 75, 3, 80, 0, 467), (19, .if_icmp .lt 6, 3, 0, 0, 0), (22, .bipush 6, 2, 0, 0, 0), (24, .ireturn, 1, 0, 0, 0), (25, .aload_n 0, 1, 0, 0, 0), (26, .getfield 12, 3, 1, 0, 112), (29, .aload_n 0, 1, 0, 0, 0), (30, .invokevirtual 108, 3, 31, 0, 468), (33, .invokevirtual 156, 3, 66, 0, 570), (36, .ifCond .ne 7, 3, 0, 0, 0), (39, .iconst 0, 1, 0, 0, 0), (40, .goto 5, 3, 0, 0, 0), (43, .bipush 7, 2, 0, 0, 0), (45, .ireturn, 1, 0, 0, 0)]
/-- TankDivers$Game.endRound()V -/
def q44 : List AE := [(0, .aload_n 0, 1, 0, 0, 0), (1, .getfield 21, 3, 1, 1, 115), (4, .aload_n 0, 1, 0, 0, 0), (5, .getfield 30, 3, 1, 2, 117), (8, .aload_n 0, 1, 0, 0, 0), (9, .getfield 12, 3, 1, 0, 112), (12, .getfield 38, 3, 5, 1, 58), (15, .invokevirtual 183, 3, 23, 0, 598), (18, .istore_n 1, 1, 0, 0, 0), (19, .aload_n 0, 1, 0, 0, 0), (20, .getfield 21, 3, 1, 1, 115), (23, .invokevirtual 187, 3, 22, 0, 607), (26, .aload_n 0, 1, 0, 0, 0), (27, .getfield 12, 3, 1, 0, 112), (30, .invokevirtual 190, 3, 72, 0, 611), (33, .aload_n 0, 1, 0, 0, 0), (34, .getfield 12, 3, 1, 0, 112), (37, .aload_n 0, 1, 0, 0, 0), (38, .getfield 30, 3, 1, 2, 117), (41, .iload_n 1, 1, 0, 0, 0), (42, .invokevirtual 193, 3, 73, 0, 616), (45, .aload_n 0, 1, 0, 0, 0), (46, .aload_n 0, 1, 0, 0, 0), (47, .getfield 21, 3, 1, 1, 115), (50, .invokevirtual 197, 3, 20, 0, 621), (53, .putfield 59, 3, 1, 5, 122), (56, .aload_n 0, 1, 0, 0, 0), (57, .getfield 21, 3, 1, 1, 115), (60, .invokevirtual 200, 3, 3, 0, 625), (63, .aload_n 0, 1, 0, 0, 0), (64, .bipush 25, 2, 0, 0, 0), (66, .putfield 66, 3, 1, 7, 126), (69, .aload_n 0, 1, 0, 0, 0), (70, .dup, 1, 0, 0, 0), (71, .getfield 56, 3, 1, 4, 120), (74, .iconst 1, 1, 0, 0, 0), (75, .iadd, 1, 0, 0, 0), (76, .putfield 56, 3, 1, 4, 120), (79, .return_, 1, 0, 0, 0)]
/-- TankDivers$Game.copyFrom(LTankDivers$Game;)V -/
def q45 : List AE := [(0, .aload_n 0, 1, 0, 0, 0), (1, .getfield 12, 3, 1, 0, 112), (4, .aload_n 1, 1, 0, 0, 0), (5, .getfield 12, 3, 1, 0, 112), (8, .invokevirtual 203, 3, 74, 0, 348), (11, .aload_n 0, 1, 0, 0, 0), (12, .getfield 21, 3, 1, 1, 115), (15, .aload_n 1, 1, 0, 0, 0), (16, .getfield 21, 3, 1, 1, 115), (19, .invokevirtual 207, 3, 25, 0, 357), (22, .aload_n 0, 1, 0, 0, 0), (23, .aload_n 1, 1, 0, 0, 0), (24, .getfield 34, 3, 1, 3, 118), (27, .putfield 34, 3, 1, 3, 118), (30, .aload_n 0, 1, 0, 0, 0), (31, .aload_n 1, 1, 0, 0, 0), (32, .getfield 56, 3, 1, 4, 120), (35, .putfield 56, 3, 1, 4, 120), (38, .aload_n 0, 1, 0, 0, 0), (39, .aload_n 1, 1, 0, 0, 0), (40, .getfield 59, 3, 1, 5, 122), (43, .putfield 59, 3, 1, 5, 122), (46, .aload_n 0, 1, 0, 0, 0), (47, .aload_n 1, 1, 0, 0, 0), (48, .getfield 62, 3, 1, 6, 124), (51, .putfield 62, 3, 1, 6, 124), (54, .aload_n 0, 1, 0, 0, 0), (55, .aload_n 1, 1, 0, 0, 0), (56, .getfield 66, 3, 1, 7, 126), (59, .putfield 66, 3, 1, 7, 126), (62, .aload_n 0, 1, 0, 0, 0), (63, .aload_n 1, 1, 0, 0, 0), (64, .getfield 69, 3, 1, 8, 128), (67, .putfield 69, 3, 1, 8, 128), (70, .aload_n 0, 1, 0, 0, 0), (71, .aload_n 1, 1, 0, 0, 0), (72, .getfield 118, 3, 1, 9, 130), (75, .putfield 118, 3, 1, 9, 130), (78, .return_, 1, 0, 0, 0)]
/-- TankDivers$History.<init>()V -/
def q46 : List AE := [(0, .aload_n 0, 1, 0, 0, 0), (1, .invokespecial 3, 3, 999, 0, 158), (4, .aload_n 0, 1, 0, 0, 0), (5, .iconst 4, 1, 0, 0, 0), (6, .anewarray 9, 3, 1, 0, 159), (9, .putfield 11, 3, 2, 0, 162), (12, .iconst 0, 1, 0, 0, 0), (13, .istore_n 1, 1, 0, 0, 0), (14, .iload_n 1, 1, 0, 0, 0), (15, .aload_n 0, 1, 0, 0, 0), (16, .getfield 11, 3, 2, 0, 162), (19, .arraylength, 1, 0, 0, 0), (20, .if_icmp .ge 22, 3, 0, 0, 0), (23, .aload_n 0, 1, 0, 0, 0), (24, .getfield 11, 3, 2, 0, 162), (27, .iload_n 1, 1, 0, 0, 0), (28, .new 9, 3, 1, 0, 159), (31, .dup, 1, 0, 0, 0), (32, .invokespecial 17, 3, 26, 1, 161), (35, .aastore, 1, 0, 0, 0), (36, .iinc 1 1, 3, 0, 0, 0), (39, .goto (-25), 3, 0, 0, 0), (42, .return_, 1, 0, 0, 0)]
/-- TankDivers$History.size()I -/
def q47 : List AE := [(0, .aload_n 0, 1, 0, 0, 0), (1, .getfield 18, 3, 2, 1, 163), (4, .ireturn, 1, 0, 0, 0)]
/-- TankDivers$History.record(LTankDivers$Game;)V -/
def q48 : List AE := [(0, .aload_n 0, 1, 0, 0, 0), (1, .getfield 18, 3, 2, 1, 163), (4, .aload_n 0, 1, 0, 0, 0), (5, .getfield 11, 3, 2, 0, 162), (8, .arraylength, 1, 0, 0, 0), (9, .if_icmp .lt 7, 3, 0, 0, 0), (12, .aload_n 0, 1, 0, 0, 0), (13, .invokevirtual 22, 3, 49, 0, 375), (16, .aload_n 0, 1, 0, 0, 0), (17, .aload_n 0, 1, 0, 0, 0), (18, .getfield 18, 3, 2, 1, 163), (21, .invokevirtual 25, 3, 51, 0, 340), (24, .astore_n 2, 1, 0, 0, 0), (25, .aload_n 2, 1, 0, 0, 0), (26, .ifnull 18, 3, 0, 0, 0), (29, .aload_n 2, 1, 0, 0, 0), (30, .aload_n 1, 1, 0, 0, 0), (31, .invokevirtual 29, 3, 45, 0, 344), (34, .aload_n 0, 1, 0, 0, 0), (35, .dup, 1, 0, 0, 0), (36, .getfield 18, 3, 2, 1, 163), (39, .iconst 1, 1, 0, 0, 0), (40, .iadd, 1, 0, 0, 0), (41, .putfield 18, 3, 2, 1, 163), (44, .return_, 1, 0, 0, 0)]
/-- TankDivers$History.dropOldest()V -/
def q49 : List AE := [(0, .aload_n 0, 1, 0, 0, 0), (1, .iconst 0, 1, 0, 0, 0), (2, .invokevirtual 25, 3, 51, 0, 340), (5, .astore_n 1, 1, 0, 0, 0), (6, .iconst 1, 1, 0, 0, 0), (7, .istore_n 2, 1, 0, 0, 0), (8, .iload_n 2, 1, 0, 0, 0), (9, .aload_n 0, 1, 0, 0, 0), (10, .getfield 11, 3, 2, 0, 162), (13, .arraylength, 1, 0, 0, 0), (14, .if_icmp .ge 23, 3, 0, 0, 0), (17, .aload_n 0, 1, 0, 0, 0), (18, .getfield 11, 3, 2, 0, 162), (21, .iload_n 2, 1, 0, 0, 0), (22, .iconst 1, 1, 0, 0, 0), (23, .isub, 1, 0, 0, 0), (24, .aload_n 0, 1, 0, 0, 0), (25, .getfield 11, 3, 2, 0, 162), (28, .iload_n 2, 1, 0, 0, 0), (29, .aaload, 1, 0, 0, 0), (30, .aastore, 1, 0, 0, 0), (31, .iinc 2 1, 3, 0, 0, 0), (34, .goto (-26), 3, 0, 0, 0), (37, .aload_n 0, 1, 0, 0, 0), (38, .getfield 11, 3, 2, 0, 162), (41, .arraylength, 1, 0, 0, 0), (42, .ifCond .le 16, 3, 0, 0, 0), (45, .aload_n 0, 1, 0, 0, 0), (46, .getfield 11, 3, 2, 0, 162), (49, .aload_n 0, 1, 0, 0, 0), (50, .getfield 11, 3, 2, 0, 162), (53, .arraylength, 1, 0, 0, 0), (54, .iconst 1, 1, 0, 0, 0), (55, .isub, 1, 0, 0, 0), (56, .aload_n 1, 1, 0, 0, 0), (57, .aastore, 1, 0, 0, 0), (58, .aload_n 0, 1, 0, 0, 0), (59, .aload_n 0, 1, 0, 0, 0), (60, .getfield 11, 3, 2, 0, 162), (63, .arraylength, 1, 0, 0, 0), (64, .iconst 1, 1, 0, 0, 0), (65, .isub, 1, 0, 0, 0), (66, .putfield 18, 3, 2, 1, 163), (69, .return_, 1, 0, 0, 0)]
/-- TankDivers$History.takeBack(LTankDivers$Game;)I -/
def q50 : List AE := [(0, .aload_n 0, 1, 0, 0, 0), (1, .aload_n 0, 1, 0, 0, 0), (2, .getfield 18, 3, 2, 1, 163), (5, .iconst 1, 1, 0, 0, 0), (6, .isub, 1, 0, 0, 0), (7, .invokevirtual 25, 3, 51, 0, 340), (10, .astore_n 2, 1, 0, 0, 0), (11, .aload_n 2, 1, 0, 0, 0), (12, .ifnonnull 6, 3, 0, 0, 0), (15, .bipush (-2), 2, 0, 0, 0), (17, .ireturn, 1, 0, 0, 0), (18, .aload_n 1, 1, 0, 0, 0), (19, .aload_n 2, 1, 0, 0, 0), (20, .invokevirtual 29, 3, 45, 0, 344), (23, .aload_n 0, 1, 0, 0, 0), (24, .dup, 1, 0, 0, 0), (25, .getfield 18, 3, 2, 1, 163), (28, .iconst 1, 1, 0, 0, 0), (29, .isub, 1, 0, 0, 0), (30, .putfield 18, 3, 2, 1, 163), (33, .aload_n 0, 1, 0, 0, 0), (34, .getfield 18, 3, 2, 1, 163), (37, .ireturn, 1, 0, 0, 0)]
/-- TankDivers$History.stateAt(I)LTankDivers$Game; -/
def q51 : List AE := [(0, .iload_n 1, 1, 0, 0, 0), (1, .ifCond .lt 21, 3, 0, 0, 0), (4, .iload_n 1, 1, 0, 0, 0), (5, .aload_n 0, 1, 0, 0, 0), (6, .getfield 11, 3, 2, 0, 162), (9, .arraylength, 1, 0, 0, 0), (10, .if_icmp .ge 12, 3, 0, 0, 0), (13, .aload_n 0, 1, 0, 0, 0), (14, .getfield 11, 3, 2, 0, 162), (17, .iload_n 1, 1, 0, 0, 0), (18, .aaload, 1, 0, 0, 0), (19, .goto 4, 3, 0, 0, 0), (22, .aconst_null, 1, 0, 0, 0), (23, .areturn, 1, 0, 0, 0)]
/-- TankDivers$Odds.<init>()V -/
def q52 : List AE := [(0, .aload_n 0, 1, 0, 0, 0), (1, .invokespecial 3, 3, 999, 0, 189), (4, .aload_n 0, 1, 0, 0, 0), (5, .new 9, 3, 6, 0, 190), (8, .dup, 1, 0, 0, 0), (9, .bipush 17, 2, 0, 0, 0), (11, .invokespecial 11, 3, 79, 0, 191), (14, .putfield 14, 3, 3, 0, 192), (17, .aload_n 0, 1, 0, 0, 0), (18, .new 9, 3, 6, 0, 190), (21, .dup, 1, 0, 0, 0), (22, .bipush 17, 2, 0, 0, 0), (24, .invokespecial 11, 3, 79, 0, 191), (27, .putfield 20, 3, 3, 1, 193), (30, .return_, 1, 0, 0, 0)]
/-- TankDivers$Odds.byThrows(LTankDivers$Game;IZ)I -/
def q53 : List AE := [(0, .iload_n 3, 1, 0, 0, 0), (1, .ifCond .ne 10, 3, 0, 0, 0), (4, .aload_n 1, 1, 0, 0, 0), (5, .invokevirtual 23, 3, 35, 0, 476), (8, .ifCond .eq 7, 3, 0, 0, 0), (11, .iconst 1, 1, 0, 0, 0), (12, .goto 4, 3, 0, 0, 0), (15, .iconst 0, 1, 0, 0, 0), (16, .istore 4, 2, 0, 0, 0), (18, .iconst 0, 1, 0, 0, 0), (19, .istore 5, 2, 0, 0, 0), (21, .iconst 1, 1, 0, 0, 0), (22, .istore 6, 2, 0, 0, 0), (24, .iload 6, 2, 0, 0, 0), (26, .iconst 3, 1, 0, 0, 0), (27, .if_icmp .gt 46, 3, 0, 0, 0), (30, .iconst 1, 1, 0, 0, 0), (31, .istore 7, 2, 0, 0, 0), (33, .iload 7, 2, 0, 0, 0), (35, .iconst 3, 1, 0, 0, 0), (36, .if_icmp .gt 31, 3, 0, 0, 0), (39, .aload_n 1, 1, 0, 0, 0), (40, .aload_n 1, 1, 0, 0, 0), (41, .invokevirtual 29, 3, 31, 0, 477), (44, .iload 4, 2, 0, 0, 0), (46, .iload 6, 2, 0, 0, 0), (48, .iload 7, 2, 0, 0, 0), (50, .iadd, 1, 0, 0, 0), (51, .invokevirtual 33, 3, 37, 0, 478), (54, .iload_n 2, 1, 0, 0, 0), (55, .if_icmp .ne 6, 3, 0, 0, 0), (58, .iinc 5 1, 3, 0, 0, 0), (61, .iinc 7 1, 3, 0, 0, 0), (64, .goto (-31), 3, 0, 0, 0), (67, .iinc 6 1, 3, 0, 0, 0), (70, .goto (-46), 3, 0, 0, 0), (73, .iload 5, 2, 0, 0, 0), (75, .ireturn, 1, 0, 0, 0)]
/-- TankDivers$Odds.bySums(LTankDivers$Game;IZ)I -/
def q54 : List AE := [(0, .iload_n 3, 1, 0, 0, 0), (1, .ifCond .ne 10, 3, 0, 0, 0), (4, .aload_n 1, 1, 0, 0, 0), (5, .invokevirtual 23, 3, 35, 0, 476), (8, .ifCond .eq 7, 3, 0, 0, 0), (11, .iconst 1, 1, 0, 0, 0), (12, .goto 4, 3, 0, 0, 0), (15, .iconst 0, 1, 0, 0, 0), (16, .istore 4, 2, 0, 0, 0), (18, .iconst 0, 1, 0, 0, 0), (19, .istore 5, 2, 0, 0, 0), (21, .iconst 2, 1, 0, 0, 0), (22, .istore 6, 2, 0, 0, 0), (24, .iload 6, 2, 0, 0, 0), (26, .bipush 6, 2, 0, 0, 0), (28, .if_icmp .gt 35, 3, 0, 0, 0), (31, .aload_n 1, 1, 0, 0, 0), (32, .aload_n 1, 1, 0, 0, 0), (33, .invokevirtual 29, 3, 31, 0, 477), (36, .iload 4, 2, 0, 0, 0), (38, .iload 6, 2, 0, 0, 0), (40, .invokevirtual 33, 3, 37, 0, 478), (43, .iload_n 2, 1, 0, 0, 0), (44, .if_icmp .ne 13, 3, 0, 0, 0), (47, .iload 5, 2, 0, 0, 0), (49, .iload 6, 2, 0, 0, 0), (51, .invokestatic 37, 3, 55, 0, 498), (54, .iadd, 1, 0, 0, 0), (55, .istore 5, 2, 0, 0, 0), (57, .iinc 6 1, 3, 0, 0, 0), (60, .goto (-36), 3, 0, 0, 0), (63, .iload 5, 2, 0, 0, 0), (65, .ireturn, 1, 0, 0, 0)]
/-- TankDivers$Odds.throwsShowing(I)I -/
def q55 : List AE := [(0, .iconst 3, 1, 0, 0, 0), (1, .iload_n 0, 1, 0, 0, 0), (2, .iconst 3, 1, 0, 0, 0), (3, .isub, 1, 0, 0, 0), (4, .iconst 1, 1, 0, 0, 0), (5, .isub, 1, 0, 0, 0), (6, .invokestatic 41, 3, 900, 0, 501), (9, .isub, 1, 0, 0, 0), (10, .ireturn, 1, 0, 0, 0)]
/-- TankDivers$Odds.home(LTankDivers$Game;I)I -/
def q56 : List AE := [(0, .aload_n 0, 1, 0, 0, 0), (1, .getfield 14, 3, 3, 0, 192), (4, .invokevirtual 46, 3, 84, 0, 513), (7, .aload_n 0, 1, 0, 0, 0), (8, .getfield 14, 3, 3, 0, 192), (11, .aload_n 1, 1, 0, 0, 0), (12, .invokevirtual 29, 3, 31, 0, 477), (15, .iconst 1, 1, 0, 0, 0), (16, .invokevirtual 49, 3, 81, 0, 514), (19, .iconst 0, 1, 0, 0, 0), (20, .istore_n 3, 1, 0, 0, 0), (21, .iload_n 3, 1, 0, 0, 0), (22, .iload_n 2, 1, 0, 0, 0), (23, .if_icmp .ge 14, 3, 0, 0, 0), (26, .aload_n 0, 1, 0, 0, 0), (27, .aload_n 1, 1, 0, 0, 0), (28, .invokevirtual 53, 3, 57, 0, 515), (31, .iinc 3 1, 3, 0, 0, 0), (34, .goto (-13), 3, 0, 0, 0), (37, .aload_n 0, 1, 0, 0, 0), (38, .getfield 14, 3, 3, 0, 192), (41, .iconst 0, 1, 0, 0, 0), (42, .invokevirtual 57, 3, 80, 0, 519), (45, .ireturn, 1, 0, 0, 0)]
/-- TankDivers$Odds.moveUp(LTankDivers$Game;)V -/
def q57 : List AE := [(0, .aload_n 0, 1, 0, 0, 0), (1, .getfield 20, 3, 3, 1, 193), (4, .invokevirtual 46, 3, 84, 0, 513), (7, .aload_n 0, 1, 0, 0, 0), (8, .getfield 20, 3, 3, 1, 193), (11, .iconst 0, 1, 0, 0, 0), (12, .aload_n 0, 1, 0, 0, 0), (13, .getfield 14, 3, 3, 0, 192), (16, .iconst 0, 1, 0, 0, 0), (17, .invokevirtual 57, 3, 80, 0, 519), (20, .bipush 9, 2, 0, 0, 0), (22, .imul, 1, 0, 0, 0), (23, .invokevirtual 49, 3, 81, 0, 514), (26, .iconst 1, 1, 0, 0, 0), (27, .istore_n 2, 1, 0, 0, 0), (28, .iload_n 2, 1, 0, 0, 0), (29, .aload_n 1, 1, 0, 0, 0), (30, .getfield 60, 3, 1, 0, 113), (33, .getfield 64, 3, 5, 1, 60), (36, .if_icmp .gt 60, 3, 0, 0, 0), (39, .aload_n 0, 1, 0, 0, 0), (40, .getfield 14, 3, 3, 0, 192), (43, .iload_n 2, 1, 0, 0, 0), (44, .invokevirtual 57, 3, 80, 0, 519), (47, .istore_n 3, 1, 0, 0, 0), (48, .iconst 2, 1, 0, 0, 0), (49, .istore 4, 2, 0, 0, 0), (51, .iload 4, 2, 0, 0, 0), (53, .bipush 6, 2, 0, 0, 0), (55, .if_icmp .gt 35, 3, 0, 0, 0), (58, .iload_n 3, 1, 0, 0, 0), (59, .ifCond .le 31, 3, 0, 0, 0), (62, .aload_n 0, 1, 0, 0, 0), (63, .getfield 20, 3, 3, 1, 193), (66, .aload_n 1, 1, 0, 0, 0), (67, .iload_n 2, 1, 0, 0, 0), (68, .iconst 1, 1, 0, 0, 0), (69, .iload 4, 2, 0, 0, 0), (71, .invokevirtual 33, 3, 37, 0, 478), (74, .iload_n 3, 1, 0, 0, 0), (75, .iload 4, 2, 0, 0, 0), (77, .invokestatic 37, 3, 55, 0, 498), (80, .imul, 1, 0, 0, 0), (81, .invokevirtual 70, 3, 82, 0, 520), (84, .iinc 4 1, 3, 0, 0, 0), (87, .goto (-36), 3, 0, 0, 0), (90, .iinc 2 1, 3, 0, 0, 0), (93, .goto (-65), 3, 0, 0, 0), (96, .aload_n 0, 1, 0, 0, 0), (97, .getfield 14, 3, 3, 0, 192), (100, .aload_n 0, 1, 0, 0, 0), (101, .getfield 20, 3, 3, 1, 193), (104, .invokevirtual 73, 3, 85, 0, 525), (107, .return_, 1, 0, 0, 0)]
/-- TankDivers$Pad.<init>()V -/
def q58 : List AE := [(0, .aload_n 0, 1, 0, 0, 0), (1, .invokespecial 3, 3, 999, 0, 174), (4, .aload_n 0, 1, 0, 0, 0), (5, .new 9, 3, 6, 0, 175), (8, .dup, 1, 0, 0, 0), (9, .bipush 60, 2, 0, 0, 0), (11, .invokespecial 11, 3, 79, 0, 176), (14, .putfield 14, 3, 4, 0, 177), (17, .return_, 1, 0, 0, 0)]
/-- TankDivers$Pad.length()I -/
def q59 : List AE := [(0, .aload_n 0, 1, 0, 0, 0), (1, .getfield 20, 3, 4, 1, 178), (4, .ireturn, 1, 0, 0, 0)]
/-- TankDivers$Pad.letterAt(I)I -/
def q60 : List AE := [(0, .aload_n 0, 1, 0, 0, 0), (1, .getfield 14, 3, 4, 0, 177), (4, .iload_n 1, 1, 0, 0, 0), (5, .invokevirtual 24, 3, 80, 0, 673), (8, .ireturn, 1, 0, 0, 0)]
/-- TankDivers$Pad.write(I)I -/
def q61 : List AE := [(0, .aload_n 0, 1, 0, 0, 0), (1, .getfield 20, 3, 4, 1, 178), (4, .bipush 60, 2, 0, 0, 0), (6, .if_icmp .lt 6, 3, 0, 0, 0), (9, .bipush (-3), 2, 0, 0, 0), (11, .ireturn, 1, 0, 0, 0), (12, .aload_n 0, 1, 0, 0, 0), (13, .getfield 14, 3, 4, 0, 177), (16, .aload_n 0, 1, 0, 0, 0), (17, .getfield 20, 3, 4, 1, 178), (20, .iload_n 1, 1, 0, 0, 0), (21, .invokevirtual 28, 3, 81, 0, 664), (24, .aload_n 0, 1, 0, 0, 0), (25, .dup, 1, 0, 0, 0), (26, .getfield 20, 3, 4, 1, 178), (29, .iconst 1, 1, 0, 0, 0), (30, .iadd, 1, 0, 0, 0), (31, .putfield 20, 3, 4, 1, 178), (34, .aload_n 0, 1, 0, 0, 0), (35, .getfield 20, 3, 4, 1, 178), (38, .ireturn, 1, 0, 0, 0)]
/-- TankDivers$Pad.wipe()I -/
def q62 : List AE := [(0, .aload_n 0, 1, 0, 0, 0), (1, .getfield 20, 3, 4, 1, 178), (4, .istore_n 1, 1, 0, 0, 0), (5, .aload_n 0, 1, 0, 0, 0), (6, .iconst 0, 1, 0, 0, 0), (7, .putfield 20, 3, 4, 1, 178), (10, .iload_n 1, 1, 0, 0, 0), (11, .ireturn, 1, 0, 0, 0)]
/-- TankDivers$Pad.firstFault()I -/
def q63 : List AE := [(0, .iconst 1, 1, 0, 0, 0), (1, .istore_n 1, 1, 0, 0, 0), (2, .iconst 0, 1, 0, 0, 0), (3, .istore_n 2, 1, 0, 0, 0), (4, .iload_n 2, 1, 0, 0, 0), (5, .aload_n 0, 1, 0, 0, 0), (6, .getfield 20, 3, 4, 1, 178), (9, .if_icmp .ge 28, 3, 0, 0, 0), (12, .iload_n 1, 1, 0, 0, 0), (13, .aload_n 0, 1, 0, 0, 0), (14, .getfield 14, 3, 4, 0, 177), (17, .iload_n 2, 1, 0, 0, 0), (18, .invokevirtual 24, 3, 80, 0, 673), (21, .invokestatic 32, 3, 64, 0, 674), (24, .istore_n 1, 1, 0, 0, 0), (25, .iload_n 1, 1, 0, 0, 0), (26, .ifCond .ne 5, 3, 0, 0, 0), (29, .iload_n 2, 1, 0, 0, 0), (30, .ireturn, 1, 0, 0, 0), (31, .iinc 2 1, 3, 0, 0, 0), (34, .goto (-30), 3, 0, 0, 0), (37, .aload_n 0, 1, 0, 0, 0), (38, .getfield 20, 3, 4, 1, 178), (41, .ifCond .le 13, 3, 0, 0, 0), (44, .iload_n 1, 1, 0, 0, 0), (45, .iconst 1, 1, 0, 0, 0), (46, .if_icmp .ne 8, 3, 0, 0, 0), (49, .bipush (-4), 2, 0, 0, 0), (51, .goto 7, 3, 0, 0, 0), (54, .aload_n 0, 1, 0, 0, 0), (55, .getfield 20, 3, 4, 1, 178), (58, .ireturn, 1, 0, 0, 0)]
/-- TankDivers$Pad.dueBehind(II)I -/
def q64 : List AE := [(0, .iload_n 0, 1, 0, 0, 0), (1, .iconst 1, 1, 0, 0, 0), (2, .if_icmp .ne 21, 3, 0, 0, 0), (5, .iload_n 1, 1, 0, 0, 0), (6, .bipush 100, 2, 0, 0, 0), (8, .if_icmp .eq 9, 3, 0, 0, 0), (11, .iload_n 1, 1, 0, 0, 0), (12, .bipush 117, 2, 0, 0, 0), (14, .if_icmp .ne 7, 3, 0, 0, 0), (17, .iconst 2, 1, 0, 0, 0), (18, .goto 4, 3, 0, 0, 0), (21, .iconst 0, 1, 0, 0, 0), (22, .ireturn, 1, 0, 0, 0), (23, .iload_n 0, 1, 0, 0, 0), (24, .iconst 3, 1, 0, 0, 0), (25, .if_icmp .ne 21, 3, 0, 0, 0), (28, .iload_n 1, 1, 0, 0, 0), (29, .bipush 48, 2, 0, 0, 0), (31, .if_icmp .lt 13, 3, 0, 0, 0), (34, .iload_n 1, 1, 0, 0, 0), (35, .bipush 53, 2, 0, 0, 0), (37, .if_icmp .gt 7, 3, 0, 0, 0), (40, .iconst 1, 1, 0, 0, 0), (41, .goto 4, 3, 0, 0, 0), (44, .iconst 0, 1, 0, 0, 0), (45, .ireturn, 1, 0, 0, 0), (46, .iload_n 1, 1, 0, 0, 0), (47, .bipush 108, 2, 0, 0, 0), (49, .if_icmp .ne 5, 3, 0, 0, 0), (52, .iconst 3, 1, 0, 0, 0), (53, .ireturn, 1, 0, 0, 0), (54, .iload_n 1, 1, 0, 0, 0), (55, .bipush 116, 2, 0, 0, 0), (57, .if_icmp .eq 9, 3, 0, 0, 0), (60, .iload_n 1, 1, 0, 0, 0), (61, .bipush 110, 2, 0, 0, 0), (63, .if_icmp .ne 7, 3, 0, 0, 0), (66, .iconst 1, 1, 0, 0, 0), (67, .goto 4, 3, 0, 0, 0), (70, .iconst 0, 1, 0, 0, 0), (71, .ireturn, 1, 0, 0, 0)]
/-- TankDivers$Path.<init>()V -/
def q65 : List AE := [(0, .aload_n 0, 1, 0, 0, 0), (1, .invokespecial 3, 3, 999, 0, 42), (4, .aload_n 0, 1, 0, 0, 0), (5, .new 9, 3, 6, 0, 43), (8, .dup, 1, 0, 0, 0), (9, .bipush 17, 2, 0, 0, 0), (11, .invokespecial 11, 3, 79, 0, 45), (14, .putfield 14, 3, 5, 0, 57), (17, .return_, 1, 0, 0, 0)]
/-- TankDivers$Path.pileAt(I)I -/
def q66 : List AE := [(0, .aload_n 0, 1, 0, 0, 0), (1, .getfield 14, 3, 5, 0, 57), (4, .iload_n 1, 1, 0, 0, 0), (5, .invokevirtual 20, 3, 80, 0, 270), (8, .ireturn, 1, 0, 0, 0)]
/-- TankDivers$Path.setPile(II)V -/
def q67 : List AE := [(0, .aload_n 0, 1, 0, 0, 0), (1, .getfield 14, 3, 5, 0, 57), (4, .iload_n 1, 1, 0, 0, 0), (5, .iload_n 2, 1, 0, 0, 0), (6, .invokevirtual 24, 3, 81, 0, 217), (9, .return_, 1, 0, 0, 0)]
/-- TankDivers$Path.addSpace(I)V -/
def q68 : List AE := [(0, .aload_n 0, 1, 0, 0, 0), (1, .dup, 1, 0, 0, 0), (2, .getfield 28, 3, 5, 1, 59), (5, .iconst 1, 1, 0, 0, 0), (6, .iadd, 1, 0, 0, 0), (7, .putfield 28, 3, 5, 1, 59), (10, .aload_n 0, 1, 0, 0, 0), (11, .getfield 14, 3, 5, 0, 57), (14, .aload_n 0, 1, 0, 0, 0), (15, .getfield 28, 3, 5, 1, 59), (18, .iload_n 1, 1, 0, 0, 0), (19, .invokevirtual 24, 3, 81, 0, 217), (22, .return_, 1, 0, 0, 0)]
/-- TankDivers$Path.blanks()I -/
def q69 : List AE := [(0, .iconst 0, 1, 0, 0, 0), (1, .istore_n 1, 1, 0, 0, 0), (2, .iconst 1, 1, 0, 0, 0), (3, .istore_n 2, 1, 0, 0, 0), (4, .iload_n 2, 1, 0, 0, 0), (5, .aload_n 0, 1, 0, 0, 0), (6, .getfield 28, 3, 5, 1, 59), (9, .if_icmp .gt 28, 3, 0, 0, 0), (12, .iload_n 1, 1, 0, 0, 0), (13, .aload_n 0, 1, 0, 0, 0), (14, .getfield 14, 3, 5, 0, 57), (17, .iload_n 2, 1, 0, 0, 0), (18, .invokevirtual 20, 3, 80, 0, 270), (21, .ifCond .ne 7, 3, 0, 0, 0), (24, .iconst 1, 1, 0, 0, 0), (25, .goto 4, 3, 0, 0, 0), (28, .iconst 0, 1, 0, 0, 0), (29, .iadd, 1, 0, 0, 0), (30, .istore_n 1, 1, 0, 0, 0), (31, .iinc 2 1, 3, 0, 0, 0), (34, .goto (-30), 3, 0, 0, 0), (37, .iload_n 1, 1, 0, 0, 0), (38, .ireturn, 1, 0, 0, 0)]
/-- TankDivers$Path.treasures()I -/
def q70 : List AE := [(0, .iconst 0, 1, 0, 0, 0), (1, .istore_n 1, 1, 0, 0, 0), (2, .iconst 1, 1, 0, 0, 0), (3, .istore_n 2, 1, 0, 0, 0), (4, .iload_n 2, 1, 0, 0, 0), (5, .aload_n 0, 1, 0, 0, 0), (6, .getfield 28, 3, 5, 1, 59), (9, .if_icmp .gt 23, 3, 0, 0, 0), (12, .iload_n 1, 1, 0, 0, 0), (13, .aload_n 0, 1, 0, 0, 0), (14, .getfield 14, 3, 5, 0, 57), (17, .iload_n 2, 1, 0, 0, 0), (18, .invokevirtual 20, 3, 80, 0, 270), (21, .invokestatic 32, 3, 75, 0, 313), (24, .iadd, 1, 0, 0, 0), (25, .istore_n 1, 1, 0, 0, 0), (26, .iinc 2 1, 3, 0, 0, 0), (29, .goto (-25), 3, 0, 0, 0), (32, .iload_n 1, 1, 0, 0, 0), (33, .ireturn, 1, 0, 0, 0)]
/-- TankDivers$Path.values()I -/
def q71 : List AE := [(0, .iconst 0, 1, 0, 0, 0), (1, .istore_n 1, 1, 0, 0, 0), (2, .iconst 1, 1, 0, 0, 0), (3, .istore_n 2, 1, 0, 0, 0), (4, .iload_n 2, 1, 0, 0, 0), (5, .aload_n 0, 1, 0, 0, 0), (6, .getfield 28, 3, 5, 1, 59), (9, .if_icmp .gt 23, 3, 0, 0, 0), (12, .iload_n 1, 1, 0, 0, 0), (13, .aload_n 0, 1, 0, 0, 0), (14, .getfield 14, 3, 5, 0, 57), (17, .iload_n 2, 1, 0, 0, 0), (18, .invokevirtual 20, 3, 80, 0, 270), (21, .invokestatic 37, 3, 77, 0, 278), (24, .iadd, 1, 0, 0, 0), (25, .istore_n 1, 1, 0, 0, 0), (26, .iinc 2 1, 3, 0, 0, 0), (29, .goto (-25), 3, 0, 0, 0), (32, .iload_n 1, 1, 0, 0, 0), (33, .ireturn, 1, 0, 0, 0)]
/-- TankDivers$Path.closeUp()V -/
def q72 : List AE := [(0, .aload_n 0, 1, 0, 0, 0), (1, .getfield 28, 3, 5, 1, 59), (4, .istore_n 1, 1, 0, 0, 0), (5, .aload_n 0, 1, 0, 0, 0), (6, .iconst 0, 1, 0, 0, 0), (7, .putfield 28, 3, 5, 1, 59), (10, .iconst 1, 1, 0, 0, 0), (11, .istore_n 2, 1, 0, 0, 0), (12, .iload_n 2, 1, 0, 0, 0), (13, .iload_n 1, 1, 0, 0, 0), (14, .if_icmp .gt 27, 3, 0, 0, 0), (17, .aload_n 0, 1, 0, 0, 0), (18, .getfield 14, 3, 5, 0, 57), (21, .iload_n 2, 1, 0, 0, 0), (22, .invokevirtual 20, 3, 80, 0, 270), (25, .istore_n 3, 1, 0, 0, 0), (26, .iload_n 3, 1, 0, 0, 0), (27, .ifCond .eq 8, 3, 0, 0, 0), (30, .aload_n 0, 1, 0, 0, 0), (31, .iload_n 3, 1, 0, 0, 0), (32, .invokevirtual 40, 3, 68, 0, 615), (35, .iinc 2 1, 3, 0, 0, 0), (38, .goto (-26), 3, 0, 0, 0), (41, .return_, 1, 0, 0, 0)]
/-- TankDivers$Path.addStacks(LTankDivers$Row;I)V -/
def q73 : List AE := [(0, .iconst 0, 1, 0, 0, 0), (1, .istore_n 3, 1, 0, 0, 0), (2, .iconst 0, 1, 0, 0, 0), (3, .istore 4, 2, 0, 0, 0), (5, .iload 4, 2, 0, 0, 0), (7, .iload_n 2, 1, 0, 0, 0), (8, .if_icmp .ge 43, 3, 0, 0, 0), (11, .iload_n 3, 1, 0, 0, 0), (12, .aload_n 1, 1, 0, 0, 0), (13, .iload 4, 2, 0, 0, 0), (15, .invokevirtual 20, 3, 80, 0, 270), (18, .invokestatic 43, 3, 78, 0, 620), (21, .istore_n 3, 1, 0, 0, 0), (22, .iload_n 3, 1, 0, 0, 0), (23, .invokestatic 32, 3, 75, 0, 313), (26, .iconst 3, 1, 0, 0, 0), (27, .if_icmp .eq 11, 3, 0, 0, 0), (30, .iload 4, 2, 0, 0, 0), (32, .iload_n 2, 1, 0, 0, 0), (33, .iconst 1, 1, 0, 0, 0), (34, .isub, 1, 0, 0, 0), (35, .if_icmp .ne 10, 3, 0, 0, 0), (38, .aload_n 0, 1, 0, 0, 0), (39, .iload_n 3, 1, 0, 0, 0), (40, .invokevirtual 40, 3, 68, 0, 615), (43, .iconst 0, 1, 0, 0, 0), (44, .istore_n 3, 1, 0, 0, 0), (45, .iinc 4 1, 3, 0, 0, 0), (48, .goto (-43), 3, 0, 0, 0), (51, .return_, 1, 0, 0, 0)]
/-- TankDivers$Path.copyFrom(LTankDivers$Path;)V -/
def q74 : List AE := [(0, .aload_n 0, 1, 0, 0, 0), (1, .getfield 14, 3, 5, 0, 57), (4, .aload_n 1, 1, 0, 0, 0), (5, .getfield 14, 3, 5, 0, 57), (8, .invokevirtual 47, 3, 85, 0, 352), (11, .aload_n 0, 1, 0, 0, 0), (12, .aload_n 1, 1, 0, 0, 0), (13, .getfield 28, 3, 5, 1, 59), (16, .putfield 28, 3, 5, 1, 59), (19, .return_, 1, 0, 0, 0)]
/-- TankDivers$Pile.sizeOf(I)I -/
def q75 : List AE := [(0, .iload_n 0, 1, 0, 0, 0), (1, .bipush 12, 2, 0, 0, 0), (3, .ishr, 1, 0, 0, 0), (4, .ireturn, 1, 0, 0, 0)]
/-- TankDivers$Pile.valueAt(II)I -/
def q76 : List AE := [(0, .iload_n 0, 1, 0, 0, 0), (1, .iconst 4, 1, 0, 0, 0), (2, .iload_n 1, 1, 0, 0, 0), (3, .imul, 1, 0, 0, 0), (4, .ishr, 1, 0, 0, 0), (5, .bipush 15, 2, 0, 0, 0), (7, .iand, 1, 0, 0, 0), (8, .ireturn, 1, 0, 0, 0)]
/-- TankDivers$Pile.sumOf(I)I -/
def q77 : List AE := [(0, .iload_n 0, 1, 0, 0, 0), (1, .iconst 0, 1, 0, 0, 0), (2, .invokestatic 11, 3, 76, 0, 281), (5, .iload_n 0, 1, 0, 0, 0), (6, .iconst 1, 1, 0, 0, 0), (7, .invokestatic 11, 3, 76, 0, 281), (10, .iadd, 1, 0, 0, 0), (11, .iload_n 0, 1, 0, 0, 0), (12, .iconst 2, 1, 0, 0, 0), (13, .invokestatic 11, 3, 76, 0, 281), (16, .iadd, 1, 0, 0, 0), (17, .ireturn, 1, 0, 0, 0)]
/-- TankDivers$Pile.withOnTop(II)I -/
def q78 : List AE := [(0, .iload_n 0, 1, 0, 0, 0), (1, .sipush 4096, 3, 0, 0, 0), (4, .iadd, 1, 0, 0, 0), (5, .iload_n 1, 1, 0, 0, 0), (6, .iconst 4, 1, 0, 0, 0), (7, .iload_n 0, 1, 0, 0, 0), (8, .invokestatic 15, 3, 75, 0, 210), (11, .imul, 1, 0, 0, 0), (12, .ishl, 1, 0, 0, 0), (13, .iadd, 1, 0, 0, 0), (14, .ireturn, 1, 0, 0, 0)]
/-- TankDivers$Row.<init>(I)V -/
def q79 : List AE := [(0, .aload_n 0, 1, 0, 0, 0), (1, .invokespecial 1, 3, 999, 0, 48), (4, .aload_n 0, 1, 0, 0, 0), (5, .iload_n 1, 1, 0, 0, 0), (6, .iconst 0, 1, 0, 0, 0), (7, .invokestatic 7, 3, 901, 0, 49), (10, .newarray .int, 2, 0, 0, 0), (12, .putfield 13, 3, 6, 0, 52), (15, .return_, 1, 0, 0, 0)]
/-- TankDivers$Row.get(I)I -/
def q80 : List AE := [(0, .iload_n 1, 1, 0, 0, 0), (1, .ifCond .lt 21, 3, 0, 0, 0), (4, .iload_n 1, 1, 0, 0, 0), (5, .aload_n 0, 1, 0, 0, 0), (6, .getfield 13, 3, 6, 0, 52), (9, .arraylength, 1, 0, 0, 0), (10, .if_icmp .ge 12, 3, 0, 0, 0), (13, .aload_n 0, 1, 0, 0, 0), (14, .getfield 13, 3, 6, 0, 52), (17, .iload_n 1, 1, 0, 0, 0), (18, .iaload, 1, 0, 0, 0), (19, .goto 4, 3, 0, 0, 0), (22, .iconst 0, 1, 0, 0, 0), (23, .ireturn, 1, 0, 0, 0)]
/-- TankDivers$Row.set(II)V -/
def q81 : List AE := [(0, .iload_n 1, 1, 0, 0, 0), (1, .ifCond .lt 19, 3, 0, 0, 0), (4, .iload_n 1, 1, 0, 0, 0), (5, .aload_n 0, 1, 0, 0, 0), (6, .getfield 13, 3, 6, 0, 52), (9, .arraylength, 1, 0, 0, 0), (10, .if_icmp .ge 10, 3, 0, 0, 0), (13, .aload_n 0, 1, 0, 0, 0), (14, .getfield 13, 3, 6, 0, 52), (17, .iload_n 1, 1, 0, 0, 0), (18, .iload_n 2, 1, 0, 0, 0), (19, .iastore, 1, 0, 0, 0), (20, .return_, 1, 0, 0, 0)]
/-- TankDivers$Row.add(II)V -/
def q82 : List AE := [(0, .aload_n 0, 1, 0, 0, 0), (1, .iload_n 1, 1, 0, 0, 0), (2, .aload_n 0, 1, 0, 0, 0), (3, .iload_n 1, 1, 0, 0, 0), (4, .invokevirtual 19, 3, 80, 0, 356), (7, .iload_n 2, 1, 0, 0, 0), (8, .iadd, 1, 0, 0, 0), (9, .invokevirtual 23, 3, 81, 0, 524), (12, .return_, 1, 0, 0, 0)]
/-- TankDivers$Row.sum()I -/
def q83 : List AE := [(0, .iconst 0, 1, 0, 0, 0), (1, .istore_n 1, 1, 0, 0, 0), (2, .iconst 0, 1, 0, 0, 0), (3, .istore_n 2, 1, 0, 0, 0), (4, .iload_n 2, 1, 0, 0, 0), (5, .aload_n 0, 1, 0, 0, 0), (6, .getfield 13, 3, 6, 0, 52), (9, .arraylength, 1, 0, 0, 0), (10, .if_icmp .ge 18, 3, 0, 0, 0), (13, .iload_n 1, 1, 0, 0, 0), (14, .aload_n 0, 1, 0, 0, 0), (15, .getfield 13, 3, 6, 0, 52), (18, .iload_n 2, 1, 0, 0, 0), (19, .iaload, 1, 0, 0, 0), (20, .iadd, 1, 0, 0, 0), (21, .istore_n 1, 1, 0, 0, 0), (22, .iinc 2 1, 3, 0, 0, 0), (25, .goto (-21), 3, 0, 0, 0), (28, .iload_n 1, 1, 0, 0, 0), (29, .ireturn, 1, 0, 0, 0)]
/-- TankDivers$Row.wipe()V -/
def q84 : List AE := [(0, .iconst 0, 1, 0, 0, 0), (1, .istore_n 1, 1, 0, 0, 0), (2, .iload_n 1, 1, 0, 0, 0), (3, .aload_n 0, 1, 0, 0, 0), (4, .getfield 13, 3, 6, 0, 52), (7, .arraylength, 1, 0, 0, 0), (8, .if_icmp .ge 16, 3, 0, 0, 0), (11, .aload_n 0, 1, 0, 0, 0), (12, .getfield 13, 3, 6, 0, 52), (15, .iload_n 1, 1, 0, 0, 0), (16, .iconst 0, 1, 0, 0, 0), (17, .iastore, 1, 0, 0, 0), (18, .iinc 1 1, 3, 0, 0, 0), (21, .goto (-19), 3, 0, 0, 0), (24, .return_, 1, 0, 0, 0)]
/-- TankDivers$Row.copyFrom(LTankDivers$Row;)V -/
def q85 : List AE := [(0, .iconst 0, 1, 0, 0, 0), (1, .istore_n 2, 1, 0, 0, 0), (2, .iload_n 2, 1, 0, 0, 0), (3, .aload_n 0, 1, 0, 0, 0), (4, .getfield 13, 3, 6, 0, 52), (7, .arraylength, 1, 0, 0, 0), (8, .if_icmp .ge 20, 3, 0, 0, 0), (11, .aload_n 0, 1, 0, 0, 0), (12, .getfield 13, 3, 6, 0, 52), (15, .iload_n 2, 1, 0, 0, 0), (16, .aload_n 1, 1, 0, 0, 0), (17, .iload_n 2, 1, 0, 0, 0), (18, .invokevirtual 19, 3, 80, 0, 356), (21, .iastore, 1, 0, 0, 0), (22, .iinc 2 1, 3, 0, 0, 0), (25, .goto (-23), 3, 0, 0, 0), (28, .return_, 1, 0, 0, 0)]
/-- TankDivers.<init>()V -/
def q86 : List AE := [(0, .aload_n 0, 1, 0, 0, 0), (1, .invokespecial 3, 3, 999, 0, 28), (4, .aload_n 0, 1, 0, 0, 0), (5, .new 9, 3, 1, 0, 31), (8, .dup, 1, 0, 0, 0), (9, .invokespecial 11, 3, 26, 1, 33), (12, .putfield 12, 3, 7, 0, 233), (15, .aload_n 0, 1, 0, 0, 0), (16, .new 9, 3, 1, 0, 31), (19, .dup, 1, 0, 0, 0), (20, .invokespecial 11, 3, 26, 1, 33), (23, .putfield 16, 3, 7, 1, 234), (26, .aload_n 0, 1, 0, 0, 0), (27, .new 19, 3, 2, 0, 153), (30, .dup, 1, 0, 0, 0), (31, .invokespecial 21, 3, 46, 0, 155), (34, .putfield 22, 3, 7, 2, 235), (37, .aload_n 0, 1, 0, 0, 0), (38, .new 26, 3, 4, 0, 169), (41, .dup, 1, 0, 0, 0), (42, .invokespecial 28, 3, 58, 1, 171), (45, .putfield 29, 3, 7, 3, 236), (48, .aload_n 0, 1, 0, 0, 0), (49, .new 33, 3, 3, 0, 184), (52, .dup, 1, 0, 0, 0), (53, .invokespecial 35, 3, 52, 1, 186), (56, .putfield 36, 3, 7, 4, 237), (59, .aload_n 0, 1, 0, 0, 0), (60, .iconst 0, 1, 0, 0, 0), (61, .putfield 40, 3, 7, 6, 239), (64, .aload_n 0, 1, 0, 0, 0), (65, .getfield 12, 3, 7, 0, 233), (68, .iconst 2, 1, 0, 0, 0), (69, .iconst 1, 1, 0, 0, 0), (70, .invokevirtual 44, 3, 27, 0, 199), (73, .return_, 1, 0, 0, 0)]
/-- TankDivers.begin(II)I -/
def q87 : List AE := [(0, .iload_n 1, 1, 0, 0, 0), (1, .iconst 2, 1, 0, 0, 0), (2, .if_icmp .lt 19, 3, 0, 0, 0), (5, .iload_n 1, 1, 0, 0, 0), (6, .iconst 4, 1, 0, 0, 0), (7, .if_icmp .gt 14, 3, 0, 0, 0), (10, .iload_n 2, 1, 0, 0, 0), (11, .ifCond .lt 10, 3, 0, 0, 0), (14, .iload_n 2, 1, 0, 0, 0), (15, .sipush 10000, 3, 0, 0, 0), (18, .if_icmp .lt 5, 3, 0, 0, 0), (21, .iconst (-1), 1, 0, 0, 0), (22, .ireturn, 1, 0, 0, 0), (23, .aload_n 0, 1, 0, 0, 0), (24, .getfield 22, 3, 7, 2, 235), (27, .aload_n 0, 1, 0, 0, 0), (28, .getfield 12, 3, 7, 0, 233), (31, .invokevirtual 48, 3, 48, 0, 371), (34, .aload_n 0, 1, 0, 0, 0), (35, .getfield 12, 3, 7, 0, 233), (38, .iload_n 1, 1, 0, 0, 0), (39, .iload_n 2, 1, 0, 0, 0), (40, .invokevirtual 44, 3, 27, 0, 199), (43, .aload_n 0, 1, 0, 0, 0), (44, .getfield 12, 3, 7, 0, 233), (47, .invokevirtual 52, 3, 32, 0, 689), (50, .ireturn, 1, 0, 0, 0)]
/-- TankDivers.move(Z)I -/
def q88 : List AE := [(0, .aload_n 0, 1, 0, 0, 0), (1, .getfield 22, 3, 7, 2, 235), (4, .aload_n 0, 1, 0, 0, 0), (5, .getfield 12, 3, 7, 0, 233), (8, .invokevirtual 48, 3, 48, 0, 371), (11, .aload_n 0, 1, 0, 0, 0), (12, .getfield 12, 3, 7, 0, 233), (15, .iload_n 1, 1, 0, 0, 0), (16, .invokevirtual 56, 3, 36, 0, 537), (19, .ireturn, 1, 0, 0, 0)]
/-- TankDivers.take()I -/
def q89 : List AE := [(0, .aload_n 0, 1, 0, 0, 0), (1, .getfield 22, 3, 7, 2, 235), (4, .aload_n 0, 1, 0, 0, 0), (5, .getfield 12, 3, 7, 0, 233), (8, .invokevirtual 48, 3, 48, 0, 371), (11, .aload_n 0, 1, 0, 0, 0), (12, .getfield 12, 3, 7, 0, 233), (15, .bipush 116, 2, 0, 0, 0), (17, .iconst 0, 1, 0, 0, 0), (18, .invokevirtual 60, 3, 40, 0, 558), (21, .ireturn, 1, 0, 0, 0)]
/-- TankDivers.lay(I)I -/
def q90 : List AE := [(0, .aload_n 0, 1, 0, 0, 0), (1, .getfield 22, 3, 7, 2, 235), (4, .aload_n 0, 1, 0, 0, 0), (5, .getfield 12, 3, 7, 0, 233), (8, .invokevirtual 48, 3, 48, 0, 371), (11, .aload_n 0, 1, 0, 0, 0), (12, .getfield 12, 3, 7, 0, 233), (15, .bipush 108, 2, 0, 0, 0), (17, .iload_n 1, 1, 0, 0, 0), (18, .invokevirtual 60, 3, 40, 0, 558), (21, .ireturn, 1, 0, 0, 0)]
/-- TankDivers.nothing()I -/
def q91 : List AE := [(0, .aload_n 0, 1, 0, 0, 0), (1, .getfield 22, 3, 7, 2, 235), (4, .aload_n 0, 1, 0, 0, 0), (5, .getfield 12, 3, 7, 0, 233), (8, .invokevirtual 48, 3, 48, 0, 371), (11, .aload_n 0, 1, 0, 0, 0), (12, .getfield 12, 3, 7, 0, 233), (15, .bipush 110, 2, 0, 0, 0), (17, .iconst 0, 1, 0, 0, 0), (18, .invokevirtual 60, 3, 40, 0, 558), (21, .ireturn, 1, 0, 0, 0)]
/-- TankDivers.append(I)I -/
def q92 : List AE := [(0, .iload_n 1, 1, 0, 0, 0), (1, .bipush 33, 2, 0, 0, 0), (3, .if_icmp .lt 9, 3, 0, 0, 0), (6, .iload_n 1, 1, 0, 0, 0), (7, .bipush 126, 2, 0, 0, 0), (9, .if_icmp .le 5, 3, 0, 0, 0), (12, .iconst (-1), 1, 0, 0, 0), (13, .ireturn, 1, 0, 0, 0), (14, .aload_n 0, 1, 0, 0, 0), (15, .getfield 29, 3, 7, 3, 236), (18, .iload_n 1, 1, 0, 0, 0), (19, .invokevirtual 64, 3, 61, 0, 660), (22, .ireturn, 1, 0, 0, 0)]
/-- TankDivers.clear()I -/
def q93 : List AE := [(0, .aload_n 0, 1, 0, 0, 0), (1, .getfield 29, 3, 7, 3, 236), (4, .invokevirtual 68, 3, 62, 0, 652), (7, .ireturn, 1, 0, 0, 0)]
/-- TankDivers.fault()I -/
def q94 : List AE := [(0, .aload_n 0, 1, 0, 0, 0), (1, .getfield 29, 3, 7, 3, 236), (4, .invokevirtual 71, 3, 63, 0, 669), (7, .ireturn, 1, 0, 0, 0)]
/-- TankDivers.play()I -/
def q95 : List AE := [(0, .aload_n 0, 1, 0, 0, 0), (1, .getfield 29, 3, 7, 3, 236), (4, .invokevirtual 71, 3, 63, 0, 669), (7, .bipush (-4), 2, 0, 0, 0), (9, .if_icmp .eq 6, 3, 0, 0, 0), (12, .bipush (-2), 2, 0, 0, 0), (14, .ireturn, 1, 0, 0, 0), (15, .aload_n 0, 1, 0, 0, 0), (16, .getfield 22, 3, 7, 2, 235), (19, .aload_n 0, 1, 0, 0, 0), (20, .getfield 12, 3, 7, 0, 233), (23, .invokevirtual 48, 3, 48, 0, 371), (26, .aload_n 0, 1, 0, 0, 0), (27, .iconst 0, 1, 0, 0, 0), (28, .putfield 40, 3, 7, 6, 239), (31, .iconst 0, 1, 0, 0, 0), (32, .istore_n 1, 1, 0, 0, 0), (33, .aload_n 0, 1, 0, 0, 0), (34, .getfield 29, 3, 7, 3, 236), (37, .invokevirtual 74, 3, 59, 0, 324), (40, .istore_n 2, 1, 0, 0, 0), (41, .iconst 0, 1, 0, 0, 0), (42, .istore_n 3, 1, 0, 0, 0), (43, .iload_n 3, 1, 0, 0, 0), (44, .iload_n 2, 1, 0, 0, 0), (45, .if_icmp .ge 127, 3, 0, 0, 0), (48, .aload_n 0, 1, 0, 0, 0), (49, .getfield 40, 3, 7, 6, 239), (52, .ifCond .ne 120, 3, 0, 0, 0), (55, .aload_n 0, 1, 0, 0, 0), (56, .getfield 29, 3, 7, 3, 236), (59, .iload_n 3, 1, 0, 0, 0), (60, .invokevirtual 77, 3, 60, 0, 681), (63, .istore 4, 2, 0, 0, 0), (65, .iload 4, 2, 0, 0, 0), (67, .bipush 48, 2, 0, 0, 0), (69, .if_icmp .lt 13, 3, 0, 0, 0), (72, .iload 4, 2, 0, 0, 0), (74, .bipush 53, 2, 0, 0, 0), (76, .if_icmp .gt 6, 3, 0, 0, 0), (79, .goto 87, 3, 0, 0, 0), (82, .iload 4, 2, 0, 0, 0), (84, .bipush 100, 2, 0, 0, 0), (86, .if_icmp .eq 10, 3, 0, 0, 0), (89, .iload 4, 2, 0, 0, 0), (91, .bipush 117, 2, 0, 0, 0), (93, .if_icmp .ne 25, 3, 0, 0, 0), (96, .aload_n 0, 1, 0, 0, 0), (97, .getfield 12, 3, 7, 0, 233), (100, .iload 4, 2, 0, 0, 0), (102, .bipush 117, 2, 0, 0, 0), (104, .if_icmp .ne 7, 3, 0, 0, 0), (107, .iconst 1, 1, 0, 0, 0), (108, .goto 4, 3, 0, 0, 0), (111, .iconst 0, 1, 0, 0, 0), (112, .invokevirtual 56, 3, 36, 0, 537), (115, .goto 25, 3, 0, 0, 0), (118, .aload_n 0, 1, 0, 0, 0), (119, .getfield 12, 3, 7, 0, 233), (122, .iload 4, 2, 0, 0, 0), (124, .aload_n 0, 1, 0, 0, 0), (125, .getfield 29, 3, 7, 3, 236), (128, .iload_n 3, 1, 0, 0, 0), (129, .iconst 1, 1, 0, 0, 0), (130, .iadd, 1, 0, 0, 0), (131, .invokevirtual 77, 3, 60, 0, 681), (134, .bipush 48, 2, 0, 0, 0), (136, .isub, 1, 0, 0, 0), (137, .invokevirtual 60, 3, 40, 0, 558), (140, .istore 5, 2, 0, 0, 0), (142, .iload 5, 2, 0, 0, 0), (144, .bipush 10, 2, 0, 0, 0), (146, .if_icmp .lt 9, 3, 0, 0, 0), (149, .iinc 1 1, 3, 0, 0, 0), (152, .goto 14, 3, 0, 0, 0), (155, .aload_n 0, 1, 0, 0, 0), (156, .iload 5, 2, 0, 0, 0), (158, .putfield 40, 3, 7, 6, 239), (161, .aload_n 0, 1, 0, 0, 0), (162, .iload_n 3, 1, 0, 0, 0), (163, .putfield 80, 3, 7, 7, 240), (166, .iinc 3 1, 3, 0, 0, 0), (169, .goto (-126), 3, 0, 0, 0), (172, .aload_n 0, 1, 0, 0, 0), (173, .getfield 29, 3, 7, 3, 236), (176, .invokevirtual 68, 3, 62, 0, 652), (179, .pop, 1, 0, 0, 0), (180, .iload_n 1, 1, 0, 0, 0), (181, .ireturn, 1, 0, 0, 0)]
/-- TankDivers.why(I)I -/
def q96 : List AE := [(0, .iload_n 1, 1, 0, 0, 0), (1, .ifCond .lt 8, 3, 0, 0, 0), (4, .iload_n 1, 1, 0, 0, 0), (5, .iconst 1, 1, 0, 0, 0), (6, .if_icmp .le 5, 3, 0, 0, 0), (9, .iconst (-1), 1, 0, 0, 0), (10, .ireturn, 1, 0, 0, 0), (11, .aload_n 0, 1, 0, 0, 0), (12, .getfield 40, 3, 7, 6, 239), (15, .ifCond .ne 6, 3, 0, 0, 0), (18, .bipush (-4), 2, 0, 0, 0), (20, .ireturn, 1, 0, 0, 0), (21, .iload_n 1, 1, 0, 0, 0), (22, .ifCond .ne 10, 3, 0, 0, 0), (25, .aload_n 0, 1, 0, 0, 0), (26, .getfield 40, 3, 7, 6, 239), (29, .goto 7, 3, 0, 0, 0), (32, .aload_n 0, 1, 0, 0, 0), (33, .getfield 80, 3, 7, 7, 240), (36, .ireturn, 1, 0, 0, 0)]
/-- TankDivers.diver(II)I -/
def q97 : List AE := [(0, .aload_n 0, 1, 0, 0, 0), (1, .getfield 12, 3, 7, 0, 233), (4, .getfield 83, 3, 1, 1, 116), (7, .iload_n 1, 1, 0, 0, 0), (8, .invokevirtual 87, 3, 1, 0, 410), (11, .ifCond .ne 5, 3, 0, 0, 0), (14, .iconst (-1), 1, 0, 0, 0), (15, .ireturn, 1, 0, 0, 0), (16, .aload_n 0, 1, 0, 0, 0), (17, .getfield 12, 3, 7, 0, 233), (20, .getfield 83, 3, 1, 1, 116), (23, .iload_n 1, 1, 0, 0, 0), (24, .iload_n 2, 1, 0, 0, 0), (25, .invokevirtual 93, 3, 4, 0, 414), (28, .ireturn, 1, 0, 0, 0)]
/-- TankDivers.stack(III)I -/
def q98 : List AE := [(0, .aload_n 0, 1, 0, 0, 0), (1, .getfield 12, 3, 7, 0, 233), (4, .getfield 83, 3, 1, 1, 116), (7, .iload_n 1, 1, 0, 0, 0), (8, .invokevirtual 87, 3, 1, 0, 410), (11, .ifCond .eq 16, 3, 0, 0, 0), (14, .iload_n 2, 1, 0, 0, 0), (15, .ifCond .lt 12, 3, 0, 0, 0), (18, .iload_n 3, 1, 0, 0, 0), (19, .ifCond .lt 8, 3, 0, 0, 0), (22, .iload_n 3, 1, 0, 0, 0), (23, .iconst 3, 1, 0, 0, 0), (24, .if_icmp .le 5, 3, 0, 0, 0), (27, .iconst (-1), 1, 0, 0, 0), (28, .ireturn, 1, 0, 0, 0), (29, .iload_n 2, 1, 0, 0, 0), (30, .aload_n 0, 1, 0, 0, 0), (31, .getfield 12, 3, 7, 0, 233), (34, .getfield 83, 3, 1, 1, 116), (37, .getfield 96, 3, 0, 3, 83), (40, .iload_n 1, 1, 0, 0, 0), (41, .invokevirtual 100, 3, 80, 0, 422), (44, .if_icmp .lt 6, 3, 0, 0, 0), (47, .bipush (-4), 2, 0, 0, 0), (49, .ireturn, 1, 0, 0, 0), (50, .aload_n 0, 1, 0, 0, 0), (51, .getfield 12, 3, 7, 0, 233), (54, .getfield 83, 3, 1, 1, 116), (57, .iload_n 1, 1, 0, 0, 0), (58, .iload_n 2, 1, 0, 0, 0), (59, .invokevirtual 105, 3, 6, 0, 423), (62, .istore 4, 2, 0, 0, 0), (64, .iload 4, 2, 0, 0, 0), (66, .invokestatic 108, 3, 75, 0, 400), (69, .istore 5, 2, 0, 0, 0), (71, .iload_n 3, 1, 0, 0, 0), (72, .ifCond .ne 6, 3, 0, 0, 0), (75, .iload 5, 2, 0, 0, 0), (77, .ireturn, 1, 0, 0, 0), (78, .iload_n 3, 1, 0, 0, 0), (79, .iload 5, 2, 0, 0, 0), (81, .if_icmp .gt 14, 3, 0, 0, 0), (84, .iload 4, 2, 0, 0, 0), (86, .iload_n 3, 1, 0, 0, 0), (87, .iconst 1, 1, 0, 0, 0), (88, .isub, 1, 0, 0, 0), (89, .invokestatic 113, 3, 76, 0, 427), (92, .goto 5, 3, 0, 0, 0), (95, .bipush (-4), 2, 0, 0, 0), (97, .ireturn, 1, 0, 0, 0)]
/-- TankDivers.space(II)I -/
def q99 : List AE := [(0, .iload_n 1, 1, 0, 0, 0), (1, .iconst 1, 1, 0, 0, 0), (2, .if_icmp .lt 17, 3, 0, 0, 0), (5, .iload_n 1, 1, 0, 0, 0), (6, .aload_n 0, 1, 0, 0, 0), (7, .getfield 12, 3, 7, 0, 233), (10, .getfield 116, 3, 1, 0, 114), (13, .getfield 120, 3, 5, 1, 61), (16, .if_icmp .le 5, 3, 0, 0, 0), (19, .iconst (-1), 1, 0, 0, 0), (20, .ireturn, 1, 0, 0, 0), (21, .iload_n 2, 1, 0, 0, 0), (22, .tableswitch 68 0 2 #[26, 41, 56], 26, 0, 0, 0), (48, .aload_n 0, 1, 0, 0, 0), (49, .getfield 12, 3, 7, 0, 233), (52, .getfield 116, 3, 1, 0, 114), (55, .iload_n 1, 1, 0, 0, 0), (56, .invokevirtual 125, 3, 66, 0, 396), (59, .invokestatic 108, 3, 75, 0, 400), (62, .ireturn, 1, 0, 0, 0), (63, .aload_n 0, 1, 0, 0, 0), (64, .getfield 12, 3, 7, 0, 233), (67, .getfield 116, 3, 1, 0, 114), (70, .iload_n 1, 1, 0, 0, 0), (71, .invokevirtual 125, 3, 66, 0, 396), (74, .invokestatic 128, 3, 77, 0, 401), (77, .ireturn, 1, 0, 0, 0), (78, .aload_n 0, 1, 0, 0, 0), (79, .getfield 12, 3, 7, 0, 233), (82, .getfield 83, 3, 1, 1, 116), (85, .iload_n 1, 1, 0, 0, 0), (86, .invokevirtual 131, 3, 17, 0, 402), (89, .ireturn, 1, 0, 0, 0), (90, .iconst (-1), 1, 0, 0, 0), (91, .ireturn, 1, 0, 0, 0)]
/-- TankDivers.count(I)I -/
def q100 : List AE := [(0, .iload_n 1, 1, 0, 0, 0), (1, .tableswitch 262 0 15 #[79, 90, 101, 109, 132, 162, 170, 181, 192, 203, 214, 222, 230, 238, 246, 254], 79, 0, 0, 0), (80, .aload_n 0, 1, 0, 0, 0), (81, .getfield 12, 3, 7, 0, 233), (84, .getfield 83, 3, 1, 1, 116), (87, .getfield 134, 3, 0, 8, 90), (90, .ireturn, 1, 0, 0, 0), (91, .aload_n 0, 1, 0, 0, 0), (92, .getfield 12, 3, 7, 0, 233), (95, .getfield 116, 3, 1, 0, 114), (98, .getfield 120, 3, 5, 1, 61), (101, .ireturn, 1, 0, 0, 0), (102, .aload_n 0, 1, 0, 0, 0), (103, .getfield 12, 3, 7, 0, 233), (106, .getfield 137, 3, 1, 4, 121), (109, .ireturn, 1, 0, 0, 0), (110, .aload_n 0, 1, 0, 0, 0), (111, .getfield 12, 3, 7, 0, 233), (114, .invokevirtual 140, 3, 30, 0, 262), (117, .ifCond .eq 8, 3, 0, 0, 0), (120, .bipush (-4), 2, 0, 0, 0), (122, .goto 10, 3, 0, 0, 0), (125, .aload_n 0, 1, 0, 0, 0), (126, .getfield 12, 3, 7, 0, 233), (129, .getfield 144, 3, 1, 5, 123), (132, .ireturn, 1, 0, 0, 0), (133, .aload_n 0, 1, 0, 0, 0), (134, .getfield 12, 3, 7, 0, 233), (137, .invokevirtual 140, 3, 30, 0, 262), (140, .ifCond .eq 7, 3, 0, 0, 0), (143, .iconst 2, 1, 0, 0, 0), (144, .goto 18, 3, 0, 0, 0), (147, .aload_n 0, 1, 0, 0, 0), (148, .getfield 12, 3, 7, 0, 233), (151, .getfield 147, 3, 1, 6, 125), (154, .ifCond .eq 7, 3, 0, 0, 0), (157, .iconst 1, 1, 0, 0, 0), (158, .goto 4, 3, 0, 0, 0), (161, .iconst 0, 1, 0, 0, 0), (162, .ireturn, 1, 0, 0, 0), (163, .aload_n 0, 1, 0, 0, 0), (164, .getfield 12, 3, 7, 0, 233), (167, .getfield 151, 3, 1, 7, 127), (170, .ireturn, 1, 0, 0, 0), (171, .aload_n 0, 1, 0, 0, 0), (172, .getfield 12, 3, 7, 0, 233), (175, .getfield 116, 3, 1, 0, 114), (178, .invokevirtual 154, 3, 69, 0, 266), (181, .ireturn, 1, 0, 0, 0), (182, .aload_n 0, 1, 0, 0, 0), (183, .getfield 12, 3, 7, 0, 233), (186, .getfield 116, 3, 1, 0, 114), (189, .invokevirtual 157, 3, 71, 0, 274), (192, .ireturn, 1, 0, 0, 0), (193, .aload_n 0, 1, 0, 0, 0), (194, .getfield 12, 3, 7, 0, 233), (197, .getfield 83, 3, 1, 1, 116), (200, .invokevirtual 160, 3, 12, 0, 284), (203, .ireturn, 1, 0, 0, 0), (204, .aload_n 0, 1, 0, 0, 0), (205, .getfield 12, 3, 7, 0, 233), (208, .getfield 83, 3, 1, 1, 116), (211, .invokevirtual 163, 3, 14, 0, 297), (214, .ireturn, 1, 0, 0, 0), (215, .aload_n 0, 1, 0, 0, 0), (216, .getfield 12, 3, 7, 0, 233), (219, .invokevirtual 166, 3, 33, 0, 305), (222, .ireturn, 1, 0, 0, 0), (223, .aload_n 0, 1, 0, 0, 0), (224, .getfield 12, 3, 7, 0, 233), (227, .getfield 169, 3, 1, 8, 129), (230, .ireturn, 1, 0, 0, 0), (231, .aload_n 0, 1, 0, 0, 0), (232, .getfield 12, 3, 7, 0, 233), (235, .getfield 172, 3, 1, 9, 131), (238, .ireturn, 1, 0, 0, 0), (239, .aload_n 0, 1, 0, 0, 0), (240, .getfield 12, 3, 7, 0, 233), (243, .getfield 175, 3, 1, 3, 119), (246, .ireturn, 1, 0, 0, 0), (247, .aload_n 0, 1, 0, 0, 0), (248, .getfield 29, 3, 7, 3, 236), (251, .invokevirtual 74, 3, 59, 0, 324), (254, .ireturn, 1, 0, 0, 0), (255, .aload_n 0, 1, 0, 0, 0), (256, .getfield 22, 3, 7, 2, 235), (259, .invokevirtual 178, 3, 47, 0, 328), (262, .ireturn, 1, 0, 0, 0), (263, .iconst (-1), 1, 0, 0, 0), (264, .ireturn, 1, 0, 0, 0)]
/-- TankDivers.leader()I -/
def q101 : List AE := [(0, .aload_n 0, 1, 0, 0, 0), (1, .getfield 12, 3, 7, 0, 233), (4, .getfield 83, 3, 1, 1, 116), (7, .invokevirtual 180, 3, 21, 0, 435), (10, .ireturn, 1, 0, 0, 0)]
/-- TankDivers.chances(IZI)I -/
def q102 : List AE := [(0, .iload_n 1, 1, 0, 0, 0), (1, .ifCond .lt 26, 3, 0, 0, 0), (4, .iload_n 1, 1, 0, 0, 0), (5, .aload_n 0, 1, 0, 0, 0), (6, .getfield 12, 3, 7, 0, 233), (9, .getfield 116, 3, 1, 0, 114), (12, .getfield 120, 3, 5, 1, 61), (15, .if_icmp .gt 12, 3, 0, 0, 0), (18, .iload_n 3, 1, 0, 0, 0), (19, .ifCond .lt 8, 3, 0, 0, 0), (22, .iload_n 3, 1, 0, 0, 0), (23, .iconst 1, 1, 0, 0, 0), (24, .if_icmp .le 5, 3, 0, 0, 0), (27, .iconst (-1), 1, 0, 0, 0), (28, .ireturn, 1, 0, 0, 0), (29, .aload_n 0, 1, 0, 0, 0), (30, .getfield 12, 3, 7, 0, 233), (33, .iload_n 2, 1, 0, 0, 0), (34, .invokevirtual 183, 3, 34, 0, 458), (37, .ifCond .eq 6, 3, 0, 0, 0), (40, .bipush (-2), 2, 0, 0, 0), (42, .ireturn, 1, 0, 0, 0), (43, .iload_n 3, 1, 0, 0, 0), (44, .ifCond .ne 19, 3, 0, 0, 0), (47, .aload_n 0, 1, 0, 0, 0), (48, .getfield 36, 3, 7, 4, 237), (51, .aload_n 0, 1, 0, 0, 0), (52, .getfield 12, 3, 7, 0, 233), (55, .iload_n 1, 1, 0, 0, 0), (56, .iload_n 2, 1, 0, 0, 0), (57, .invokevirtual 186, 3, 53, 0, 472), (60, .goto 16, 3, 0, 0, 0), (63, .aload_n 0, 1, 0, 0, 0), (64, .getfield 36, 3, 7, 4, 237), (67, .aload_n 0, 1, 0, 0, 0), (68, .getfield 12, 3, 7, 0, 233), (71, .iload_n 1, 1, 0, 0, 0), (72, .iload_n 2, 1, 0, 0, 0), (73, .invokevirtual 190, 3, 54, 0, 494), (76, .ireturn, 1, 0, 0, 0)]
/-- TankDivers.homeward(I)I -/
def q103 : List AE := [(0, .iload_n 1, 1, 0, 0, 0), (1, .iconst 1, 1, 0, 0, 0), (2, .if_icmp .lt 9, 3, 0, 0, 0), (5, .iload_n 1, 1, 0, 0, 0), (6, .bipush 6, 2, 0, 0, 0), (8, .if_icmp .le 5, 3, 0, 0, 0), (11, .iconst (-1), 1, 0, 0, 0), (12, .ireturn, 1, 0, 0, 0), (13, .aload_n 0, 1, 0, 0, 0), (14, .getfield 12, 3, 7, 0, 233), (17, .iconst 0, 1, 0, 0, 0), (18, .invokevirtual 183, 3, 34, 0, 458), (21, .ifCond .ne 13, 3, 0, 0, 0), (24, .aload_n 0, 1, 0, 0, 0), (25, .getfield 12, 3, 7, 0, 233), (28, .invokevirtual 193, 3, 31, 0, 508), (31, .ifCond .ne 6, 3, 0, 0, 0), (34, .bipush (-2), 2, 0, 0, 0), (36, .ireturn, 1, 0, 0, 0), (37, .aload_n 0, 1, 0, 0, 0), (38, .getfield 36, 3, 7, 4, 237), (41, .aload_n 0, 1, 0, 0, 0), (42, .getfield 12, 3, 7, 0, 233), (45, .iload_n 1, 1, 0, 0, 0), (46, .invokevirtual 196, 3, 56, 0, 509), (49, .ireturn, 1, 0, 0, 0)]
/-- TankDivers.used()I -/
def q104 : List AE := [(0, .aload_n 0, 1, 0, 0, 0), (1, .getfield 12, 3, 7, 0, 233), (4, .getfield 83, 3, 1, 1, 116), (7, .invokevirtual 200, 3, 13, 0, 443), (10, .ireturn, 1, 0, 0, 0)]
/-- TankDiversLaw.low(II)I -/
def q105 : List AE := [(0, .iload_n 0, 1, 0, 0, 0), (1, .ldc 8, 2, 2147483647, 0, 386), (3, .iand, 1, 0, 0, 0), (4, .iload_n 1, 1, 0, 0, 0), (5, .irem, 1, 0, 0, 0), (6, .ireturn, 1, 0, 0, 0)]
/-- TankDivers.undo()I -/
def q106 : List AE := [(0, .aload_n 0, 1, 0, 0, 0), (1, .getfield 22, 3, 7, 2, 235), (4, .aload_n 0, 1, 0, 0, 0), (5, .getfield 12, 3, 7, 0, 233), (8, .invokevirtual 203, 3, 50, 0, 336), (11, .ireturn, 1, 0, 0, 0)]
/-- TankDivers.save()I -/
def q107 : List AE := [(0, .aload_n 0, 1, 0, 0, 0), (1, .getfield 16, 3, 7, 1, 234), (4, .aload_n 0, 1, 0, 0, 0), (5, .getfield 12, 3, 7, 0, 233), (8, .invokevirtual 207, 3, 45, 0, 366), (11, .aload_n 0, 1, 0, 0, 0), (12, .iconst 1, 1, 0, 0, 0), (13, .putfield 210, 3, 7, 5, 238), (16, .aload_n 0, 1, 0, 0, 0), (17, .getfield 12, 3, 7, 0, 233), (20, .getfield 137, 3, 1, 4, 121), (23, .ireturn, 1, 0, 0, 0)]
/-- TankDivers.restore()I -/
def q108 : List AE := [(0, .aload_n 0, 1, 0, 0, 0), (1, .getfield 210, 3, 7, 5, 238), (4, .ifCond .ne 6, 3, 0, 0, 0), (7, .bipush (-2), 2, 0, 0, 0), (9, .ireturn, 1, 0, 0, 0), (10, .aload_n 0, 1, 0, 0, 0), (11, .getfield 22, 3, 7, 2, 235), (14, .aload_n 0, 1, 0, 0, 0), (15, .getfield 12, 3, 7, 0, 233), (18, .invokevirtual 48, 3, 48, 0, 371), (21, .aload_n 0, 1, 0, 0, 0), (22, .getfield 12, 3, 7, 0, 233), (25, .aload_n 0, 1, 0, 0, 0), (26, .getfield 16, 3, 7, 1, 234), (29, .invokevirtual 207, 3, 45, 0, 366), (32, .aload_n 0, 1, 0, 0, 0), (33, .getfield 12, 3, 7, 0, 233), (36, .getfield 137, 3, 1, 4, 121), (39, .ireturn, 1, 0, 0, 0)]
/-- TankDiversLaw.look(LTankDivers;)J -/
def q109 : List AE := [(0, .ldc2_w 9, 3, 373, 0, 390), (3, .lstore_n 1, 1, 0, 0, 0), (4, .iconst 0, 1, 0, 0, 0), (5, .istore_n 3, 1, 0, 0, 0), (6, .iload_n 3, 1, 0, 0, 0), (7, .bipush 14, 2, 0, 0, 0), (9, .if_icmp .ge 22, 3, 0, 0, 0), (12, .ldc2_w 11, 3, 31, 0, 391), (15, .lload_n 1, 1, 0, 0, 0), (16, .lmul, 1, 0, 0, 0), (17, .aload_n 0, 1, 0, 0, 0), (18, .iload_n 3, 1, 0, 0, 0), (19, .invokevirtual 13, 3, 100, 0, 258), (22, .i2l, 1, 0, 0, 0), (23, .ladd, 1, 0, 0, 0), (24, .lstore_n 1, 1, 0, 0, 0), (25, .iinc 3 1, 3, 0, 0, 0), (28, .goto (-22), 3, 0, 0, 0), (31, .iconst 1, 1, 0, 0, 0), (32, .istore_n 3, 1, 0, 0, 0), (33, .iload_n 3, 1, 0, 0, 0), (34, .aload_n 0, 1, 0, 0, 0), (35, .iconst 1, 1, 0, 0, 0), (36, .invokevirtual 13, 3, 100, 0, 258), (39, .if_icmp .gt 47, 3, 0, 0, 0), (42, .ldc2_w 11, 3, 31, 0, 391), (45, .ldc2_w 11, 3, 31, 0, 391), (48, .ldc2_w 11, 3, 31, 0, 391), (51, .lload_n 1, 1, 0, 0, 0), (52, .lmul, 1, 0, 0, 0), (53, .aload_n 0, 1, 0, 0, 0), (54, .iload_n 3, 1, 0, 0, 0), (55, .iconst 0, 1, 0, 0, 0), (56, .invokevirtual 19, 3, 99, 0, 392), (59, .i2l, 1, 0, 0, 0), (60, .ladd, 1, 0, 0, 0), (61, .lmul, 1, 0, 0, 0), (62, .aload_n 0, 1, 0, 0, 0), (63, .iload_n 3, 1, 0, 0, 0), (64, .iconst 1, 1, 0, 0, 0), (65, .invokevirtual 19, 3, 99, 0, 392), (68, .i2l, 1, 0, 0, 0), (69, .ladd, 1, 0, 0, 0), (70, .lmul, 1, 0, 0, 0), (71, .aload_n 0, 1, 0, 0, 0), (72, .iload_n 3, 1, 0, 0, 0), (73, .iconst 2, 1, 0, 0, 0), (74, .invokevirtual 19, 3, 99, 0, 392), (77, .i2l, 1, 0, 0, 0), (78, .ladd, 1, 0, 0, 0), (79, .lstore_n 1, 1, 0, 0, 0), (80, .iinc 3 1, 3, 0, 0, 0), (83, .goto (-50), 3, 0, 0, 0), (86, .iconst 0, 1, 0, 0, 0), (87, .istore_n 3, 1, 0, 0, 0), (88, .iload_n 3, 1, 0, 0, 0), (89, .aload_n 0, 1, 0, 0, 0), (90, .iconst 0, 1, 0, 0, 0), (91, .invokevirtual 13, 3, 100, 0, 258), (94, .if_icmp .ge 118, 3, 0, 0, 0), (97, .iconst 0, 1, 0, 0, 0), (98, .istore 4, 2, 0, 0, 0), (100, .iload 4, 2, 0, 0, 0), (102, .bipush 9, 2, 0, 0, 0), (104, .if_icmp .ge 24, 3, 0, 0, 0), (107, .ldc2_w 11, 3, 31, 0, 391), (110, .lload_n 1, 1, 0, 0, 0), (111, .lmul, 1, 0, 0, 0), (112, .aload_n 0, 1, 0, 0, 0), (113, .iload_n 3, 1, 0, 0, 0), (114, .iload 4, 2, 0, 0, 0), (116, .invokevirtual 23, 3, 97, 0, 406), (119, .i2l, 1, 0, 0, 0), (120, .ladd, 1, 0, 0, 0), (121, .lstore_n 1, 1, 0, 0, 0), (122, .iinc 4 1, 3, 0, 0, 0), (125, .goto (-25), 3, 0, 0, 0), (128, .iconst 0, 1, 0, 0, 0), (129, .istore 4, 2, 0, 0, 0), (131, .iload 4, 2, 0, 0, 0), (133, .aload_n 0, 1, 0, 0, 0), (134, .iload_n 3, 1, 0, 0, 0), (135, .iconst 3, 1, 0, 0, 0), (136, .invokevirtual 23, 3, 97, 0, 406), (139, .if_icmp .ge 67, 3, 0, 0, 0), (142, .ldc2_w 11, 3, 31, 0, 391), (145, .ldc2_w 11, 3, 31, 0, 391), (148, .ldc2_w 11, 3, 31, 0, 391), (151, .ldc2_w 11, 3, 31, 0, 391), (154, .lload_n 1, 1, 0, 0, 0), (155, .lmul, 1, 0, 0, 0), (156, .aload_n 0, 1, 0, 0, 0), (157, .iload_n 3, 1, 0, 0, 0), (158, .iload 4, 2, 0, 0, 0), (160, .iconst 0, 1, 0, 0, 0), (161, .invokevirtual 26, 3, 98, 0, 418), (164, .i2l, 1, 0, 0, 0), (165, .ladd, 1, 0, 0, 0), (166, .lmul, 1, 0, 0, 0), (167, .aload_n 0, 1, 0, 0, 0), (168, .iload_n 3, 1, 0, 0, 0), (169, .iload 4, 2, 0, 0, 0), (171, .iconst 1, 1, 0, 0, 0), (172, .invokevirtual 26, 3, 98, 0, 418), (175, .i2l, 1, 0, 0, 0), (176, .ladd, 1, 0, 0, 0), (177, .lmul, 1, 0, 0, 0), (178, .aload_n 0, 1, 0, 0, 0), (179, .iload_n 3, 1, 0, 0, 0), (180, .iload 4, 2, 0, 0, 0), (182, .iconst 2, 1, 0, 0, 0), (183, .invokevirtual 26, 3, 98, 0, 418), (186, .i2l, 1, 0, 0, 0), (187, .ladd, 1, 0, 0, 0), (188, .lmul, 1, 0, 0, 0), (189, .aload_n 0, 1, 0, 0, 0), (190, .iload_n 3, 1, 0, 0, 0), (191, .iload 4, 2, 0, 0, 0), (193, .iconst 3, 1, 0, 0, 0), (194, .invokevirtual 26, 3, 98, 0, 418), (197, .i2l, 1, 0, 0, 0), (198, .ladd, 1, 0, 0, 0), (199, .lstore_n 1, 1, 0, 0, 0), (200, .iinc 4 1, 3, 0, 0, 0), (203, .goto (-72), 3, 0, 0, 0), (206, .iinc 3 1, 3, 0, 0, 0), (209, .goto (-121), 3, 0, 0, 0), (212, .lload_n 1, 1, 0, 0, 0), (213, .lreturn, 1, 0, 0, 0)]
/-- TankDiversLaw.holds(LTankDivers;)Z -/
def q110 : List AE := [(0, .iconst 0, 1, 0, 0, 0), (1, .istore_n 1, 1, 0, 0, 0), (2, .iconst 0, 1, 0, 0, 0), (3, .istore_n 2, 1, 0, 0, 0), (4, .iconst 0, 1, 0, 0, 0), (5, .istore_n 3, 1, 0, 0, 0), (6, .iconst 0, 1, 0, 0, 0), (7, .istore 4, 2, 0, 0, 0), (9, .iconst 0, 1, 0, 0, 0), (10, .istore 5, 2, 0, 0, 0), (12, .iconst 0, 1, 0, 0, 0), (13, .istore 6, 2, 0, 0, 0), (15, .iconst 0, 1, 0, 0, 0), (16, .istore 7, 2, 0, 0, 0), (18, .aload_n 0, 1, 0, 0, 0), (19, .iconst 0, 1, 0, 0, 0), (20, .invokevirtual 13, 3, 100, 0, 258), (23, .istore 8, 2, 0, 0, 0), (25, .aload_n 0, 1, 0, 0, 0), (26, .iconst 4, 1, 0, 0, 0), (27, .invokevirtual 13, 3, 100, 0, 258), (30, .iconst 2, 1, 0, 0, 0), (31, .if_icmp .ne 7, 3, 0, 0, 0), (34, .iconst 1, 1, 0, 0, 0), (35, .goto 4, 3, 0, 0, 0), (38, .iconst 0, 1, 0, 0, 0), (39, .istore 9, 2, 0, 0, 0), (41, .iload 8, 2, 0, 0, 0), (43, .iconst 2, 1, 0, 0, 0), (44, .if_icmp .lt 127, 3, 0, 0, 0), (47, .iload 8, 2, 0, 0, 0), (49, .iconst 4, 1, 0, 0, 0), (50, .if_icmp .gt 121, 3, 0, 0, 0), (53, .aload_n 0, 1, 0, 0, 0), (54, .iconst 2, 1, 0, 0, 0), (55, .invokevirtual 13, 3, 100, 0, 258), (58, .iconst 3, 1, 0, 0, 0), (59, .if_icmp .gt 112, 3, 0, 0, 0), (62, .iload 9, 2, 0, 0, 0), (64, .aload_n 0, 1, 0, 0, 0), (65, .iconst 2, 1, 0, 0, 0), (66, .invokevirtual 13, 3, 100, 0, 258), (69, .iconst 3, 1, 0, 0, 0), (70, .if_icmp .ne 7, 3, 0, 0, 0), (73, .iconst 1, 1, 0, 0, 0), (74, .goto 4, 3, 0, 0, 0), (77, .iconst 0, 1, 0, 0, 0), (78, .if_icmp .ne 93, 3, 0, 0, 0), (81, .aload_n 0, 1, 0, 0, 0), (82, .iconst 5, 1, 0, 0, 0), (83, .invokevirtual 13, 3, 100, 0, 258), (86, .bipush 25, 2, 0, 0, 0), (88, .if_icmp .gt 83, 3, 0, 0, 0), (91, .aload_n 0, 1, 0, 0, 0), (92, .iconst 5, 1, 0, 0, 0), (93, .invokevirtual 13, 3, 100, 0, 258), (96, .ifCond .lt 75, 3, 0, 0, 0), (99, .iload 9, 2, 0, 0, 0), (101, .ifCond .eq 16, 3, 0, 0, 0), (104, .aload_n 0, 1, 0, 0, 0), (105, .iconst 3, 1, 0, 0, 0), (106, .invokevirtual 13, 3, 100, 0, 258), (109, .bipush (-4), 2, 0, 0, 0), (111, .if_icmp .ne 60, 3, 0, 0, 0), (114, .goto 21, 3, 0, 0, 0), (117, .aload_n 0, 1, 0, 0, 0), (118, .iconst 3, 1, 0, 0, 0), (119, .invokevirtual 13, 3, 100, 0, 258), (122, .ifCond .lt 49, 3, 0, 0, 0), (125, .aload_n 0, 1, 0, 0, 0), (126, .iconst 3, 1, 0, 0, 0), (127, .invokevirtual 13, 3, 100, 0, 258), (130, .iload 8, 2, 0, 0, 0), (132, .if_icmp .ge 39, 3, 0, 0, 0), (135, .aload_n 0, 1, 0, 0, 0), (136, .bipush 11, 2, 0, 0, 0), (138, .invokevirtual 13, 3, 100, 0, 258), (141, .bipush 6, 2, 0, 0, 0), (143, .if_icmp .gt 28, 3, 0, 0, 0), (146, .aload_n 0, 1, 0, 0, 0), (147, .bipush 13, 2, 0, 0, 0), (149, .invokevirtual 13, 3, 100, 0, 258), (152, .ifCond .lt 19, 3, 0, 0, 0), (155, .aload_n 0, 1, 0, 0, 0), (156, .bipush 13, 2, 0, 0, 0), (158, .invokevirtual 13, 3, 100, 0, 258), (161, .sipush 10000, 3, 0, 0, 0), (164, .if_icmp .ge 7, 3, 0, 0, 0), (167, .iconst 1, 1, 0, 0, 0), (168, .goto 4, 3, 0, 0, 0), (171, .iconst 0, 1, 0, 0, 0), (172, .istore 10, 2, 0, 0, 0), (174, .iconst 1, 1, 0, 0, 0), (175, .istore 11, 2, 0, 0, 0), (177, .iload 11, 2, 0, 0, 0), (179, .aload_n 0, 1, 0, 0, 0), (180, .iconst 1, 1, 0, 0, 0), (181, .invokevirtual 13, 3, 100, 0, 258), (184, .if_icmp .gt 51, 3, 0, 0, 0), (187, .iload 4, 2, 0, 0, 0), (189, .aload_n 0, 1, 0, 0, 0), (190, .iload 11, 2, 0, 0, 0), (192, .iconst 1, 1, 0, 0, 0), (193, .invokevirtual 19, 3, 99, 0, 392), (196, .iadd, 1, 0, 0, 0), (197, .istore 4, 2, 0, 0, 0), (199, .iload_n 1, 1, 0, 0, 0), (200, .aload_n 0, 1, 0, 0, 0), (201, .iload 11, 2, 0, 0, 0), (203, .iconst 0, 1, 0, 0, 0), (204, .invokevirtual 19, 3, 99, 0, 392), (207, .iadd, 1, 0, 0, 0), (208, .istore_n 1, 1, 0, 0, 0), (209, .iload 5, 2, 0, 0, 0), (211, .aload_n 0, 1, 0, 0, 0), (212, .iload 11, 2, 0, 0, 0), (214, .iconst 0, 1, 0, 0, 0), (215, .invokevirtual 19, 3, 99, 0, 392), (218, .ifCond .ne 7, 3, 0, 0, 0), (221, .iconst 1, 1, 0, 0, 0), (222, .goto 4, 3, 0, 0, 0), (225, .iconst 0, 1, 0, 0, 0), (226, .iadd, 1, 0, 0, 0), (227, .istore 5, 2, 0, 0, 0), (229, .iinc 11 1, 3, 0, 0, 0), (232, .goto (-55), 3, 0, 0, 0), (235, .iconst 0, 1, 0, 0, 0), (236, .istore 11, 2, 0, 0, 0), (238, .iload 11, 2, 0, 0, 0), (240, .iload 8, 2, 0, 0, 0), (242, .if_icmp .ge 264, 3, 0, 0, 0), (245, .iload 10, 2, 0, 0, 0), (247, .ifCond .eq 259, 3, 0, 0, 0), (250, .iload_n 2, 1, 0, 0, 0), (251, .aload_n 0, 1, 0, 0, 0), (252, .iload 11, 2, 0, 0, 0), (254, .iconst 5, 1, 0, 0, 0), (255, .invokevirtual 23, 3, 97, 0, 406), (258, .iadd, 1, 0, 0, 0), (259, .istore_n 2, 1, 0, 0, 0), (260, .iload_n 3, 1, 0, 0, 0), (261, .aload_n 0, 1, 0, 0, 0), (262, .iload 11, 2, 0, 0, 0), (264, .bipush 6, 2, 0, 0, 0), (266, .invokevirtual 23, 3, 97, 0, 406), (269, .iadd, 1, 0, 0, 0), (270, .istore_n 3, 1, 0, 0, 0), (271, .iload_n 1, 1, 0, 0, 0), (272, .aload_n 0, 1, 0, 0, 0), (273, .iload 11, 2, 0, 0, 0), (275, .iconst 4, 1, 0, 0, 0), (276, .invokevirtual 23, 3, 97, 0, 406), (279, .aload_n 0, 1, 0, 0, 0), (280, .iload 11, 2, 0, 0, 0), (282, .bipush 7, 2, 0, 0, 0), (284, .invokevirtual 23, 3, 97, 0, 406), (287, .iadd, 1, 0, 0, 0), (288, .iadd, 1, 0, 0, 0), (289, .istore_n 1, 1, 0, 0, 0), (290, .iload 6, 2, 0, 0, 0), (292, .aload_n 0, 1, 0, 0, 0), (293, .iload 11, 2, 0, 0, 0), (295, .iconst 2, 1, 0, 0, 0), (296, .invokevirtual 23, 3, 97, 0, 406), (299, .iconst 1, 1, 0, 0, 0), (300, .if_icmp .ne 7, 3, 0, 0, 0), (303, .iconst 0, 1, 0, 0, 0), (304, .goto 10, 3, 0, 0, 0), (307, .aload_n 0, 1, 0, 0, 0), (308, .iload 11, 2, 0, 0, 0), (310, .iconst 3, 1, 0, 0, 0), (311, .invokevirtual 23, 3, 97, 0, 406), (314, .iadd, 1, 0, 0, 0), (315, .istore 6, 2, 0, 0, 0), (317, .iload 7, 2, 0, 0, 0), (319, .aload_n 0, 1, 0, 0, 0), (320, .iload 11, 2, 0, 0, 0), (322, .iconst 2, 1, 0, 0, 0), (323, .invokevirtual 23, 3, 97, 0, 406), (326, .iadd, 1, 0, 0, 0), (327, .istore 7, 2, 0, 0, 0), (329, .aload_n 0, 1, 0, 0, 0), (330, .aload_n 0, 1, 0, 0, 0), (331, .invokevirtual 32, 3, 101, 0, 431), (334, .bipush 6, 2, 0, 0, 0), (336, .invokevirtual 23, 3, 97, 0, 406), (339, .aload_n 0, 1, 0, 0, 0), (340, .iload 11, 2, 0, 0, 0), (342, .bipush 6, 2, 0, 0, 0), (344, .invokevirtual 23, 3, 97, 0, 406), (347, .if_icmp .lt 150, 3, 0, 0, 0), (350, .aload_n 0, 1, 0, 0, 0), (351, .iload 11, 2, 0, 0, 0), (353, .bipush 6, 2, 0, 0, 0), (355, .invokevirtual 23, 3, 97, 0, 406), (358, .aload_n 0, 1, 0, 0, 0), (359, .aload_n 0, 1, 0, 0, 0), (360, .invokevirtual 32, 3, 101, 0, 431), (363, .bipush 6, 2, 0, 0, 0), (365, .invokevirtual 23, 3, 97, 0, 406), (368, .if_icmp .lt 12, 3, 0, 0, 0), (371, .aload_n 0, 1, 0, 0, 0), (372, .invokevirtual 32, 3, 101, 0, 431), (375, .iload 11, 2, 0, 0, 0), (377, .if_icmp .gt 120, 3, 0, 0, 0), (380, .aload_n 0, 1, 0, 0, 0), (381, .iload 11, 2, 0, 0, 0), (383, .iconst 3, 1, 0, 0, 0), (384, .invokevirtual 23, 3, 97, 0, 406), (387, .bipush 6, 2, 0, 0, 0), (389, .if_icmp .gt 108, 3, 0, 0, 0), (392, .aload_n 0, 1, 0, 0, 0), (393, .iload 11, 2, 0, 0, 0), (395, .bipush 8, 2, 0, 0, 0), (397, .invokevirtual 23, 3, 97, 0, 406), (400, .aload_n 0, 1, 0, 0, 0), (401, .iconst 2, 1, 0, 0, 0), (402, .invokevirtual 13, 3, 100, 0, 258), (405, .if_icmp .gt 92, 3, 0, 0, 0), (408, .aload_n 0, 1, 0, 0, 0), (409, .iload 11, 2, 0, 0, 0), (411, .iconst 0, 1, 0, 0, 0), (412, .invokevirtual 23, 3, 97, 0, 406), (415, .ifCond .eq 20, 3, 0, 0, 0), (418, .aload_n 0, 1, 0, 0, 0), (419, .aload_n 0, 1, 0, 0, 0), (420, .iload 11, 2, 0, 0, 0), (422, .iconst 0, 1, 0, 0, 0), (423, .invokevirtual 23, 3, 97, 0, 406), (426, .iconst 2, 1, 0, 0, 0), (427, .invokevirtual 19, 3, 99, 0, 392), (430, .iload 11, 2, 0, 0, 0), (432, .if_icmp .ne 65, 3, 0, 0, 0), (435, .iload 9, 2, 0, 0, 0), (437, .ifCond .eq 37, 3, 0, 0, 0), (440, .aload_n 0, 1, 0, 0, 0), (441, .iload 11, 2, 0, 0, 0), (443, .iconst 0, 1, 0, 0, 0), (444, .invokevirtual 23, 3, 97, 0, 406), (447, .aload_n 0, 1, 0, 0, 0), (448, .iload 11, 2, 0, 0, 0), (450, .iconst 1, 1, 0, 0, 0), (451, .invokevirtual 23, 3, 97, 0, 406), (454, .iadd, 1, 0, 0, 0), (455, .aload_n 0, 1, 0, 0, 0), (456, .iload 11, 2, 0, 0, 0), (458, .iconst 2, 1, 0, 0, 0), (459, .invokevirtual 23, 3, 97, 0, 406), (462, .iadd, 1, 0, 0, 0), (463, .aload_n 0, 1, 0, 0, 0), (464, .iload 11, 2, 0, 0, 0), (466, .iconst 3, 1, 0, 0, 0), (467, .invokevirtual 23, 3, 97, 0, 406), (470, .iadd, 1, 0, 0, 0), (471, .ifCond .ne 26, 3, 0, 0, 0), (474, .aload_n 0, 1, 0, 0, 0), (475, .iload 11, 2, 0, 0, 0), (477, .aload_n 0, 1, 0, 0, 0), (478, .iload 11, 2, 0, 0, 0), (480, .iconst 3, 1, 0, 0, 0), (481, .invokevirtual 23, 3, 97, 0, 406), (484, .iconst 0, 1, 0, 0, 0), (485, .invokevirtual 26, 3, 98, 0, 418), (488, .bipush (-4), 2, 0, 0, 0), (490, .if_icmp .ne 7, 3, 0, 0, 0), (493, .iconst 1, 1, 0, 0, 0), (494, .goto 4, 3, 0, 0, 0), (497, .iconst 0, 1, 0, 0, 0), (498, .istore 10, 2, 0, 0, 0), (500, .iinc 11 1, 3, 0, 0, 0), (503, .goto (-265), 3, 0, 0, 0), (506, .iload 10, 2, 0, 0, 0), (508, .ifCond .eq 107, 3, 0, 0, 0), (511, .iload 4, 2, 0, 0, 0), (513, .aload_n 0, 1, 0, 0, 0), (514, .bipush 7, 2, 0, 0, 0), (516, .invokevirtual 13, 3, 100, 0, 258), (519, .if_icmp .ne 96, 3, 0, 0, 0), (522, .iload_n 2, 1, 0, 0, 0), (523, .aload_n 0, 1, 0, 0, 0), (524, .bipush 8, 2, 0, 0, 0), (526, .invokevirtual 13, 3, 100, 0, 258), (529, .if_icmp .ne 86, 3, 0, 0, 0), (532, .iload_n 3, 1, 0, 0, 0), (533, .aload_n 0, 1, 0, 0, 0), (534, .bipush 9, 2, 0, 0, 0), (536, .invokevirtual 13, 3, 100, 0, 258), (539, .if_icmp .ne 76, 3, 0, 0, 0), (542, .iload_n 1, 1, 0, 0, 0), (543, .bipush 16, 2, 0, 0, 0), (545, .if_icmp .ne 70, 3, 0, 0, 0), (548, .iload 5, 2, 0, 0, 0), (550, .aload_n 0, 1, 0, 0, 0), (551, .bipush 6, 2, 0, 0, 0), (553, .invokevirtual 13, 3, 100, 0, 258), (556, .if_icmp .ne 59, 3, 0, 0, 0), (559, .iload 6, 2, 0, 0, 0), (561, .aload_n 0, 1, 0, 0, 0), (562, .invokevirtual 36, 3, 104, 0, 439), (565, .if_icmp .ne 50, 3, 0, 0, 0), (568, .iload 7, 2, 0, 0, 0), (570, .iload 8, 2, 0, 0, 0), (572, .if_icmp .lt 12, 3, 0, 0, 0), (575, .aload_n 0, 1, 0, 0, 0), (576, .iconst 4, 1, 0, 0, 0), (577, .invokevirtual 13, 3, 100, 0, 258), (580, .iconst 1, 1, 0, 0, 0), (581, .if_icmp .ne 34, 3, 0, 0, 0), (584, .aload_n 0, 1, 0, 0, 0), (585, .aload_n 0, 1, 0, 0, 0), (586, .iconst 1, 1, 0, 0, 0), (587, .invokevirtual 13, 3, 100, 0, 258), (590, .iconst 1, 1, 0, 0, 0), (591, .iadd, 1, 0, 0, 0), (592, .iconst 0, 1, 0, 0, 0), (593, .invokevirtual 19, 3, 99, 0, 392), (596, .iconst (-1), 1, 0, 0, 0), (597, .if_icmp .ne 18, 3, 0, 0, 0), (600, .aload_n 0, 1, 0, 0, 0), (601, .iload 8, 2, 0, 0, 0), (603, .iconst 0, 1, 0, 0, 0), (604, .invokevirtual 23, 3, 97, 0, 406), (607, .iconst (-1), 1, 0, 0, 0), (608, .if_icmp .ne 7, 3, 0, 0, 0), (611, .iconst 1, 1, 0, 0, 0), (612, .goto 4, 3, 0, 0, 0), (615, .iconst 0, 1, 0, 0, 0), (616, .ireturn, 1, 0, 0, 0)]
/-- TankDiversLaw.would(LTankDivers;I)Z -/
def q111 : List AE := [(0, .iload_n 1, 1, 0, 0, 0), (1, .aload_n 0, 1, 0, 0, 0), (2, .iconst 1, 1, 0, 0, 0), (3, .invokevirtual 13, 3, 100, 0, 258), (6, .iconst 3, 1, 0, 0, 0), (7, .iadd, 1, 0, 0, 0), (8, .invokestatic 39, 3, 105, 0, 383), (11, .iconst 1, 1, 0, 0, 0), (12, .isub, 1, 0, 0, 0), (13, .istore_n 2, 1, 0, 0, 0), (14, .iload_n 1, 1, 0, 0, 0), (15, .iconst 5, 1, 0, 0, 0), (16, .ishr, 1, 0, 0, 0), (17, .iconst 3, 1, 0, 0, 0), (18, .invokestatic 39, 3, 105, 0, 383), (21, .istore_n 3, 1, 0, 0, 0), (22, .iload_n 1, 1, 0, 0, 0), (23, .bipush 7, 2, 0, 0, 0), (25, .ishr, 1, 0, 0, 0), (26, .iconst 2, 1, 0, 0, 0), (27, .invokestatic 39, 3, 105, 0, 383), (30, .ifCond .ne 7, 3, 0, 0, 0), (33, .iconst 1, 1, 0, 0, 0), (34, .goto 4, 3, 0, 0, 0), (37, .iconst 0, 1, 0, 0, 0), (38, .istore 4, 2, 0, 0, 0), (40, .iload_n 1, 1, 0, 0, 0), (41, .bipush 9, 2, 0, 0, 0), (43, .ishr, 1, 0, 0, 0), (44, .bipush 8, 2, 0, 0, 0), (46, .invokestatic 39, 3, 105, 0, 383), (49, .istore 5, 2, 0, 0, 0), (51, .aload_n 0, 1, 0, 0, 0), (52, .iload_n 2, 1, 0, 0, 0), (53, .iload 4, 2, 0, 0, 0), (55, .iload_n 3, 1, 0, 0, 0), (56, .invokevirtual 42, 3, 102, 0, 454), (59, .istore 6, 2, 0, 0, 0), (61, .aload_n 0, 1, 0, 0, 0), (62, .iload 5, 2, 0, 0, 0), (64, .invokevirtual 46, 3, 103, 0, 504), (67, .istore 7, 2, 0, 0, 0), (69, .aload_n 0, 1, 0, 0, 0), (70, .iconst 3, 1, 0, 0, 0), (71, .invokevirtual 13, 3, 100, 0, 258), (74, .istore 8, 2, 0, 0, 0), (76, .aload_n 0, 1, 0, 0, 0), (77, .iconst 4, 1, 0, 0, 0), (78, .invokevirtual 13, 3, 100, 0, 258), (81, .ifCond .ne 32, 3, 0, 0, 0), (84, .iload 4, 2, 0, 0, 0), (86, .ifCond .eq 23, 3, 0, 0, 0), (89, .aload_n 0, 1, 0, 0, 0), (90, .iload 8, 2, 0, 0, 0), (92, .iconst 1, 1, 0, 0, 0), (93, .invokevirtual 23, 3, 97, 0, 406), (96, .ifCond .ne 17, 3, 0, 0, 0), (99, .aload_n 0, 1, 0, 0, 0), (100, .iload 8, 2, 0, 0, 0), (102, .iconst 0, 1, 0, 0, 0), (103, .invokevirtual 23, 3, 97, 0, 406), (106, .ifCond .le 7, 3, 0, 0, 0), (109, .iconst 1, 1, 0, 0, 0), (110, .goto 4, 3, 0, 0, 0), (113, .iconst 0, 1, 0, 0, 0), (114, .istore 9, 2, 0, 0, 0), (116, .aload_n 0, 1, 0, 0, 0), (117, .iconst 4, 1, 0, 0, 0), (118, .invokevirtual 13, 3, 100, 0, 258), (121, .ifCond .ne 17, 3, 0, 0, 0), (124, .aload_n 0, 1, 0, 0, 0), (125, .iload 8, 2, 0, 0, 0), (127, .iconst 0, 1, 0, 0, 0), (128, .invokevirtual 23, 3, 97, 0, 406), (131, .ifCond .le 7, 3, 0, 0, 0), (134, .iconst 1, 1, 0, 0, 0), (135, .goto 4, 3, 0, 0, 0), (138, .iconst 0, 1, 0, 0, 0), (139, .istore 10, 2, 0, 0, 0), (141, .iload_n 2, 1, 0, 0, 0), (142, .ifCond .lt 17, 3, 0, 0, 0), (145, .iload_n 2, 1, 0, 0, 0), (146, .aload_n 0, 1, 0, 0, 0), (147, .iconst 1, 1, 0, 0, 0), (148, .invokevirtual 13, 3, 100, 0, 258), (151, .if_icmp .gt 8, 3, 0, 0, 0), (154, .iload_n 3, 1, 0, 0, 0), (155, .iconst 2, 1, 0, 0, 0), (156, .if_icmp .ne 12, 3, 0, 0, 0), (159, .iload 6, 2, 0, 0, 0), (161, .iconst (-1), 1, 0, 0, 0), (162, .if_icmp .ne 85, 3, 0, 0, 0), (165, .goto 30, 3, 0, 0, 0), (168, .iload 9, 2, 0, 0, 0), (170, .ifCond .eq 18, 3, 0, 0, 0), (173, .iload 6, 2, 0, 0, 0), (175, .ifCond .lt 72, 3, 0, 0, 0), (178, .iload 6, 2, 0, 0, 0), (180, .bipush 9, 2, 0, 0, 0), (182, .if_icmp .gt 65, 3, 0, 0, 0), (185, .goto 10, 3, 0, 0, 0), (188, .iload 6, 2, 0, 0, 0), (190, .bipush (-2), 2, 0, 0, 0), (192, .if_icmp .ne 55, 3, 0, 0, 0), (195, .iload 5, 2, 0, 0, 0), (197, .ifCond .eq 10, 3, 0, 0, 0), (200, .iload 5, 2, 0, 0, 0), (202, .bipush 7, 2, 0, 0, 0), (204, .if_icmp .ne 12, 3, 0, 0, 0), (207, .iload 7, 2, 0, 0, 0), (209, .iconst (-1), 1, 0, 0, 0), (210, .if_icmp .ne 37, 3, 0, 0, 0), (213, .goto 30, 3, 0, 0, 0), (216, .iload 10, 2, 0, 0, 0), (218, .ifCond .eq 18, 3, 0, 0, 0), (221, .iload 7, 2, 0, 0, 0), (223, .ifCond .lt 24, 3, 0, 0, 0), (226, .iload 7, 2, 0, 0, 0), (228, .ldc 49, 2, 531441, 0, 526), (230, .if_icmp .gt 17, 3, 0, 0, 0), (233, .goto 10, 3, 0, 0, 0), (236, .iload 7, 2, 0, 0, 0), (238, .bipush (-2), 2, 0, 0, 0), (240, .if_icmp .ne 7, 3, 0, 0, 0), (243, .iconst 1, 1, 0, 0, 0), (244, .goto 4, 3, 0, 0, 0), (247, .iconst 0, 1, 0, 0, 0), (248, .ireturn, 1, 0, 0, 0)]
/-- TankDiversLaw.types(LTankDivers;I)Z -/
def q112 : List AE := [(0, .iload_n 1, 1, 0, 0, 0), (1, .bipush 11, 2, 0, 0, 0), (3, .invokestatic 39, 3, 105, 0, 383), (6, .istore_n 2, 1, 0, 0, 0), (7, .aload_n 0, 1, 0, 0, 0), (8, .invokevirtual 50, 3, 93, 0, 648), (11, .ifCond .lt 7, 3, 0, 0, 0), (14, .iconst 1, 1, 0, 0, 0), (15, .goto 4, 3, 0, 0, 0), (18, .iconst 0, 1, 0, 0, 0), (19, .istore_n 3, 1, 0, 0, 0), (20, .iconst 0, 1, 0, 0, 0), (21, .istore 4, 2, 0, 0, 0), (23, .iload 4, 2, 0, 0, 0), (25, .iload_n 2, 1, 0, 0, 0), (26, .if_icmp .ge 137, 3, 0, 0, 0), (29, .iload_n 1, 1, 0, 0, 0), (30, .iconst 2, 1, 0, 0, 0), (31, .iconst 2, 1, 0, 0, 0), (32, .iload 4, 2, 0, 0, 0), (34, .imul, 1, 0, 0, 0), (35, .iadd, 1, 0, 0, 0), (36, .ishr, 1, 0, 0, 0), (37, .istore 5, 2, 0, 0, 0), (39, .iload 5, 2, 0, 0, 0), (41, .iconst 1, 1, 0, 0, 0), (42, .ishr, 1, 0, 0, 0), (43, .bipush 7, 2, 0, 0, 0), (45, .invokestatic 39, 3, 105, 0, 383), (48, .istore 6, 2, 0, 0, 0), (50, .iload_n 3, 1, 0, 0, 0), (51, .ifCond .eq 104, 3, 0, 0, 0), (54, .aload_n 0, 1, 0, 0, 0), (55, .iload 5, 2, 0, 0, 0), (57, .iconst 5, 1, 0, 0, 0), (58, .invokestatic 39, 3, 105, 0, 383), (61, .ifCond .ne 8, 3, 0, 0, 0), (64, .bipush 117, 2, 0, 0, 0), (66, .goto 5, 3, 0, 0, 0), (69, .bipush 100, 2, 0, 0, 0), (71, .invokevirtual 53, 3, 92, 0, 656), (74, .ifCond .le 81, 3, 0, 0, 0), (77, .aload_n 0, 1, 0, 0, 0), (78, .iload 6, 2, 0, 0, 0), (80, .iconst 3, 1, 0, 0, 0), (81, .if_icmp .ge 8, 3, 0, 0, 0), (84, .bipush 116, 2, 0, 0, 0), (86, .goto 17, 3, 0, 0, 0), (89, .iload 6, 2, 0, 0, 0), (91, .bipush 6, 2, 0, 0, 0), (93, .if_icmp .ge 8, 3, 0, 0, 0), (96, .bipush 110, 2, 0, 0, 0), (98, .goto 5, 3, 0, 0, 0), (101, .bipush 108, 2, 0, 0, 0), (103, .invokevirtual 53, 3, 92, 0, 656), (106, .ifCond .le 49, 3, 0, 0, 0), (109, .iload 6, 2, 0, 0, 0), (111, .bipush 6, 2, 0, 0, 0), (113, .if_icmp .lt 38, 3, 0, 0, 0), (116, .aload_n 0, 1, 0, 0, 0), (117, .bipush 48, 2, 0, 0, 0), (119, .iload 5, 2, 0, 0, 0), (121, .iconst 3, 1, 0, 0, 0), (122, .ishr, 1, 0, 0, 0), (123, .iload_n 1, 1, 0, 0, 0), (124, .bipush 22, 2, 0, 0, 0), (126, .ishr, 1, 0, 0, 0), (127, .iconst 5, 1, 0, 0, 0), (128, .invokestatic 39, 3, 105, 0, 383), (131, .ifCond .ne 8, 3, 0, 0, 0), (134, .bipush 8, 2, 0, 0, 0), (136, .goto 5, 3, 0, 0, 0), (139, .bipush 6, 2, 0, 0, 0), (141, .invokestatic 39, 3, 105, 0, 383), (144, .iadd, 1, 0, 0, 0), (145, .invokevirtual 53, 3, 92, 0, 656), (148, .ifCond .le 7, 3, 0, 0, 0), (151, .iconst 1, 1, 0, 0, 0), (152, .goto 4, 3, 0, 0, 0), (155, .iconst 0, 1, 0, 0, 0), (156, .istore_n 3, 1, 0, 0, 0), (157, .iinc 4 1, 3, 0, 0, 0), (160, .goto (-137), 3, 0, 0, 0), (163, .iload_n 3, 1, 0, 0, 0), (164, .ifCond .eq 27, 3, 0, 0, 0), (167, .iload_n 1, 1, 0, 0, 0), (168, .bipush 25, 2, 0, 0, 0), (170, .ishr, 1, 0, 0, 0), (171, .iconst 5, 1, 0, 0, 0), (172, .invokestatic 39, 3, 105, 0, 383), (175, .ifCond .gt 12, 3, 0, 0, 0), (178, .aload_n 0, 1, 0, 0, 0), (179, .bipush 100, 2, 0, 0, 0), (181, .invokevirtual 53, 3, 92, 0, 656), (184, .ifCond .le 7, 3, 0, 0, 0), (187, .iconst 1, 1, 0, 0, 0), (188, .goto 4, 3, 0, 0, 0), (191, .iconst 0, 1, 0, 0, 0), (192, .ireturn, 1, 0, 0, 0)]
/-- TankDiversLaw.plays(LTankDivers;I)Z -/
def q113 : List AE := [(0, .aload_n 0, 1, 0, 0, 0), (1, .invokestatic 56, 3, 109, 0, 387), (4, .lstore_n 2, 1, 0, 0, 0), (5, .iload_n 1, 1, 0, 0, 0), (6, .bipush 11, 2, 0, 0, 0), (8, .invokestatic 39, 3, 105, 0, 383), (11, .istore 4, 2, 0, 0, 0), (13, .aload_n 0, 1, 0, 0, 0), (14, .bipush 15, 2, 0, 0, 0), (16, .invokevirtual 13, 3, 100, 0, 258), (19, .istore 5, 2, 0, 0, 0), (21, .aload_n 0, 1, 0, 0, 0), (22, .bipush 12, 2, 0, 0, 0), (24, .invokevirtual 13, 3, 100, 0, 258), (27, .istore 6, 2, 0, 0, 0), (29, .aload_n 0, 1, 0, 0, 0), (30, .iconst 0, 1, 0, 0, 0), (31, .invokevirtual 60, 3, 96, 0, 641), (34, .istore 7, 2, 0, 0, 0), (36, .aload_n 0, 1, 0, 0, 0), (37, .iconst 1, 1, 0, 0, 0), (38, .invokevirtual 60, 3, 96, 0, 641), (41, .istore 8, 2, 0, 0, 0), (43, .aload_n 0, 1, 0, 0, 0), (44, .iload_n 1, 1, 0, 0, 0), (45, .invokestatic 63, 3, 112, 0, 645), (48, .istore 9, 2, 0, 0, 0), (50, .aload_n 0, 1, 0, 0, 0), (51, .bipush 14, 2, 0, 0, 0), (53, .invokevirtual 13, 3, 100, 0, 258), (56, .istore 10, 2, 0, 0, 0), (58, .aload_n 0, 1, 0, 0, 0), (59, .invokevirtual 67, 3, 94, 0, 665), (62, .istore 11, 2, 0, 0, 0), (64, .aload_n 0, 1, 0, 0, 0), (65, .invokevirtual 70, 3, 95, 0, 677), (68, .istore 12, 2, 0, 0, 0), (70, .aload_n 0, 1, 0, 0, 0), (71, .invokevirtual 50, 3, 93, 0, 648), (74, .istore 13, 2, 0, 0, 0), (76, .iload 9, 2, 0, 0, 0), (78, .ifCond .eq 34, 3, 0, 0, 0), (81, .iload 12, 2, 0, 0, 0), (83, .bipush (-2), 2, 0, 0, 0), (85, .if_icmp .ne 7, 3, 0, 0, 0), (88, .iconst 1, 1, 0, 0, 0), (89, .goto 4, 3, 0, 0, 0), (92, .iconst 0, 1, 0, 0, 0), (93, .iload 11, 2, 0, 0, 0), (95, .bipush (-4), 2, 0, 0, 0), (97, .if_icmp .eq 7, 3, 0, 0, 0), (100, .iconst 1, 1, 0, 0, 0), (101, .goto 4, 3, 0, 0, 0), (104, .iconst 0, 1, 0, 0, 0), (105, .if_icmp .ne 7, 3, 0, 0, 0), (108, .iconst 1, 1, 0, 0, 0), (109, .goto 4, 3, 0, 0, 0), (112, .iconst 0, 1, 0, 0, 0), (113, .istore 14, 2, 0, 0, 0), (115, .iload 11, 2, 0, 0, 0), (117, .bipush (-4), 2, 0, 0, 0), (119, .if_icmp .eq 73, 3, 0, 0, 0), (122, .iload 14, 2, 0, 0, 0), (124, .ifCond .eq 66, 3, 0, 0, 0), (127, .iload 11, 2, 0, 0, 0), (129, .ifCond .lt 61, 3, 0, 0, 0), (132, .iload 11, 2, 0, 0, 0), (134, .iload 10, 2, 0, 0, 0), (136, .if_icmp .gt 54, 3, 0, 0, 0), (139, .iload 13, 2, 0, 0, 0), (141, .iload 10, 2, 0, 0, 0), (143, .if_icmp .ne 47, 3, 0, 0, 0), (146, .aload_n 0, 1, 0, 0, 0), (147, .invokestatic 56, 3, 109, 0, 387), (150, .lload_n 2, 1, 0, 0, 0), (151, .lcmp, 1, 0, 0, 0), (152, .ifCond .ne 38, 3, 0, 0, 0), (155, .aload_n 0, 1, 0, 0, 0), (156, .bipush 15, 2, 0, 0, 0), (158, .invokevirtual 13, 3, 100, 0, 258), (161, .iload 5, 2, 0, 0, 0), (163, .if_icmp .ne 27, 3, 0, 0, 0), (166, .aload_n 0, 1, 0, 0, 0), (167, .iconst 0, 1, 0, 0, 0), (168, .invokevirtual 60, 3, 96, 0, 641), (171, .iload 7, 2, 0, 0, 0), (173, .if_icmp .ne 17, 3, 0, 0, 0), (176, .aload_n 0, 1, 0, 0, 0), (177, .iconst 1, 1, 0, 0, 0), (178, .invokevirtual 60, 3, 96, 0, 641), (181, .iload 8, 2, 0, 0, 0), (183, .if_icmp .ne 7, 3, 0, 0, 0), (186, .iconst 1, 1, 0, 0, 0), (187, .goto 4, 3, 0, 0, 0), (190, .iconst 0, 1, 0, 0, 0), (191, .ireturn, 1, 0, 0, 0), (192, .iload 12, 2, 0, 0, 0), (194, .iconst 2, 1, 0, 0, 0), (195, .iload 4, 2, 0, 0, 0), (197, .imul, 1, 0, 0, 0), (198, .if_icmp .ne 7, 3, 0, 0, 0), (201, .iconst 1, 1, 0, 0, 0), (202, .goto 4, 3, 0, 0, 0), (205, .iconst 0, 1, 0, 0, 0), (206, .istore 15, 2, 0, 0, 0), (208, .iload 14, 2, 0, 0, 0), (210, .ifCond .eq 136, 3, 0, 0, 0), (213, .iload 12, 2, 0, 0, 0), (215, .ifCond .lt 131, 3, 0, 0, 0), (218, .iload 12, 2, 0, 0, 0), (220, .iconst 2, 1, 0, 0, 0), (221, .iload 4, 2, 0, 0, 0), (223, .imul, 1, 0, 0, 0), (224, .if_icmp .gt 122, 3, 0, 0, 0), (227, .iload 13, 2, 0, 0, 0), (229, .ifCond .ne 117, 3, 0, 0, 0), (232, .aload_n 0, 1, 0, 0, 0), (233, .bipush 15, 2, 0, 0, 0), (235, .invokevirtual 13, 3, 100, 0, 258), (238, .iload 5, 2, 0, 0, 0), (240, .iconst 4, 1, 0, 0, 0), (241, .if_icmp .ge 10, 3, 0, 0, 0), (244, .iload 5, 2, 0, 0, 0), (246, .iconst 1, 1, 0, 0, 0), (247, .iadd, 1, 0, 0, 0), (248, .goto 4, 3, 0, 0, 0), (251, .iconst 4, 1, 0, 0, 0), (252, .if_icmp .ne 94, 3, 0, 0, 0), (255, .aload_n 0, 1, 0, 0, 0), (256, .bipush 12, 2, 0, 0, 0), (258, .invokevirtual 13, 3, 100, 0, 258), (261, .iload 6, 2, 0, 0, 0), (263, .iload 15, 2, 0, 0, 0), (265, .ifCond .eq 7, 3, 0, 0, 0), (268, .iconst 0, 1, 0, 0, 0), (269, .goto 4, 3, 0, 0, 0), (272, .iconst 1, 1, 0, 0, 0), (273, .iadd, 1, 0, 0, 0), (274, .if_icmp .ne 72, 3, 0, 0, 0), (277, .iload 15, 2, 0, 0, 0), (279, .ifCond .eq 26, 3, 0, 0, 0), (282, .aload_n 0, 1, 0, 0, 0), (283, .iconst 0, 1, 0, 0, 0), (284, .invokevirtual 60, 3, 96, 0, 641), (287, .bipush (-4), 2, 0, 0, 0), (289, .if_icmp .ne 57, 3, 0, 0, 0), (292, .aload_n 0, 1, 0, 0, 0), (293, .iconst 1, 1, 0, 0, 0), (294, .invokevirtual 60, 3, 96, 0, 641), (297, .bipush (-4), 2, 0, 0, 0), (299, .if_icmp .ne 47, 3, 0, 0, 0), (302, .goto 40, 3, 0, 0, 0), (305, .aload_n 0, 1, 0, 0, 0), (306, .iconst 0, 1, 0, 0, 0), (307, .invokevirtual 60, 3, 96, 0, 641), (310, .iconst 1, 1, 0, 0, 0), (311, .if_icmp .lt 35, 3, 0, 0, 0), (314, .aload_n 0, 1, 0, 0, 0), (315, .iconst 0, 1, 0, 0, 0), (316, .invokevirtual 60, 3, 96, 0, 641), (319, .bipush 8, 2, 0, 0, 0), (321, .if_icmp .gt 25, 3, 0, 0, 0), (324, .aload_n 0, 1, 0, 0, 0), (325, .iconst 1, 1, 0, 0, 0), (326, .invokevirtual 60, 3, 96, 0, 641), (329, .ifCond .lt 17, 3, 0, 0, 0), (332, .aload_n 0, 1, 0, 0, 0), (333, .iconst 1, 1, 0, 0, 0), (334, .invokevirtual 60, 3, 96, 0, 641), (337, .iload 10, 2, 0, 0, 0), (339, .if_icmp .ge 7, 3, 0, 0, 0), (342, .iconst 1, 1, 0, 0, 0), (343, .goto 4, 3, 0, 0, 0), (346, .iconst 0, 1, 0, 0, 0), (347, .ireturn, 1, 0, 0, 0)]
/-- TankDiversLaw.deeds(LTankDivers;II)Z -/
def q114 : List AE := [(0, .aload_n 0, 1, 0, 0, 0), (1, .iconst 3, 1, 0, 0, 0), (2, .invokevirtual 13, 3, 100, 0, 258), (5, .istore_n 3, 1, 0, 0, 0), (6, .aload_n 0, 1, 0, 0, 0), (7, .iconst 4, 1, 0, 0, 0), (8, .invokevirtual 13, 3, 100, 0, 258), (11, .istore 4, 2, 0, 0, 0), (13, .aload_n 0, 1, 0, 0, 0), (14, .bipush 12, 2, 0, 0, 0), (16, .invokevirtual 13, 3, 100, 0, 258), (19, .istore 5, 2, 0, 0, 0), (21, .iload 4, 2, 0, 0, 0), (23, .iconst 1, 1, 0, 0, 0), (24, .if_icmp .ne 12, 3, 0, 0, 0), (27, .aload_n 0, 1, 0, 0, 0), (28, .iload_n 3, 1, 0, 0, 0), (29, .iconst 0, 1, 0, 0, 0), (30, .invokevirtual 23, 3, 97, 0, 406), (33, .goto 4, 3, 0, 0, 0), (36, .iconst 0, 1, 0, 0, 0), (37, .istore 6, 2, 0, 0, 0), (39, .iload 4, 2, 0, 0, 0), (41, .iconst 1, 1, 0, 0, 0), (42, .if_icmp .ne 12, 3, 0, 0, 0), (45, .aload_n 0, 1, 0, 0, 0), (46, .iload_n 3, 1, 0, 0, 0), (47, .iconst 3, 1, 0, 0, 0), (48, .invokevirtual 23, 3, 97, 0, 406), (51, .goto 4, 3, 0, 0, 0), (54, .iconst 0, 1, 0, 0, 0), (55, .istore 7, 2, 0, 0, 0), (57, .iload 6, 2, 0, 0, 0), (59, .ifCond .le 13, 3, 0, 0, 0), (62, .aload_n 0, 1, 0, 0, 0), (63, .iload 6, 2, 0, 0, 0), (65, .iconst 0, 1, 0, 0, 0), (66, .invokevirtual 19, 3, 99, 0, 392), (69, .goto 4, 3, 0, 0, 0), (72, .iconst 0, 1, 0, 0, 0), (73, .istore 8, 2, 0, 0, 0), (75, .aload_n 0, 1, 0, 0, 0), (76, .iconst 2, 1, 0, 0, 0), (77, .invokevirtual 13, 3, 100, 0, 258), (80, .istore 9, 2, 0, 0, 0), (82, .iload_n 2, 1, 0, 0, 0), (83, .bipush 9, 2, 0, 0, 0), (85, .invokestatic 39, 3, 105, 0, 383), (88, .iconst 2, 1, 0, 0, 0), (89, .isub, 1, 0, 0, 0), (90, .istore 10, 2, 0, 0, 0), (92, .iload 4, 2, 0, 0, 0), (94, .iconst 2, 1, 0, 0, 0), (95, .if_icmp .ne 7, 3, 0, 0, 0), (98, .iconst 1, 1, 0, 0, 0), (99, .goto 88, 3, 0, 0, 0), (102, .iload 4, 2, 0, 0, 0), (104, .ifCond .ne 7, 3, 0, 0, 0), (107, .iconst 2, 1, 0, 0, 0), (108, .goto 79, 3, 0, 0, 0), (111, .iload_n 1, 1, 0, 0, 0), (112, .iconst 2, 1, 0, 0, 0), (113, .if_icmp .ne 7, 3, 0, 0, 0), (116, .iconst 0, 1, 0, 0, 0), (117, .goto 70, 3, 0, 0, 0), (120, .iload 6, 2, 0, 0, 0), (122, .ifCond .ne 7, 3, 0, 0, 0), (125, .iconst 5, 1, 0, 0, 0), (126, .goto 61, 3, 0, 0, 0), (129, .iload_n 1, 1, 0, 0, 0), (130, .ifCond .ne 29, 3, 0, 0, 0), (133, .iload 8, 2, 0, 0, 0), (135, .ifCond .ne 8, 3, 0, 0, 0), (138, .bipush 6, 2, 0, 0, 0), (140, .goto 47, 3, 0, 0, 0), (143, .iload 7, 2, 0, 0, 0), (145, .bipush 6, 2, 0, 0, 0), (147, .if_icmp .ne 8, 3, 0, 0, 0), (150, .bipush 8, 2, 0, 0, 0), (152, .goto 35, 3, 0, 0, 0), (155, .iconst 0, 1, 0, 0, 0), (156, .goto 31, 3, 0, 0, 0), (159, .iload 10, 2, 0, 0, 0), (161, .ifCond .lt 10, 3, 0, 0, 0), (164, .iload 10, 2, 0, 0, 0), (166, .iload 7, 2, 0, 0, 0), (168, .if_icmp .lt 8, 3, 0, 0, 0), (171, .bipush 6, 2, 0, 0, 0), (173, .goto 14, 3, 0, 0, 0), (176, .iload 8, 2, 0, 0, 0), (178, .ifCond .le 8, 3, 0, 0, 0), (181, .bipush 7, 2, 0, 0, 0), (183, .goto 4, 3, 0, 0, 0), (186, .iconst 0, 1, 0, 0, 0), (187, .istore 11, 2, 0, 0, 0), (189, .iload_n 1, 1, 0, 0, 0), (190, .ifCond .ne 10, 3, 0, 0, 0), (193, .aload_n 0, 1, 0, 0, 0), (194, .invokevirtual 73, 3, 89, 0, 554), (197, .goto 21, 3, 0, 0, 0), (200, .iload_n 1, 1, 0, 0, 0), (201, .iconst 1, 1, 0, 0, 0), (202, .if_icmp .ne 12, 3, 0, 0, 0), (205, .aload_n 0, 1, 0, 0, 0), (206, .iload 10, 2, 0, 0, 0), (208, .invokevirtual 76, 3, 90, 0, 630), (211, .goto 7, 3, 0, 0, 0), (214, .aload_n 0, 1, 0, 0, 0), (215, .invokevirtual 79, 3, 91, 0, 634), (218, .istore 12, 2, 0, 0, 0), (220, .iload 11, 2, 0, 0, 0), (222, .ifCond .le 58, 3, 0, 0, 0), (225, .iload 12, 2, 0, 0, 0), (227, .iload 11, 2, 0, 0, 0), (229, .if_icmp .ne 49, 3, 0, 0, 0), (232, .aload_n 0, 1, 0, 0, 0), (233, .bipush 12, 2, 0, 0, 0), (235, .invokevirtual 13, 3, 100, 0, 258), (238, .iload 5, 2, 0, 0, 0), (240, .iconst 1, 1, 0, 0, 0), (241, .iadd, 1, 0, 0, 0), (242, .if_icmp .ne 36, 3, 0, 0, 0), (245, .aload_n 0, 1, 0, 0, 0), (246, .iconst 4, 1, 0, 0, 0), (247, .invokevirtual 13, 3, 100, 0, 258), (250, .iload 4, 2, 0, 0, 0), (252, .if_icmp .ne 26, 3, 0, 0, 0), (255, .aload_n 0, 1, 0, 0, 0), (256, .iconst 3, 1, 0, 0, 0), (257, .invokevirtual 13, 3, 100, 0, 258), (260, .iload_n 3, 1, 0, 0, 0), (261, .if_icmp .ne 17, 3, 0, 0, 0), (264, .aload_n 0, 1, 0, 0, 0), (265, .iconst 2, 1, 0, 0, 0), (266, .invokevirtual 13, 3, 100, 0, 258), (269, .iload 9, 2, 0, 0, 0), (271, .if_icmp .ne 7, 3, 0, 0, 0), (274, .iconst 1, 1, 0, 0, 0), (275, .goto 4, 3, 0, 0, 0), (278, .iconst 0, 1, 0, 0, 0), (279, .ireturn, 1, 0, 0, 0), (280, .iload 12, 2, 0, 0, 0), (282, .bipush 10, 2, 0, 0, 0), (284, .iload_n 1, 1, 0, 0, 0), (285, .ifCond .ne 10, 3, 0, 0, 0), (288, .iload 7, 2, 0, 0, 0), (290, .iconst 1, 1, 0, 0, 0), (291, .iadd, 1, 0, 0, 0), (292, .goto 16, 3, 0, 0, 0), (295, .iload_n 1, 1, 0, 0, 0), (296, .iconst 1, 1, 0, 0, 0), (297, .if_icmp .ne 10, 3, 0, 0, 0), (300, .iload 7, 2, 0, 0, 0), (302, .iconst 1, 1, 0, 0, 0), (303, .isub, 1, 0, 0, 0), (304, .goto 4, 3, 0, 0, 0), (307, .iconst 0, 1, 0, 0, 0), (308, .iadd, 1, 0, 0, 0), (309, .if_icmp .ne 27, 3, 0, 0, 0), (312, .aload_n 0, 1, 0, 0, 0), (313, .bipush 12, 2, 0, 0, 0), (315, .invokevirtual 13, 3, 100, 0, 258), (318, .iload 5, 2, 0, 0, 0), (320, .if_icmp .ne 16, 3, 0, 0, 0), (323, .aload_n 0, 1, 0, 0, 0), (324, .iconst 4, 1, 0, 0, 0), (325, .invokevirtual 13, 3, 100, 0, 258), (328, .iconst 1, 1, 0, 0, 0), (329, .if_icmp .eq 7, 3, 0, 0, 0), (332, .iconst 1, 1, 0, 0, 0), (333, .goto 4, 3, 0, 0, 0), (336, .iconst 0, 1, 0, 0, 0), (337, .istore 13, 2, 0, 0, 0), (339, .iload 13, 2, 0, 0, 0), (341, .ifCond .eq 93, 3, 0, 0, 0), (344, .aload_n 0, 1, 0, 0, 0), (345, .iconst 2, 1, 0, 0, 0), (346, .invokevirtual 13, 3, 100, 0, 258), (349, .iload 9, 2, 0, 0, 0), (351, .if_icmp .gt 79, 3, 0, 0, 0), (354, .aload_n 0, 1, 0, 0, 0), (355, .iconst 2, 1, 0, 0, 0), (356, .invokevirtual 13, 3, 100, 0, 258), (359, .iload 9, 2, 0, 0, 0), (361, .if_icmp .ne 73, 3, 0, 0, 0), (364, .aload_n 0, 1, 0, 0, 0), (365, .iload_n 3, 1, 0, 0, 0), (366, .iconst 3, 1, 0, 0, 0), (367, .invokevirtual 23, 3, 97, 0, 406), (370, .iload_n 1, 1, 0, 0, 0), (371, .ifCond .ne 10, 3, 0, 0, 0), (374, .iload 7, 2, 0, 0, 0), (376, .iconst 1, 1, 0, 0, 0), (377, .iadd, 1, 0, 0, 0), (378, .goto 17, 3, 0, 0, 0), (381, .iload_n 1, 1, 0, 0, 0), (382, .iconst 1, 1, 0, 0, 0), (383, .if_icmp .ne 10, 3, 0, 0, 0), (386, .iload 7, 2, 0, 0, 0), (388, .iconst 1, 1, 0, 0, 0), (389, .isub, 1, 0, 0, 0), (390, .goto 5, 3, 0, 0, 0), (393, .iload 7, 2, 0, 0, 0), (395, .if_icmp .ne 39, 3, 0, 0, 0), (398, .iload_n 1, 1, 0, 0, 0), (399, .iconst 2, 1, 0, 0, 0), (400, .if_icmp .eq 30, 3, 0, 0, 0), (403, .aload_n 0, 1, 0, 0, 0), (404, .iload 6, 2, 0, 0, 0), (406, .iconst 0, 1, 0, 0, 0), (407, .invokevirtual 19, 3, 99, 0, 392), (410, .ifCond .ne 7, 3, 0, 0, 0), (413, .iconst 1, 1, 0, 0, 0), (414, .goto 4, 3, 0, 0, 0), (417, .iconst 0, 1, 0, 0, 0), (418, .iload_n 1, 1, 0, 0, 0), (419, .ifCond .ne 7, 3, 0, 0, 0), (422, .iconst 1, 1, 0, 0, 0), (423, .goto 4, 3, 0, 0, 0), (426, .iconst 0, 1, 0, 0, 0), (427, .if_icmp .ne 7, 3, 0, 0, 0), (430, .iconst 1, 1, 0, 0, 0), (431, .goto 4, 3, 0, 0, 0), (434, .iconst 0, 1, 0, 0, 0), (435, .ireturn, 1, 0, 0, 0)]
/-- TankDiversLaw.moves(LTankDivers;I)Z -/
def q115 : List AE := [(0, .aload_n 0, 1, 0, 0, 0), (1, .iconst 3, 1, 0, 0, 0), (2, .invokevirtual 13, 3, 100, 0, 258), (5, .istore_n 2, 1, 0, 0, 0), (6, .aload_n 0, 1, 0, 0, 0), (7, .iconst 4, 1, 0, 0, 0), (8, .invokevirtual 13, 3, 100, 0, 258), (11, .istore_n 3, 1, 0, 0, 0), (12, .iload_n 1, 1, 0, 0, 0), (13, .iconst 4, 1, 0, 0, 0), (14, .invokestatic 39, 3, 105, 0, 383), (17, .ifCond .ne 7, 3, 0, 0, 0), (20, .iconst 1, 1, 0, 0, 0), (21, .goto 4, 3, 0, 0, 0), (24, .iconst 0, 1, 0, 0, 0), (25, .istore 4, 2, 0, 0, 0), (27, .aload_n 0, 1, 0, 0, 0), (28, .bipush 12, 2, 0, 0, 0), (30, .invokevirtual 13, 3, 100, 0, 258), (33, .istore 5, 2, 0, 0, 0), (35, .aload_n 0, 1, 0, 0, 0), (36, .iconst 5, 1, 0, 0, 0), (37, .invokevirtual 13, 3, 100, 0, 258), (40, .istore 6, 2, 0, 0, 0), (42, .iload_n 3, 1, 0, 0, 0), (43, .iconst 2, 1, 0, 0, 0), (44, .if_icmp .ne 7, 3, 0, 0, 0), (47, .iconst 0, 1, 0, 0, 0), (48, .goto 9, 3, 0, 0, 0), (51, .aload_n 0, 1, 0, 0, 0), (52, .iload_n 2, 1, 0, 0, 0), (53, .iconst 3, 1, 0, 0, 0), (54, .invokevirtual 23, 3, 97, 0, 406), (57, .istore 7, 2, 0, 0, 0), (59, .iload_n 3, 1, 0, 0, 0), (60, .iconst 2, 1, 0, 0, 0), (61, .if_icmp .ne 7, 3, 0, 0, 0), (64, .iconst 0, 1, 0, 0, 0), (65, .goto 9, 3, 0, 0, 0), (68, .aload_n 0, 1, 0, 0, 0), (69, .iload_n 2, 1, 0, 0, 0), (70, .iconst 0, 1, 0, 0, 0), (71, .invokevirtual 23, 3, 97, 0, 406), (74, .istore 8, 2, 0, 0, 0), (76, .iload_n 3, 1, 0, 0, 0), (77, .iconst 2, 1, 0, 0, 0), (78, .if_icmp .ne 7, 3, 0, 0, 0), (81, .iconst 0, 1, 0, 0, 0), (82, .goto 9, 3, 0, 0, 0), (85, .aload_n 0, 1, 0, 0, 0), (86, .iload_n 2, 1, 0, 0, 0), (87, .iconst 1, 1, 0, 0, 0), (88, .invokevirtual 23, 3, 97, 0, 406), (91, .istore 9, 2, 0, 0, 0), (93, .iload_n 3, 1, 0, 0, 0), (94, .iconst 2, 1, 0, 0, 0), (95, .if_icmp .ne 7, 3, 0, 0, 0), (98, .iconst 1, 1, 0, 0, 0), (99, .goto 33, 3, 0, 0, 0), (102, .iload_n 3, 1, 0, 0, 0), (103, .iconst 1, 1, 0, 0, 0), (104, .if_icmp .ne 7, 3, 0, 0, 0), (107, .iconst 3, 1, 0, 0, 0), (108, .goto 24, 3, 0, 0, 0), (111, .iload 4, 2, 0, 0, 0), (113, .ifCond .eq 18, 3, 0, 0, 0), (116, .iload 9, 2, 0, 0, 0), (118, .iconst 1, 1, 0, 0, 0), (119, .if_icmp .eq 8, 3, 0, 0, 0), (122, .iload 8, 2, 0, 0, 0), (124, .ifCond .ne 7, 3, 0, 0, 0), (127, .iconst 4, 1, 0, 0, 0), (128, .goto 4, 3, 0, 0, 0), (131, .iconst 0, 1, 0, 0, 0), (132, .istore 10, 2, 0, 0, 0), (134, .aload_n 0, 1, 0, 0, 0), (135, .iload 4, 2, 0, 0, 0), (137, .invokevirtual 82, 3, 88, 0, 533), (140, .istore 11, 2, 0, 0, 0), (142, .iload 10, 2, 0, 0, 0), (144, .ifCond .le 48, 3, 0, 0, 0), (147, .iload 11, 2, 0, 0, 0), (149, .iload 10, 2, 0, 0, 0), (151, .if_icmp .ne 39, 3, 0, 0, 0), (154, .aload_n 0, 1, 0, 0, 0), (155, .bipush 12, 2, 0, 0, 0), (157, .invokevirtual 13, 3, 100, 0, 258), (160, .iload 5, 2, 0, 0, 0), (162, .iconst 1, 1, 0, 0, 0), (163, .iadd, 1, 0, 0, 0), (164, .if_icmp .ne 26, 3, 0, 0, 0), (167, .aload_n 0, 1, 0, 0, 0), (168, .iconst 4, 1, 0, 0, 0), (169, .invokevirtual 13, 3, 100, 0, 258), (172, .iload_n 3, 1, 0, 0, 0), (173, .if_icmp .ne 17, 3, 0, 0, 0), (176, .aload_n 0, 1, 0, 0, 0), (177, .iconst 5, 1, 0, 0, 0), (178, .invokevirtual 13, 3, 100, 0, 258), (181, .iload 6, 2, 0, 0, 0), (183, .if_icmp .ne 7, 3, 0, 0, 0), (186, .iconst 1, 1, 0, 0, 0), (187, .goto 4, 3, 0, 0, 0), (190, .iconst 0, 1, 0, 0, 0), (191, .ireturn, 1, 0, 0, 0), (192, .aload_n 0, 1, 0, 0, 0), (193, .iload_n 2, 1, 0, 0, 0), (194, .iconst 0, 1, 0, 0, 0), (195, .invokevirtual 23, 3, 97, 0, 406), (198, .istore 12, 2, 0, 0, 0), (200, .iload 4, 2, 0, 0, 0), (202, .ifCond .ne 9, 3, 0, 0, 0), (205, .iload 9, 2, 0, 0, 0), (207, .iconst 1, 1, 0, 0, 0), (208, .if_icmp .ne 7, 3, 0, 0, 0), (211, .iconst 1, 1, 0, 0, 0), (212, .goto 4, 3, 0, 0, 0), (215, .iconst 0, 1, 0, 0, 0), (216, .istore 13, 2, 0, 0, 0), (218, .iload 11, 2, 0, 0, 0), (220, .bipush 10, 2, 0, 0, 0), (222, .iload 12, 2, 0, 0, 0), (224, .iadd, 1, 0, 0, 0), (225, .if_icmp .ne 157, 3, 0, 0, 0), (228, .aload_n 0, 1, 0, 0, 0), (229, .iconst 4, 1, 0, 0, 0), (230, .invokevirtual 13, 3, 100, 0, 258), (233, .iconst 1, 1, 0, 0, 0), (234, .if_icmp .ne 148, 3, 0, 0, 0), (237, .aload_n 0, 1, 0, 0, 0), (238, .iconst 3, 1, 0, 0, 0), (239, .invokevirtual 13, 3, 100, 0, 258), (242, .iload_n 2, 1, 0, 0, 0), (243, .if_icmp .ne 139, 3, 0, 0, 0), (246, .aload_n 0, 1, 0, 0, 0), (247, .bipush 12, 2, 0, 0, 0), (249, .invokevirtual 13, 3, 100, 0, 258), (252, .iload 5, 2, 0, 0, 0), (254, .if_icmp .ne 128, 3, 0, 0, 0), (257, .aload_n 0, 1, 0, 0, 0), (258, .iconst 5, 1, 0, 0, 0), (259, .invokevirtual 13, 3, 100, 0, 258), (262, .iload 6, 2, 0, 0, 0), (264, .iload 7, 2, 0, 0, 0), (266, .if_icmp .le 11, 3, 0, 0, 0), (269, .iload 6, 2, 0, 0, 0), (271, .iload 7, 2, 0, 0, 0), (273, .isub, 1, 0, 0, 0), (274, .goto 4, 3, 0, 0, 0), (277, .iconst 0, 1, 0, 0, 0), (278, .if_icmp .ne 104, 3, 0, 0, 0), (281, .aload_n 0, 1, 0, 0, 0), (282, .bipush 11, 2, 0, 0, 0), (284, .invokevirtual 13, 3, 100, 0, 258), (287, .iconst 2, 1, 0, 0, 0), (288, .if_icmp .lt 94, 3, 0, 0, 0), (291, .aload_n 0, 1, 0, 0, 0), (292, .bipush 11, 2, 0, 0, 0), (294, .invokevirtual 13, 3, 100, 0, 258), (297, .bipush 6, 2, 0, 0, 0), (299, .if_icmp .gt 83, 3, 0, 0, 0), (302, .aload_n 0, 1, 0, 0, 0), (303, .iload_n 2, 1, 0, 0, 0), (304, .iconst 1, 1, 0, 0, 0), (305, .invokevirtual 23, 3, 97, 0, 406), (308, .iload 13, 2, 0, 0, 0), (310, .ifCond .eq 7, 3, 0, 0, 0), (313, .iconst 1, 1, 0, 0, 0), (314, .goto 4, 3, 0, 0, 0), (317, .iconst 0, 1, 0, 0, 0), (318, .if_icmp .ne 64, 3, 0, 0, 0), (321, .iload 13, 2, 0, 0, 0), (323, .ifCond .eq 13, 3, 0, 0, 0), (326, .iload 12, 2, 0, 0, 0), (328, .iload 8, 2, 0, 0, 0), (330, .if_icmp .gt 52, 3, 0, 0, 0), (333, .goto 10, 3, 0, 0, 0), (336, .iload 12, 2, 0, 0, 0), (338, .iload 8, 2, 0, 0, 0), (340, .if_icmp .lt 42, 3, 0, 0, 0), (343, .aload_n 0, 1, 0, 0, 0), (344, .iload_n 2, 1, 0, 0, 0), (345, .iconst 2, 1, 0, 0, 0), (346, .invokevirtual 23, 3, 97, 0, 406), (349, .iload 13, 2, 0, 0, 0), (351, .ifCond .eq 12, 3, 0, 0, 0), (354, .iload 12, 2, 0, 0, 0), (356, .ifCond .ne 7, 3, 0, 0, 0), (359, .iconst 1, 1, 0, 0, 0), (360, .goto 4, 3, 0, 0, 0), (363, .iconst 0, 1, 0, 0, 0), (364, .if_icmp .ne 18, 3, 0, 0, 0), (367, .aload_n 0, 1, 0, 0, 0), (368, .iload_n 2, 1, 0, 0, 0), (369, .iconst 3, 1, 0, 0, 0), (370, .invokevirtual 23, 3, 97, 0, 406), (373, .iload 7, 2, 0, 0, 0), (375, .if_icmp .ne 7, 3, 0, 0, 0), (378, .iconst 1, 1, 0, 0, 0), (379, .goto 4, 3, 0, 0, 0), (382, .iconst 0, 1, 0, 0, 0), (383, .ireturn, 1, 0, 0, 0)]
/-- TankDiversLaw.acts(LTankDivers;II)Z -/
def q116 : List AE := [(0, .iload_n 1, 1, 0, 0, 0), (1, .bipush 24, 2, 0, 0, 0), (3, .invokestatic 39, 3, 105, 0, 383), (6, .istore_n 3, 1, 0, 0, 0), (7, .iload_n 3, 1, 0, 0, 0), (8, .bipush 9, 2, 0, 0, 0), (10, .if_icmp .ge 9, 3, 0, 0, 0), (13, .aload_n 0, 1, 0, 0, 0), (14, .iload_n 2, 1, 0, 0, 0), (15, .invokestatic 86, 3, 115, 0, 530), (18, .ireturn, 1, 0, 0, 0), (19, .iload_n 3, 1, 0, 0, 0), (20, .bipush 18, 2, 0, 0, 0), (22, .if_icmp .ge 30, 3, 0, 0, 0), (25, .aload_n 0, 1, 0, 0, 0), (26, .iload_n 3, 1, 0, 0, 0), (27, .bipush 13, 2, 0, 0, 0), (29, .if_icmp .ge 7, 3, 0, 0, 0), (32, .iconst 0, 1, 0, 0, 0), (33, .goto 14, 3, 0, 0, 0), (36, .iload_n 3, 1, 0, 0, 0), (37, .bipush 15, 2, 0, 0, 0), (39, .if_icmp .ge 7, 3, 0, 0, 0), (42, .iconst 1, 1, 0, 0, 0), (43, .goto 4, 3, 0, 0, 0), (46, .iconst 2, 1, 0, 0, 0), (47, .iload_n 2, 1, 0, 0, 0), (48, .invokestatic 89, 3, 114, 0, 551), (51, .ireturn, 1, 0, 0, 0), (52, .iload_n 3, 1, 0, 0, 0), (53, .bipush 23, 2, 0, 0, 0), (55, .if_icmp .ge 9, 3, 0, 0, 0), (58, .aload_n 0, 1, 0, 0, 0), (59, .iload_n 2, 1, 0, 0, 0), (60, .invokestatic 93, 3, 113, 0, 638), (63, .ireturn, 1, 0, 0, 0), (64, .iconst 1, 1, 0, 0, 0), (65, .iload_n 2, 1, 0, 0, 0), (66, .iconst 5, 1, 0, 0, 0), (67, .invokestatic 39, 3, 105, 0, 383), (70, .iadd, 1, 0, 0, 0), (71, .istore 4, 2, 0, 0, 0), (73, .iload_n 2, 1, 0, 0, 0), (74, .iconst 3, 1, 0, 0, 0), (75, .ishr, 1, 0, 0, 0), (76, .sipush 10002, 3, 0, 0, 0), (79, .invokestatic 39, 3, 105, 0, 383), (82, .iconst 1, 1, 0, 0, 0), (83, .isub, 1, 0, 0, 0), (84, .istore 5, 2, 0, 0, 0), (86, .iload 4, 2, 0, 0, 0), (88, .iconst 1, 1, 0, 0, 0), (89, .if_icmp .eq 22, 3, 0, 0, 0), (92, .iload 4, 2, 0, 0, 0), (94, .iconst 5, 1, 0, 0, 0), (95, .if_icmp .eq 16, 3, 0, 0, 0), (98, .iload 5, 2, 0, 0, 0), (100, .ifCond .lt 11, 3, 0, 0, 0), (103, .iload 5, 2, 0, 0, 0), (105, .sipush 10000, 3, 0, 0, 0), (108, .if_icmp .ne 7, 3, 0, 0, 0), (111, .iconst 1, 1, 0, 0, 0), (112, .goto 4, 3, 0, 0, 0), (115, .iconst 0, 1, 0, 0, 0), (116, .istore 6, 2, 0, 0, 0), (118, .aload_n 0, 1, 0, 0, 0), (119, .bipush 12, 2, 0, 0, 0), (121, .invokevirtual 13, 3, 100, 0, 258), (124, .istore 7, 2, 0, 0, 0), (126, .aload_n 0, 1, 0, 0, 0), (127, .iload 4, 2, 0, 0, 0), (129, .iload 5, 2, 0, 0, 0), (131, .invokevirtual 96, 3, 87, 0, 685), (134, .istore 8, 2, 0, 0, 0), (136, .iload 6, 2, 0, 0, 0), (138, .ifCond .eq 17, 3, 0, 0, 0), (141, .iload 8, 2, 0, 0, 0), (143, .iconst (-1), 1, 0, 0, 0), (144, .if_icmp .ne 7, 3, 0, 0, 0), (147, .iconst 1, 1, 0, 0, 0), (148, .goto 105, 3, 0, 0, 0), (151, .iconst 0, 1, 0, 0, 0), (152, .goto 101, 3, 0, 0, 0), (155, .iload 8, 2, 0, 0, 0), (157, .aload_n 0, 1, 0, 0, 0), (158, .bipush 7, 2, 0, 0, 0), (160, .invokevirtual 13, 3, 100, 0, 258), (163, .if_icmp .ne 89, 3, 0, 0, 0), (166, .aload_n 0, 1, 0, 0, 0), (167, .iconst 0, 1, 0, 0, 0), (168, .invokevirtual 13, 3, 100, 0, 258), (171, .iload 4, 2, 0, 0, 0), (173, .if_icmp .ne 79, 3, 0, 0, 0), (176, .aload_n 0, 1, 0, 0, 0), (177, .bipush 8, 2, 0, 0, 0), (179, .invokevirtual 13, 3, 100, 0, 258), (182, .aload_n 0, 1, 0, 0, 0), (183, .bipush 9, 2, 0, 0, 0), (185, .invokevirtual 13, 3, 100, 0, 258), (188, .iadd, 1, 0, 0, 0), (189, .aload_n 0, 1, 0, 0, 0), (190, .iconst 2, 1, 0, 0, 0), (191, .invokevirtual 13, 3, 100, 0, 258), (194, .iadd, 1, 0, 0, 0), (195, .aload_n 0, 1, 0, 0, 0), (196, .iconst 3, 1, 0, 0, 0), (197, .invokevirtual 13, 3, 100, 0, 258), (200, .iadd, 1, 0, 0, 0), (201, .aload_n 0, 1, 0, 0, 0), (202, .iconst 4, 1, 0, 0, 0), (203, .invokevirtual 13, 3, 100, 0, 258), (206, .iadd, 1, 0, 0, 0), (207, .aload_n 0, 1, 0, 0, 0), (208, .bipush 11, 2, 0, 0, 0), (210, .invokevirtual 13, 3, 100, 0, 258), (213, .iadd, 1, 0, 0, 0), (214, .ifCond .ne 38, 3, 0, 0, 0), (217, .aload_n 0, 1, 0, 0, 0), (218, .iconst 1, 1, 0, 0, 0), (219, .invokevirtual 13, 3, 100, 0, 258), (222, .bipush 16, 2, 0, 0, 0), (224, .if_icmp .ne 28, 3, 0, 0, 0), (227, .aload_n 0, 1, 0, 0, 0), (228, .iconst 5, 1, 0, 0, 0), (229, .invokevirtual 13, 3, 100, 0, 258), (232, .bipush 25, 2, 0, 0, 0), (234, .if_icmp .ne 18, 3, 0, 0, 0), (237, .aload_n 0, 1, 0, 0, 0), (238, .bipush 12, 2, 0, 0, 0), (240, .invokevirtual 13, 3, 100, 0, 258), (243, .iload 7, 2, 0, 0, 0), (245, .if_icmp .ne 7, 3, 0, 0, 0), (248, .iconst 1, 1, 0, 0, 0), (249, .goto 4, 3, 0, 0, 0), (252, .iconst 0, 1, 0, 0, 0), (253, .ireturn, 1, 0, 0, 0)]
def codes : List (List AE) := [q0, q1, q2, q3, q4, q5, q6, q7, q8, q9, q10, q11, q12, q13, q14, q15, q16, q17, q18, q19, q20, q21, q22, q23, q24, q25, q26, q27, q28, q29, q30, q31, q32, q33, q34, q35, q36, q37, q38, q39, q40, q41, q42, q43, q44, q45, q46, q47, q48, q49, q50, q51, q52, q53, q54, q55, q56, q57, q58, q59, q60, q61, q62, q63, q64, q65, q66, q67, q68, q69, q70, q71, q72, q73, q74, q75, q76, q77, q78, q79, q80, q81, q82, q83, q84, q85, q86, q87, q88, q89, q90, q91, q92, q93, q94, q95, q96, q97, q98, q99, q100, q101, q102, q103, q104, q105, q106, q107, q108, q109, q110, q111, q112, q113, q114, q115, q116]
end
section
/-! ===== AN ABSTRACT MACHINE: values, objects, a heap as a list; one step; runs with fuel ===== -/
/-- a value: a whole number, a reference (by its place in the heap) or null, a long (its second place, and what is unset: none) -/
abbrev AV : Type := Int ⊕ (Option Nat ⊕ Option Int64)
/-- an object: its kind (the class's place in vwCl; 100: a row of ints; 101: a row of references) and its cells -/
abbrev AO : Type := Nat × List AV
abbrev AH : Type := List AO
abbrev I (z : Int) : AV := Sum.inl z
abbrev Rf (i : Nat) : AV := Sum.inr (Sum.inl (some i))
abbrev Nu : AV := Sum.inr (Sum.inl none)
abbrev Db (_ : Nat) : AV := Sum.inr (Sum.inr none)
abbrev Lg (x : Int64) : AV := Sum.inr (Sum.inr (some x))
def i32 (z : Int) : Int32 := Int32.ofInt z
def inr (z : Int) : Prop := -2147483648 ≤ z ∧ z ≤ 2147483647
def inrB (z : Int) : Bool := decide (-2147483648 ≤ z) && decide (z ≤ 2147483647)
theorem inrB_iff {z : Int} : inrB z = true ↔ inr z := by simp [inrB, inr]
def w2 (f : Int32 → Int32 → Int32) (x y : Int) : Int := (f (i32 x) (i32 y)).toInt
def cmpB (c : ClassFile.Cond) (x y : Int) : Bool := match c with
  | .eq => decide (x = y) | .ne => decide (x ≠ y) | .lt => decide (x < y) | .ge => decide (y ≤ x) | .gt => decide (y < x) | .le => decide (x ≤ y)
def tgN (pc : Nat) (off : Int) : Nat := ((pc : Int) + off).toNat
def tgB (pc : Nat) (off : Int) : Bool := decide (0 ≤ (pc : Int) + off)
abbrev ASt : Type := Nat × List AV × List AV × AH
def stI (ls : List AV) (i : Nat) (pc : Nat) (st : List AV) (h : AH) : Option ASt := match ls[i]? with
  | some (.inl z) => some (pc, ls, I z :: st, h) | _ => none
def stA (ls : List AV) (i : Nat) (pc : Nat) (st : List AV) (h : AH) : Option ASt := match ls[i]? with
  | some (.inr (.inl r)) => some (pc, ls, .inr (.inl r) :: st, h) | _ => none
def ssI (ls : List AV) (i : Nat) (pc : Nat) (st : List AV) (h : AH) : Option ASt := match st with
  | .inl z :: st => if i < ls.length then some (pc, ls.set i (I z), st, h) else none | _ => none
def ssA (ls : List AV) (i : Nat) (pc : Nat) (st : List AV) (h : AH) : Option ASt := match st with
  | .inr (.inl r) :: st => if i < ls.length then some (pc, ls.set i (.inr (.inl r)), st, h) else none | _ => none
def stL (ls : List AV) (i : Nat) (pc : Nat) (st : List AV) (h : AH) : Option ASt := match ls[i]?, ls[i + 1]? with
  | some (.inr (.inr (some x))), some (.inr (.inr none)) => some (pc, ls, Lg x :: st, h) | _, _ => none
def ssL (ls : List AV) (i : Nat) (pc : Nat) (st : List AV) (h : AH) : Option ASt := match st with
  | .inr (.inr (some x)) :: st => if i + 1 < ls.length then some (pc, (ls.set i (Lg x)).set (i + 1) (Db 0), st, h) else none | _ => none
def sbin (f : Int32 → Int32 → Int32) (pc : Nat) (ls st : List AV) (h : AH) : Option ASt := match st with
  | .inl y :: .inl x :: st => some (pc, ls, I (w2 f x y) :: st, h) | _ => none
def sdiv (f : Int32 → Int32 → Int32) (pc : Nat) (ls st : List AV) (h : AH) : Option ASt := match st with
  | .inl y :: .inl x :: st => if y ≠ 0 then some (pc, ls, I (w2 f x y) :: st, h) else none | _ => none
/-- a field's type takes a value -/
def fitV (ty : FieldType) (v : AV) : Bool := match ty, v with
  | .int, .inl _ => true
  | .boolean, .inl z => decide (z = 0) || decide (z = 1)
  | .object _, .inr (.inl _) => true
  | .array _, .inr (.inl _) => true
  | _, _ => false
def dfV (ty : FieldType) : AV := match ty with
  | .object _ => Nu | .array _ => Nu | _ => I 0
def tysL : List (Nat → FieldType) := [tyX0, tyX1, tyX2, tyX3, tyX4, tyX5, tyX7, tyX8]
def tyC (ci : Nat) : Nat → FieldType := tysL.getD ci (fun _ => .int)
def nC (ci : Nat) : Nat := match vwCl[ci]? with | some q => q.2.2 | none => 0
def finC (ci k : Nat) : Bool := match vwCl[ci]? with | some q => (q.2.1 k).2.2.2 | none => false
/-- one step of what is no call and no return; b: whether the method is a constructor -/
def ast (ini : Bool) (e : AE) (ls st : List AV) (h : AH) : Option ASt :=
  let pc := e.1
  let a := e.2.2.2.1
  let b := e.2.2.2.2.1
  match e.2.1 with
  | .iconst n => if inrB n then some (pc + 1, ls, I n :: st, h) else none
  | .bipush n => if inrB n && decide ((Int8.ofInt n).toInt32 = i32 n) then some (pc + 2, ls, I n :: st, h) else none
  | .sipush n => if inrB n && decide ((Int16.ofInt n).toInt32 = i32 n) then some (pc + 3, ls, I n :: st, h) else none
  | .aconst_null => some (pc + 1, ls, Nu :: st, h)
  | .iload_n k => stI ls k.val (pc + 1) st h
  | .iload i => stI ls i (pc + 2) st h
  | .aload_n k => stA ls k.val (pc + 1) st h
  | .aload i => stA ls i (pc + 2) st h
  | .istore_n k => ssI ls k.val (pc + 1) st h
  | .istore i => ssI ls i (pc + 2) st h
  | .astore_n k => ssA ls k.val (pc + 1) st h
  | .iinc i n => match ls[i]? with
    | some (.inl z) => some (pc + 3, ls.set i (I (w2 (· + ·) z n)), st, h) | _ => none
  | .iadd => sbin (· + ·) (pc + 1) ls st h
  | .isub => sbin (· - ·) (pc + 1) ls st h
  | .imul => sbin (· * ·) (pc + 1) ls st h
  | .iand => sbin (· &&& ·) (pc + 1) ls st h
  | .ior => sbin (· ||| ·) (pc + 1) ls st h
  | .ishl => sbin (fun x y => x <<< (y &&& 31)) (pc + 1) ls st h
  | .ishr => sbin (fun x y => x >>> (y &&& 31)) (pc + 1) ls st h
  | .idiv => sdiv (· / ·) (pc + 1) ls st h
  | .irem => sdiv (fun x y => x - x / y * y) (pc + 1) ls st h
  | .ineg => match st with
    | .inl x :: st => some (pc + 1, ls, I (w2 (fun x _ => -x) x 0) :: st, h) | _ => none
  | .dup => match st with
    | .inr (.inr _) :: _ => none
    | v :: st => some (pc + 1, ls, v :: v :: st, h) | _ => none
  | .pop => match st with
    | .inr (.inr _) :: _ => none
    | _ :: st => some (pc + 1, ls, st, h) | _ => none
  | .dup2 => match st with
    | .inr (.inr _) :: _ => none
    | _ :: .inr (.inr _) :: _ => none
    | v :: u :: st => some (pc + 1, ls, v :: u :: v :: u :: st, h) | _ => none
  | .ifCond c off => match st with
    | .inl x :: st => if tgB pc off then some (if cmpB c x 0 then tgN pc off else pc + 3, ls, st, h) else none | _ => none
  | .if_icmp c off => match st with
    | .inl y :: .inl x :: st => if tgB pc off then some (if cmpB c x y then tgN pc off else pc + 3, ls, st, h) else none | _ => none
  | .ifnull off => match st with
    | .inr (.inl r) :: st => if tgB pc off then some (match r with | none => tgN pc off | some _ => pc + 3, ls, st, h) else none | _ => none
  | .ifnonnull off => match st with
    | .inr (.inl r) :: st => if tgB pc off then some (match r with | none => pc + 3 | some _ => tgN pc off, ls, st, h) else none | _ => none
  | .goto off => if tgB pc off then some (tgN pc off, ls, st, h) else none
  | .tableswitch d lo hi offs => match st with
    | .inl x :: st =>
      if x < lo ∨ hi < x then (if tgB pc d then some (tgN pc d, ls, st, h) else none)
      else match offs[(x - lo).toNat]? with
        | some off => if tgB pc off then some (tgN pc off, ls, st, h) else none
        | none => none
    | _ => none
  | .getfield _ => match st with
    | .inr (.inl (some i)) :: st => match h[i]? with
      | some (c, fs) => if c = a then (match fs[b]? with | some v => some (pc + 3, ls, v :: st, h) | none => none) else none
      | none => none
    | _ => none
  | .putfield _ => match st with
    | v :: .inr (.inl (some i)) :: st => match h[i]? with
      | some (c, fs) => if c = a ∧ b < fs.length ∧ fitV (tyC a b) v = true ∧ (finC a b = true → ini = true) then some (pc + 3, ls, st, h.set i (c, fs.set b v)) else none
      | none => none
    | _ => none
  | .iaload => match st with
    | .inl z :: .inr (.inl (some i)) :: st => match h[i]? with
      | some (c, fs) => if c = 100 ∧ 0 ≤ z then (match fs[z.toNat]? with | some (.inl x) => some (pc + 1, ls, I x :: st, h) | _ => none) else none
      | none => none
    | _ => none
  | .iastore => match st with
    | .inl x :: .inl z :: .inr (.inl (some i)) :: st => match h[i]? with
      | some (c, fs) => if c = 100 ∧ 0 ≤ z ∧ z.toNat < fs.length then some (pc + 1, ls, st, h.set i (c, fs.set z.toNat (I x))) else none
      | none => none
    | _ => none
  | .aaload => match st with
    | .inl z :: .inr (.inl (some i)) :: st => match h[i]? with
      | some (c, fs) => if c = 101 ∧ 0 ≤ z then (match fs[z.toNat]? with | some (.inr (.inl r)) => some (pc + 1, ls, .inr (.inl r) :: st, h) | _ => none) else none
      | none => none
    | _ => none
  | .aastore => match st with
    | .inr (.inl (some v)) :: .inl z :: .inr (.inl (some i)) :: st => match h[i]?, h[v]? with
      | some (c, fs), some (c2, _) => if c = 101 ∧ c2 = 1 ∧ 0 ≤ z ∧ z.toNat < fs.length then some (pc + 1, ls, st, h.set i (c, fs.set z.toNat (Rf v))) else none
      | _, _ => none
    | _ => none
  | .arraylength => match st with
    | .inr (.inl (some i)) :: st => match h[i]? with
      | some (c, fs) => if (c = 100 ∨ c = 101) ∧ fs.length ≤ 1000000 then some (pc + 1, ls, I (fs.length : Int) :: st, h) else none
      | none => none
    | _ => none
  | .ldc _ => if inrB a then some (pc + 2, ls, I (a : Int) :: st, h) else none
  | .ldc2_w _ => some (pc + 3, ls, Lg (Int64.ofNat a) :: st, h)
  | .lload_n k => stL ls k.val (pc + 1) st h
  | .lload i => stL ls i (pc + 2) st h
  | .lstore_n k => ssL ls k.val (pc + 1) st h
  | .lstore i => ssL ls i (pc + 2) st h
  | .i2l => match st with
    | .inl x :: st => some (pc + 1, ls, Lg (i32 x).toInt64 :: st, h) | _ => none
  | .ladd => match st with
    | .inr (.inr (some y)) :: .inr (.inr (some x)) :: st => some (pc + 1, ls, Lg (x + y) :: st, h) | _ => none
  | .lmul => match st with
    | .inr (.inr (some y)) :: .inr (.inr (some x)) :: st => some (pc + 1, ls, Lg (x * y) :: st, h) | _ => none
  | .lcmp => match st with
    | .inr (.inr (some y)) :: .inr (.inr (some x)) :: st => some (pc + 1, ls, I (lg_cmp x y).toInt :: st, h) | _ => none
  | .new _ => if ini then some (pc + 3, ls, Rf h.length :: st, h ++ [(a, (List.range (nC a)).map fun k => dfV (tyC a k))]) else none
  | .newarray t => match st with
    | .inl n :: st => if ini = true ∧ t = .int ∧ 0 ≤ n ∧ n ≤ 1000000 then some (pc + 2, ls, Rf h.length :: st, h ++ [(100, List.replicate n.toNat (I 0))]) else none
    | _ => none
  | .anewarray _ => match st with
    | .inl n :: st => if ini = true ∧ a = 1 ∧ 0 ≤ n ∧ n ≤ 1000000 then some (pc + 3, ls, Rf h.length :: st, h ++ [(101, List.replicate n.toNat Nu)]) else none
    | _ => none
  | _ => none
def cd (k pc : Nat) : Option AE := (codes.getD k []).find? (fun e => e.1 == pc)
def maxl (k : Nat) : Nat := mLs.getD k 0
def nar (k : Nat) : Nat := mNs.getD k 0
def ownR (k : Nat) : String := oNs.getD (mOs.getD k 0) ""
def yM (k : Nat) : MethodName := mYs.getD k ⟨"", "", ""⟩
def bM (k : Nat) : ByteArray := mBs.getD k code
def rM (k : Nat) : Option FieldType := mRs.getD k none
def dpM (k : Nat) : Nat := mDs.getD k 0
def lcM (k : Nat) : Nat := mWs.getD k 0
def stM (k : Nat) : Bool := mSs.getD k false
def isI (k : Nat) : Bool := (yM k).name == "<init>"
/-- the locals with which a method begins: the arguments, then unset places -/
def loc0 (k : Nat) (as : List AV) : List AV := as ++ List.replicate (maxl k - as.length) (Db 0)
def noDb (as : List AV) : Bool := as.all fun v => match v with | .inr (.inr _) => false | _ => true
def restOk (rest : List AV) : Bool := decide (rest.length ≤ 4) || (noDb rest && decide (rest.length ≤ 8))
/-- what a call wants: place in the frames and the locals' words, few values left on the stack -/
def callOk (k k' : Nat) (rest : List AV) : Bool := decide (dpM k' + 1 ≤ dpM k) && decide (8 + (maxl k' + 11) + lcM k' ≤ lcM k) && restOk rest && decide (nar k' ≤ maxl k') && decide (k' < 117)
def clsOk (h : AH) (k' : Nat) (v : Option AV) : Bool := match v with
  | some (.inr (.inl (some i))) => match h[i]? with
    | some (c, _) => match vwCl[c]? with | some q => decide (q.1 = (yM k').cls) | none => false
    | none => false
  | _ => false
/-- a call's arguments taken off the stack (the first one first), and what is left -/
def popA (n : Nat) (st : List AV) : Option (List AV × List AV) := if n ≤ st.length then some ((st.take n).reverse, st.drop n) else none
def retOk (k : Nat) (st : List AV) (i : Instr) : Option (Option AV) := match i, st, rM k with
  | .return_, [], none => some none
  | .ireturn, [.inl z], some .int => some (some (I z))
  | .ireturn, [.inl z], some .boolean => if z = 0 ∨ z = 1 then some (some (I z)) else none
  | .areturn, [.inr (.inl r)], some (.object _) => some (some (.inr (.inl r)))
  | .lreturn, [.inr (.inr (some x))], some .long => some (some (Lg x))
  | _, _, _ => none
/-- Math.abs, max, min of ints -/
def mathB (a : Nat) (st : List AV) : Option (AV × List AV) := match st with
  | .inl y :: st => if a = 900 then some (I (if 0 ≤ y then y else w2 (· - ·) 0 y), st) else match st with
    | .inl x :: st => if a = 901 then some (I (if x < y then y else x), st) else if a = 902 then some (I (if y < x then y else x), st) else none
    | _ => none
  | _ => none
/-- runs with fuel -/
def arun : Nat → Nat → Nat → List AV → List AV → AH → Option (Option AV × AH)
  | 0, _, _, _, _, _ => none
  | n + 1, k, pc, ls, st, h => match cd k pc with
    | none => none
    | some e =>
      match ast (isI k) e ls st h with
      | some (pc', ls', st', h') => arun n k pc' ls' st' h'
      | none => match e.2.1 with
        | .invokevirtual _ => match popA (nar e.2.2.2.1) st with
          | some (as, rest) => if callOk k e.2.2.2.1 rest && clsOk h e.2.2.2.1 as[0]? && noDb as && !(stM e.2.2.2.1) && !(isI e.2.2.2.1) then
              match arun n e.2.2.2.1 0 (loc0 e.2.2.2.1 as) [] h with
              | some (r, h') => if h'.length = h.length then arun n k (pc + 3) ls (r.toList ++ rest) h' else none
              | none => none
            else none
          | none => none
        | .invokestatic _ => if 900 ≤ e.2.2.2.1 then (match mathB e.2.2.2.1 st with
          | some (v, rest) => if rest.length ≤ 4 ∧ 1 ≤ dpM k ∧ 21 ≤ lcM k then arun n k (pc + 3) ls (v :: rest) h else none
          | none => none) else
          match popA (nar e.2.2.2.1) st with
          | some (as, rest) => if callOk k e.2.2.2.1 rest && noDb as && stM e.2.2.2.1 then
              match arun n e.2.2.2.1 0 (loc0 e.2.2.2.1 as) [] h with
              | some (r, h') => if h'.length = h.length then arun n k (pc + 3) ls (r.toList ++ rest) h' else none
              | none => none
            else none
          | none => none
        | .invokespecial _ => if e.2.2.2.1 = 999 then
            match st with
            | .inr (.inl (some _)) :: rest => if rest.length ≤ 4 ∧ 1 ≤ dpM k ∧ 20 ≤ lcM k then arun n k (pc + 3) ls rest h else none
            | _ => none
          else match popA (nar e.2.2.2.1) st with
          | some (as, rest) => if callOk k e.2.2.2.1 rest && clsOk h e.2.2.2.1 as[0]? && noDb as && !(stM e.2.2.2.1) && isI e.2.2.2.1 && isI k then
              match arun n e.2.2.2.1 0 (loc0 e.2.2.2.1 as) [] h with
              | some (r, h') => if r.isNone then arun n k (pc + 3) ls rest h' else none
              | none => none
            else none
          | none => none
        | i => match retOk k st i with
          | some r => some (r, h)
          | none => none
end
section
/-! ===== CHECKS by computing: the tables are what the machine's words and bytes say ===== -/
def lenI : Instr → Nat
  | .bipush _ => 2 | .sipush _ => 3 | .iload _ => 2 | .aload _ => 2 | .istore _ => 2 | .iinc _ _ => 3
  | .ifCond _ _ => 3 | .if_icmp _ _ => 3 | .ifnull _ => 3 | .ifnonnull _ => 3 | .goto _ => 3
  | .getfield _ => 3 | .putfield _ => 3 | .new _ => 3 | .anewarray _ => 3 | .newarray _ => 2
  | .invokevirtual _ => 3 | .invokestatic _ => 3 | .invokespecial _ => 3
  | .ldc _ => 2 | .ldc2_w _ => 3 | .lload _ => 2 | .lstore _ => 2
  | _ => 1
def oN (own : Nat) : String := oNs.getD own ""
def isW (p : Nat) (w : Cond) : Bool := decide (lw_tbl[p]? = some w)
theorem isW_mem {p : Nat} {w : Cond} (h : isW p w = true) : w ∈ lw_tbl := List.mem_of_getElem? (of_decide_eq_true h)
def chkL (e : AE) : Bool := match e.2.1 with
  | .tableswitch _ _ _ _ => true
  | i => e.2.2.1 == lenI i
def chkF (own idx a b p : Nat) : Bool := match vwCl[a]? with
  | some (_, T, N) => decide (b < N) && (isW p (.fieldLink (oN own) idx (T b).1 (T b).2.1 (T b).2.2.1) || isW p (.fieldLinkNest (oN own) idx (T b).1 (T b).2.1 (T b).2.2.1 "TankDivers")) && (!(T b).2.2.2 || (decide ((T b).1 = oN own) && isW p (.fieldLink (oN own) idx (T b).1 (T b).2.1 (T b).2.2.1)))
  | none => false
def chkG (own idx a b p : Nat) : Bool := match vwCl[a]? with
  | some (_, T, N) => decide (b < N) && (isW p (.fieldLink (oN own) idx (T b).1 (T b).2.1 (T b).2.2.1) || isW p (.fieldLinkNest (oN own) idx (T b).1 (T b).2.1 (T b).2.2.1 "TankDivers"))
  | none => false
def chkO (own : Nat) (e : AE) : Bool :=
  let a := e.2.2.2.1
  let b := e.2.2.2.2.1
  let p := e.2.2.2.2.2
  match e.2.1 with
  | .getfield idx => chkG own idx a b p
  | .putfield idx => chkF own idx a b p
  | .invokevirtual idx => isW p (.methodLink (oN own) idx (yM a))
  | .invokestatic idx => if a = 900 then isW p (.methodLink (oN own) idx Lib.Math.abs.name) else if a = 901 then isW p (.methodLink (oN own) idx Lib.Math.max.name) else if a = 902 then isW p (.methodLink (oN own) idx Lib.Math.min.name) else isW p (.methodLink (oN own) idx (yM a))
  | .invokespecial idx => if a = 999 then isW p (.methodLink (oN own) idx objectInit) else if b = 1 then isW p (.methodLinkNest (oN own) idx (yM a) "TankDivers") else isW p (.methodLink (oN own) idx (yM a))
  | .new idx => match vwCl[a]? with
    | some (C, _, _) => isW p (.classLink (oN own) idx C)
    | none => false
  | .anewarray idx => isW p (.classLink (oN own) idx RX1)
  | .ldc idx => isW p (.constant (oN own) idx (i32 (a : Int)))
  | .ldc2_w idx => isW p (.constantLong (oN own) idx (Int64.ofNat a))
  | _ => true
def okL (k : Nat) : Bool := (codes.getD k []).all (fun e => chkL e && chkO (mOs.getD k 0) e)
def okD (k : Nat) : Bool := (codes.getD k []).all (fun e => decide (decode (bM k) e.1 = .ok (e.2.1, e.2.2.1)))
set_option maxRecDepth 100000 in
theorem okD_0 : okD 0 = true := by decide +kernel
set_option maxRecDepth 100000 in
theorem okD_1 : okD 1 = true := by decide +kernel
set_option maxRecDepth 100000 in
theorem okD_2 : okD 2 = true := by decide +kernel
set_option maxRecDepth 100000 in
theorem okD_3 : okD 3 = true := by decide +kernel
set_option maxRecDepth 100000 in
theorem okD_4 : okD 4 = true := by decide +kernel
set_option maxRecDepth 100000 in
theorem okD_5 : okD 5 = true := by decide +kernel
set_option maxRecDepth 100000 in
theorem okD_6 : okD 6 = true := by decide +kernel
set_option maxRecDepth 100000 in
theorem okD_7 : okD 7 = true := by decide +kernel
set_option maxRecDepth 100000 in
theorem okD_8 : okD 8 = true := by decide +kernel
set_option maxRecDepth 100000 in
theorem okD_9 : okD 9 = true := by decide +kernel
set_option maxRecDepth 100000 in
theorem okD_10 : okD 10 = true := by decide +kernel
set_option maxRecDepth 100000 in
theorem okD_11 : okD 11 = true := by decide +kernel
set_option maxRecDepth 100000 in
theorem okD_12 : okD 12 = true := by decide +kernel
set_option maxRecDepth 100000 in
theorem okD_13 : okD 13 = true := by decide +kernel
set_option maxRecDepth 100000 in
theorem okD_14 : okD 14 = true := by decide +kernel
set_option maxRecDepth 100000 in
theorem okD_15 : okD 15 = true := by decide +kernel
set_option maxRecDepth 100000 in
theorem okD_16 : okD 16 = true := by decide +kernel
set_option maxRecDepth 100000 in
theorem okD_17 : okD 17 = true := by decide +kernel
set_option maxRecDepth 100000 in
theorem okD_18 : okD 18 = true := by decide +kernel
set_option maxRecDepth 100000 in
theorem okD_19 : okD 19 = true := by decide +kernel
set_option maxRecDepth 100000 in
theorem okD_20 : okD 20 = true := by decide +kernel
set_option maxRecDepth 100000 in
theorem okD_21 : okD 21 = true := by decide +kernel
set_option maxRecDepth 100000 in
theorem okD_22 : okD 22 = true := by decide +kernel
set_option maxRecDepth 100000 in
theorem okD_23 : okD 23 = true := by decide +kernel
set_option maxRecDepth 100000 in
theorem okD_24 : okD 24 = true := by decide +kernel
set_option maxRecDepth 100000 in
theorem okD_25 : okD 25 = true := by decide +kernel
set_option maxRecDepth 100000 in
theorem okD_26 : okD 26 = true := by decide +kernel
set_option maxRecDepth 100000 in
theorem okD_27 : okD 27 = true := by decide +kernel
set_option maxRecDepth 100000 in
theorem okD_28 : okD 28 = true := by decide +kernel
set_option maxRecDepth 100000 in
theorem okD_29 : okD 29 = true := by decide +kernel
set_option maxRecDepth 100000 in
theorem okD_30 : okD 30 = true := by decide +kernel
set_option maxRecDepth 100000 in
theorem okD_31 : okD 31 = true := by decide +kernel
set_option maxRecDepth 100000 in
theorem okD_32 : okD 32 = true := by decide +kernel
set_option maxRecDepth 100000 in
theorem okD_33 : okD 33 = true := by decide +kernel
set_option maxRecDepth 100000 in
theorem okD_34 : okD 34 = true := by decide +kernel
set_option maxRecDepth 100000 in
theorem okD_35 : okD 35 = true := by decide +kernel
set_option maxRecDepth 100000 in
theorem okD_36 : okD 36 = true := by decide +kernel
set_option maxRecDepth 100000 in
theorem okD_37 : okD 37 = true := by decide +kernel
set_option maxRecDepth 100000 in
theorem okD_38 : okD 38 = true := by decide +kernel
set_option maxRecDepth 100000 in
theorem okD_39 : okD 39 = true := by decide +kernel
set_option maxRecDepth 100000 in
theorem okD_40 : okD 40 = true := by decide +kernel
set_option maxRecDepth 100000 in
theorem okD_41 : okD 41 = true := by decide +kernel
set_option maxRecDepth 100000 in
theorem okD_42 : okD 42 = true := by decide +kernel
set_option maxRecDepth 100000 in
theorem okD_43 : okD 43 = true := by decide +kernel
set_option maxRecDepth 100000 in
theorem okD_44 : okD 44 = true := by decide +kernel
set_option maxRecDepth 100000 in
theorem okD_45 : okD 45 = true := by decide +kernel
set_option maxRecDepth 100000 in
theorem okD_46 : okD 46 = true := by decide +kernel
set_option maxRecDepth 100000 in
theorem okD_47 : okD 47 = true := by decide +kernel
set_option maxRecDepth 100000 in
theorem okD_48 : okD 48 = true := by decide +kernel
set_option maxRecDepth 100000 in
theorem okD_49 : okD 49 = true := by decide +kernel
set_option maxRecDepth 100000 in
theorem okD_50 : okD 50 = true := by decide +kernel
set_option maxRecDepth 100000 in
theorem okD_51 : okD 51 = true := by decide +kernel
set_option maxRecDepth 100000 in
theorem okD_52 : okD 52 = true := by decide +kernel
set_option maxRecDepth 100000 in
theorem okD_53 : okD 53 = true := by decide +kernel
set_option maxRecDepth 100000 in
theorem okD_54 : okD 54 = true := by decide +kernel
set_option maxRecDepth 100000 in
theorem okD_55 : okD 55 = true := by decide +kernel
set_option maxRecDepth 100000 in
theorem okD_56 : okD 56 = true := by decide +kernel
set_option maxRecDepth 100000 in
theorem okD_57 : okD 57 = true := by decide +kernel
set_option maxRecDepth 100000 in
theorem okD_58 : okD 58 = true := by decide +kernel
set_option maxRecDepth 100000 in
theorem okD_59 : okD 59 = true := by decide +kernel
set_option maxRecDepth 100000 in
theorem okD_60 : okD 60 = true := by decide +kernel
set_option maxRecDepth 100000 in
theorem okD_61 : okD 61 = true := by decide +kernel
set_option maxRecDepth 100000 in
theorem okD_62 : okD 62 = true := by decide +kernel
set_option maxRecDepth 100000 in
theorem okD_63 : okD 63 = true := by decide +kernel
set_option maxRecDepth 100000 in
theorem okD_64 : okD 64 = true := by decide +kernel
set_option maxRecDepth 100000 in
theorem okD_65 : okD 65 = true := by decide +kernel
set_option maxRecDepth 100000 in
theorem okD_66 : okD 66 = true := by decide +kernel
set_option maxRecDepth 100000 in
theorem okD_67 : okD 67 = true := by decide +kernel
set_option maxRecDepth 100000 in
theorem okD_68 : okD 68 = true := by decide +kernel
set_option maxRecDepth 100000 in
theorem okD_69 : okD 69 = true := by decide +kernel
set_option maxRecDepth 100000 in
theorem okD_70 : okD 70 = true := by decide +kernel
set_option maxRecDepth 100000 in
theorem okD_71 : okD 71 = true := by decide +kernel
set_option maxRecDepth 100000 in
theorem okD_72 : okD 72 = true := by decide +kernel
set_option maxRecDepth 100000 in
theorem okD_73 : okD 73 = true := by decide +kernel
set_option maxRecDepth 100000 in
theorem okD_74 : okD 74 = true := by decide +kernel
set_option maxRecDepth 100000 in
theorem okD_75 : okD 75 = true := by decide +kernel
set_option maxRecDepth 100000 in
theorem okD_76 : okD 76 = true := by decide +kernel
set_option maxRecDepth 100000 in
theorem okD_77 : okD 77 = true := by decide +kernel
set_option maxRecDepth 100000 in
theorem okD_78 : okD 78 = true := by decide +kernel
set_option maxRecDepth 100000 in
theorem okD_79 : okD 79 = true := by decide +kernel
set_option maxRecDepth 100000 in
theorem okD_80 : okD 80 = true := by decide +kernel
set_option maxRecDepth 100000 in
theorem okD_81 : okD 81 = true := by decide +kernel
set_option maxRecDepth 100000 in
theorem okD_82 : okD 82 = true := by decide +kernel
set_option maxRecDepth 100000 in
theorem okD_83 : okD 83 = true := by decide +kernel
set_option maxRecDepth 100000 in
theorem okD_84 : okD 84 = true := by decide +kernel
set_option maxRecDepth 100000 in
theorem okD_85 : okD 85 = true := by decide +kernel
set_option maxRecDepth 100000 in
theorem okD_86 : okD 86 = true := by decide +kernel
set_option maxRecDepth 100000 in
theorem okD_87 : okD 87 = true := by decide +kernel
set_option maxRecDepth 100000 in
theorem okD_88 : okD 88 = true := by decide +kernel
set_option maxRecDepth 100000 in
theorem okD_89 : okD 89 = true := by decide +kernel
set_option maxRecDepth 100000 in
theorem okD_90 : okD 90 = true := by decide +kernel
set_option maxRecDepth 100000 in
theorem okD_91 : okD 91 = true := by decide +kernel
set_option maxRecDepth 100000 in
theorem okD_92 : okD 92 = true := by decide +kernel
set_option maxRecDepth 100000 in
theorem okD_93 : okD 93 = true := by decide +kernel
set_option maxRecDepth 100000 in
theorem okD_94 : okD 94 = true := by decide +kernel
set_option maxRecDepth 100000 in
theorem okD_95 : okD 95 = true := by decide +kernel
set_option maxRecDepth 100000 in
theorem okD_96 : okD 96 = true := by decide +kernel
set_option maxRecDepth 100000 in
theorem okD_97 : okD 97 = true := by decide +kernel
set_option maxRecDepth 100000 in
theorem okD_98 : okD 98 = true := by decide +kernel
set_option maxRecDepth 100000 in
theorem okD_99 : okD 99 = true := by decide +kernel
set_option maxRecDepth 100000 in
theorem okD_100 : okD 100 = true := by decide +kernel
set_option maxRecDepth 100000 in
theorem okD_101 : okD 101 = true := by decide +kernel
set_option maxRecDepth 100000 in
theorem okD_102 : okD 102 = true := by decide +kernel
set_option maxRecDepth 100000 in
theorem okD_103 : okD 103 = true := by decide +kernel
set_option maxRecDepth 100000 in
theorem okD_104 : okD 104 = true := by decide +kernel
set_option maxRecDepth 100000 in
theorem okD_105 : okD 105 = true := by decide +kernel
set_option maxRecDepth 100000 in
theorem okD_106 : okD 106 = true := by decide +kernel
set_option maxRecDepth 100000 in
theorem okD_107 : okD 107 = true := by decide +kernel
set_option maxRecDepth 100000 in
theorem okD_108 : okD 108 = true := by decide +kernel
set_option maxRecDepth 100000 in
theorem okD_109 : okD 109 = true := by decide +kernel
set_option maxRecDepth 100000 in
theorem okD_110 : okD 110 = true := by decide +kernel
set_option maxRecDepth 100000 in
theorem okD_111 : okD 111 = true := by decide +kernel
set_option maxRecDepth 100000 in
theorem okD_112 : okD 112 = true := by decide +kernel
set_option maxRecDepth 100000 in
theorem okD_113 : okD 113 = true := by decide +kernel
set_option maxRecDepth 100000 in
theorem okD_114 : okD 114 = true := by decide +kernel
set_option maxRecDepth 100000 in
theorem okD_115 : okD 115 = true := by decide +kernel
set_option maxRecDepth 100000 in
theorem okD_116 : okD 116 = true := by decide +kernel
theorem okD_all : ∀ k, k < 117 → okD k = true
  | 0, _ => okD_0
  | 1, _ => okD_1
  | 2, _ => okD_2
  | 3, _ => okD_3
  | 4, _ => okD_4
  | 5, _ => okD_5
  | 6, _ => okD_6
  | 7, _ => okD_7
  | 8, _ => okD_8
  | 9, _ => okD_9
  | 10, _ => okD_10
  | 11, _ => okD_11
  | 12, _ => okD_12
  | 13, _ => okD_13
  | 14, _ => okD_14
  | 15, _ => okD_15
  | 16, _ => okD_16
  | 17, _ => okD_17
  | 18, _ => okD_18
  | 19, _ => okD_19
  | 20, _ => okD_20
  | 21, _ => okD_21
  | 22, _ => okD_22
  | 23, _ => okD_23
  | 24, _ => okD_24
  | 25, _ => okD_25
  | 26, _ => okD_26
  | 27, _ => okD_27
  | 28, _ => okD_28
  | 29, _ => okD_29
  | 30, _ => okD_30
  | 31, _ => okD_31
  | 32, _ => okD_32
  | 33, _ => okD_33
  | 34, _ => okD_34
  | 35, _ => okD_35
  | 36, _ => okD_36
  | 37, _ => okD_37
  | 38, _ => okD_38
  | 39, _ => okD_39
  | 40, _ => okD_40
  | 41, _ => okD_41
  | 42, _ => okD_42
  | 43, _ => okD_43
  | 44, _ => okD_44
  | 45, _ => okD_45
  | 46, _ => okD_46
  | 47, _ => okD_47
  | 48, _ => okD_48
  | 49, _ => okD_49
  | 50, _ => okD_50
  | 51, _ => okD_51
  | 52, _ => okD_52
  | 53, _ => okD_53
  | 54, _ => okD_54
  | 55, _ => okD_55
  | 56, _ => okD_56
  | 57, _ => okD_57
  | 58, _ => okD_58
  | 59, _ => okD_59
  | 60, _ => okD_60
  | 61, _ => okD_61
  | 62, _ => okD_62
  | 63, _ => okD_63
  | 64, _ => okD_64
  | 65, _ => okD_65
  | 66, _ => okD_66
  | 67, _ => okD_67
  | 68, _ => okD_68
  | 69, _ => okD_69
  | 70, _ => okD_70
  | 71, _ => okD_71
  | 72, _ => okD_72
  | 73, _ => okD_73
  | 74, _ => okD_74
  | 75, _ => okD_75
  | 76, _ => okD_76
  | 77, _ => okD_77
  | 78, _ => okD_78
  | 79, _ => okD_79
  | 80, _ => okD_80
  | 81, _ => okD_81
  | 82, _ => okD_82
  | 83, _ => okD_83
  | 84, _ => okD_84
  | 85, _ => okD_85
  | 86, _ => okD_86
  | 87, _ => okD_87
  | 88, _ => okD_88
  | 89, _ => okD_89
  | 90, _ => okD_90
  | 91, _ => okD_91
  | 92, _ => okD_92
  | 93, _ => okD_93
  | 94, _ => okD_94
  | 95, _ => okD_95
  | 96, _ => okD_96
  | 97, _ => okD_97
  | 98, _ => okD_98
  | 99, _ => okD_99
  | 100, _ => okD_100
  | 101, _ => okD_101
  | 102, _ => okD_102
  | 103, _ => okD_103
  | 104, _ => okD_104
  | 105, _ => okD_105
  | 106, _ => okD_106
  | 107, _ => okD_107
  | 108, _ => okD_108
  | 109, _ => okD_109
  | 110, _ => okD_110
  | 111, _ => okD_111
  | 112, _ => okD_112
  | 113, _ => okD_113
  | 114, _ => okD_114
  | 115, _ => okD_115
  | 116, _ => okD_116
  | k + 117, h => absurd h (by omega)
end
section
def okM (k : Nat) : Bool :=
  let y := yM k
  let q := mPs.getD k (0, 0, 0, 0)
  isW q.1 (.code y (bM k) (maxl k) (rM k)) && (if stM k then isW q.2.1 (.static y) else isW q.2.1 (.instanceMethod y)) &&
  ((stM k || isI k) || isW q.2.2.1 (.selects y.cls y y)) && isW q.2.2.2 (.initialized y.cls) && plainName y.cls &&
  decide (y.cls ≠ "java/lang/invoke/MethodHandle") && decide (y.cls ≠ "java/lang/invoke/VarHandle") && decide ((parseMethodDescriptor y.desc).map (fun d => d.parameters.length) = some (nar k - (if stM k then 0 else 1))) &&
  decide (oN (mOs.getD k 0) = y.cls)
set_option maxRecDepth 100000 in
theorem okL_0 : okL 0 = true := by decide +kernel
set_option maxRecDepth 100000 in
theorem okM_0 : okM 0 = true := by decide +kernel
set_option maxRecDepth 100000 in
theorem okL_1 : okL 1 = true := by decide +kernel
set_option maxRecDepth 100000 in
theorem okM_1 : okM 1 = true := by decide +kernel
set_option maxRecDepth 100000 in
theorem okL_2 : okL 2 = true := by decide +kernel
set_option maxRecDepth 100000 in
theorem okM_2 : okM 2 = true := by decide +kernel
set_option maxRecDepth 100000 in
theorem okL_3 : okL 3 = true := by decide +kernel
set_option maxRecDepth 100000 in
theorem okM_3 : okM 3 = true := by decide +kernel
set_option maxRecDepth 100000 in
theorem okL_4 : okL 4 = true := by decide +kernel
set_option maxRecDepth 100000 in
theorem okM_4 : okM 4 = true := by decide +kernel
set_option maxRecDepth 100000 in
theorem okL_5 : okL 5 = true := by decide +kernel
set_option maxRecDepth 100000 in
theorem okM_5 : okM 5 = true := by decide +kernel
set_option maxRecDepth 100000 in
theorem okL_6 : okL 6 = true := by decide +kernel
set_option maxRecDepth 100000 in
theorem okM_6 : okM 6 = true := by decide +kernel
set_option maxRecDepth 100000 in
theorem okL_7 : okL 7 = true := by decide +kernel
set_option maxRecDepth 100000 in
theorem okM_7 : okM 7 = true := by decide +kernel
set_option maxRecDepth 100000 in
theorem okL_8 : okL 8 = true := by decide +kernel
set_option maxRecDepth 100000 in
theorem okM_8 : okM 8 = true := by decide +kernel
set_option maxRecDepth 100000 in
theorem okL_9 : okL 9 = true := by decide +kernel
set_option maxRecDepth 100000 in
theorem okM_9 : okM 9 = true := by decide +kernel
set_option maxRecDepth 100000 in
theorem okL_10 : okL 10 = true := by decide +kernel
set_option maxRecDepth 100000 in
theorem okM_10 : okM 10 = true := by decide +kernel
set_option maxRecDepth 100000 in
theorem okL_11 : okL 11 = true := by decide +kernel
set_option maxRecDepth 100000 in
theorem okM_11 : okM 11 = true := by decide +kernel
set_option maxRecDepth 100000 in
theorem okL_12 : okL 12 = true := by decide +kernel
set_option maxRecDepth 100000 in
theorem okM_12 : okM 12 = true := by decide +kernel
set_option maxRecDepth 100000 in
theorem okL_13 : okL 13 = true := by decide +kernel
set_option maxRecDepth 100000 in
theorem okM_13 : okM 13 = true := by decide +kernel
set_option maxRecDepth 100000 in
theorem okL_14 : okL 14 = true := by decide +kernel
set_option maxRecDepth 100000 in
theorem okM_14 : okM 14 = true := by decide +kernel
set_option maxRecDepth 100000 in
theorem okL_15 : okL 15 = true := by decide +kernel
set_option maxRecDepth 100000 in
theorem okM_15 : okM 15 = true := by decide +kernel
set_option maxRecDepth 100000 in
theorem okL_16 : okL 16 = true := by decide +kernel
set_option maxRecDepth 100000 in
theorem okM_16 : okM 16 = true := by decide +kernel
set_option maxRecDepth 100000 in
theorem okL_17 : okL 17 = true := by decide +kernel
set_option maxRecDepth 100000 in
theorem okM_17 : okM 17 = true := by decide +kernel
set_option maxRecDepth 100000 in
theorem okL_18 : okL 18 = true := by decide +kernel
set_option maxRecDepth 100000 in
theorem okM_18 : okM 18 = true := by decide +kernel
set_option maxRecDepth 100000 in
theorem okL_19 : okL 19 = true := by decide +kernel
set_option maxRecDepth 100000 in
theorem okM_19 : okM 19 = true := by decide +kernel
set_option maxRecDepth 100000 in
theorem okL_20 : okL 20 = true := by decide +kernel
set_option maxRecDepth 100000 in
theorem okM_20 : okM 20 = true := by decide +kernel
set_option maxRecDepth 100000 in
theorem okL_21 : okL 21 = true := by decide +kernel
set_option maxRecDepth 100000 in
theorem okM_21 : okM 21 = true := by decide +kernel
set_option maxRecDepth 100000 in
theorem okL_22 : okL 22 = true := by decide +kernel
set_option maxRecDepth 100000 in
theorem okM_22 : okM 22 = true := by decide +kernel
set_option maxRecDepth 100000 in
theorem okL_23 : okL 23 = true := by decide +kernel
set_option maxRecDepth 100000 in
theorem okM_23 : okM 23 = true := by decide +kernel
set_option maxRecDepth 100000 in
theorem okL_24 : okL 24 = true := by decide +kernel
set_option maxRecDepth 100000 in
theorem okM_24 : okM 24 = true := by decide +kernel
set_option maxRecDepth 100000 in
theorem okL_25 : okL 25 = true := by decide +kernel
set_option maxRecDepth 100000 in
theorem okM_25 : okM 25 = true := by decide +kernel
set_option maxRecDepth 100000 in
theorem okL_26 : okL 26 = true := by decide +kernel
set_option maxRecDepth 100000 in
theorem okM_26 : okM 26 = true := by decide +kernel
set_option maxRecDepth 100000 in
theorem okL_27 : okL 27 = true := by decide +kernel
set_option maxRecDepth 100000 in
theorem okM_27 : okM 27 = true := by decide +kernel
set_option maxRecDepth 100000 in
theorem okL_28 : okL 28 = true := by decide +kernel
set_option maxRecDepth 100000 in
theorem okM_28 : okM 28 = true := by decide +kernel
set_option maxRecDepth 100000 in
theorem okL_29 : okL 29 = true := by decide +kernel
set_option maxRecDepth 100000 in
theorem okM_29 : okM 29 = true := by decide +kernel
set_option maxRecDepth 100000 in
theorem okL_30 : okL 30 = true := by decide +kernel
set_option maxRecDepth 100000 in
theorem okM_30 : okM 30 = true := by decide +kernel
set_option maxRecDepth 100000 in
theorem okL_31 : okL 31 = true := by decide +kernel
set_option maxRecDepth 100000 in
theorem okM_31 : okM 31 = true := by decide +kernel
set_option maxRecDepth 100000 in
theorem okL_32 : okL 32 = true := by decide +kernel
set_option maxRecDepth 100000 in
theorem okM_32 : okM 32 = true := by decide +kernel
set_option maxRecDepth 100000 in
theorem okL_33 : okL 33 = true := by decide +kernel
set_option maxRecDepth 100000 in
theorem okM_33 : okM 33 = true := by decide +kernel
set_option maxRecDepth 100000 in
theorem okL_34 : okL 34 = true := by decide +kernel
set_option maxRecDepth 100000 in
theorem okM_34 : okM 34 = true := by decide +kernel
set_option maxRecDepth 100000 in
theorem okL_35 : okL 35 = true := by decide +kernel
set_option maxRecDepth 100000 in
theorem okM_35 : okM 35 = true := by decide +kernel
set_option maxRecDepth 100000 in
theorem okL_36 : okL 36 = true := by decide +kernel
set_option maxRecDepth 100000 in
theorem okM_36 : okM 36 = true := by decide +kernel
set_option maxRecDepth 100000 in
theorem okL_37 : okL 37 = true := by decide +kernel
set_option maxRecDepth 100000 in
theorem okM_37 : okM 37 = true := by decide +kernel
set_option maxRecDepth 100000 in
theorem okL_38 : okL 38 = true := by decide +kernel
set_option maxRecDepth 100000 in
theorem okM_38 : okM 38 = true := by decide +kernel
set_option maxRecDepth 100000 in
theorem okL_39 : okL 39 = true := by decide +kernel
set_option maxRecDepth 100000 in
theorem okM_39 : okM 39 = true := by decide +kernel
set_option maxRecDepth 100000 in
theorem okL_40 : okL 40 = true := by decide +kernel
set_option maxRecDepth 100000 in
theorem okM_40 : okM 40 = true := by decide +kernel
set_option maxRecDepth 100000 in
theorem okL_41 : okL 41 = true := by decide +kernel
set_option maxRecDepth 100000 in
theorem okM_41 : okM 41 = true := by decide +kernel
set_option maxRecDepth 100000 in
theorem okL_42 : okL 42 = true := by decide +kernel
set_option maxRecDepth 100000 in
theorem okM_42 : okM 42 = true := by decide +kernel
set_option maxRecDepth 100000 in
theorem okL_43 : okL 43 = true := by decide +kernel
set_option maxRecDepth 100000 in
theorem okM_43 : okM 43 = true := by decide +kernel
set_option maxRecDepth 100000 in
theorem okL_44 : okL 44 = true := by decide +kernel
set_option maxRecDepth 100000 in
theorem okM_44 : okM 44 = true := by decide +kernel
set_option maxRecDepth 100000 in
theorem okL_45 : okL 45 = true := by decide +kernel
set_option maxRecDepth 100000 in
theorem okM_45 : okM 45 = true := by decide +kernel
set_option maxRecDepth 100000 in
theorem okL_46 : okL 46 = true := by decide +kernel
set_option maxRecDepth 100000 in
theorem okM_46 : okM 46 = true := by decide +kernel
set_option maxRecDepth 100000 in
theorem okL_47 : okL 47 = true := by decide +kernel
set_option maxRecDepth 100000 in
theorem okM_47 : okM 47 = true := by decide +kernel
set_option maxRecDepth 100000 in
theorem okL_48 : okL 48 = true := by decide +kernel
set_option maxRecDepth 100000 in
theorem okM_48 : okM 48 = true := by decide +kernel
set_option maxRecDepth 100000 in
theorem okL_49 : okL 49 = true := by decide +kernel
set_option maxRecDepth 100000 in
theorem okM_49 : okM 49 = true := by decide +kernel
set_option maxRecDepth 100000 in
theorem okL_50 : okL 50 = true := by decide +kernel
set_option maxRecDepth 100000 in
theorem okM_50 : okM 50 = true := by decide +kernel
set_option maxRecDepth 100000 in
theorem okL_51 : okL 51 = true := by decide +kernel
set_option maxRecDepth 100000 in
theorem okM_51 : okM 51 = true := by decide +kernel
set_option maxRecDepth 100000 in
theorem okL_52 : okL 52 = true := by decide +kernel
set_option maxRecDepth 100000 in
theorem okM_52 : okM 52 = true := by decide +kernel
set_option maxRecDepth 100000 in
theorem okL_53 : okL 53 = true := by decide +kernel
set_option maxRecDepth 100000 in
theorem okM_53 : okM 53 = true := by decide +kernel
set_option maxRecDepth 100000 in
theorem okL_54 : okL 54 = true := by decide +kernel
set_option maxRecDepth 100000 in
theorem okM_54 : okM 54 = true := by decide +kernel
set_option maxRecDepth 100000 in
theorem okL_55 : okL 55 = true := by decide +kernel
set_option maxRecDepth 100000 in
theorem okM_55 : okM 55 = true := by decide +kernel
set_option maxRecDepth 100000 in
theorem okL_56 : okL 56 = true := by decide +kernel
set_option maxRecDepth 100000 in
theorem okM_56 : okM 56 = true := by decide +kernel
set_option maxRecDepth 100000 in
theorem okL_57 : okL 57 = true := by decide +kernel
set_option maxRecDepth 100000 in
theorem okM_57 : okM 57 = true := by decide +kernel
set_option maxRecDepth 100000 in
theorem okL_58 : okL 58 = true := by decide +kernel
set_option maxRecDepth 100000 in
theorem okM_58 : okM 58 = true := by decide +kernel
set_option maxRecDepth 100000 in
theorem okL_59 : okL 59 = true := by decide +kernel
set_option maxRecDepth 100000 in
theorem okM_59 : okM 59 = true := by decide +kernel
set_option maxRecDepth 100000 in
theorem okL_60 : okL 60 = true := by decide +kernel
set_option maxRecDepth 100000 in
theorem okM_60 : okM 60 = true := by decide +kernel
set_option maxRecDepth 100000 in
theorem okL_61 : okL 61 = true := by decide +kernel
set_option maxRecDepth 100000 in
theorem okM_61 : okM 61 = true := by decide +kernel
set_option maxRecDepth 100000 in
theorem okL_62 : okL 62 = true := by decide +kernel
set_option maxRecDepth 100000 in
theorem okM_62 : okM 62 = true := by decide +kernel
set_option maxRecDepth 100000 in
theorem okL_63 : okL 63 = true := by decide +kernel
set_option maxRecDepth 100000 in
theorem okM_63 : okM 63 = true := by decide +kernel
set_option maxRecDepth 100000 in
theorem okL_64 : okL 64 = true := by decide +kernel
set_option maxRecDepth 100000 in
theorem okM_64 : okM 64 = true := by decide +kernel
set_option maxRecDepth 100000 in
theorem okL_65 : okL 65 = true := by decide +kernel
set_option maxRecDepth 100000 in
theorem okM_65 : okM 65 = true := by decide +kernel
set_option maxRecDepth 100000 in
theorem okL_66 : okL 66 = true := by decide +kernel
set_option maxRecDepth 100000 in
theorem okM_66 : okM 66 = true := by decide +kernel
set_option maxRecDepth 100000 in
theorem okL_67 : okL 67 = true := by decide +kernel
set_option maxRecDepth 100000 in
theorem okM_67 : okM 67 = true := by decide +kernel
set_option maxRecDepth 100000 in
theorem okL_68 : okL 68 = true := by decide +kernel
set_option maxRecDepth 100000 in
theorem okM_68 : okM 68 = true := by decide +kernel
set_option maxRecDepth 100000 in
theorem okL_69 : okL 69 = true := by decide +kernel
set_option maxRecDepth 100000 in
theorem okM_69 : okM 69 = true := by decide +kernel
set_option maxRecDepth 100000 in
theorem okL_70 : okL 70 = true := by decide +kernel
set_option maxRecDepth 100000 in
theorem okM_70 : okM 70 = true := by decide +kernel
set_option maxRecDepth 100000 in
theorem okL_71 : okL 71 = true := by decide +kernel
set_option maxRecDepth 100000 in
theorem okM_71 : okM 71 = true := by decide +kernel
set_option maxRecDepth 100000 in
theorem okL_72 : okL 72 = true := by decide +kernel
set_option maxRecDepth 100000 in
theorem okM_72 : okM 72 = true := by decide +kernel
set_option maxRecDepth 100000 in
theorem okL_73 : okL 73 = true := by decide +kernel
set_option maxRecDepth 100000 in
theorem okM_73 : okM 73 = true := by decide +kernel
set_option maxRecDepth 100000 in
theorem okL_74 : okL 74 = true := by decide +kernel
set_option maxRecDepth 100000 in
theorem okM_74 : okM 74 = true := by decide +kernel
set_option maxRecDepth 100000 in
theorem okL_75 : okL 75 = true := by decide +kernel
set_option maxRecDepth 100000 in
theorem okM_75 : okM 75 = true := by decide +kernel
set_option maxRecDepth 100000 in
theorem okL_76 : okL 76 = true := by decide +kernel
set_option maxRecDepth 100000 in
theorem okM_76 : okM 76 = true := by decide +kernel
set_option maxRecDepth 100000 in
theorem okL_77 : okL 77 = true := by decide +kernel
set_option maxRecDepth 100000 in
theorem okM_77 : okM 77 = true := by decide +kernel
set_option maxRecDepth 100000 in
theorem okL_78 : okL 78 = true := by decide +kernel
set_option maxRecDepth 100000 in
theorem okM_78 : okM 78 = true := by decide +kernel
set_option maxRecDepth 100000 in
theorem okL_79 : okL 79 = true := by decide +kernel
set_option maxRecDepth 100000 in
theorem okM_79 : okM 79 = true := by decide +kernel
set_option maxRecDepth 100000 in
theorem okL_80 : okL 80 = true := by decide +kernel
set_option maxRecDepth 100000 in
theorem okM_80 : okM 80 = true := by decide +kernel
set_option maxRecDepth 100000 in
theorem okL_81 : okL 81 = true := by decide +kernel
set_option maxRecDepth 100000 in
theorem okM_81 : okM 81 = true := by decide +kernel
set_option maxRecDepth 100000 in
theorem okL_82 : okL 82 = true := by decide +kernel
set_option maxRecDepth 100000 in
theorem okM_82 : okM 82 = true := by decide +kernel
set_option maxRecDepth 100000 in
theorem okL_83 : okL 83 = true := by decide +kernel
set_option maxRecDepth 100000 in
theorem okM_83 : okM 83 = true := by decide +kernel
set_option maxRecDepth 100000 in
theorem okL_84 : okL 84 = true := by decide +kernel
set_option maxRecDepth 100000 in
theorem okM_84 : okM 84 = true := by decide +kernel
set_option maxRecDepth 100000 in
theorem okL_85 : okL 85 = true := by decide +kernel
set_option maxRecDepth 100000 in
theorem okM_85 : okM 85 = true := by decide +kernel
set_option maxRecDepth 100000 in
theorem okL_86 : okL 86 = true := by decide +kernel
set_option maxRecDepth 100000 in
theorem okM_86 : okM 86 = true := by decide +kernel
set_option maxRecDepth 100000 in
theorem okL_87 : okL 87 = true := by decide +kernel
set_option maxRecDepth 100000 in
theorem okM_87 : okM 87 = true := by decide +kernel
set_option maxRecDepth 100000 in
theorem okL_88 : okL 88 = true := by decide +kernel
set_option maxRecDepth 100000 in
theorem okM_88 : okM 88 = true := by decide +kernel
set_option maxRecDepth 100000 in
theorem okL_89 : okL 89 = true := by decide +kernel
set_option maxRecDepth 100000 in
theorem okM_89 : okM 89 = true := by decide +kernel
set_option maxRecDepth 100000 in
theorem okL_90 : okL 90 = true := by decide +kernel
set_option maxRecDepth 100000 in
theorem okM_90 : okM 90 = true := by decide +kernel
set_option maxRecDepth 100000 in
theorem okL_91 : okL 91 = true := by decide +kernel
set_option maxRecDepth 100000 in
theorem okM_91 : okM 91 = true := by decide +kernel
set_option maxRecDepth 100000 in
theorem okL_92 : okL 92 = true := by decide +kernel
set_option maxRecDepth 100000 in
theorem okM_92 : okM 92 = true := by decide +kernel
set_option maxRecDepth 100000 in
theorem okL_93 : okL 93 = true := by decide +kernel
set_option maxRecDepth 100000 in
theorem okM_93 : okM 93 = true := by decide +kernel
set_option maxRecDepth 100000 in
theorem okL_94 : okL 94 = true := by decide +kernel
set_option maxRecDepth 100000 in
theorem okM_94 : okM 94 = true := by decide +kernel
set_option maxRecDepth 100000 in
theorem okL_95 : okL 95 = true := by decide +kernel
set_option maxRecDepth 100000 in
theorem okM_95 : okM 95 = true := by decide +kernel
set_option maxRecDepth 100000 in
theorem okL_96 : okL 96 = true := by decide +kernel
set_option maxRecDepth 100000 in
theorem okM_96 : okM 96 = true := by decide +kernel
set_option maxRecDepth 100000 in
theorem okL_97 : okL 97 = true := by decide +kernel
set_option maxRecDepth 100000 in
theorem okM_97 : okM 97 = true := by decide +kernel
set_option maxRecDepth 100000 in
theorem okL_98 : okL 98 = true := by decide +kernel
set_option maxRecDepth 100000 in
theorem okM_98 : okM 98 = true := by decide +kernel
set_option maxRecDepth 100000 in
theorem okL_99 : okL 99 = true := by decide +kernel
set_option maxRecDepth 100000 in
theorem okM_99 : okM 99 = true := by decide +kernel
set_option maxRecDepth 100000 in
theorem okL_100 : okL 100 = true := by decide +kernel
set_option maxRecDepth 100000 in
theorem okM_100 : okM 100 = true := by decide +kernel
set_option maxRecDepth 100000 in
theorem okL_101 : okL 101 = true := by decide +kernel
set_option maxRecDepth 100000 in
theorem okM_101 : okM 101 = true := by decide +kernel
set_option maxRecDepth 100000 in
theorem okL_102 : okL 102 = true := by decide +kernel
set_option maxRecDepth 100000 in
theorem okM_102 : okM 102 = true := by decide +kernel
set_option maxRecDepth 100000 in
theorem okL_103 : okL 103 = true := by decide +kernel
set_option maxRecDepth 100000 in
theorem okM_103 : okM 103 = true := by decide +kernel
set_option maxRecDepth 100000 in
theorem okL_104 : okL 104 = true := by decide +kernel
set_option maxRecDepth 100000 in
theorem okM_104 : okM 104 = true := by decide +kernel
set_option maxRecDepth 100000 in
theorem okL_105 : okL 105 = true := by decide +kernel
set_option maxRecDepth 100000 in
theorem okM_105 : okM 105 = true := by decide +kernel
set_option maxRecDepth 100000 in
theorem okL_106 : okL 106 = true := by decide +kernel
set_option maxRecDepth 100000 in
theorem okM_106 : okM 106 = true := by decide +kernel
set_option maxRecDepth 100000 in
theorem okL_107 : okL 107 = true := by decide +kernel
set_option maxRecDepth 100000 in
theorem okM_107 : okM 107 = true := by decide +kernel
set_option maxRecDepth 100000 in
theorem okL_108 : okL 108 = true := by decide +kernel
set_option maxRecDepth 100000 in
theorem okM_108 : okM 108 = true := by decide +kernel
set_option maxRecDepth 100000 in
theorem okL_109 : okL 109 = true := by decide +kernel
set_option maxRecDepth 100000 in
theorem okM_109 : okM 109 = true := by decide +kernel
set_option maxRecDepth 100000 in
theorem okL_110 : okL 110 = true := by decide +kernel
set_option maxRecDepth 100000 in
theorem okM_110 : okM 110 = true := by decide +kernel
set_option maxRecDepth 100000 in
theorem okL_111 : okL 111 = true := by decide +kernel
set_option maxRecDepth 100000 in
theorem okM_111 : okM 111 = true := by decide +kernel
set_option maxRecDepth 100000 in
theorem okL_112 : okL 112 = true := by decide +kernel
set_option maxRecDepth 100000 in
theorem okM_112 : okM 112 = true := by decide +kernel
set_option maxRecDepth 100000 in
theorem okL_113 : okL 113 = true := by decide +kernel
set_option maxRecDepth 100000 in
theorem okM_113 : okM 113 = true := by decide +kernel
set_option maxRecDepth 100000 in
theorem okL_114 : okL 114 = true := by decide +kernel
set_option maxRecDepth 100000 in
theorem okM_114 : okM 114 = true := by decide +kernel
set_option maxRecDepth 100000 in
theorem okL_115 : okL 115 = true := by decide +kernel
set_option maxRecDepth 100000 in
theorem okM_115 : okM 115 = true := by decide +kernel
set_option maxRecDepth 100000 in
theorem okL_116 : okL 116 = true := by decide +kernel
set_option maxRecDepth 100000 in
theorem okM_116 : okM 116 = true := by decide +kernel
theorem okL_all : ∀ k, k < 117 → okL k = true
  | 0, _ => okL_0
  | 1, _ => okL_1
  | 2, _ => okL_2
  | 3, _ => okL_3
  | 4, _ => okL_4
  | 5, _ => okL_5
  | 6, _ => okL_6
  | 7, _ => okL_7
  | 8, _ => okL_8
  | 9, _ => okL_9
  | 10, _ => okL_10
  | 11, _ => okL_11
  | 12, _ => okL_12
  | 13, _ => okL_13
  | 14, _ => okL_14
  | 15, _ => okL_15
  | 16, _ => okL_16
  | 17, _ => okL_17
  | 18, _ => okL_18
  | 19, _ => okL_19
  | 20, _ => okL_20
  | 21, _ => okL_21
  | 22, _ => okL_22
  | 23, _ => okL_23
  | 24, _ => okL_24
  | 25, _ => okL_25
  | 26, _ => okL_26
  | 27, _ => okL_27
  | 28, _ => okL_28
  | 29, _ => okL_29
  | 30, _ => okL_30
  | 31, _ => okL_31
  | 32, _ => okL_32
  | 33, _ => okL_33
  | 34, _ => okL_34
  | 35, _ => okL_35
  | 36, _ => okL_36
  | 37, _ => okL_37
  | 38, _ => okL_38
  | 39, _ => okL_39
  | 40, _ => okL_40
  | 41, _ => okL_41
  | 42, _ => okL_42
  | 43, _ => okL_43
  | 44, _ => okL_44
  | 45, _ => okL_45
  | 46, _ => okL_46
  | 47, _ => okL_47
  | 48, _ => okL_48
  | 49, _ => okL_49
  | 50, _ => okL_50
  | 51, _ => okL_51
  | 52, _ => okL_52
  | 53, _ => okL_53
  | 54, _ => okL_54
  | 55, _ => okL_55
  | 56, _ => okL_56
  | 57, _ => okL_57
  | 58, _ => okL_58
  | 59, _ => okL_59
  | 60, _ => okL_60
  | 61, _ => okL_61
  | 62, _ => okL_62
  | 63, _ => okL_63
  | 64, _ => okL_64
  | 65, _ => okL_65
  | 66, _ => okL_66
  | 67, _ => okL_67
  | 68, _ => okL_68
  | 69, _ => okL_69
  | 70, _ => okL_70
  | 71, _ => okL_71
  | 72, _ => okL_72
  | 73, _ => okL_73
  | 74, _ => okL_74
  | 75, _ => okL_75
  | 76, _ => okL_76
  | 77, _ => okL_77
  | 78, _ => okL_78
  | 79, _ => okL_79
  | 80, _ => okL_80
  | 81, _ => okL_81
  | 82, _ => okL_82
  | 83, _ => okL_83
  | 84, _ => okL_84
  | 85, _ => okL_85
  | 86, _ => okL_86
  | 87, _ => okL_87
  | 88, _ => okL_88
  | 89, _ => okL_89
  | 90, _ => okL_90
  | 91, _ => okL_91
  | 92, _ => okL_92
  | 93, _ => okL_93
  | 94, _ => okL_94
  | 95, _ => okL_95
  | 96, _ => okL_96
  | 97, _ => okL_97
  | 98, _ => okL_98
  | 99, _ => okL_99
  | 100, _ => okL_100
  | 101, _ => okL_101
  | 102, _ => okL_102
  | 103, _ => okL_103
  | 104, _ => okL_104
  | 105, _ => okL_105
  | 106, _ => okL_106
  | 107, _ => okL_107
  | 108, _ => okL_108
  | 109, _ => okL_109
  | 110, _ => okL_110
  | 111, _ => okL_111
  | 112, _ => okL_112
  | 113, _ => okL_113
  | 114, _ => okL_114
  | 115, _ => okL_115
  | 116, _ => okL_116
  | k + 117, h => absurd h (by omega)
theorem okM_all : ∀ k, k < 117 → okM k = true
  | 0, _ => okM_0
  | 1, _ => okM_1
  | 2, _ => okM_2
  | 3, _ => okM_3
  | 4, _ => okM_4
  | 5, _ => okM_5
  | 6, _ => okM_6
  | 7, _ => okM_7
  | 8, _ => okM_8
  | 9, _ => okM_9
  | 10, _ => okM_10
  | 11, _ => okM_11
  | 12, _ => okM_12
  | 13, _ => okM_13
  | 14, _ => okM_14
  | 15, _ => okM_15
  | 16, _ => okM_16
  | 17, _ => okM_17
  | 18, _ => okM_18
  | 19, _ => okM_19
  | 20, _ => okM_20
  | 21, _ => okM_21
  | 22, _ => okM_22
  | 23, _ => okM_23
  | 24, _ => okM_24
  | 25, _ => okM_25
  | 26, _ => okM_26
  | 27, _ => okM_27
  | 28, _ => okM_28
  | 29, _ => okM_29
  | 30, _ => okM_30
  | 31, _ => okM_31
  | 32, _ => okM_32
  | 33, _ => okM_33
  | 34, _ => okM_34
  | 35, _ => okM_35
  | 36, _ => okM_36
  | 37, _ => okM_37
  | 38, _ => okM_38
  | 39, _ => okM_39
  | 40, _ => okM_40
  | 41, _ => okM_41
  | 42, _ => okM_42
  | 43, _ => okM_43
  | 44, _ => okM_44
  | 45, _ => okM_45
  | 46, _ => okM_46
  | 47, _ => okM_47
  | 48, _ => okM_48
  | 49, _ => okM_49
  | 50, _ => okM_50
  | 51, _ => okM_51
  | 52, _ => okM_52
  | 53, _ => okM_53
  | 54, _ => okM_54
  | 55, _ => okM_55
  | 56, _ => okM_56
  | 57, _ => okM_57
  | 58, _ => okM_58
  | 59, _ => okM_59
  | 60, _ => okM_60
  | 61, _ => okM_61
  | 62, _ => okM_62
  | 63, _ => okM_63
  | 64, _ => okM_64
  | 65, _ => okM_65
  | 66, _ => okM_66
  | 67, _ => okM_67
  | 68, _ => okM_68
  | 69, _ => okM_69
  | 70, _ => okM_70
  | 71, _ => okM_71
  | 72, _ => okM_72
  | 73, _ => okM_73
  | 74, _ => okM_74
  | 75, _ => okM_75
  | 76, _ => okM_76
  | 77, _ => okM_77
  | 78, _ => okM_78
  | 79, _ => okM_79
  | 80, _ => okM_80
  | 81, _ => okM_81
  | 82, _ => okM_82
  | 83, _ => okM_83
  | 84, _ => okM_84
  | 85, _ => okM_85
  | 86, _ => okM_86
  | 87, _ => okM_87
  | 88, _ => okM_88
  | 89, _ => okM_89
  | 90, _ => okM_90
  | 91, _ => okM_91
  | 92, _ => okM_92
  | 93, _ => okM_93
  | 94, _ => okM_94
  | 95, _ => okM_95
  | 96, _ => okM_96
  | 97, _ => okM_97
  | 98, _ => okM_98
  | 99, _ => okM_99
  | 100, _ => okM_100
  | 101, _ => okM_101
  | 102, _ => okM_102
  | 103, _ => okM_103
  | 104, _ => okM_104
  | 105, _ => okM_105
  | 106, _ => okM_106
  | 107, _ => okM_107
  | 108, _ => okM_108
  | 109, _ => okM_109
  | 110, _ => okM_110
  | 111, _ => okM_111
  | 112, _ => okM_112
  | 113, _ => okM_113
  | 114, _ => okM_114
  | 115, _ => okM_115
  | 116, _ => okM_116
  | k + 117, h => absurd h (by omega)
def okC (ci : Nat) : Bool := match vwCl[ci]? with
  | some (C, T, N) => (u_ws C T N).all (fun w => decide (w ∈ lw_tbl) && goodWord w) && decide ((Cond.instantiable C N) ∈ lw_tbl) && decide ((Cond.initialized C) ∈ lw_tbl)
  | none => false
set_option maxRecDepth 100000 in
theorem okC_all : ∀ ci, ci < 8 → okC ci = true := by decide +kernel
set_option maxRecDepth 100000 in
theorem w_over : Cond.arrayOver (.object RX1) ∈ lw_tbl := by decide +kernel
set_option maxRecDepth 100000 in
theorem w_arr : Cond.arrayClass .int ∈ lw_tbl := by decide +kernel
set_option maxRecDepth 100000 in
theorem w_math : (Cond.static Lib.Math.abs.name ∈ lw_tbl ∧ Cond.static Lib.Math.max.name ∈ lw_tbl ∧ Cond.static Lib.Math.min.name ∈ lw_tbl) ∧ Cond.initialized "java/lang/Math" ∈ lw_tbl ∧ (Cond.code Lib.Math.abs.name Lib.Math.abs.code 1 (some .int) ∈ lw_tbl ∧ Cond.code Lib.Math.max.name Lib.Math.max.code 2 (some .int) ∈ lw_tbl ∧ Cond.code Lib.Math.min.name Lib.Math.min.code 2 (some .int) ∈ lw_tbl) := by decide +kernel
set_option maxRecDepth 100000 in
theorem w_obj : Cond.instanceMethod objectInit ∈ lw_tbl ∧ Cond.code objectInit ⟨#[0xb1]⟩ 1 none ∈ lw_tbl := by decide +kernel
end
section
/-! ===== what the abstract machine's heap is in the machine ===== -/
theorem i32_toInt {z : Int} (h : inr z) : (i32 z).toInt = z := Int32.toInt_ofInt_of_le (by have := h.1; omega) (by have := h.2; omega)
theorem i32_of (x : Int32) : i32 x.toInt = x := Int32.ofInt_toInt x
theorem inr_toInt (x : Int32) : inr x.toInt := ⟨by have := x.le_toInt; omega, by have := x.toInt_lt; omega⟩
theorem i32_clamp {z : Int} (h : inr z) : (i32 z).toNatClampNeg = z.toNat := Int32.toNatClampNeg_ofInt_of_le (by have := h.1; omega) (by have := h.2; omega)
theorem i32_lt {x y : Int} (hx : inr x) (hy : inr y) : i32 x < i32 y ↔ x < y := by rw [Int32.lt_iff_toInt_lt, i32_toInt hx, i32_toInt hy]
theorem i32_le {x y : Int} (hx : inr x) (hy : inr y) : i32 x ≤ i32 y ↔ x ≤ y := by rw [Int32.le_iff_toInt_le, i32_toInt hx, i32_toInt hy]
theorem i32_eq {x y : Int} (hx : inr x) (hy : inr y) : i32 x = i32 y ↔ x = y := by rw [← Int32.toInt_inj, i32_toInt hx, i32_toInt hy]
theorem i32_0 : i32 0 = 0 := by decide
theorem inr_0 : inr 0 := ⟨by decide, by decide⟩
theorem i32_w2 (f : Int32 → Int32 → Int32) (x y : Int) : i32 (w2 f x y) = f (i32 x) (i32 y) := i32_of _
theorem inr_w2 (f : Int32 → Int32 → Int32) (x y : Int) : inr (w2 f x y) := inr_toInt _
def adr (as : List Nat) (i : Nat) : Nat := as.getD i 0
def cv (as : List Nat) (v : AV) : Value := match v with
  | .inl z => .int (i32 z)
  | .inr (.inl none) => .null
  | .inr (.inl (some i)) => .ref (adr as i)
  | .inr (.inr none) => .double 0
  | .inr (.inr (some x)) => .long x
def fI (fs : List AV) : Nat → Int32 := fun k => match fs[k]? with | some (.inl z) => i32 z | _ => 0
def fR (as : List Nat) (fs : List AV) : Nat → Option Nat := fun k => match fs[k]? with | some (.inr (.inl (some i))) => some (adr as i) | _ => none
def cellE (cI cG : ClassId) (as : List Nat) (o : AO) : va_E :=
  if o.1 = 100 then .inl (cI, o.2.length, .inl (fI o.2))
  else if o.1 = 101 then .inl (cG, o.2.length, .inr (.inr (.inr (.inr (fR as o.2)))))
  else .inr (o.1, o.2.map (cv as))
def wsO (cI cG : ClassId) (as : List Nat) (h : AH) : va_W := List.zipWith (fun a o => (a, cellE cI cG as o)) as h
/-- in range: whole numbers of 32 bits, references into the heap -/
def wv (n : Nat) (v : AV) : Prop := match v with
  | .inl z => inr z
  | .inr (.inl (some i)) => i < n
  | _ => True
def wl (n : Nat) (l : List AV) : Prop := ∀ v ∈ l, wv n v
def wh (h : AH) : Prop := ∀ o ∈ h, wl h.length o.2
theorem wv_mono {n m : Nat} (h : n ≤ m) {v : AV} (hv : wv n v) : wv m v := by
  rcases v with z | r | x
  · exact hv
  · cases r with
    | none => trivial
    | some i => exact Nat.lt_of_lt_of_le hv h
  · trivial
theorem wl_mono {n m : Nat} (h : n ≤ m) {l : List AV} (hv : wl n l) : wl m l := fun v q => wv_mono h (hv v q)
theorem wl_cons {n : Nat} {v : AV} {l : List AV} : wl n (v :: l) ↔ wv n v ∧ wl n l := by simp [wl]
theorem wl_nil {n : Nat} : wl n [] := fun _ h => by cases h
theorem wl_set {n : Nat} {l : List AV} {i : Nat} {v : AV} (hl : wl n l) (hv : wv n v) : wl n (l.set i v) := by
  intro x hx
  rcases List.mem_or_eq_of_mem_set hx with h | h
  · exact hl x h
  · rw [h]; exact hv
theorem wl_get {n : Nat} {l : List AV} {i : Nat} {v : AV} (hl : wl n l) (h : l[i]? = some v) : wv n v := hl v (List.mem_of_getElem? h)
theorem wl_app {n : Nat} {a b : List AV} : wl n (a ++ b) ↔ wl n a ∧ wl n b := by
  constructor
  · intro h; exact ⟨fun v hv => h v (List.mem_append_left _ hv), fun v hv => h v (List.mem_append_right _ hv)⟩
  · intro h v hv
    rcases List.mem_append.mp hv with q | q
    · exact h.1 v q
    · exact h.2 v q
theorem wh_get {h : AH} {i : Nat} {o : AO} (hw : wh h) (hi : h[i]? = some o) : wl h.length o.2 := hw o (List.mem_of_getElem? hi)
theorem wh_set {h : AH} {i : Nat} {o : AO} (hw : wh h) (ho : wl h.length o.2) : wh (h.set i o) := by
  intro x hx
  rw [List.length_set]
  rcases List.mem_or_eq_of_mem_set hx with q | q
  · exact hw x q
  · rw [q]; exact ho
theorem wh_push {h : AH} {o : AO} (hw : wh h) (ho : wl (h.length + 1) o.2) : wh (h ++ [o]) := by
  intro x hx
  rw [List.length_append]
  rcases List.mem_append.mp hx with q | q
  · exact wl_mono (Nat.le_add_right _ _) (hw x q)
  · rw [List.mem_singleton.mp q]; exact ho
theorem adr_app {as q : List Nat} {i : Nat} (h : i < as.length) : adr (as ++ q) i = adr as i := by
  simp [adr, List.getD_eq_getElem?_getD, List.getElem?_append_left h]
theorem cv_app {as q : List Nat} {v : AV} (h : wv as.length v) : cv (as ++ q) v = cv as v := by
  rcases v with z | r | x
  · rfl
  · cases r with
    | none => rfl
    | some i => simp only [cv]; rw [adr_app h]
  · cases x <;> rfl
theorem cvl_app {as q : List Nat} {l : List AV} (h : wl as.length l) : l.map (cv (as ++ q)) = l.map (cv as) := List.map_congr_left fun v hv => cv_app (h v hv)
theorem fR_app {as q : List Nat} {l : List AV} (h : wl as.length l) : fR (as ++ q) l = fR as l := by
  funext k
  unfold fR
  cases hk : l[k]? with
  | none => rfl
  | some v =>
    have := wl_get h hk
    rcases v with z | r | x
    · rfl
    · cases r with
      | none => rfl
      | some i => simp only []; rw [adr_app this]
    · rfl
theorem cellE_app {cI cG : ClassId} {as q : List Nat} {o : AO} (h : wl as.length o.2) : cellE cI cG (as ++ q) o = cellE cI cG as o := by
  unfold cellE
  rw [cvl_app h, fR_app h]
theorem wsO_len {cI cG : ClassId} {as : List Nat} {h : AH} (hl : as.length = h.length) : (wsO cI cG as h).length = h.length := by simp [wsO, hl]
theorem wsO_get {cI cG : ClassId} {as : List Nat} {h : AH} {i : Nat} {o : AO} (hl : as.length = h.length) (hi : h[i]? = some o) : (wsO cI cG as h)[i]? = some (adr as i, cellE cI cG as o) := by
  have h1 : i < h.length := (List.getElem?_eq_some_iff.mp hi).1
  have h2 : i < as.length := by omega
  simp [wsO, List.getElem?_zipWith, hi, adr, List.getD_eq_getElem?_getD, List.getElem?_eq_getElem h2]
theorem wsO_set {cI cG : ClassId} {as : List Nat} {h : AH} {i : Nat} {o : AO} (hl : as.length = h.length) : (wsO cI cG as h).set i (adr as i, cellE cI cG as o) = wsO cI cG as (h.set i o) := by
  apply List.ext_getElem?
  intro j
  by_cases hj : j < h.length
  · have h2 : j < as.length := by omega
    by_cases hij : i = j
    · subst hij
      rw [List.getElem?_set_self (by rw [wsO_len hl]; exact hj)]
      rw [wsO_get (by rw [List.length_set]; exact hl) (List.getElem?_set_self hj)]
    · rw [List.getElem?_set_ne hij]
      simp [wsO, List.getElem?_zipWith, List.getElem?_set_ne hij]
  · rw [List.getElem?_eq_none (by rw [List.length_set, wsO_len hl]; omega), List.getElem?_eq_none (by rw [wsO_len (by rw [List.length_set]; exact hl), List.length_set]; omega)]
theorem wsO_app {cI cG : ClassId} {as q : List Nat} {h : AH} (hl : as.length = h.length) (hw : wh h) : List.zipWith (fun a o => (a, cellE cI cG (as ++ q) o)) as h = wsO cI cG as h := by
  unfold wsO
  apply List.ext_getElem?
  intro j
  simp only [List.getElem?_zipWith]
  cases ha : as[j]? with
  | none => rfl
  | some a =>
    cases hj : h[j]? with
    | none => rfl
    | some o => simp only []; rw [cellE_app (by rw [hl]; exact wh_get hw hj)]
theorem wsO_push {cI cG : ClassId} {as : List Nat} {h : AH} {q : Nat} {o : AO} (hl : as.length = h.length) (hw : wh h) : wsO cI cG (as ++ [q]) (h ++ [o]) = wsO cI cG as h ++ [(q, cellE cI cG (as ++ [q]) o)] := by
  rw [← wsO_app (q := [q]) hl hw]
  show List.zipWith _ (as ++ [q]) (h ++ [o]) = _
  rw [List.zipWith_append hl]
  rfl
/-! the locals -/
def hdU (l : List AV) : Bool := match l with | .inr (.inr none) :: _ => true | _ => false
theorem hdU_iff {l : List AV} : hdU l = true ↔ l[0]? = some (Db 0) := by
  rcases l with _ | ⟨v, l⟩
  · simp [hdU]
  · rcases v with z | r | x
    · simp [hdU]
    · simp [hdU]
    · cases x <;> simp [hdU]
def lvl (as : List Nat) : Nat → List AV → List (Nat × Value)
  | _, [] => []
  | i, .inr (.inr none) :: l => lvl as (i + 1) l
  | i, .inr (.inr (some x)) :: l => (if hdU l = true then [(i, cv as (.inr (.inr (some x))))] else []) ++ lvl as (i + 1) l
  | i, .inl z :: l => (i, cv as (.inl z)) :: lvl as (i + 1) l
  | i, .inr (.inl r) :: l => (i, cv as (.inr (.inl r))) :: lvl as (i + 1) l
def isDb (v : AV) : Bool := match v with | .inr (.inr _) => true | _ => false
/-- a place that is listed: no long, or a long ahead of its second place -/
def shw (l : List AV) (j : Nat) (v : AV) : Prop := isDb v = false ∨ ∃ x, v = Lg x ∧ l[j + 1]? = some (Db 0)
theorem lvl_mem {as : List Nat} {l : List AV} : ∀ {i : Nat} {q : Nat × Value}, q ∈ lvl as i l ↔ ∃ (j : Nat) (v : AV), l[j]? = some v ∧ shw l j v ∧ q = (i + j, cv as v) := by
  induction l with
  | nil => intro i q; simp [lvl]
  | cons v l ih =>
    intro i q
    have key : (∃ (j : Nat) (w : AV), (v :: l)[j]? = some w ∧ shw (v :: l) j w ∧ q = (i + j, cv as w)) ↔ ((shw (v :: l) 0 v ∧ q = (i, cv as v)) ∨ ∃ (j : Nat) (w : AV), l[j]? = some w ∧ shw l j w ∧ q = (i + 1 + j, cv as w)) := by
      constructor
      · rintro ⟨j, w, h1, h2, h3⟩
        cases j with
        | zero => simp only [List.getElem?_cons_zero, Option.some.injEq] at h1; subst h1; exact Or.inl ⟨h2, h3⟩
        | succ j =>
          simp only [List.getElem?_cons_succ] at h1
          refine Or.inr ⟨j, w, h1, ?_, by rw [h3]; congr 1; omega⟩
          rcases h2 with h2 | ⟨x, h2, h4⟩
          · exact Or.inl h2
          · exact Or.inr ⟨x, h2, by simpa using h4⟩
      · rintro (⟨h2, h3⟩ | ⟨j, w, h1, h2, h3⟩)
        · exact ⟨0, v, rfl, h2, h3⟩
        · refine ⟨j + 1, w, by simpa using h1, ?_, by rw [h3]; congr 1; omega⟩
          rcases h2 with h2 | ⟨x, h2, h4⟩
          · exact Or.inl h2
          · exact Or.inr ⟨x, h2, by simpa using h4⟩
    rw [key]
    rcases v with z | r | x
    · have e : shw (.inl z :: l) 0 (.inl z) := Or.inl rfl
      simp only [lvl, List.mem_cons, ih, e, true_and]
    · have e : shw (.inr (.inl r) :: l) 0 (.inr (.inl r)) := Or.inl rfl
      simp only [lvl, List.mem_cons, ih, e, true_and]
    · cases x with
      | none =>
        have e : ¬ shw (.inr (.inr none) :: l) 0 (.inr (.inr none)) := by
          rintro (h | ⟨x, h, _⟩)
          · cases h
          · exact absurd (Sum.inr.inj (Sum.inr.inj h)) (by simp)
        simp only [lvl, ih, e, false_and, false_or]
      | some x =>
        have e : shw (.inr (.inr (some x)) :: l) 0 (.inr (.inr (some x))) ↔ hdU l = true := by
          rw [hdU_iff]
          constructor
          · rintro (h | ⟨y, _, h⟩)
            · cases h
            · simpa using h
          · intro h
            exact Or.inr ⟨x, rfl, by simpa using h⟩
        simp only [lvl, List.mem_append, ih, e]
        by_cases hu : hdU l = true
        · simp only [hu, if_true, List.mem_singleton, true_and]
        · simp only [hu, if_false, List.not_mem_nil, false_and, Bool.false_eq_true]
theorem lvl_at {as : List Nat} {l : List AV} {ls : Array Slot} {nL i : Nat} {v : AV} (h : lv_has ls nL (lvl as 0 l)) (hi : l[i]? = some v) (hd : isDb v = false) : ls[i]? = some (.val (cv as v)) :=
  h.2.2 (i, cv as v) (lvl_mem.mpr ⟨i, v, hi, Or.inl hd, by rw [Nat.zero_add]⟩)
theorem lvl_atL {as : List Nat} {l : List AV} {ls : Array Slot} {nL i : Nat} {x : Int64} (h : lv_has ls nL (lvl as 0 l)) (hi : l[i]? = some (Lg x)) (hd : l[i + 1]? = some (Db 0)) : ls[i]? = some (.val (.long x)) :=
  h.2.2 (i, .long x) (lvl_mem.mpr ⟨i, Lg x, hi, Or.inr ⟨x, rfl, hd⟩, by rw [Nat.zero_add]; rfl⟩)
theorem cv_cat1 {as : List Nat} {v : AV} (hd : isDb v = false) : (cv as v).category = 1 := by
  rcases v with z | r | x
  · rfl
  · cases r <;> rfl
  · cases hd
theorem lvl_set {as : List Nat} {l : List AV} {ls : Array Slot} {nL i : Nat} {v : AV} (hv : isDb v = false) (h : lv_has ls nL ((i, cv as v) :: (lvl as 0 l).filter (fun q => !(q.1 == i) && !(q.1 + 1 == i && q.2.category == 2)))) : lv_has ls nL (lvl as 0 (l.set i v)) := by
  refine ⟨h.1, h.2.1, fun q hq => h.2.2 q ?_⟩
  obtain ⟨j, w, h1, h2, h3⟩ := lvl_mem.mp hq
  rw [Nat.zero_add] at h3
  subst h3
  by_cases hij : i = j
  · subst hij
    have hlt : i < l.length := by
      have := (List.getElem?_eq_some_iff.mp h1).1
      rwa [List.length_set] at this
    rw [List.getElem?_set_self hlt] at h1
    cases h1
    exact List.mem_cons_self
  · rw [List.getElem?_set_ne hij] at h1
    have hji : (j == i) = false := by simp [Ne.symm hij]
    rcases h2 with h2 | ⟨x, rfl, h4⟩
    · refine List.mem_cons_of_mem _ (List.mem_filter.mpr ⟨lvl_mem.mpr ⟨j, w, h1, Or.inl h2, by rw [Nat.zero_add]⟩, ?_⟩)
      simp [hji, cv_cat1 h2]
    · have hj1 : i ≠ j + 1 := by
        intro q
        subst q
        have hlt := (List.getElem?_eq_some_iff.mp h4).1
        rw [List.length_set] at hlt
        rw [List.getElem?_set_self hlt] at h4
        cases h4
        cases hv
      rw [List.getElem?_set_ne hj1] at h4
      refine List.mem_cons_of_mem _ (List.mem_filter.mpr ⟨lvl_mem.mpr ⟨j, Lg x, h1, Or.inr ⟨x, rfl, h4⟩, by rw [Nat.zero_add]⟩, ?_⟩)
      have h5 : (j + 1 == i) = false := by simp [Ne.symm hj1]
      simp [hji, h5]
theorem lvl_setL {as : List Nat} {l : List AV} {ls : Array Slot} {nL i : Nat} {x : Int64} (h : lv_has ls nL ((i, .long x) :: (lvl as 0 l).filter (fun q => !(q.1 == i) && (!(q.1 == i + 1) && !(q.1 + 1 == i && q.2.category == 2))))) : lv_has ls nL (lvl as 0 ((l.set i (Lg x)).set (i + 1) (Db 0))) := by
  refine ⟨h.1, h.2.1, fun q hq => h.2.2 q ?_⟩
  obtain ⟨j, w, h1, h2, h3⟩ := lvl_mem.mp hq
  rw [Nat.zero_add] at h3
  subst h3
  by_cases hj1 : i + 1 = j
  · subst hj1
    have hlt := (List.getElem?_eq_some_iff.mp h1).1
    rw [List.length_set] at hlt
    rw [List.getElem?_set_self hlt] at h1
    cases h1
    rcases h2 with h2 | ⟨y, h2, _⟩
    · cases h2
    · cases h2
  · rw [List.getElem?_set_ne hj1] at h1
    by_cases hij : i = j
    · subst hij
      have hlt := (List.getElem?_eq_some_iff.mp h1).1
      rw [List.length_set] at hlt
      rw [List.getElem?_set_self hlt] at h1
      cases h1
      exact List.mem_cons_self
    · rw [List.getElem?_set_ne hij] at h1
      have hji : (j == i) = false := by simp [Ne.symm hij]
      have hji1 : (j == i + 1) = false := by simp [Ne.symm hj1]
      rcases h2 with h2 | ⟨y, rfl, h4⟩
      · refine List.mem_cons_of_mem _ (List.mem_filter.mpr ⟨lvl_mem.mpr ⟨j, w, h1, Or.inl h2, by rw [Nat.zero_add]⟩, ?_⟩)
        simp [hji, hji1, cv_cat1 h2]
      · rw [List.getElem?_set_ne (by omega)] at h4
        have hj2 : i ≠ j + 1 := by
          intro q
          subst q
          have hlt := (List.getElem?_eq_some_iff.mp h4).1
          rw [List.length_set] at hlt
          rw [List.getElem?_set_self hlt] at h4
          cases h4
        rw [List.getElem?_set_ne hj2] at h4
        refine List.mem_cons_of_mem _ (List.mem_filter.mpr ⟨lvl_mem.mpr ⟨j, Lg y, h1, Or.inr ⟨y, rfl, h4⟩, by rw [Nat.zero_add]⟩, ?_⟩)
        have h5 : (j + 1 == i) = false := by simp [Ne.symm hj2]
        simp [hji, hji1, h5]
theorem lvl_app {as q : List Nat} {l : List AV} (h : wl as.length l) : ∀ i, lvl (as ++ q) i l = lvl as i l := by
  induction l with
  | nil => intro i; rfl
  | cons v l ih =>
    intro i
    have h1 := wl_cons.mp h
    rcases v with z | r | x
    · simp only [lvl]; rw [ih h1.2]; rfl
    · simp only [lvl]; rw [ih h1.2, cv_app h1.1]
    · cases x with
      | none => simp only [lvl]; rw [ih h1.2]
      | some x => simp only [lvl]; rw [ih h1.2]; rfl
theorem lvl_db {as : List Nat} (n : Nat) : ∀ i, lvl as i (List.replicate n (Db 0)) = [] := by
  induction n with
  | zero => intro i; rfl
  | succ n ih => intro i; rw [List.replicate_succ]; simp only [lvl]; exact ih _
theorem noDb_cons {v : AV} {l : List AV} : noDb (v :: l) = true ↔ isDb v = false ∧ noDb l = true := by
  rcases v with z | r | x <;> simp [noDb, isDb]
theorem lvl_append {as : List Nat} {a b : List AV} : noDb a = true → ∀ i, lvl as i (a ++ b) = lvl as i a ++ lvl as (i + a.length) b := by
  induction a with
  | nil => intro _ i; rfl
  | cons v l ih =>
    intro hd i
    have h1 := noDb_cons.mp hd
    rcases v with z | r | x
    · simp only [lvl, List.cons_append, List.length_cons]; rw [ih h1.2, show i + (l.length + 1) = i + 1 + l.length by omega]
    · simp only [lvl, List.cons_append, List.length_cons]; rw [ih h1.2, show i + (l.length + 1) = i + 1 + l.length by omega]
    · cases h1.1
theorem lv_args_eq {as : List Nat} {av : List AV} (hd : noDb av = true) : ∀ i, lv_args i (av.map (cv as)) = lvl as i av := by
  induction av with
  | nil => intro i; rfl
  | cons v l ih =>
    intro i
    have h1 := noDb_cons.mp hd
    have hc : ¬ (cv as v).category = 2 := by rw [cv_cat1 h1.1]; decide
    show (i, cv as v) :: lv_args (if (cv as v).category = 2 then i + 2 else i + 1) (l.map (cv as)) = _
    rw [if_neg hc, ih h1.2]
    rcases v with z | r | x
    · rfl
    · rfl
    · cases h1.1
theorem lg_sl_len {as : List Nat} {av : List AV} (hd : noDb av = true) : (lg_sl (av.map (cv as))).length = av.length := by
  induction av with
  | nil => rfl
  | cons v l ih =>
    have h1 := noDb_cons.mp hd
    have hc : ¬ (cv as v).category = 2 := by rw [cv_cat1 h1.1]; decide
    have := ih h1.2
    simp only [lg_sl, List.map_cons, List.flatMap_cons, if_neg hc, List.length_append, List.length_cons, List.length_nil] at this ⊢
    omega
/-- the cells' slots in all -/
def slO (o : AO) : Nat := if o.1 = 100 ∨ o.1 = 101 then o.2.length else nC o.1
def slN (h : AH) : Nat := (h.map slO).sum
theorem slN_push (h : AH) (o : AO) : slN (h ++ [o]) = slN h + slO o := by simp [slN]
theorem slN_set {h : AH} {i : Nat} {c : Nat} {fs fs' : List AV} (hi : h[i]? = some (c, fs)) (hl : fs'.length = fs.length) : slN (h.set i (c, fs')) = slN h := by
  unfold slN
  congr 1
  apply List.ext_getElem?
  intro j
  by_cases hij : i = j
  · subst hij
    have hlt : i < h.length := (List.getElem?_eq_some_iff.mp hi).1
    rw [List.getElem?_map, List.getElem?_map, List.getElem?_set_self hlt, hi]
    simp [slO, hl]
  · rw [List.getElem?_map, List.getElem?_map, List.getElem?_set_ne hij]
end
section
/-! ===== the abstract machine's steps are the machine's ===== -/
def lwG : List Cond := lw_tbl.filter goodWord
theorem lwG_in {w : Cond} (h : w ∈ lw_tbl) (g : goodWord w = true) : w ∈ lwG := List.mem_filter.mpr ⟨h, g⟩
theorem lwG_good : GoodIn lwG lwG := fun w h => ⟨h, good_of_word (List.mem_filter.mp h).2⟩
def isN (w : Cond) : Bool := match w with | .fieldLinkNest _ _ _ _ _ _ => true | .methodLinkNest _ _ _ _ => true | _ => false
def lwN : List Cond := lw_tbl.filter isN
theorem lwN_in {w : Cond} (h : w ∈ lw_tbl) (g : isN w = true) : w ∈ lwN := List.mem_filter.mpr ⟨h, g⟩
def nestOk (U : State) : Prop := ∀ w ∈ lwN, va_Nw w U
theorem nestOk.warm {s U : State} (hW : s.WarmedH U.vm) (h : nestOk s) : nestOk U := by
  intro w hw
  have h1 := h w hw
  have h2 := (List.mem_filter.mp hw).2
  unfold isN at h2
  split at h2
  · exact va_Nw.warmF hW h1
  · exact va_Nw.warmM hW h1
  · cases h2
theorem nestOk.same {u U : State} (hv : u.vm = U.vm) (h : nestOk u) : nestOk U := by
  intro w hw
  have h1 := h w hw
  have h2 := (List.mem_filter.mp hw).2
  unfold isN at h2
  split at h2
  · exact va_Nw.same rfl hv h1
  · exact va_Nw.same rfl hv h1
  · cases h2
abbrev tyG (cI cG : ClassId) : List (ClassId × FieldType) := [(cI, .int), (cG, .object RX1)]
def Ctx (p : Program) (s : State) (m : MethodId) (args : Array Value) (meth : Method) (c : Code) (D : va_G) (cI cG : ClassId) (k : Nat) : Prop :=
  p.tables.exec = Jvm.exec ∧ c.code = bM k ∧ c.maxLocals = maxl k ∧ s.vm.findClass (oN (mOs.getD k 0)) = some m.cls ∧ (∀ w ∈ lwG, w.before args s = true) ∧ va_K D vwCl (tyG cI cG) s ∧ va_AO RX1 s ∧ meth.locks = false ∧ meth.sig.returnType = rM k ∧ (isI k = true → meth.name = "<init>") ∧ nestOk s
def Wg (p : Program) (l : Launch) (e : Env) (R : Room) (s : State) (m : MethodId) (args : Array Value) (below : List Frame) (meth : Method) (c : Code) (D : va_G) (cI cG : ClassId) (A : Nat → Prop) (Q : State → Prop) (nL : Nat) (as : List Nat) (cells slots pc : Nat) (ls st : List AV) (h : AH) : Prop :=
  ∀ (H : Heap) (locs : List Loc) (lsA : Array Slot), va_P D vwCl (wsO cI cG as h) H → va_D A (wsO cI cG as h) → va_S A s.heap H locs → lv_has lsA nL (lvl as 0 ls) → W p l e R s m args below meth c H locs cells slots Q (F0 m pc lsA (st.map (cv as)))
theorem tgN_ok {pc : Nat} {off : Int} (h : tgB pc off = true) : (pc : Int) + off = ((tgN pc off : Nat) : Int) := by
  have h1 : 0 ≤ (pc : Int) + off := of_decide_eq_true h
  exact (Int.toNat_of_nonneg h1).symm
section Steps
variable {p : Program} {l : Launch} {e : Env} {R : Room} {s : State} {m : MethodId} {args : Array Value} {below : List Frame} {meth : Method} {c : Code} {D : va_G} {cI cG : ClassId} {A : Nat → Prop} {Q : State → Prop} {k nL cells slots pc : Nat} {as : List Nat} {ls st : List AV} {h : AH}
theorem g_iconst (C : Ctx p s m args meth c D cI cG k) {n : Int} (hd : decode (bM k) pc = .ok (.iconst n, 1)) (kk : Wg p l e R s m args below meth c D cI cG A Q nL as cells slots (pc + 1) ls (I n :: st) h) : Wg p l e R s m args below meth c D cI cG A Q nL as cells slots pc ls st h :=
  fun H locs lsA hP hD hS hl => lv_iconst (v := i32 n) C.1 C.2.1 hd rfl (kk H locs lsA hP hD hS hl)
theorem g_bipush (C : Ctx p s m args meth c D cI cG k) {n : Int} (hd : decode (bM k) pc = .ok (.bipush n, 2)) (hn : (Int8.ofInt n).toInt32 = i32 n) (kk : Wg p l e R s m args below meth c D cI cG A Q nL as cells slots (pc + 2) ls (I n :: st) h) : Wg p l e R s m args below meth c D cI cG A Q nL as cells slots pc ls st h :=
  fun H locs lsA hP hD hS hl => lv_bipush (v := i32 n) C.1 C.2.1 hd hn (kk H locs lsA hP hD hS hl)
theorem g_sipush (C : Ctx p s m args meth c D cI cG k) {n : Int} (hd : decode (bM k) pc = .ok (.sipush n, 3)) (hn : (Int16.ofInt n).toInt32 = i32 n) (kk : Wg p l e R s m args below meth c D cI cG A Q nL as cells slots (pc + 3) ls (I n :: st) h) : Wg p l e R s m args below meth c D cI cG A Q nL as cells slots pc ls st h :=
  fun H locs lsA hP hD hS hl => lv_sipush (v := i32 n) C.1 C.2.1 hd hn (kk H locs lsA hP hD hS hl)
theorem g_null (C : Ctx p s m args meth c D cI cG k) (hd : decode (bM k) pc = .ok (.aconst_null, 1)) (kk : Wg p l e R s m args below meth c D cI cG A Q nL as cells slots (pc + 1) ls (Nu :: st) h) : Wg p l e R s m args below meth c D cI cG A Q nL as cells slots pc ls st h :=
  fun H locs lsA hP hD hS hl => lv_null C.1 C.2.1 hd (kk H locs lsA hP hD hS hl)
theorem g_iload_n (C : Ctx p s m args meth c D cI cG k) {i : Fin 4} {z : Int} (hd : decode (bM k) pc = .ok (.iload_n i, 1)) (hi : ls[i.val]? = some (I z)) (kk : Wg p l e R s m args below meth c D cI cG A Q nL as cells slots (pc + 1) ls (I z :: st) h) : Wg p l e R s m args below meth c D cI cG A Q nL as cells slots pc ls st h :=
  fun H locs lsA hP hD hS hl => lv_iload_n (x := i32 z) C.1 C.2.1 hd rfl (lvl_at hl hi rfl) (kk H locs lsA hP hD hS hl)
theorem g_iload (C : Ctx p s m args meth c D cI cG k) {i : Nat} {z : Int} (hd : decode (bM k) pc = .ok (.iload i, 2)) (hi : ls[i]? = some (I z)) (kk : Wg p l e R s m args below meth c D cI cG A Q nL as cells slots (pc + 2) ls (I z :: st) h) : Wg p l e R s m args below meth c D cI cG A Q nL as cells slots pc ls st h :=
  fun H locs lsA hP hD hS hl => lv_iload (x := i32 z) C.1 C.2.1 hd (lvl_at hl hi rfl) (kk H locs lsA hP hD hS hl)
theorem g_aload_n (C : Ctx p s m args meth c D cI cG k) {i : Fin 4} {r : Option Nat} (hd : decode (bM k) pc = .ok (.aload_n i, 1)) (hi : ls[i.val]? = some (.inr (.inl r))) (kk : Wg p l e R s m args below meth c D cI cG A Q nL as cells slots (pc + 1) ls (.inr (.inl r) :: st) h) : Wg p l e R s m args below meth c D cI cG A Q nL as cells slots pc ls st h := by
  intro H locs lsA hP hD hS hl
  have h1 := lvl_at hl hi rfl
  have h2 := kk H locs lsA hP hD hS hl
  cases r with
  | none => exact lv_aload_nN C.1 C.2.1 hd rfl h1 h2
  | some x => exact lv_aload_n C.1 C.2.1 hd rfl h1 h2
theorem g_aload (C : Ctx p s m args meth c D cI cG k) {i : Nat} {r : Option Nat} (hd : decode (bM k) pc = .ok (.aload i, 2)) (hi : ls[i]? = some (.inr (.inl r))) (kk : Wg p l e R s m args below meth c D cI cG A Q nL as cells slots (pc + 2) ls (.inr (.inl r) :: st) h) : Wg p l e R s m args below meth c D cI cG A Q nL as cells slots pc ls st h := by
  intro H locs lsA hP hD hS hl
  have h1 := lvl_at hl hi rfl
  have h2 := kk H locs lsA hP hD hS hl
  cases r with
  | none => exact lv_aloadN C.1 C.2.1 hd h1 h2
  | some x => exact lv_aload C.1 C.2.1 hd h1 h2
theorem g_istore_n (C : Ctx p s m args meth c D cI cG k) {i : Fin 4} {z : Int} (hd : decode (bM k) pc = .ok (.istore_n i, 1)) (hi : i.val < nL) (kk : Wg p l e R s m args below meth c D cI cG A Q nL as cells slots (pc + 1) (ls.set i.val (I z)) st h) : Wg p l e R s m args below meth c D cI cG A Q nL as cells slots pc ls (I z :: st) h :=
  fun H locs lsA hP hD hS hl => lv_istore_n (x := i32 z) C.1 C.2.1 hd rfl hl hi rfl (fun ls' hl' => kk H locs ls' hP hD hS (lvl_set (v := I z) rfl hl'))
theorem g_istore (C : Ctx p s m args meth c D cI cG k) {i : Nat} {z : Int} (hd : decode (bM k) pc = .ok (.istore i, 2)) (hi : i < nL) (kk : Wg p l e R s m args below meth c D cI cG A Q nL as cells slots (pc + 2) (ls.set i (I z)) st h) : Wg p l e R s m args below meth c D cI cG A Q nL as cells slots pc ls (I z :: st) h :=
  fun H locs lsA hP hD hS hl => lv_istore (x := i32 z) C.1 C.2.1 hd hl hi rfl (fun ls' hl' => kk H locs ls' hP hD hS (lvl_set (v := I z) rfl hl'))
theorem g_astore_n (C : Ctx p s m args meth c D cI cG k) {i : Fin 4} {r : Option Nat} (hd : decode (bM k) pc = .ok (.astore_n i, 1)) (hi : i.val < nL) (kk : Wg p l e R s m args below meth c D cI cG A Q nL as cells slots (pc + 1) (ls.set i.val (.inr (.inl r))) st h) : Wg p l e R s m args below meth c D cI cG A Q nL as cells slots pc ls (.inr (.inl r) :: st) h := by
  intro H locs lsA hP hD hS hl
  cases r with
  | none => exact lv_astore_nN C.1 C.2.1 hd rfl hl hi rfl (fun ls' hl' => kk H locs ls' hP hD hS (lvl_set (v := Nu) rfl hl'))
  | some x => exact lv_astore_n C.1 C.2.1 hd rfl hl hi rfl (fun ls' hl' => kk H locs ls' hP hD hS (lvl_set (v := Rf x) rfl hl'))
theorem g_iinc (C : Ctx p s m args meth c D cI cG k) {i : Nat} {n z : Int} (hd : decode (bM k) pc = .ok (.iinc i n, 3)) (hi : ls[i]? = some (I z)) (hn : i < nL) (kk : Wg p l e R s m args below meth c D cI cG A Q nL as cells slots (pc + 3) (ls.set i (I (w2 (· + ·) z n))) st h) : Wg p l e R s m args below meth c D cI cG A Q nL as cells slots pc ls st h := by
  intro H locs lsA hP hD hS hl
  obtain ⟨q, hq⟩ := List.getElem?_of_mem (lvl_mem.mpr ⟨i, I z, hi, Or.inl rfl, by rw [Nat.zero_add]⟩ : (i, cv as (I z)) ∈ lvl as 0 ls)
  exact lv_iinc (k := q) (x := i32 z) (v := i32 (w2 (· + ·) z n)) C.1 C.2.1 hd hl hq (by rw [i32_w2]; rfl) hn rfl (fun ls' hl' => kk H locs ls' hP hD hS (lvl_set (v := I (w2 (· + ·) z n)) rfl hl'))
theorem Wg_i {f : Int32 → Int32 → Int32} {x y : Int} (kk : Wg p l e R s m args below meth c D cI cG A Q nL as cells slots pc ls (I (w2 f x y) :: st) h) {H : Heap} {locs : List Loc} {lsA : Array Slot} (hP : va_P D vwCl (wsO cI cG as h) H) (hD : va_D A (wsO cI cG as h)) (hS : va_S A s.heap H locs) (hl : lv_has lsA nL (lvl as 0 ls)) : W p l e R s m args below meth c H locs cells slots Q (F0 m pc lsA (.int (f (i32 x) (i32 y)) :: st.map (cv as))) := by
  have h2 := kk H locs lsA hP hD hS hl
  simp only [List.map_cons, cv, i32_w2] at h2
  exact h2
theorem g_iadd (C : Ctx p s m args meth c D cI cG k) {x y : Int} (hd : decode (bM k) pc = .ok (.iadd, 1)) (kk : Wg p l e R s m args below meth c D cI cG A Q nL as cells slots (pc + 1) ls (I (w2 (· + ·) x y) :: st) h) : Wg p l e R s m args below meth c D cI cG A Q nL as cells slots pc ls (I y :: I x :: st) h :=
  fun _ _ _ hP hD hS hl => lv_iadd C.1 C.2.1 hd (Wg_i kk hP hD hS hl)
theorem g_isub (C : Ctx p s m args meth c D cI cG k) {x y : Int} (hd : decode (bM k) pc = .ok (.isub, 1)) (kk : Wg p l e R s m args below meth c D cI cG A Q nL as cells slots (pc + 1) ls (I (w2 (· - ·) x y) :: st) h) : Wg p l e R s m args below meth c D cI cG A Q nL as cells slots pc ls (I y :: I x :: st) h :=
  fun _ _ _ hP hD hS hl => lv_isub C.1 C.2.1 hd (Wg_i kk hP hD hS hl)
theorem g_imul (C : Ctx p s m args meth c D cI cG k) {x y : Int} (hd : decode (bM k) pc = .ok (.imul, 1)) (kk : Wg p l e R s m args below meth c D cI cG A Q nL as cells slots (pc + 1) ls (I (w2 (· * ·) x y) :: st) h) : Wg p l e R s m args below meth c D cI cG A Q nL as cells slots pc ls (I y :: I x :: st) h :=
  fun _ _ _ hP hD hS hl => lv_imul C.1 C.2.1 hd (Wg_i kk hP hD hS hl)
theorem g_iand (C : Ctx p s m args meth c D cI cG k) {x y : Int} (hd : decode (bM k) pc = .ok (.iand, 1)) (kk : Wg p l e R s m args below meth c D cI cG A Q nL as cells slots (pc + 1) ls (I (w2 (· &&& ·) x y) :: st) h) : Wg p l e R s m args below meth c D cI cG A Q nL as cells slots pc ls (I y :: I x :: st) h :=
  fun _ _ _ hP hD hS hl => lv_iand C.1 C.2.1 hd (Wg_i kk hP hD hS hl)
theorem g_ior (C : Ctx p s m args meth c D cI cG k) {x y : Int} (hd : decode (bM k) pc = .ok (.ior, 1)) (kk : Wg p l e R s m args below meth c D cI cG A Q nL as cells slots (pc + 1) ls (I (w2 (· ||| ·) x y) :: st) h) : Wg p l e R s m args below meth c D cI cG A Q nL as cells slots pc ls (I y :: I x :: st) h :=
  fun _ _ _ hP hD hS hl => lv_ior C.1 C.2.1 hd (Wg_i kk hP hD hS hl)
theorem g_ishl (C : Ctx p s m args meth c D cI cG k) {x y : Int} (hd : decode (bM k) pc = .ok (.ishl, 1)) (kk : Wg p l e R s m args below meth c D cI cG A Q nL as cells slots (pc + 1) ls (I (w2 (fun x y => x <<< (y &&& 31)) x y) :: st) h) : Wg p l e R s m args below meth c D cI cG A Q nL as cells slots pc ls (I y :: I x :: st) h :=
  fun _ _ _ hP hD hS hl => lv_ishl C.1 C.2.1 hd (Wg_i kk hP hD hS hl)
theorem g_ishr (C : Ctx p s m args meth c D cI cG k) {x y : Int} (hd : decode (bM k) pc = .ok (.ishr, 1)) (kk : Wg p l e R s m args below meth c D cI cG A Q nL as cells slots (pc + 1) ls (I (w2 (fun x y => x >>> (y &&& 31)) x y) :: st) h) : Wg p l e R s m args below meth c D cI cG A Q nL as cells slots pc ls (I y :: I x :: st) h :=
  fun _ _ _ hP hD hS hl => lv_ishr C.1 C.2.1 hd (Wg_i kk hP hD hS hl)
theorem g_idiv (C : Ctx p s m args meth c D cI cG k) {x y : Int} (hd : decode (bM k) pc = .ok (.idiv, 1)) (hy : inr y) (h0 : y ≠ 0) (kk : Wg p l e R s m args below meth c D cI cG A Q nL as cells slots (pc + 1) ls (I (w2 (· / ·) x y) :: st) h) : Wg p l e R s m args below meth c D cI cG A Q nL as cells slots pc ls (I y :: I x :: st) h :=
  fun _ _ _ hP hD hS hl => lv_idiv C.1 C.2.1 hd (fun q => h0 ((i32_eq hy inr_0).mp (by rw [q, i32_0]))) (Wg_i kk hP hD hS hl)
theorem g_irem (C : Ctx p s m args meth c D cI cG k) {x y : Int} (hd : decode (bM k) pc = .ok (.irem, 1)) (hy : inr y) (h0 : y ≠ 0) (kk : Wg p l e R s m args below meth c D cI cG A Q nL as cells slots (pc + 1) ls (I (w2 (fun x y => x - x / y * y) x y) :: st) h) : Wg p l e R s m args below meth c D cI cG A Q nL as cells slots pc ls (I y :: I x :: st) h :=
  fun _ _ _ hP hD hS hl => lv_irem C.1 C.2.1 hd (fun q => h0 ((i32_eq hy inr_0).mp (by rw [q, i32_0]))) (Wg_i kk hP hD hS hl)
theorem g_ineg (C : Ctx p s m args meth c D cI cG k) {x : Int} (hd : decode (bM k) pc = .ok (.ineg, 1)) (kk : Wg p l e R s m args below meth c D cI cG A Q nL as cells slots (pc + 1) ls (I (w2 (fun x _ => -x) x 0) :: st) h) : Wg p l e R s m args below meth c D cI cG A Q nL as cells slots pc ls (I x :: st) h :=
  fun _ _ _ hP hD hS hl => lv_ineg C.1 C.2.1 hd (Wg_i kk hP hD hS hl)
theorem g_dup (C : Ctx p s m args meth c D cI cG k) {v : AV} (hd : decode (bM k) pc = .ok (.dup, 1)) (hv : isDb v = false) (kk : Wg p l e R s m args below meth c D cI cG A Q nL as cells slots (pc + 1) ls (v :: v :: st) h) : Wg p l e R s m args below meth c D cI cG A Q nL as cells slots pc ls (v :: st) h :=
  fun _ _ _ hP hD hS hl => lv_dup C.1 C.2.1 hd (cv_cat1 hv) (kk _ _ _ hP hD hS hl)
theorem g_pop (C : Ctx p s m args meth c D cI cG k) {v : AV} (hd : decode (bM k) pc = .ok (.pop, 1)) (hv : isDb v = false) (kk : Wg p l e R s m args below meth c D cI cG A Q nL as cells slots (pc + 1) ls st h) : Wg p l e R s m args below meth c D cI cG A Q nL as cells slots pc ls (v :: st) h :=
  fun _ _ _ hP hD hS hl => lv_pop C.1 C.2.1 hd (cv_cat1 hv) (kk _ _ _ hP hD hS hl)
theorem g_dup2 (C : Ctx p s m args meth c D cI cG k) {v u : AV} (hd : decode (bM k) pc = .ok (.dup2, 1)) (hv : isDb v = false) (hu : isDb u = false) (kk : Wg p l e R s m args below meth c D cI cG A Q nL as cells slots (pc + 1) ls (v :: u :: v :: u :: st) h) : Wg p l e R s m args below meth c D cI cG A Q nL as cells slots pc ls (v :: u :: st) h :=
  fun _ _ _ hP hD hS hl => lv_dup2_11 C.1 C.2.1 hd (cv_cat1 hv) (cv_cat1 hu) (kk _ _ _ hP hD hS hl)
theorem W_if {H : Heap} {locs : List Loc} {ls : Array Slot} {st : List Value} {t f : Nat} {b : Bool} (hk : W p l e R s m args below meth c H locs cells slots Q (F0 m (if b then t else f) ls st)) : (b = true → W p l e R s m args below meth c H locs cells slots Q (F0 m t ls st)) ∧ (b = false → W p l e R s m args below meth c H locs cells slots Q (F0 m f ls st)) := by
  constructor
  · intro q; subst q; exact hk
  · intro q; subst q; exact hk
theorem g_icmp (C : Ctx p s m args meth c D cI cG k) {x y : Int} {cn : ClassFile.Cond} {off : Int} (hd : decode (bM k) pc = .ok (.if_icmp cn off, 3)) (ht : tgB pc off = true) (hx : inr x) (hy : inr y) (kk : Wg p l e R s m args below meth c D cI cG A Q nL as cells slots (if cmpB cn x y then tgN pc off else pc + 3) ls st h) : Wg p l e R s m args below meth c D cI cG A Q nL as cells slots pc ls (I y :: I x :: st) h := by
  intro H locs lsA hP hD hS hl
  obtain ⟨k1, k2⟩ := W_if (kk H locs lsA hP hD hS hl)
  cases cn with
  | eq => exact lv_icmp_eq C.1 C.2.1 hd (tgN_ok ht) (fun q => k1 (decide_eq_true ((i32_eq hx hy).mp q))) (fun q => k2 (decide_eq_false (fun w => q ((i32_eq hx hy).mpr w))))
  | ne => exact lv_icmp_ne C.1 C.2.1 hd (tgN_ok ht) (fun q => k1 (decide_eq_true (fun w => q ((i32_eq hx hy).mpr w)))) (fun q => k2 (decide_eq_false (fun w => w ((i32_eq hx hy).mp q))))
  | lt => exact lv_icmp_lt C.1 C.2.1 hd (tgN_ok ht) (fun q => k1 (decide_eq_true ((i32_lt hx hy).mp q))) (fun q => k2 (decide_eq_false (fun w => q ((i32_lt hx hy).mpr w))))
  | ge => exact lv_icmp_ge C.1 C.2.1 hd (tgN_ok ht) (fun q => k1 (decide_eq_true ((i32_le hy hx).mp q))) (fun q => k2 (decide_eq_false (fun w => q ((i32_le hy hx).mpr w))))
  | gt => exact lv_icmp_gt C.1 C.2.1 hd (tgN_ok ht) (fun q => k1 (decide_eq_true ((i32_lt hy hx).mp q))) (fun q => k2 (decide_eq_false (fun w => q ((i32_lt hy hx).mpr w))))
  | le => exact lv_icmp_le C.1 C.2.1 hd (tgN_ok ht) (fun q => k1 (decide_eq_true ((i32_le hx hy).mp q))) (fun q => k2 (decide_eq_false (fun w => q ((i32_le hx hy).mpr w))))
theorem g_if (C : Ctx p s m args meth c D cI cG k) {x : Int} {cn : ClassFile.Cond} {off : Int} (hd : decode (bM k) pc = .ok (.ifCond cn off, 3)) (ht : tgB pc off = true) (hx : inr x) (kk : Wg p l e R s m args below meth c D cI cG A Q nL as cells slots (if cmpB cn x 0 then tgN pc off else pc + 3) ls st h) : Wg p l e R s m args below meth c D cI cG A Q nL as cells slots pc ls (I x :: st) h := by
  intro H locs lsA hP hD hS hl
  obtain ⟨k1, k2⟩ := W_if (kk H locs lsA hP hD hS hl)
  have e0 : (0 : Int32) = i32 0 := i32_0.symm
  have hy := inr_0
  cases cn with
  | eq => exact lv_if_eq C.1 C.2.1 hd (tgN_ok ht) (fun q => k1 (decide_eq_true ((i32_eq hx hy).mp (q.trans e0)))) (fun q => k2 (decide_eq_false (fun w => q (((i32_eq hx hy).mpr w).trans i32_0))))
  | ne => exact lv_if_ne C.1 C.2.1 hd (tgN_ok ht) (fun q => k1 (decide_eq_true (fun w => q (((i32_eq hx hy).mpr w).trans i32_0)))) (fun q => k2 (decide_eq_false (fun w => w ((i32_eq hx hy).mp (q.trans e0)))))
  | lt => exact lv_if_lt C.1 C.2.1 hd (tgN_ok ht) (fun q => k1 (decide_eq_true ((i32_lt hx hy).mp (by rw [i32_0]; exact q)))) (fun q => k2 (decide_eq_false (fun w => q (by have := (i32_lt hx hy).mpr w; rwa [i32_0] at this))))
  | ge => exact lv_if_ge C.1 C.2.1 hd (tgN_ok ht) (fun q => k1 (decide_eq_true ((i32_le hy hx).mp (by rw [i32_0]; exact q)))) (fun q => k2 (decide_eq_false (fun w => q (by have := (i32_le hy hx).mpr w; rwa [i32_0] at this))))
  | gt => exact lv_if_gt C.1 C.2.1 hd (tgN_ok ht) (fun q => k1 (decide_eq_true ((i32_lt hy hx).mp (by rw [i32_0]; exact q)))) (fun q => k2 (decide_eq_false (fun w => q (by have := (i32_lt hy hx).mpr w; rwa [i32_0] at this))))
  | le => exact lv_if_le C.1 C.2.1 hd (tgN_ok ht) (fun q => k1 (decide_eq_true ((i32_le hx hy).mp (by rw [i32_0]; exact q)))) (fun q => k2 (decide_eq_false (fun w => q (by have := (i32_le hx hy).mpr w; rwa [i32_0] at this))))
theorem g_ifnull (C : Ctx p s m args meth c D cI cG k) {r : Option Nat} {off : Int} (hd : decode (bM k) pc = .ok (.ifnull off, 3)) (ht : tgB pc off = true) (kk : Wg p l e R s m args below meth c D cI cG A Q nL as cells slots (match r with | none => tgN pc off | some _ => pc + 3) ls st h) : Wg p l e R s m args below meth c D cI cG A Q nL as cells slots pc ls (.inr (.inl r) :: st) h := by
  intro H locs lsA hP hD hS hl
  have h2 := kk H locs lsA hP hD hS hl
  cases r with
  | none => exact lv_ifnullN C.1 C.2.1 hd (tgN_ok ht) h2
  | some x => exact lv_ifnull C.1 C.2.1 hd h2
theorem g_ifnonnull (C : Ctx p s m args meth c D cI cG k) {r : Option Nat} {off : Int} (hd : decode (bM k) pc = .ok (.ifnonnull off, 3)) (ht : tgB pc off = true) (kk : Wg p l e R s m args below meth c D cI cG A Q nL as cells slots (match r with | none => pc + 3 | some _ => tgN pc off) ls st h) : Wg p l e R s m args below meth c D cI cG A Q nL as cells slots pc ls (.inr (.inl r) :: st) h := by
  intro H locs lsA hP hD hS hl
  have h2 := kk H locs lsA hP hD hS hl
  cases r with
  | none => exact lv_ifnonnullN C.1 C.2.1 hd h2
  | some x => exact lv_ifnonnull C.1 C.2.1 hd (tgN_ok ht) h2
theorem g_goto (C : Ctx p s m args meth c D cI cG k) {off : Int} (hd : decode (bM k) pc = .ok (.goto off, 3)) (ht : tgB pc off = true) (kk : Wg p l e R s m args below meth c D cI cG A Q nL as cells slots (tgN pc off) ls st h) : Wg p l e R s m args below meth c D cI cG A Q nL as cells slots pc ls st h :=
  fun _ _ _ hP hD hS hl => lv_goto C.1 C.2.1 hd (tgN_ok ht) (kk _ _ _ hP hD hS hl)
theorem g_tabOut (C : Ctx p s m args meth c D cI cG k) {d lo hi : Int} {offs : Array Int} {len : Nat} {x : Int} (hd : decode (bM k) pc = .ok (.tableswitch d lo hi offs, len)) (hx : inr x) (hq : x < lo ∨ hi < x) (ht : tgB pc d = true) (kk : Wg p l e R s m args below meth c D cI cG A Q nL as cells slots (tgN pc d) ls st h) : Wg p l e R s m args below meth c D cI cG A Q nL as cells slots pc ls (I x :: st) h :=
  fun _ _ _ hP hD hS hl => lv_tableOut (x := i32 x) C.1 C.2.1 hd (by rw [i32_toInt hx]; exact hq) (tgN_ok ht) (kk _ _ _ hP hD hS hl)
theorem g_tabIn (C : Ctx p s m args meth c D cI cG k) {d lo hi off : Int} {offs : Array Int} {len : Nat} {x : Int} (hd : decode (bM k) pc = .ok (.tableswitch d lo hi offs, len)) (hx : inr x) (hq : ¬ (x < lo ∨ hi < x)) (ho : offs[(x - lo).toNat]? = some off) (ht : tgB pc off = true) (kk : Wg p l e R s m args below meth c D cI cG A Q nL as cells slots (tgN pc off) ls st h) : Wg p l e R s m args below meth c D cI cG A Q nL as cells slots pc ls (I x :: st) h :=
  fun _ _ _ hP hD hS hl => lv_tableIn (x := i32 x) C.1 C.2.1 hd (by rw [i32_toInt hx]; exact fun w => hq (Or.inl w)) (by rw [i32_toInt hx]; exact fun w => hq (Or.inr w)) (by rw [i32_toInt hx]; exact ho) (tgN_ok ht) (kk _ _ _ hP hD hS hl)
theorem g_ldc (C : Ctx p s m args meth c D cI cG k) {idx a b pl : Nat} (hd : decode (bM k) pc = .ok (.ldc idx, 2)) (hc : chkO (mOs.getD k 0) (pc, .ldc idx, 2, a, b, pl) = true) (kk : Wg p l e R s m args below meth c D cI cG A Q nL as cells slots (pc + 2) ls (I (a : Int) :: st) h) : Wg p l e R s m args below meth c D cI cG A Q nL as cells slots pc ls st h :=
  fun H locs lsA hP hD hS hl => lv_ldc (v := i32 (a : Int)) C.1 C.2.1 C.2.2.2.1 (C.2.2.2.2.1 _ (lwG_in (isW_mem hc) rfl)) hd (kk H locs lsA hP hD hS hl)
theorem g_ldc2 (C : Ctx p s m args meth c D cI cG k) {idx a b pl : Nat} (hd : decode (bM k) pc = .ok (.ldc2_w idx, 3)) (hc : chkO (mOs.getD k 0) (pc, .ldc2_w idx, 3, a, b, pl) = true) (kk : Wg p l e R s m args below meth c D cI cG A Q nL as cells slots (pc + 3) ls (Lg (Int64.ofNat a) :: st) h) : Wg p l e R s m args below meth c D cI cG A Q nL as cells slots pc ls st h :=
  fun H locs lsA hP hD hS hl => lv_ldc2 (v := Int64.ofNat a) C.1 C.2.1 C.2.2.2.1 (C.2.2.2.2.1 _ (lwG_in (isW_mem hc) rfl)) hd (kk H locs lsA hP hD hS hl)
theorem g_lload_n (C : Ctx p s m args meth c D cI cG k) {i : Fin 4} {x : Int64} (hd : decode (bM k) pc = .ok (.lload_n i, 1)) (hi : ls[i.val]? = some (Lg x)) (hi2 : ls[i.val + 1]? = some (Db 0)) (kk : Wg p l e R s m args below meth c D cI cG A Q nL as cells slots (pc + 1) ls (Lg x :: st) h) : Wg p l e R s m args below meth c D cI cG A Q nL as cells slots pc ls st h :=
  fun H locs lsA hP hD hS hl => lv_lload_n C.1 C.2.1 hd rfl (lvl_atL hl hi hi2) (kk H locs lsA hP hD hS hl)
theorem g_lload (C : Ctx p s m args meth c D cI cG k) {i : Nat} {x : Int64} (hd : decode (bM k) pc = .ok (.lload i, 2)) (hi : ls[i]? = some (Lg x)) (hi2 : ls[i + 1]? = some (Db 0)) (kk : Wg p l e R s m args below meth c D cI cG A Q nL as cells slots (pc + 2) ls (Lg x :: st) h) : Wg p l e R s m args below meth c D cI cG A Q nL as cells slots pc ls st h :=
  fun H locs lsA hP hD hS hl => lv_lload C.1 C.2.1 hd (lvl_atL hl hi hi2) (kk H locs lsA hP hD hS hl)
theorem g_lstore_n (C : Ctx p s m args meth c D cI cG k) {i : Fin 4} {x : Int64} (hd : decode (bM k) pc = .ok (.lstore_n i, 1)) (hi : i.val + 1 < nL) (kk : Wg p l e R s m args below meth c D cI cG A Q nL as cells slots (pc + 1) ((ls.set i.val (Lg x)).set (i.val + 1) (Db 0)) st h) : Wg p l e R s m args below meth c D cI cG A Q nL as cells slots pc ls (Lg x :: st) h :=
  fun H locs lsA hP hD hS hl => lv_lstore_n C.1 C.2.1 hd rfl hl hi rfl (fun ls' hl' => kk H locs ls' hP hD hS (lvl_setL hl'))
theorem g_lstore (C : Ctx p s m args meth c D cI cG k) {i : Nat} {x : Int64} (hd : decode (bM k) pc = .ok (.lstore i, 2)) (hi : i + 1 < nL) (kk : Wg p l e R s m args below meth c D cI cG A Q nL as cells slots (pc + 2) ((ls.set i (Lg x)).set (i + 1) (Db 0)) st h) : Wg p l e R s m args below meth c D cI cG A Q nL as cells slots pc ls (Lg x :: st) h :=
  fun H locs lsA hP hD hS hl => lv_lstore C.1 C.2.1 hd hl hi rfl (fun ls' hl' => kk H locs ls' hP hD hS (lvl_setL hl'))
theorem g_i2l (C : Ctx p s m args meth c D cI cG k) {x : Int} (hd : decode (bM k) pc = .ok (.i2l, 1)) (kk : Wg p l e R s m args below meth c D cI cG A Q nL as cells slots (pc + 1) ls (Lg (i32 x).toInt64 :: st) h) : Wg p l e R s m args below meth c D cI cG A Q nL as cells slots pc ls (I x :: st) h :=
  fun H locs lsA hP hD hS hl => lv_i2l C.1 C.2.1 hd rfl (kk H locs lsA hP hD hS hl)
theorem g_ladd (C : Ctx p s m args meth c D cI cG k) {x y : Int64} (hd : decode (bM k) pc = .ok (.ladd, 1)) (kk : Wg p l e R s m args below meth c D cI cG A Q nL as cells slots (pc + 1) ls (Lg (x + y) :: st) h) : Wg p l e R s m args below meth c D cI cG A Q nL as cells slots pc ls (Lg y :: Lg x :: st) h :=
  fun H locs lsA hP hD hS hl => lv_ladd C.1 C.2.1 hd (kk H locs lsA hP hD hS hl)
theorem g_lmul (C : Ctx p s m args meth c D cI cG k) {x y : Int64} (hd : decode (bM k) pc = .ok (.lmul, 1)) (kk : Wg p l e R s m args below meth c D cI cG A Q nL as cells slots (pc + 1) ls (Lg (x * y) :: st) h) : Wg p l e R s m args below meth c D cI cG A Q nL as cells slots pc ls (Lg y :: Lg x :: st) h :=
  fun H locs lsA hP hD hS hl => lv_lmul C.1 C.2.1 hd (kk H locs lsA hP hD hS hl)
theorem g_lcmp (C : Ctx p s m args meth c D cI cG k) {x y : Int64} (hd : decode (bM k) pc = .ok (.lcmp, 1)) (kk : Wg p l e R s m args below meth c D cI cG A Q nL as cells slots (pc + 1) ls (I (lg_cmp x y).toInt :: st) h) : Wg p l e R s m args below meth c D cI cG A Q nL as cells slots pc ls (Lg y :: Lg x :: st) h := by
  intro H locs lsA hP hD hS hl
  have h2 := kk H locs lsA hP hD hS hl
  simp only [List.map_cons, cv, i32_of] at h2
  exact W.lcmp C.1 C.2.1 hd h2
end Steps
end
section
/-! ===== the steps that look at the heap ===== -/
theorem vw_lt {a : Nat} {q : vw_C} (h : vwCl[a]? = some q) : a < 8 := (List.getElem?_eq_some_iff.mp h).1
theorem chkG_spec {own idx a b p : Nat} (h : chkG own idx a b p = true) : ∃ (Cn : String) (T : u_T) (N : Nat), vwCl[a]? = some (Cn, T, N) ∧ b < N ∧ (Cond.fieldLink (oN own) idx (T b).1 (T b).2.1 (T b).2.2.1 ∈ lwG ∨ Cond.fieldLinkNest (oN own) idx (T b).1 (T b).2.1 (T b).2.2.1 "TankDivers" ∈ lwN) := by
  unfold chkG at h
  split at h
  · rename_i Cn T N hq
    simp only [Bool.and_eq_true, Bool.or_eq_true, decide_eq_true_eq] at h
    refine ⟨Cn, T, N, hq, h.1, ?_⟩
    rcases h.2 with w | w
    · exact Or.inl (lwG_in (isW_mem w) rfl)
    · exact Or.inr (lwN_in (isW_mem w) rfl)
  · cases h
theorem chkF_spec {own idx a b p : Nat} (h : chkF own idx a b p = true) : ∃ (Cn : String) (T : u_T) (N : Nat), vwCl[a]? = some (Cn, T, N) ∧ b < N ∧ (Cond.fieldLink (oN own) idx (T b).1 (T b).2.1 (T b).2.2.1 ∈ lwG ∨ Cond.fieldLinkNest (oN own) idx (T b).1 (T b).2.1 (T b).2.2.1 "TankDivers" ∈ lwN) ∧ ((T b).2.2.2 = true → (T b).1 = oN own ∧ Cond.fieldLink (oN own) idx (T b).1 (T b).2.1 (T b).2.2.1 ∈ lwG) := by
  unfold chkF at h
  split at h
  · rename_i Cn T N hq
    simp only [Bool.and_eq_true, Bool.or_eq_true, decide_eq_true_eq, Bool.not_eq_true'] at h
    refine ⟨Cn, T, N, hq, h.1.1, ?_, ?_⟩
    · rcases h.1.2 with w | w
      · exact Or.inl (lwG_in (isW_mem w) rfl)
      · exact Or.inr (lwN_in (isW_mem w) rfl)
    · intro hf
      rcases h.2 with w | w
      · rw [hf] at w; cases w
      · exact ⟨w.1, lwG_in (isW_mem w.2) rfl⟩
  · cases h
theorem okC_spec {a : Nat} {Cn : String} {T : u_T} {N : Nat} (h : vwCl[a]? = some (Cn, T, N)) : (∀ w ∈ u_ws Cn T N, w ∈ lwG) ∧ Cond.instantiable Cn N ∈ lwG ∧ Cond.initialized Cn ∈ lwG := by
  have h1 := okC_all a (vw_lt h)
  unfold okC at h1
  rw [h] at h1
  simp only [Bool.and_eq_true, List.all_eq_true, decide_eq_true_eq] at h1
  exact ⟨fun w hw => lwG_in (h1.1.1 w hw).1 (h1.1.1 w hw).2, lwG_in h1.1.2 rfl, lwG_in h1.2 rfl⟩
def smT (ty : FieldType) : Bool := match ty with | .int => true | .boolean => true | .object _ => true | .array _ => true | _ => false
def okTB (ci : Nat) : Bool := match vwCl[ci]? with
  | some (_, T, N) => decide (∀ k, k < N → parseFieldDescriptor (T k).2.2.1 = some (tyC ci k)) && decide (∀ a, a < N → ∀ b, b < N → a ≠ b → (T a).2.1 ≠ (T b).2.1) && decide (∀ k, k < N → smT (tyC ci k) = true)
  | none => false
set_option maxRecDepth 100000 in
theorem okTB_all : ∀ ci, ci < 8 → okTB ci = true := by decide +kernel
theorem okT_spec {a : Nat} {Cn : String} {T : u_T} {N : Nat} (h : vwCl[a]? = some (Cn, T, N)) : (∀ k, k < N → parseFieldDescriptor (T k).2.2.1 = some (tyC a k)) ∧ (∀ i, i < N → ∀ j, j < N → i ≠ j → (T i).2.1 ≠ (T j).2.1) ∧ ∀ k, k < N → smT (tyC a k) = true := by
  have h1 := okTB_all a (vw_lt h)
  unfold okTB at h1
  rw [h] at h1
  simp only [Bool.and_eq_true, decide_eq_true_eq] at h1
  exact ⟨h1.1.1, h1.1.2, h1.2⟩
theorem fit_spec {as : List Nat} {ty : FieldType} {v : AV} (h : fitV ty v = true) : narrow ty (cv as v) = cv as v ∧ fits ty (cv as v) = true := by
  unfold fitV at h
  split at h
  · exact ⟨rfl, rfl⟩
  · rename_i z
    simp only [Bool.or_eq_true, decide_eq_true_eq] at h
    rcases h with h | h
    · subst h; exact ⟨rfl, rfl⟩
    · subst h; exact ⟨rfl, rfl⟩
  · rename_i r
    cases r <;> exact ⟨rfl, rfl⟩
  · rename_i r
    cases r <;> exact ⟨rfl, rfl⟩
  · cases h
theorem df_spec {as : List Nat} {ty : FieldType} (h : smT ty = true) : defaultValue ty = cv as (dfV ty) := by
  cases ty <;> first | rfl | cases h
theorem cellE_obj {cI cG : ClassId} {as : List Nat} {a : Nat} {fs : List AV} (h : a < 8) : cellE cI cG as (a, fs) = .inr (a, fs.map (cv as)) := by
  unfold cellE
  rw [if_neg (by simp only []; omega), if_neg (by simp only []; omega)]
theorem cellE_int {cI cG : ClassId} {as : List Nat} {fs : List AV} : cellE cI cG as (100, fs) = .inl (cI, fs.length, .inl (fI fs)) := rfl
theorem cellE_ref {cI cG : ClassId} {as : List Nat} {fs : List AV} : cellE cI cG as (101, fs) = .inl (cG, fs.length, .inr (.inr (.inr (.inr (fR as fs))))) := rfl
theorem fI_set {fs : List AV} {n : Nat} {x : Int} (h : n < fs.length) : upd (fI fs) n (i32 x) = fI (fs.set n (I x)) := by
  funext j
  unfold upd fI
  by_cases hj : j = n
  · subst hj; simp [h]
  · rw [if_neg hj, List.getElem?_set_ne (Ne.symm hj)]
theorem fR_set {as : List Nat} {fs : List AV} {n v : Nat} (h : n < fs.length) : va_up (fR as fs) n (some (adr as v)) = fR as (fs.set n (Rf v)) := by
  funext j
  unfold va_up fR
  by_cases hj : j = n
  · subst hj; simp [h]
  · rw [if_neg hj, List.getElem?_set_ne (Ne.symm hj)]
theorem vp_in_i32 {z : Int} {n : Nat} (hz : inr z) (h0 : 0 ≤ z) (hn : z.toNat < n) : vp_in (i32 z) n := by
  unfold vp_in
  rw [i32_clamp hz]
  rintro (h | h)
  · have := (i32_lt hz inr_0).mp (by rw [i32_0]; exact h)
    omega
  · omega
section StepsH
variable {p : Program} {l : Launch} {e : Env} {R : Room} {s : State} {m : MethodId} {args : Array Value} {below : List Frame} {meth : Method} {c : Code} {D : va_G} {cI cG : ClassId} {A : Nat → Prop} {Q : State → Prop} {k nL cells slots pc : Nat} {as : List Nat} {ls st : List AV} {h : AH}
theorem g_getf (C : Ctx p s m args meth c D cI cG k) {idx a b pl i : Nat} {fs : List AV} {v : AV} (hd : decode (bM k) pc = .ok (.getfield idx, 3)) (hl : as.length = h.length) (hc : chkG (mOs.getD k 0) idx a b pl = true) (hi : h[i]? = some (a, fs)) (hv : fs[b]? = some v) (kk : Wg p l e R s m args below meth c D cI cG A Q nL as cells slots (pc + 3) ls (v :: st) h) : Wg p l e R s m args below meth c D cI cG A Q nL as cells slots pc ls (Rf i :: st) h := by
  intro H locs lsA hP hD hS hlv
  obtain ⟨hx, hb, hml, hown, hts, hK, hAO, hlk, hrt, hin, hN⟩ := C
  obtain ⟨Cn, T, N, hq, hbN, hw⟩ := chkG_spec hc
  have he := wsO_get (cI := cI) (cG := cG) hl hi
  rw [cellE_obj (vw_lt hq)] at he
  rcases hw with hw | hw
  · exact va_get hx hb hts (okC_spec hq).1 hown hK hP i he hq b hbN (hts _ hw) (fun _ h9 => h9) (v := cv as v) (by rw [List.getElem?_map, hv]; rfl) hd (kk H locs lsA hP hD hS hlv)
  · exact va_getN hx hb hts (okC_spec hq).1 hown hK hP i he hq b hbN (va_Nw.use rfl (hN _ hw)) (fun _ h9 => h9) (v := cv as v) (by rw [List.getElem?_map, hv]; rfl) hd (kk H locs lsA hP hD hS hlv)
theorem finC_eq {a b : Nat} {Cn : String} {T : u_T} {N : Nat} (hq : vwCl[a]? = some (Cn, T, N)) : finC a b = (T b).2.2.2 := by
  unfold finC
  rw [hq]
theorem g_putf (C : Ctx p s m args meth c D cI cG k) {idx a b pl i : Nat} {fs : List AV} {v : AV} (hd : decode (bM k) pc = .ok (.putfield idx, 3)) (hl : as.length = h.length) (hc : chkF (mOs.getD k 0) idx a b pl = true) (hi : h[i]? = some (a, fs)) (hb9 : b < fs.length) (hf : fitV (tyC a b) v = true) (hfin : finC a b = true → isI k = true) (kk : Wg p l e R s m args below meth c D cI cG A Q nL as cells slots (pc + 3) ls st (h.set i (a, fs.set b v))) : Wg p l e R s m args below meth c D cI cG A Q nL as cells slots pc ls (v :: Rf i :: st) h := by
  intro H locs lsA hP hD hS hlv
  obtain ⟨hx, hb, hml, hown, hts, hK, hAO, hlk, hrt, hin, hN⟩ := C
  obtain ⟨Cn, T, N, hq, hbN, hw, hfw⟩ := chkF_spec hc
  obtain ⟨t1, t2, t3⟩ := okT_spec hq
  have he := wsO_get (cI := cI) (cG := cG) hl hi
  rw [cellE_obj (vw_lt hq)] at he
  have hset : (wsO cI cG as h).set i (adr as i, .inr (a, (fs.map (cv as)).set b (cv as v))) = wsO cI cG as (h.set i (a, fs.set b v)) := by
    rw [← wsO_set hl, cellE_obj (vw_lt hq), List.map_set]
  have kk' : ∀ (H1 : Heap) (locs1 : List Loc), va_P D vwCl ((wsO cI cG as h).set i (adr as i, .inr (a, (fs.map (cv as)).set b (cv as v)))) H1 → va_D A ((wsO cI cG as h).set i (adr as i, .inr (a, (fs.map (cv as)).set b (cv as v)))) → va_S A s.heap H1 locs1 → W p l e R s m args below meth c H1 locs1 cells slots Q (F0 m (pc + 3) lsA (st.map (cv as))) := by
    rw [hset]
    exact fun H1 locs1 hP hD hS => kk H1 locs1 lsA hP hD hS hlv
  have hfit := fit_spec (as := as) hf
  have hbl : b < (fs.map (cv as)).length := by rw [List.length_map]; exact hb9
  cases hfn : (T b).2.2.2 with
  | false =>
    rcases hw with hw | hw
    · exact va_put hx hb hts (okC_spec hq).1 (tyC a) t1 t2 hown hK hP hD hS i he hq b hbN (hts _ hw) (fun _ h9 => h9) hfn (t1 b hbN) hfit.1 hfit.2 hbl hd kk'
    · exact va_putN hx hb hts (okC_spec hq).1 (tyC a) t1 t2 hown hK hP hD hS i he hq b hbN (va_Nw.use rfl (hN _ hw)) (fun _ h9 => h9) hfn (t1 b hbN) hfit.1 hfit.2 hbl hd kk'
  | true =>
    obtain ⟨h1, h2⟩ := hfw hfn
    exact va_putF hx hb hts (okC_spec hq).1 (tyC a) t1 t2 hown hK hP hD hS i he hq b hbN (hts _ h2) (fun _ h9 => h9) hfn (hin (hfin (by rw [finC_eq hq]; exact hfn))) h1 (t1 b hbN) hfit.1 hfit.2 hbl hd kk'
theorem g_iald (C : Ctx p s m args meth c D cI cG k) {i : Nat} {z x : Int} {fs : List AV} (hd : decode (bM k) pc = .ok (.iaload, 1)) (hl : as.length = h.length) (hz : inr z) (h0 : 0 ≤ z) (hi : h[i]? = some (100, fs)) (hv : fs[z.toNat]? = some (I x)) (kk : Wg p l e R s m args below meth c D cI cG A Q nL as cells slots (pc + 1) ls (I x :: st) h) : Wg p l e R s m args below meth c D cI cG A Q nL as cells slots pc ls (I z :: Rf i :: st) h := by
  intro H locs lsA hP hD hS hlv
  obtain ⟨hx, hb, hml, hown, hts, hK, hAO, hlk, hrt, hin, hN⟩ := C
  have he := wsO_get (cI := cI) (cG := cG) hl hi
  rw [cellE_int] at he
  have hlt : z.toNat < fs.length := (List.getElem?_eq_some_iff.mp hv).1
  refine va_iald hx hb hK hP i 0 he rfl (vp_in_i32 hz h0 hlt) hd ?_
  have h2 := kk H locs lsA hP hD hS hlv
  have h3 : fI fs (i32 z).toNatClampNeg = i32 x := by rw [i32_clamp hz]; unfold fI; rw [hv]
  rw [h3]
  exact h2
theorem g_iast (C : Ctx p s m args meth c D cI cG k) {i : Nat} {z x : Int} {fs : List AV} (hd : decode (bM k) pc = .ok (.iastore, 1)) (hl : as.length = h.length) (hz : inr z) (h0 : 0 ≤ z) (hi : h[i]? = some (100, fs)) (hlt : z.toNat < fs.length) (kk : Wg p l e R s m args below meth c D cI cG A Q nL as cells slots (pc + 1) ls st (h.set i (100, fs.set z.toNat (I x)))) : Wg p l e R s m args below meth c D cI cG A Q nL as cells slots pc ls (I x :: I z :: Rf i :: st) h := by
  intro H locs lsA hP hD hS hlv
  obtain ⟨hx, hb, hml, hown, hts, hK, hAO, hlk, hrt, hin, hN⟩ := C
  have he := wsO_get (cI := cI) (cG := cG) hl hi
  rw [cellE_int] at he
  refine va_iast hx hb hK hP hD hS i 0 he rfl (vp_in_i32 hz h0 hlt) hd ?_
  have hset : (wsO cI cG as h).set i (adr as i, .inl (cI, fs.length, .inl (upd (fI fs) (i32 z).toNatClampNeg (i32 x)))) = wsO cI cG as (h.set i (100, fs.set z.toNat (I x))) := by
    rw [← wsO_set hl, cellE_int, i32_clamp hz, fI_set hlt, List.length_set]
  rw [hset]
  exact fun H1 locs1 hP hD hS => kk H1 locs1 lsA hP hD hS hlv
theorem cv_rf {as : List Nat} {r : Option Nat} : cv as (.inr (.inl r)) = va_rf (r.map (adr as)) := by cases r <;> rfl
theorem g_aald (C : Ctx p s m args meth c D cI cG k) {i : Nat} {z : Int} {r : Option Nat} {fs : List AV} (hd : decode (bM k) pc = .ok (.aaload, 1)) (hl : as.length = h.length) (hz : inr z) (h0 : 0 ≤ z) (hi : h[i]? = some (101, fs)) (hv : fs[z.toNat]? = some (.inr (.inl r))) (kk : Wg p l e R s m args below meth c D cI cG A Q nL as cells slots (pc + 1) ls (.inr (.inl r) :: st) h) : Wg p l e R s m args below meth c D cI cG A Q nL as cells slots pc ls (I z :: Rf i :: st) h := by
  intro H locs lsA hP hD hS hlv
  obtain ⟨hx, hb, hml, hown, hts, hK, hAO, hlk, hrt, hin, hN⟩ := C
  have he := wsO_get (cI := cI) (cG := cG) hl hi
  rw [cellE_ref] at he
  have hlt : z.toNat < fs.length := (List.getElem?_eq_some_iff.mp hv).1
  refine va_aldq (C := RX1) hx hb hK hP i 1 he rfl (vp_in_i32 hz h0 hlt) hd ?_
  have h2 := kk H locs lsA hP hD hS hlv
  have h3 : fR as fs (i32 z).toNatClampNeg = r.map (adr as) := by
    rw [i32_clamp hz]; unfold fR; rw [hv]
    cases r <;> rfl
  rw [h3, ← cv_rf]
  exact h2
theorem g_aast (C : Ctx p s m args meth c D cI cG k) {i v : Nat} {z : Int} {fs vs : List AV} (hd : decode (bM k) pc = .ok (.aastore, 1)) (hl : as.length = h.length) (hz : inr z) (h0 : 0 ≤ z) (hi : h[i]? = some (101, fs)) (hv : h[v]? = some (1, vs)) (hlt : z.toNat < fs.length) (kk : Wg p l e R s m args below meth c D cI cG A Q nL as cells slots (pc + 1) ls st (h.set i (101, fs.set z.toNat (Rf v)))) : Wg p l e R s m args below meth c D cI cG A Q nL as cells slots pc ls (Rf v :: I z :: Rf i :: st) h := by
  intro H locs lsA hP hD hS hlv
  obtain ⟨hx, hb, hml, hown, hts, hK, hAO, hlk, hrt, hin, hN⟩ := C
  have he := wsO_get (cI := cI) (cG := cG) hl hi
  rw [cellE_ref] at he
  have he2 := wsO_get (cI := cI) (cG := cG) hl hv
  rw [cellE_obj (by decide)] at he2
  refine va_astq (r := (RX1, TX1, 10)) hx hb hK hP hD hS i 1 v 1 he rfl he2 rfl (vp_in_i32 hz h0 hlt) hd ?_
  have hset : (wsO cI cG as h).set i (adr as i, .inl (cG, fs.length, .inr (.inr (.inr (.inr (va_up (fR as fs) (i32 z).toNatClampNeg (some (adr as v)))))))) = wsO cI cG as (h.set i (101, fs.set z.toNat (Rf v))) := by
    rw [← wsO_set hl, cellE_ref, i32_clamp hz, fR_set hlt, List.length_set]
  rw [hset]
  exact fun H1 locs1 hP hD hS => kk H1 locs1 lsA hP hD hS hlv
theorem g_alen (C : Ctx p s m args meth c D cI cG k) {i a : Nat} {fs : List AV} (hd : decode (bM k) pc = .ok (.arraylength, 1)) (hl : as.length = h.length) (ha : a = 100 ∨ a = 101) (hi : h[i]? = some (a, fs)) (kk : Wg p l e R s m args below meth c D cI cG A Q nL as cells slots (pc + 1) ls (I (fs.length : Int) :: st) h) : Wg p l e R s m args below meth c D cI cG A Q nL as cells slots pc ls (Rf i :: st) h := by
  intro H locs lsA hP hD hS hlv
  obtain ⟨hx, hb, hml, hown, hts, hK, hAO, hlk, hrt, hin, hN⟩ := C
  have he := wsO_get (cI := cI) (cG := cG) hl hi
  have h2 := kk H locs lsA hP hD hS hlv
  have h3 : Int32.ofNat fs.length = i32 (fs.length : Int) := Int32.ofInt_eq_ofNat.symm
  rcases ha with rfl | rfl
  · rw [cellE_int] at he
    exact va_alen (ty := .int) hx hb hK hP i 0 he rfl h3 hd h2
  · rw [cellE_ref] at he
    exact va_alen (ty := .object RX1) hx hb hK hP i 1 he rfl h3 hd h2
end StepsH
end
section
/-! ===== making objects, calls, returns ===== -/
def dflO (a : Nat) : List AV := (List.range (nC a)).map fun k => dfV (tyC a k)
theorem dfV_wv (n : Nat) (ty : FieldType) : wv n (dfV ty) := by
  unfold dfV
  split
  · trivial
  · trivial
  · exact inr_0
theorem dflO_wl (n a : Nat) : wl n (dflO a) := by
  intro v hv
  obtain ⟨k, -, rfl⟩ := List.mem_map.mp hv
  exact dfV_wv n _
theorem nC_eq {a : Nat} {Cn : String} {T : u_T} {N : Nat} (h : vwCl[a]? = some (Cn, T, N)) : nC a = N := by
  unfold nC
  rw [h]
theorem adr_last {as : List Nat} {q n : Nat} (h : as.length = n) : adr (as ++ [q]) n = q := by
  subst h
  simp [adr, List.getD_eq_getElem?_getD]
theorem okL_spec {k : Nat} (hk : k < 117) {e : AE} (he : e ∈ codes.getD k []) : chkL e = true ∧ chkO (mOs.getD k 0) e = true := by
  have h := List.all_eq_true.mp (okL_all k hk) e he
  simpa only [Bool.and_eq_true] using h
theorem okD_spec {k : Nat} (hk : k < 117) {e : AE} (he : e ∈ codes.getD k []) : decode (bM k) e.1 = .ok (e.2.1, e.2.2.1) :=
  of_decide_eq_true (List.all_eq_true.mp (okD_all k hk) e he)
theorem cd_mem {k pc : Nat} {e : AE} (h : cd k pc = some e) : e ∈ codes.getD k [] ∧ e.1 = pc := by
  refine ⟨List.mem_of_find?_eq_some h, ?_⟩
  have := List.find?_some h
  simpa using this
theorem okM_spec {k : Nat} (hk : k < 117) : Cond.code (yM k) (bM k) (maxl k) (rM k) ∈ lwG ∧ (if stM k then Cond.static (yM k) ∈ lwG else Cond.instanceMethod (yM k) ∈ lwG) ∧ (stM k = false → isI k = false → Cond.selects (yM k).cls (yM k) (yM k) ∈ lwG) ∧ Cond.initialized (yM k).cls ∈ lwG ∧ plainName (yM k).cls = true ∧ ((yM k).cls ≠ "java/lang/invoke/MethodHandle" ∧ (yM k).cls ≠ "java/lang/invoke/VarHandle") ∧ (parseMethodDescriptor (yM k).desc).map (fun d => d.parameters.length) = some (nar k - (if stM k then 0 else 1)) ∧ oN (mOs.getD k 0) = (yM k).cls := by
  have h := okM_all k hk
  unfold okM at h
  simp only [Bool.and_eq_true, decide_eq_true_eq] at h
  obtain ⟨⟨⟨⟨⟨⟨⟨⟨h1, h2⟩, h3⟩, h4⟩, h5⟩, h6⟩, h7⟩, h8⟩, h9⟩ := h
  refine ⟨lwG_in (isW_mem h1) rfl, ?_, ?_, lwG_in (isW_mem h4) rfl, h5, ⟨h6, h7⟩, h8, h9⟩
  · by_cases q : stM k = true
    · rw [if_pos q] at h2 ⊢
      exact lwG_in (isW_mem h2) rfl
    · rw [if_neg q] at h2 ⊢
      exact lwG_in (isW_mem h2) rfl
  · intro q1 q2
    rw [q1, q2] at h3
    simp only [Bool.or_self, Bool.false_or] at h3
    exact lwG_in (isW_mem h3) rfl
/-- a world behind a call -/
def Qcn (D : va_G) (cI cG : ClassId) (as : List Nat) (h' : AH) (r : Option AV) (A : Nat → Prop) : Array Value → State → Outcome → State → Prop := fun _ st oc t =>
  (∃ as' : List Nat, as <+: as' ∧ oc = .returned (r.map (cv as')) ∧ as'.length = h'.length ∧ va_P D vwCl (wsO cI cG as' h') t.heap ∧ va_D A (wsO cI cG as' h')) ∧ va_F A st t
def Pcn (D : va_G) (cI cG : ClassId) (as : List Nat) (av : List AV) (h : AH) (sz : Nat) : Array Value → State → Prop :=
  va_Pc (av.map (cv as)) (fun U => U.heap.size = sz ∧ va_P D vwCl (wsO cI cG as h) U.heap ∧ va_K D vwCl (tyG cI cG) U ∧ va_AO RX1 U ∧ nestOk U ∧ va_D (fun _ => True) (wsO cI cG as h))
def wsM (k : Nat) : List Cond := Cond.code (yM k) (bM k) (maxl k) (rM k) :: lwG
def rmM (k : Nat) (h h' : AH) : Room := { frames := dpM k, cells := h'.length - h.length, slots := slN h' - slN h, locals := lcM k }
/-- a method's contract, for one run of the abstract machine -/
def Cok (l : Launch) (D : va_G) (cI cG : ClassId) (k : Nat) (as : List Nat) (av : List AV) (h : AH) (r : Option AV) (h' : AH) : Prop := ∀ sz : Nat,
  Met l (yM k) (wsM k) (rmM k h h') (Pcn D cI cG as av h sz) (Qcn D cI cG as h' r (va_A (wsO cI cG as h) sz)) (h'.length - h.length) (slN h' - slN h) (va_A (wsO cI cG as h) sz)
theorem lwG_goodM {k : Nat} (hk : k < 117) : GoodIn lwG (wsM k) := fun w hw => by
  rcases List.mem_cons.mp hw with q | q
  · rw [q]; exact lwG_good _ (okM_spec hk).1
  · exact lwG_good _ q
theorem free_all {A0 : Nat → Prop} {ws : va_W} {H0 H : Heap} {locs : List Loc} (hD : va_D A0 ws) (hS : va_S A0 H0 H locs) (hA : ∀ q, H0.size ≤ q → A0 q) : ∀ q, va_A ws H.size q → A0 q := by
  intro q h
  rcases h with ⟨k, e, h⟩ | h
  · exact hD.2 k (q, e) h
  · exact hA q (Nat.le_trans hS.1 h)
theorem popA_spec {n : Nat} {st av rest : List AV} (h : popA n st = some (av, rest)) : st = av.reverse ++ rest ∧ av.length = n := by
  unfold popA at h
  split at h
  · cases h
    rename_i hn
    refine ⟨by rw [List.reverse_reverse, List.take_append_drop], by simp [hn]⟩
  · cases h
section Calls
variable {p : Program} {l : Launch} {e : Env} {R : Room} {s : State} {m : MethodId} {args : Array Value} {below : List Frame} {meth : Method} {c : Code} {D : va_G} {cI cG : ClassId} {A : Nat → Prop} {Q : State → Prop} {k nL cells slots pc : Nat} {as : List Nat} {ls st : List AV} {h : AH}
theorem g_new (C : Ctx p s m args meth c D cI cG k) {idx a pl : Nat} (hl : as.length = h.length) (hw : wh h) (hwl : wl h.length ls) (hws : wl h.length st) (hd : decode (bM k) pc = .ok (.new idx, 3)) (hc : chkO (mOs.getD k 0) (pc, .new idx, 3, a, 0, pl) = true) (hA : ∀ q, s.heap.size ≤ q → A q) (hcells : cells + 1 ≤ R.cells) (hslots : slots + nC a ≤ R.slots)
    (kk : ∀ q : Nat, Wg p l e R s m args below meth c D cI cG A Q nL (as ++ [q]) (cells + 1) (slots + nC a) (pc + 3) ls (Rf h.length :: st) (h ++ [(a, dflO a)])) : Wg p l e R s m args below meth c D cI cG A Q nL as cells slots pc ls st h := by
  intro H locs lsA hP hD hS hlv
  obtain ⟨hx, hb, hml, hown, hts, hK, hAO, hlk, hrt, hin, hN⟩ := C
  unfold chkO at hc
  simp only [] at hc
  split at hc
  · rename_i Cn T N hq
    obtain ⟨o1, o2, o3⟩ := okC_spec hq
    obtain ⟨t1, t2, t3⟩ := okT_spec hq
    have hn := nC_eq hq
    refine va_new (ci := a) (fs := (dflO a).map (cv as)) hx hb hts o1 (tyC a) t1 hown (hts _ (lwG_in (isW_mem hc) rfl)) (hts _ o2) (hts _ o3) hK hP hD hS hA hq ?_ hcells (by rw [← hn]; exact hslots) hd ?_
    · intro j hj
      rw [df_spec (as := as) (t3 j hj)]
      simp only [vp_V, dflO, List.getD_eq_getElem?_getD, List.getElem?_map, hn, List.getElem?_range hj, Option.map_some, Option.getD_some]
    · intro q H1 hP hD hS
      have e1 : wsO cI cG as h ++ [(q, .inr (a, (dflO a).map (cv as)))] = wsO cI cG (as ++ [q]) (h ++ [(a, dflO a)]) := by
        rw [wsO_push hl hw, cellE_obj (vw_lt hq), cvl_app (dflO_wl _ _)]
      rw [e1] at hP hD
      have h2 := kk q H1 locs lsA hP hD hS (by rw [lvl_app (by rw [hl]; exact hwl)]; exact hlv)
      rw [List.map_cons, cvl_app (by rw [hl]; exact hws)] at h2
      rw [hn] at h2
      have h3 : cv (as ++ [q]) (Rf h.length) = .ref q := by
        show Value.ref (adr (as ++ [q]) h.length) = _
        rw [adr_last hl]
      rw [h3] at h2
      exact h2
  · cases hc
theorem fI_rep (n : Nat) : fI (List.replicate n (I 0)) = fun _ => 0 := by
  funext k
  unfold fI
  by_cases hk : k < n
  · simp [hk, i32_0]
  · simp [hk]
theorem fR_rep {as : List Nat} (n : Nat) : fR as (List.replicate n Nu) = fun _ => none := by
  funext k
  unfold fR
  by_cases hk : k < n
  · simp [hk]
  · simp [hk]
theorem g_newa (C : Ctx p s m args meth c D cI cG k) {n : Int} (hl : as.length = h.length) (hw : wh h) (hwl : wl h.length ls) (hws : wl h.length st) (hd : decode (bM k) pc = .ok (.newarray .int, 2)) (h0 : 0 ≤ n) (h1 : n ≤ 1000000) (hA : ∀ q, s.heap.size ≤ q → A q) (hcells : cells + 1 ≤ R.cells) (hslots : slots + n.toNat ≤ R.slots)
    (kk : ∀ q : Nat, Wg p l e R s m args below meth c D cI cG A Q nL (as ++ [q]) (cells + 1) (slots + n.toNat) (pc + 2) ls (Rf h.length :: st) (h ++ [(100, List.replicate n.toNat (I 0))])) : Wg p l e R s m args below meth c D cI cG A Q nL as cells slots pc ls (I n :: st) h := by
  intro H locs lsA hP hD hS hlv
  obtain ⟨hx, hb, hml, hown, hts, hK, hAO, hlk, hrt, hin, hN⟩ := C
  have hn : inr n := ⟨by omega, by omega⟩
  refine va_newa (atype := .int) (ty := .int) (N' := n.toNat) (a0 := (n.toNat, .inl (fun _ => 0))) (n := i32 n) hx hb (hts _ (lwG_in w_arr rfl)) rfl hK hP hD hS hA (fun cA => rfl) ?_ (i32_clamp hn) ?_ hcells hslots hd ?_
  · intro q
    have := (i32_lt hn inr_0).mp (by rw [i32_0]; exact q)
    omega
  · show n.toNat * 4 ≤ 536870912
    omega
  · intro q cA H1 hK2 hP hD hS
    have e0 : cA = cI := by
      have a1 := (hK2.2 2 (cA, .int) rfl).2
      have a2 := (hK.2 0 (cI, .int) rfl).2
      exact Option.some.inj (a1.symm.trans a2)
    subst e0
    have e1 : wsO cA cG as h ++ [(q, .inl (cA, n.toNat, .inl (fun _ => 0)))] = wsO cA cG (as ++ [q]) (h ++ [(100, List.replicate n.toNat (I 0))]) := by
      rw [wsO_push hl hw, cellE_int, fI_rep, List.length_replicate]
    rw [e1] at hP hD
    have h2 := kk q H1 locs lsA hP hD hS (by rw [lvl_app (by rw [hl]; exact hwl)]; exact hlv)
    rw [List.map_cons, cvl_app (by rw [hl]; exact hws)] at h2
    have h3 : cv (as ++ [q]) (Rf h.length) = .ref q := by
      show Value.ref (adr (as ++ [q]) h.length) = _
      rw [adr_last hl]
    rw [h3] at h2
    exact h2
theorem g_anew (C : Ctx p s m args meth c D cI cG k) {n : Int} {idx : Nat} (hl : as.length = h.length) (hw : wh h) (hwl : wl h.length ls) (hws : wl h.length st) (hd : decode (bM k) pc = .ok (.anewarray idx, 3)) (hc : Cond.classLink (oN (mOs.getD k 0)) idx RX1 ∈ lwG) (h0 : 0 ≤ n) (h1 : n ≤ 1000000) (hA : ∀ q, s.heap.size ≤ q → A q) (hcells : cells + 1 ≤ R.cells) (hslots : slots + n.toNat ≤ R.slots)
    (kk : ∀ q : Nat, Wg p l e R s m args below meth c D cI cG A Q nL (as ++ [q]) (cells + 1) (slots + n.toNat) (pc + 3) ls (Rf h.length :: st) (h ++ [(101, List.replicate n.toNat Nu)])) : Wg p l e R s m args below meth c D cI cG A Q nL as cells slots pc ls (I n :: st) h := by
  intro H locs lsA hP hD hS hlv
  obtain ⟨hx, hb, hml, hown, hts, hK, hAO, hlk, hrt, hin, hN⟩ := C
  have hn : inr n := ⟨by omega, by omega⟩
  refine va_newq (C := RX1) (N' := n.toNat) (n := i32 n) hx hb hown (hts _ hc) hAO hK hP hD hS hA ?_ (i32_clamp hn) (by omega) hcells hslots hd ?_
  · intro q
    have := (i32_lt hn inr_0).mp (by rw [i32_0]; exact q)
    omega
  · intro q cA H1 hK2 hP hD hS
    have e0 : cA = cG := by
      obtain ⟨_, _, _, _, _, a1⟩ := (hK2.2 2 (cA, .object RX1) rfl).2
      obtain ⟨_, _, _, _, _, a2⟩ := (hK.2 1 (cG, .object RX1) rfl).2
      exact Option.some.inj (a1.symm.trans a2)
    subst e0
    have e1 : wsO cI cA as h ++ [(q, .inl (cA, n.toNat, .inr (.inr (.inr (.inr (fun _ => none))))))] = wsO cI cA (as ++ [q]) (h ++ [(101, List.replicate n.toNat Nu)]) := by
      rw [wsO_push hl hw, cellE_ref, fR_rep, List.length_replicate]
    rw [e1] at hP hD
    have h2 := kk q H1 locs lsA hP hD hS (by rw [lvl_app (by rw [hl]; exact hwl)]; exact hlv)
    rw [List.map_cons, cvl_app (by rw [hl]; exact hws)] at h2
    have h3 : cv (as ++ [q]) (Rf h.length) = .ref q := by
      show Value.ref (adr (as ++ [q]) h.length) = _
      rw [adr_last hl]
    rw [h3] at h2
    exact h2
theorem W_call {H : Heap} {locs : List Loc} {lsA : Array Slot} {r : Option AV} {h' : AH} {A1 : Nat → Prop} {av : Array Value} {mc ms : Nat} {rest st0 : List Value} (hr : va_Run p l e R s m args below meth c H locs cells slots mc ms (F0 m pc lsA st0) rest (Qcn D cI cG as h' r A1 av) A1) (hS : va_S A s.heap H locs) (hA1 : ∀ q, A1 q → A q)
    (kk : ∀ (as' : List Nat) (H1 : Heap) (locs1 : List Loc), as <+: as' → as'.length = h'.length → va_P D vwCl (wsO cI cG as' h') H1 → va_D A (wsO cI cG as' h') → va_S A s.heap H1 locs1 → W p l e R s m args below meth c H1 locs1 (cells + mc) (slots + ms) Q (F0 m (pc + 3) lsA ((r.map (cv as')).toList ++ rest))) : W p l e R s m args below meth c H locs cells slots Q (F0 m pc lsA st0) := by
  intro T hT X
  obtain ⟨v, st₀, t, T', L, h0, X', hL, e1, e2, ⟨⟨as', g1, hv, g2, g3, g4⟩, hz, hk⟩, st⟩ := hr T hT X
  cases hv
  rw [h0] at hz hk
  obtain ⟨t2, a1, b1⟩ := kk as' T'.heap (locs ++ L) g1 g2 (by rw [e1]; exact g3) (g4.weaken (fun _ _ _ h => hA1 _ h))
    ⟨Nat.le_trans hS.1 (by rw [e1]; exact hz), fun q h1 h2 => by rw [e1, hk q (Nat.lt_of_lt_of_le h1 hS.1) (fun z => h2 (hA1 q z))]; exact hS.2.1 q h1 h2, fun q hq => by
      rcases List.mem_append.mp hq with h | h
      · exact hS.2.2 q h
      · exact hA1 _ (hL q h)⟩ T' rfl X'
  exact ⟨t2, st t2 a1, b1⟩
theorem blind {av : List AV} {sz : Nat} : FrameBlind (Pcn D cI cG as av h sz) := by
  intro a U g mk q
  obtain ⟨q0, q1, qP, qK, qO, qN, qD⟩ := q
  exact ⟨q0, q1, qP, va_K.moved (u := U) (U := U.calling g mk a) (Vm.Alike.refl U.vm) qK, va_AO.moved (u := U) (U := U.calling g mk a) (Vm.Alike.refl U.vm) qO, nestOk.same (u := U) (U := U.calling g mk a) rfl qN, qD⟩
theorem pre_of (C : Ctx p s m args meth c D cI cG k) {H : Heap} {av : List AV} (hP : va_P D vwCl (wsO cI cG as h) H) (hD : va_D A (wsO cI cG as h)) : ∀ U : State, U.heap = H → s.WarmedH U.vm → Pcn D cI cG as av h H.size (av.map (cv as)).toArray U := by
  obtain ⟨hx, hb, hml, hown, hts, hK, hAO, hlk, hrt, hin, hN⟩ := C
  intro U hU hW
  exact ⟨rfl, by rw [hU], by rw [hU]; exact hP, va_K.moved hW.alike hK, va_AO.moved hW.alike hAO, nestOk.warm hW hN, hD.weaken (fun _ _ _ _ => trivial)⟩
theorem rest_room4 {ls : Array Slot} {rest : List AV} {stk : List Value} (h4 : rest.length ≤ 4) : 2 * (F0 m pc ls stk).monitorRoom + ((rest.map (cv as)).map fun v => v.category).sum ≤ 8 := by
  refine lv_room ?_
  have h : ∀ l : List AV, ((l.map (cv as)).map fun v => v.category).sum ≤ 2 * l.length := by
    intro l
    induction l with
    | nil => exact Nat.le_refl _
    | cons v l ih =>
      have hc : (cv as v).category ≤ 2 := by rcases lv_cat (cv as v) with q | q <;> omega
      simp only [List.map_cons, List.sum_cons, List.length_cons]
      omega
  have := h rest
  omega
theorem rest_room {ls : Array Slot} {rest : List AV} {stk : List Value} (h4 : restOk rest = true) : 2 * (F0 m pc ls stk).monitorRoom + ((rest.map (cv as)).map fun v => v.category).sum ≤ 8 := by
  unfold restOk at h4
  simp only [Bool.or_eq_true, Bool.and_eq_true, decide_eq_true_eq] at h4
  rcases h4 with h4 | ⟨hd, h4⟩
  · exact rest_room4 h4
  · refine lv_room ?_
    have h : ∀ l : List AV, noDb l = true → ((l.map (cv as)).map fun v => v.category).sum = l.length := by
      intro l
      induction l with
      | nil => intro _; rfl
      | cons v l ih =>
        intro q
        have q2 := noDb_cons.mp q
        have e1 := cv_cat1 (as := as) q2.1
        have e2 := ih q2.2
        simp only [List.map_cons, List.sum_cons, List.length_cons, e1, e2]
        omega
    rw [h rest hd]
    exact h4
theorem callOk_spec {k k' : Nat} {rest : List AV} (h : callOk k k' rest = true) : dpM k' + 1 ≤ dpM k ∧ 8 + (maxl k' + 11) + lcM k' ≤ lcM k ∧ restOk rest = true ∧ nar k' ≤ maxl k' ∧ k' < 117 := by
  unfold callOk at h
  simp only [Bool.and_eq_true, decide_eq_true_eq] at h
  exact ⟨h.1.1.1.1, h.1.1.1.2, h.1.1.2, h.1.2, h.2⟩
theorem behind_call (hwl : wl as.length ls) {rest : List AV} (hwr : wl as.length rest) {r : Option AV} {h' : AH} {lsA : Array Slot} {mc ms : Nat} (hlv : lv_has lsA nL (lvl as 0 ls))
    (kk : ∀ as' : List Nat, as <+: as' → as'.length = h'.length → Wg p l e R s m args below meth c D cI cG A Q nL as' (cells + mc) (slots + ms) (pc + 3) ls (r.toList ++ rest) h') :
    ∀ (as' : List Nat) (H1 : Heap) (locs1 : List Loc), as <+: as' → as'.length = h'.length → va_P D vwCl (wsO cI cG as' h') H1 → va_D A (wsO cI cG as' h') → va_S A s.heap H1 locs1 → W p l e R s m args below meth c H1 locs1 (cells + mc) (slots + ms) Q (F0 m (pc + 3) lsA ((r.map (cv as')).toList ++ rest.map (cv as))) := by
  intro as' H1 locs1 g1 g2 hP1 hD1 hS1
  have h2 := kk as' g1 g2 H1 locs1 lsA hP1 hD1 hS1
  obtain ⟨q, rfl⟩ := g1
  have h3 := h2 (by rw [lvl_app hwl]; exact hlv)
  rw [List.map_append, cvl_app hwr] at h3
  have e1 : r.toList.map (cv (as ++ q)) = (r.map (cv (as ++ q))).toList := by cases r <;> rfl
  rw [e1] at h3
  exact h3
theorem clsOk_spec {h : AH} {k' : Nat} {av : List AV} (hc : clsOk h k' av[0]? = true) : ∃ (i : Nat) (av' : List AV) (ci : Nat) (fs : List AV) (q : vw_C), av = Rf i :: av' ∧ h[i]? = some (ci, fs) ∧ vwCl[ci]? = some q ∧ q.1 = (yM k').cls := by
  unfold clsOk at hc
  split at hc
  · rename_i i hi
    split at hc
    · rename_i ci fs hh
      split at hc
      · rename_i q hq
        cases av with
        | nil => cases hi
        | cons v av' =>
          simp only [List.getElem?_cons_zero, Option.some.injEq] at hi
          subst hi
          exact ⟨i, av', ci, fs, q, rfl, hh, hq, of_decide_eq_true hc⟩
      · cases hc
    · cases hc
  · cases hc
theorem g_callV (C : Ctx p s m args meth c D cI cG k) {idx k' : Nat} {av rest : List AV} {r : Option AV} {h' : AH} (hM : Cok l D cI cG k' as av h r h') (hd : decode (bM k) pc = .ok (.invokevirtual idx, 3)) (hlink : Cond.methodLink (oN (mOs.getD k 0)) idx (yM k') ∈ lwG) (hok : callOk k k' rest = true) (hcls : clsOk h k' av[0]? = true) (hst : popA (nar k') st = some (av, rest)) (hsta : stM k' = false) (hini : isI k' = false) (hl : as.length = h.length) (hwl : wl h.length ls) (hws : wl h.length st) (hA : ∀ q, s.heap.size ≤ q → A q) (hR : dpM k ≤ R.frames ∧ lcM k ≤ R.locals) (hcells : cells + (h'.length - h.length) ≤ R.cells) (hslots : slots + (slN h' - slN h) ≤ R.slots) (hnL : nL = maxl k)
    (kk : ∀ as' : List Nat, as <+: as' → as'.length = h'.length → Wg p l e R s m args below meth c D cI cG A Q nL as' (cells + (h'.length - h.length)) (slots + (slN h' - slN h)) (pc + 3) ls (r.toList ++ rest) h') : Wg p l e R s m args below meth c D cI cG A Q nL as cells slots pc ls st h := by
  intro H locs lsA hP hD hS hlv
  have hpre := pre_of (av := av) C hP hD
  obtain ⟨hx, hb, hml, hown, hts, hK, hAO, hlk, hrt, hin, hN⟩ := C
  obtain ⟨o1, o2, o3, o4, o5⟩ := callOk_spec hok
  obtain ⟨m1, m2, m3, m4, m5, m6, m7, m8⟩ := okM_spec o5
  obtain ⟨e1, e2⟩ := popA_spec hst
  obtain ⟨i, av', ci, fs, q, rfl, c1, c2, c3⟩ := clsOk_spec hcls
  rw [hsta] at m2 m7
  have he := wsO_get (cI := cI) (cG := cG) hl c1
  rw [cellE_obj (vw_lt c2)] at he
  have hrest : wl h.length rest := (wl_app.mp (by rw [← e1]; exact hws)).2
  rw [e1]
  rw [List.map_append]
  refine W_call (A1 := va_A (wsO cI cG as h) H.size) (rest := rest.map (cv as)) (va_runV (y := yM k') (C := (yM k').cls) (As := av'.map (cv as)) (b := adr as i) (nL := nL) (n := nar k' - 1) ⟨hx, hb, by rw [hml, hnL], hown, hts⟩ (hM H.size) (cwV (nar k' - 1) hts ?_ rfl rfl rfl ⟨rfl, m6.1, m6.2, m7⟩ ⟨Nat.le_trans o1 hR.1, Nat.le_trans o2 hR.2⟩) ⟨blind, ?_, hpre⟩ rfl ?_ hlv.1 ?_ (rest_room o3) hd ⟨hcells, hslots⟩) hS (free_all hD hS hA) (behind_call (by rw [hl]; exact hwl) (by rw [hl]; exact hrest) hlv kk)
  · intro w hw
    unfold wsV at hw
    rcases List.mem_append.mp hw with q | q
    · simp only [List.mem_cons, List.not_mem_nil, or_false] at q
      rcases q with rfl | rfl | rfl | rfl
      · exact lwG_good _ hlink
      · exact lwG_good _ m2
      · exact lwG_good _ (m3 hsta hini)
      · exact lwG_good _ m4
    · exact lwG_goodM o5 _ q
  · have := va_recv hK hP c2 he
    rw [c3] at this
    exact this
  · rw [List.length_map]
    simp only [List.length_cons] at e2
    omega
  · rw [List.reverse_cons, List.map_append, List.map_reverse, List.append_assoc]
    rfl
theorem g_callS (C : Ctx p s m args meth c D cI cG k) {idx k' : Nat} {av rest : List AV} {r : Option AV} {h' : AH} (hM : Cok l D cI cG k' as av h r h') (hd : decode (bM k) pc = .ok (.invokestatic idx, 3)) (hlink : Cond.methodLink (oN (mOs.getD k 0)) idx (yM k') ∈ lwG) (hok : callOk k k' rest = true) (hst : popA (nar k') st = some (av, rest)) (hsta : stM k' = true) (hl : as.length = h.length) (hwl : wl h.length ls) (hws : wl h.length st) (hA : ∀ q, s.heap.size ≤ q → A q) (hR : dpM k ≤ R.frames ∧ lcM k ≤ R.locals) (hcells : cells + (h'.length - h.length) ≤ R.cells) (hslots : slots + (slN h' - slN h) ≤ R.slots) (hnL : nL = maxl k)
    (kk : ∀ as' : List Nat, as <+: as' → as'.length = h'.length → Wg p l e R s m args below meth c D cI cG A Q nL as' (cells + (h'.length - h.length)) (slots + (slN h' - slN h)) (pc + 3) ls (r.toList ++ rest) h') : Wg p l e R s m args below meth c D cI cG A Q nL as cells slots pc ls st h := by
  intro H locs lsA hP hD hS hlv
  have hpre := pre_of (av := av) C hP hD
  obtain ⟨hx, hb, hml, hown, hts, hK, hAO, hlk, hrt, hin, hN⟩ := C
  obtain ⟨o1, o2, o3, o4, o5⟩ := callOk_spec hok
  obtain ⟨m1, m2, m3, m4, m5, m6, m7, m8⟩ := okM_spec o5
  obtain ⟨e1, e2⟩ := popA_spec hst
  rw [hsta] at m2 m7
  have hrest : wl h.length rest := (wl_app.mp (by rw [← e1]; exact hws)).2
  rw [e1]
  rw [List.map_append]
  refine W_call (A1 := va_A (wsO cI cG as h) H.size) (rest := rest.map (cv as)) (va_runS (y := yM k') (As := av.map (cv as)) (nL := nL) (n := nar k') ⟨hx, hb, by rw [hml, hnL], hown, hts⟩ (hM H.size) (va_cwS (nar k') hts ?_ rfl rfl rfl ⟨m6.1, m6.2, m7⟩ ⟨Nat.le_trans o1 hR.1, Nat.le_trans o2 hR.2⟩) ⟨blind, hpre⟩ rfl ?_ hlv.1 ?_ (rest_room o3) hd ⟨hcells, hslots⟩) hS (free_all hD hS hA) (behind_call (by rw [hl]; exact hwl) (by rw [hl]; exact hrest) hlv kk)
  · intro w hw
    unfold va_wsS at hw
    rcases List.mem_append.mp hw with q | q
    · simp only [List.mem_cons, List.not_mem_nil, or_false] at q
      rcases q with rfl | rfl | rfl
      · exact lwG_good _ hlink
      · exact lwG_good _ m2
      · exact lwG_good _ m4
    · exact lwG_goodM o5 _ q
  · rw [List.length_map]
    exact e2
  · rw [List.map_reverse]
theorem g_callI (C : Ctx p s m args meth c D cI cG k) {idx k' : Nat} {av rest : List AV} {h' : AH} (hM : Cok l D cI cG k' as av h none h') (hd : decode (bM k) pc = .ok (.invokespecial idx, 3)) (hlink : Cond.methodLink (oN (mOs.getD k 0)) idx (yM k') ∈ lwG ∨ Cond.methodLinkNest (oN (mOs.getD k 0)) idx (yM k') "TankDivers" ∈ lwN) (hok : callOk k k' rest = true) (hcls : clsOk h k' av[0]? = true) (hst : popA (nar k') st = some (av, rest)) (hsta : stM k' = false) (hini : isI k' = true) (hrn : rM k' = none) (hl : as.length = h.length) (hwl : wl h.length ls) (hws : wl h.length st) (hA : ∀ q, s.heap.size ≤ q → A q) (hR : dpM k ≤ R.frames ∧ lcM k ≤ R.locals) (hcells : cells + (h'.length - h.length) ≤ R.cells) (hslots : slots + (slN h' - slN h) ≤ R.slots) (hnL : nL = maxl k)
    (kk : ∀ as' : List Nat, as <+: as' → as'.length = h'.length → Wg p l e R s m args below meth c D cI cG A Q nL as' (cells + (h'.length - h.length)) (slots + (slN h' - slN h)) (pc + 3) ls rest h') : Wg p l e R s m args below meth c D cI cG A Q nL as cells slots pc ls st h := by
  intro H locs lsA hP hD hS hlv
  have hpre := pre_of (av := av) C hP hD
  obtain ⟨hx, hb, hml, hown, hts, hK, hAO, hlk, hrt, hin, hN⟩ := C
  obtain ⟨o1, o2, o3, o4, o5⟩ := callOk_spec hok
  obtain ⟨m1, m2, m3, m4, m5, m6, m7, m8⟩ := okM_spec o5
  obtain ⟨e1, e2⟩ := popA_spec hst
  obtain ⟨i, av', ci, fs, q, rfl, c1, c2, c3⟩ := clsOk_spec hcls
  rw [hsta] at m2 m7
  have hrest : wl h.length rest := (wl_app.mp (by rw [← e1]; exact hws)).2
  have hyn : (yM k').name = "<init>" := by simpa [isI] using hini
  have hM1 := hM H.size
  have hws0 : wsM k' = Cond.code (yM k') (bM k') (maxl k') none :: lwG := by unfold wsM; rw [hrn]
  rw [e1]
  rw [List.map_append]
  have hlen : (av'.map (cv as)).length = nar k' - 1 := by
    rw [List.length_map]
    simp only [List.length_cons] at e2
    omega
  have hstk : (Rf i :: av').reverse.map (cv as) ++ rest.map (cv as) = (av'.map (cv as)).reverse ++ .ref (adr as i) :: rest.map (cv as) := by
    rw [List.reverse_cons, List.map_append, List.map_reverse, List.append_assoc]
    rfl
  rcases hlink with hlink | hlink
  · exact W_call (A1 := va_A (wsO cI cG as h) H.size) (rest := rest.map (cv as)) (va_runI (y := yM k') (As := av'.map (cv as)) (b := adr as i) (nL := nL) (n := nar k' - 1) ⟨hx, hb, by rw [hml, hnL], hown, hts⟩ hM1 (cwI (nar k' - 1) hts (lwG_goodM o5) hws0 rfl rfl (hts _ m4) (hts _ hlink) (hts _ m2) hyn ⟨m6.1, m6.2, m7⟩ ⟨Nat.le_trans o1 hR.1, Nat.le_trans o2 hR.2⟩) ⟨blind, hpre⟩ rfl hlen hlv.1 hstk (rest_room o3) hd ⟨hcells, hslots⟩) hS (free_all hD hS hA) (behind_call (r := none) (by rw [hl]; exact hwl) (by rw [hl]; exact hrest) hlv kk)
  · exact W_call (A1 := va_A (wsO cI cG as h) H.size) (rest := rest.map (cv as)) (va_runIN (y := yM k') (As := av'.map (cv as)) (b := adr as i) (nL := nL) (n := nar k' - 1) ⟨hx, hb, by rw [hml, hnL], hown, hts⟩ hM1 ⟨va_cnB (nar k' - 1) hts (lwG_goodM o5) hws0 rfl rfl (hN _ hlink) (hts _ m4) ⟨m6.1, m6.2, m7⟩ ⟨Nat.le_trans o1 hR.1, Nat.le_trans o2 hR.2⟩, hyn, hts _ m2⟩ ⟨blind, hpre⟩ rfl hlen hlv.1 hstk (rest_room o3) hd ⟨hcells, hslots⟩) hS (free_all hD hS hA) (behind_call (r := none) (by rw [hl]; exact hwl) (by rw [hl]; exact hrest) hlv kk)
theorem g_obj (C : Ctx p s m args meth c D cI cG k) {idx i : Nat} {rest : List AV} (hd : decode (bM k) pc = .ok (.invokespecial idx, 3)) (hlink : Cond.methodLink (oN (mOs.getD k 0)) idx objectInit ∈ lwG) (h4 : rest.length ≤ 4) (hR : 1 ≤ R.frames ∧ 20 ≤ R.locals) (hnL : nL = maxl k) (kk : Wg p l e R s m args below meth c D cI cG A Q nL as cells slots (pc + 3) ls rest h) : Wg p l e R s m args below meth c D cI cG A Q nL as cells slots pc ls (Rf i :: rest) h := by
  intro H locs lsA hP hD hS hlv
  obtain ⟨hx, hb, hml, hown, hts, hK, hAO, hlk, hrt, hin, hN⟩ := C
  have hr := rest_room4 (m := m) (pc := pc) (as := as) (ls := lsA) (rest := rest) (stk := []) h4
  refine W.objInit hx hb hown (hts _ hlink) (hts _ (lwG_in w_obj.1 rfl)) (hts _ (lwG_in w_obj.2 rfl)) rfl (by rw [hml, ← hnL]; exact hlv.1) rfl hd hR.1 ?_ (W.eq (g2 := F0 m (pc + 3) lsA (rest.map (cv as))) rfl (kk H locs lsA hP hD hS hlv))
  have := hR.2
  have e : (F0 m pc lsA ((Rf i :: rest).map (cv as))).monitorRoom = (F0 m pc lsA []).monitorRoom := rfl
  rw [e]
  omega
theorem g_math (C : Ctx p s m args meth c D cI cG k) {idx a b pl : Nat} {rest : List AV} {v : AV} (hd : decode (bM k) pc = .ok (.invokestatic idx, 3)) (hc : chkO (mOs.getD k 0) (pc, .invokestatic idx, 3, a, b, pl) = true) (hv : mathB a st = some (v, rest)) (hws : wl h.length st) (h4 : rest.length ≤ 4) (hR : 1 ≤ R.frames ∧ 21 ≤ R.locals) (hcl : cells ≤ R.cells) (hsl : slots ≤ R.slots) (hnL : nL = maxl k) (kk : Wg p l e R s m args below meth c D cI cG A Q nL as cells slots (pc + 3) ls (v :: rest) h) : Wg p l e R s m args below meth c D cI cG A Q nL as cells slots pc ls st h := by
  intro H locs lsA hP hD hS hlv
  obtain ⟨hx, hb, hml, hown, hts, hK, hAO, hlk, hrt, hin, hN⟩ := C
  obtain ⟨⟨s1, s2, s3⟩, s4, s5, s6, s7⟩ := w_math
  have hr := rest_room4 (m := m) (pc := pc) (as := as) (ls := lsA) (rest := rest) (stk := []) h4
  have hr2 : ((rest.map (cv as)).map fun v => v.category).sum + 13 ≤ R.locals := by
    have := hR.2
    have : (F0 m pc lsA []).monitorRoom = 0 := rfl
    omega
  have hml2 : c.maxLocals = lsA.size := by rw [hml, hlv.1, hnL]
  have kk1 := kk H locs lsA hP hD hS hlv
  unfold mathB at hv
  unfold chkO at hc
  simp only [] at hc
  split at hv
  · rename_i y st1
    have hy : inr y := (wl_cons.mp hws).1
    split at hv
    · rename_i ha
      rw [if_pos ha] at hc
      cases hv
      refine va_mabs (x := i32 y) hx hb hml2 hown (hts _ (lwG_in (isW_mem hc) rfl)) (hts _ (lwG_in s1 rfl)) (hts _ (lwG_in s4 rfl)) (hts _ (lwG_in s5 rfl)) hR.1 hr2 hcl hsl hd ?_
      have e0 : (if 0 ≤ i32 y then i32 y else 0 - i32 y) = i32 (if 0 ≤ y then y else w2 (· - ·) 0 y) := by
        have h1 := i32_le inr_0 hy
        rw [i32_0] at h1
        by_cases q : 0 ≤ y
        · rw [if_pos q, if_pos (h1.mpr q)]
        · rw [if_neg q, if_neg (fun w => q (h1.mp w)), i32_w2, i32_0]
      rw [e0]
      exact kk1
    · rename_i ha
      rw [if_neg ha] at hc
      split at hv
      · rename_i x st2
        have hx2 : inr x := (wl_cons.mp (wl_cons.mp hws).2).1
        split at hv
        · rename_i ha
          rw [if_pos ha] at hc
          cases hv
          refine va_mmax (x := i32 x) (y := i32 y) hx hb hml2 hown (hts _ (lwG_in (isW_mem hc) rfl)) (hts _ (lwG_in s2 rfl)) (hts _ (lwG_in s4 rfl)) (hts _ (lwG_in s6 rfl)) hR.1 hr2 hcl hsl hd ?_
          have e0 : (if i32 x < i32 y then i32 y else i32 x) = i32 (if x < y then y else x) := by
            by_cases q : x < y
            · rw [if_pos q, if_pos ((i32_lt hx2 hy).mpr q)]
            · rw [if_neg q, if_neg (fun w => q ((i32_lt hx2 hy).mp w))]
          rw [e0]
          exact kk1
        · rename_i ha
          rw [if_neg ha] at hc
          split at hv
          · rename_i ha
            rw [if_pos ha] at hc
            cases hv
            refine va_mmin (x := i32 x) (y := i32 y) hx hb hml2 hown (hts _ (lwG_in (isW_mem hc) rfl)) (hts _ (lwG_in s3 rfl)) (hts _ (lwG_in s4 rfl)) (hts _ (lwG_in s7 rfl)) hR.1 hr2 hcl hsl hd ?_
            have e0 : (if i32 y < i32 x then i32 y else i32 x) = i32 (if y < x then y else x) := by
              by_cases q : y < x
              · rw [if_pos q, if_pos ((i32_lt hy hx2).mpr q)]
              · rw [if_neg q, if_neg (fun w => q ((i32_lt hy hx2).mp w))]
            rw [e0]
            exact kk1
          · cases hv
      · cases hv
  · cases hv
theorem g_ret (C : Ctx p s m args meth c D cI cG k) {i : Instr} {r : Option AV} {as0 : List Nat} (hr : retOk k st i = some r) (hd : decode (bM k) pc = .ok (i, 1)) (has : as0 <+: as) (hl : as.length = h.length) : Wg p l e R s m args below meth c D cI cG A (MQ below (Qcn D cI cG as0 h r A) args s cells slots A) nL as cells slots pc ls st h := by
  intro H locs lsA hP hD hS hlv
  obtain ⟨hx, hb, hml, hown, hts, hK, hAO, hlk, hrt, hin, hN⟩ := C
  unfold retOk at hr
  split at hr
  · rename_i h1
    cases hr
    exact W.vret hx hb (hrt.trans h1) (fun t ht hW => ⟨⟨as, has, rfl, hl, by rw [ht]; exact hP, hD⟩, hS.F ht⟩) hS.2.2 hd
  · rename_i h1
    cases hr
    exact W.iret hx hb (hrt.trans h1) (fun t ht hW => ⟨⟨as, has, rfl, hl, by rw [ht]; exact hP, hD⟩, hS.F ht⟩) hS.2.2 hd
  · rename_i z h1
    split at hr
    · rename_i hz
      cases hr
      refine W.zret hx hb (hrt.trans h1) ?_ (fun t ht hW => ⟨⟨as, has, rfl, hl, by rw [ht]; exact hP, hD⟩, hS.F ht⟩) hS.2.2 hd
      rcases hz with rfl | rfl <;> rfl
    · cases hr
  · rename_i q n h1
    cases hr
    refine W.aret hx hb (hrt.trans h1) (Or.inl ⟨_, rfl⟩) ?_ (fun t ht hW => ⟨⟨as, has, rfl, hl, by rw [ht]; exact hP, hD⟩, hS.F ht⟩) hS.2.2 hd
    cases q with
    | none => exact Or.inl rfl
    | some x => exact Or.inr ⟨_, rfl⟩
  · rename_i h1
    cases hr
    exact W.lret hx hb (hrt.trans h1) (fun t ht hW => ⟨⟨as, has, rfl, hl, by rw [ht]; exact hP, hD⟩, hS.F ht⟩) hS.2.2 hd
  · cases hr
end Calls
end
section
/-! ===== one step, and whole runs, are the machine's ===== -/
theorem chkL_len {pc len a b p : Nat} {i : Instr} (h : chkL (pc, i, len, a, b, p) = true) (hi : ∀ d lo hi offs, i ≠ .tableswitch d lo hi offs) : len = lenI i := by
  unfold chkL at h
  simp only [] at h
  exact eq_of_beq h
/-- what a step keeps -/
def Kp (ls : List AV) (h : AH) (t : ASt) : Prop := t.2.1.length = ls.length ∧ wl t.2.2.2.length t.2.1 ∧ wl t.2.2.2.length t.2.2.1 ∧ wh t.2.2.2 ∧ h.length ≤ t.2.2.2.length ∧ slN h ≤ slN t.2.2.2
theorem Kp_same {ls ls' st' : List AV} {h : AH} {pc : Nat} (h1 : ls'.length = ls.length) (h2 : wl h.length ls') (h3 : wl h.length st') (h4 : wh h) : Kp ls h (pc, ls', st', h) := ⟨h1, h2, h3, h4, Nat.le_refl _, Nat.le_refl _⟩
theorem Kp_set {ls st' : List AV} {h : AH} {pc i c : Nat} {fs fs' : List AV} (h2 : wl h.length ls) (h3 : wl h.length st') (h4 : wh h) (hi : h[i]? = some (c, fs)) (hl : fs'.length = fs.length) (hf : wl h.length fs') : Kp ls h (pc, ls, st', h.set i (c, fs')) := by
  have e : (h.set i (c, fs')).length = h.length := List.length_set
  refine ⟨rfl, ?_, ?_, wh_set h4 hf, by rw [e]; exact Nat.le_refl _, by rw [slN_set hi hl]; exact Nat.le_refl _⟩
  · show wl (h.set i (c, fs')).length ls
    rw [e]; exact h2
  · show wl (h.set i (c, fs')).length st'
    rw [e]; exact h3
theorem Kp_push {ls st' : List AV} {h : AH} {pc : Nat} {o : AO} (h2 : wl h.length ls) (h3 : wl h.length st') (h4 : wh h) (ho : wl (h.length + 1) o.2) : Kp ls h (pc, ls, Rf h.length :: st', h ++ [o]) := by
  have e : (h ++ [o]).length = h.length + 1 := by simp
  refine ⟨rfl, ?_, ?_, wh_push h4 ho, by rw [e]; omega, by rw [slN_push]; omega⟩
  · show wl (h ++ [o]).length ls
    rw [e]; exact wl_mono (Nat.le_add_right _ _) h2
  · show wl (h ++ [o]).length (Rf h.length :: st')
    rw [e]; exact wl_cons.mpr ⟨Nat.lt_succ_self _, wl_mono (Nat.le_add_right _ _) h3⟩
theorem stI_spec {ls st : List AV} {i pc : Nat} {h : AH} {t : ASt} (hs : stI ls i pc st h = some t) : ∃ z, ls[i]? = some (I z) ∧ t = (pc, ls, I z :: st, h) := by
  unfold stI at hs
  split at hs
  · rename_i z hz; cases hs; exact ⟨z, hz, rfl⟩
  · cases hs
theorem stA_spec {ls st : List AV} {i pc : Nat} {h : AH} {t : ASt} (hs : stA ls i pc st h = some t) : ∃ r, ls[i]? = some (.inr (.inl r)) ∧ t = (pc, ls, .inr (.inl r) :: st, h) := by
  unfold stA at hs
  split at hs
  · rename_i z hz; cases hs; exact ⟨z, hz, rfl⟩
  · cases hs
theorem ssI_spec {ls st : List AV} {i pc : Nat} {h : AH} {t : ASt} (hs : ssI ls i pc st h = some t) : ∃ z st2, st = I z :: st2 ∧ i < ls.length ∧ t = (pc, ls.set i (I z), st2, h) := by
  unfold ssI at hs
  split at hs
  · rename_i z st2
    split at hs
    · rename_i hi; cases hs; exact ⟨z, st2, rfl, hi, rfl⟩
    · cases hs
  · cases hs
theorem ssA_spec {ls st : List AV} {i pc : Nat} {h : AH} {t : ASt} (hs : ssA ls i pc st h = some t) : ∃ r st2, st = .inr (.inl r) :: st2 ∧ i < ls.length ∧ t = (pc, ls.set i (.inr (.inl r)), st2, h) := by
  unfold ssA at hs
  split at hs
  · rename_i z st2
    split at hs
    · rename_i hi; cases hs; exact ⟨z, st2, rfl, hi, rfl⟩
    · cases hs
  · cases hs
theorem sbin_spec {f : Int32 → Int32 → Int32} {ls st : List AV} {pc : Nat} {h : AH} {t : ASt} (hs : sbin f pc ls st h = some t) : ∃ x y st2, st = I y :: I x :: st2 ∧ t = (pc, ls, I (w2 f x y) :: st2, h) := by
  unfold sbin at hs
  split at hs
  · rename_i y x st2; cases hs; exact ⟨x, y, st2, rfl, rfl⟩
  · cases hs
theorem sdiv_spec {f : Int32 → Int32 → Int32} {ls st : List AV} {pc : Nat} {h : AH} {t : ASt} (hs : sdiv f pc ls st h = some t) : ∃ x y st2, st = I y :: I x :: st2 ∧ y ≠ 0 ∧ t = (pc, ls, I (w2 f x y) :: st2, h) := by
  unfold sdiv at hs
  split at hs
  · rename_i y x st2
    split at hs
    · rename_i hy; cases hs; exact ⟨x, y, st2, rfl, hy, rfl⟩
    · cases hs
  · cases hs
theorem stL_spec {ls st : List AV} {i pc : Nat} {h : AH} {t : ASt} (hs : stL ls i pc st h = some t) : ∃ x, ls[i]? = some (Lg x) ∧ ls[i + 1]? = some (Db 0) ∧ t = (pc, ls, Lg x :: st, h) := by
  unfold stL at hs
  split at hs
  · rename_i x hx hy; cases hs; exact ⟨x, hx, hy, rfl⟩
  · cases hs
theorem ssL_spec {ls st : List AV} {i pc : Nat} {h : AH} {t : ASt} (hs : ssL ls i pc st h = some t) : ∃ x st2, st = Lg x :: st2 ∧ i + 1 < ls.length ∧ t = (pc, (ls.set i (Lg x)).set (i + 1) (Db 0), st2, h) := by
  unfold ssL at hs
  split at hs
  · rename_i z st2
    split at hs
    · rename_i hi; cases hs; exact ⟨z, st2, rfl, hi, rfl⟩
    · cases hs
  · cases hs
theorem wl_c2 {n : Nat} {v u : AV} {l : List AV} (h : wl n (v :: u :: l)) : wv n v ∧ wv n u ∧ wl n l := ⟨(wl_cons.mp h).1, (wl_cons.mp (wl_cons.mp h).2).1, (wl_cons.mp (wl_cons.mp h).2).2⟩
theorem nat_inr {n : Nat} (h : n ≤ 1000000) : inr (n : Int) := ⟨by omega, by omega⟩
theorem ast_kp {ini : Bool} {ls st : List AV} {h : AH} {E : AE} {t : ASt} (hs : ast ini E ls st h = some t) (hw : wh h) (hwl : wl h.length ls) (hws : wl h.length st) : Kp ls h t := by
  have same : ∀ {pc' : Nat} {ls' st' : List AV}, t = (pc', ls', st', h) → ls'.length = ls.length → wl h.length ls' → wl h.length st' → Kp ls h t := by
    intro pc' ls' st' h5 h1 h2 h3
    subst h5
    exact Kp_same h1 h2 h3 hw
  have sett : ∀ {pc' i c0 : Nat} {st' fs fs' : List AV}, t = (pc', ls, st', h.set i (c0, fs')) → h[i]? = some (c0, fs) → fs'.length = fs.length → wl h.length fs' → wl h.length st' → Kp ls h t := by
    intro pc' i c0 st' fs fs' h5 h1 h2 h3 h3'
    subst h5
    exact Kp_set hwl h3' hw h1 h2 h3
  obtain ⟨pc, ins, len, a, b, pl⟩ := E
  unfold ast at hs
  simp only [] at hs
  split at hs
  · rename_i n
    split at hs
    · rename_i hn
      exact same (Option.some.inj hs).symm rfl hwl (wl_cons.mpr ⟨inrB_iff.mp hn, hws⟩)
    · cases hs
  · rename_i n
    split at hs
    · rename_i hn
      simp only [Bool.and_eq_true, decide_eq_true_eq] at hn
      exact same (Option.some.inj hs).symm rfl hwl (wl_cons.mpr ⟨inrB_iff.mp hn.1, hws⟩)
    · cases hs
  · rename_i n
    split at hs
    · rename_i hn
      simp only [Bool.and_eq_true, decide_eq_true_eq] at hn
      exact same (Option.some.inj hs).symm rfl hwl (wl_cons.mpr ⟨inrB_iff.mp hn.1, hws⟩)
    · cases hs
  · skip
    exact same (Option.some.inj hs).symm rfl hwl (wl_cons.mpr ⟨trivial, hws⟩)
  · skip
    obtain ⟨z, hz, ht⟩ := stI_spec hs
    exact same ht rfl hwl (wl_cons.mpr ⟨wl_get hwl hz, hws⟩)
  · skip
    obtain ⟨z, hz, ht⟩ := stI_spec hs
    exact same ht rfl hwl (wl_cons.mpr ⟨wl_get hwl hz, hws⟩)
  · skip
    obtain ⟨z, hz, ht⟩ := stA_spec hs
    exact same ht rfl hwl (wl_cons.mpr ⟨wl_get hwl hz, hws⟩)
  · skip
    obtain ⟨z, hz, ht⟩ := stA_spec hs
    exact same ht rfl hwl (wl_cons.mpr ⟨wl_get hwl hz, hws⟩)
  · skip
    obtain ⟨z, st2, rfl, hi, ht⟩ := ssI_spec hs
    exact same ht List.length_set (wl_set hwl (wl_cons.mp hws).1) (wl_cons.mp hws).2
  · skip
    obtain ⟨z, st2, rfl, hi, ht⟩ := ssI_spec hs
    exact same ht List.length_set (wl_set hwl (wl_cons.mp hws).1) (wl_cons.mp hws).2
  · skip
    obtain ⟨z, st2, rfl, hi, ht⟩ := ssA_spec hs
    exact same ht List.length_set (wl_set hwl (wl_cons.mp hws).1) (wl_cons.mp hws).2
  · rename_i i n
    split at hs
    · rename_i z hz
      exact same (Option.some.inj hs).symm List.length_set (wl_set hwl (inr_w2 _ _ _)) hws
    · cases hs
  · skip
    obtain ⟨x, y, st2, rfl, ht⟩ := sbin_spec hs
    exact same ht rfl hwl (wl_cons.mpr ⟨inr_w2 _ _ _, (wl_c2 hws).2.2⟩)
  · skip
    obtain ⟨x, y, st2, rfl, ht⟩ := sbin_spec hs
    exact same ht rfl hwl (wl_cons.mpr ⟨inr_w2 _ _ _, (wl_c2 hws).2.2⟩)
  · skip
    obtain ⟨x, y, st2, rfl, ht⟩ := sbin_spec hs
    exact same ht rfl hwl (wl_cons.mpr ⟨inr_w2 _ _ _, (wl_c2 hws).2.2⟩)
  · skip
    obtain ⟨x, y, st2, rfl, ht⟩ := sbin_spec hs
    exact same ht rfl hwl (wl_cons.mpr ⟨inr_w2 _ _ _, (wl_c2 hws).2.2⟩)
  · skip
    obtain ⟨x, y, st2, rfl, ht⟩ := sbin_spec hs
    exact same ht rfl hwl (wl_cons.mpr ⟨inr_w2 _ _ _, (wl_c2 hws).2.2⟩)
  · skip
    obtain ⟨x, y, st2, rfl, ht⟩ := sbin_spec hs
    exact same ht rfl hwl (wl_cons.mpr ⟨inr_w2 _ _ _, (wl_c2 hws).2.2⟩)
  · skip
    obtain ⟨x, y, st2, rfl, ht⟩ := sbin_spec hs
    exact same ht rfl hwl (wl_cons.mpr ⟨inr_w2 _ _ _, (wl_c2 hws).2.2⟩)
  · skip
    obtain ⟨x, y, st2, rfl, hy, ht⟩ := sdiv_spec hs
    exact same ht rfl hwl (wl_cons.mpr ⟨inr_w2 _ _ _, (wl_c2 hws).2.2⟩)
  · skip
    obtain ⟨x, y, st2, rfl, hy, ht⟩ := sdiv_spec hs
    exact same ht rfl hwl (wl_cons.mpr ⟨inr_w2 _ _ _, (wl_c2 hws).2.2⟩)
  · skip
    split at hs
    · exact same (Option.some.inj hs).symm rfl hwl (wl_cons.mpr ⟨inr_w2 _ _ _, (wl_cons.mp hws).2⟩)
    · cases hs
  · skip
    split at hs
    · cases hs
    · rename_i v st2 hv
      have hd : isDb v = false := by
        rcases v with z | r | x
        · rfl
        · rfl
        · exact absurd rfl (hv x)
      exact same (Option.some.inj hs).symm rfl hwl (wl_cons.mpr ⟨(wl_cons.mp hws).1, hws⟩)
    · cases hs
  · skip
    split at hs
    · cases hs
    · rename_i v st2 hv
      have hd : isDb v = false := by
        rcases v with z | r | x
        · rfl
        · rfl
        · exact absurd rfl (hv x)
      exact same (Option.some.inj hs).symm rfl hwl (wl_cons.mp hws).2
    · cases hs
  · skip
    split at hs
    · cases hs
    · cases hs
    · rename_i v u st2 hv hu
      have hd : isDb v = false := by
        rcases v with z | r | x
        · rfl
        · rfl
        · exact absurd rfl (hv x)
      have hd2 : isDb u = false := by
        rcases u with z | r | x
        · rfl
        · rfl
        · exact absurd rfl (hu x)
      exact same (Option.some.inj hs).symm rfl hwl (wl_cons.mpr ⟨(wl_c2 hws).1, wl_cons.mpr ⟨(wl_c2 hws).2.1, hws⟩⟩)
    · cases hs
  · skip
    split at hs
    · split at hs
      · rename_i ht
        exact same (Option.some.inj hs).symm rfl hwl (wl_cons.mp hws).2
      · cases hs
    · cases hs
  · skip
    split at hs
    · split at hs
      · rename_i ht
        exact same (Option.some.inj hs).symm rfl hwl (wl_c2 hws).2.2
      · cases hs
    · cases hs
  · skip
    split at hs
    · split at hs
      · rename_i ht
        exact same (Option.some.inj hs).symm rfl hwl (wl_cons.mp hws).2
      · cases hs
    · cases hs
  · skip
    split at hs
    · split at hs
      · rename_i ht
        exact same (Option.some.inj hs).symm rfl hwl (wl_cons.mp hws).2
      · cases hs
    · cases hs
  · skip
    split at hs
    · rename_i ht
      exact same (Option.some.inj hs).symm rfl hwl hws
    · cases hs
  · split at hs
    · split at hs
      · rename_i hq
        split at hs
        · rename_i ht
          exact same (Option.some.inj hs).symm rfl hwl (wl_cons.mp hws).2
        · cases hs
      · rename_i hq
        split at hs
        · rename_i off ho
          split at hs
          · rename_i ht
            exact same (Option.some.inj hs).symm rfl hwl (wl_cons.mp hws).2
          · cases hs
        · cases hs
    · cases hs
  · skip
    split at hs
    · split at hs
      · rename_i c0 fs hi
        split at hs
        · rename_i hc0
          subst hc0
          split at hs
          · rename_i v hv
            exact same (Option.some.inj hs).symm rfl hwl (wl_cons.mpr ⟨wl_get (wh_get hw hi) hv, (wl_cons.mp hws).2⟩)
          · cases hs
        · cases hs
      · cases hs
    · cases hs
  · skip
    split at hs
    · split at hs
      · rename_i c0 fs hi
        split at hs
        · rename_i hc0
          obtain ⟨hc0, hb, hf, hfin⟩ := hc0
          subst hc0
          exact sett (Option.some.inj hs).symm hi List.length_set (wl_set (wh_get hw hi) (wl_c2 hws).1) (wl_c2 hws).2.2
        · cases hs
      · cases hs
    · cases hs
  · skip
    split at hs
    · split at hs
      · rename_i c0 fs hi
        split at hs
        · rename_i hc0
          obtain ⟨hc0, hz⟩ := hc0
          subst hc0
          split at hs
          · rename_i x hv
            exact same (Option.some.inj hs).symm rfl hwl (wl_cons.mpr ⟨wl_get (wh_get hw hi) hv, (wl_c2 hws).2.2⟩)
          · cases hs
        · cases hs
      · cases hs
    · cases hs
  · skip
    split at hs
    · split at hs
      · rename_i c0 fs hi
        split at hs
        · rename_i hc0
          obtain ⟨hc0, hz, hlt⟩ := hc0
          subst hc0
          have h1 := wl_c2 hws
          exact sett (Option.some.inj hs).symm hi List.length_set (wl_set (wh_get hw hi) h1.1) (wl_cons.mp h1.2.2).2
        · cases hs
      · cases hs
    · cases hs
  · skip
    split at hs
    · split at hs
      · rename_i c0 fs hi
        split at hs
        · rename_i hc0
          obtain ⟨hc0, hz⟩ := hc0
          subst hc0
          split at hs
          · rename_i x hv
            exact same (Option.some.inj hs).symm rfl hwl (wl_cons.mpr ⟨wl_get (wh_get hw hi) hv, (wl_c2 hws).2.2⟩)
          · cases hs
        · cases hs
      · cases hs
    · cases hs
  · skip
    split at hs
    · split at hs
      · rename_i c0 fs c2 vs hi hv
        split at hs
        · rename_i hc0
          obtain ⟨hc0, hc2, hz, hlt⟩ := hc0
          subst hc0; subst hc2
          have h1 := wl_c2 hws
          exact sett (Option.some.inj hs).symm hi List.length_set (wl_set (wh_get hw hi) h1.1) (wl_cons.mp h1.2.2).2
        · cases hs
      · cases hs
    · cases hs
  · skip
    split at hs
    · split at hs
      · rename_i c0 fs hi
        split at hs
        · rename_i hc0
          exact same (Option.some.inj hs).symm rfl hwl (wl_cons.mpr ⟨nat_inr hc0.2, (wl_cons.mp hws).2⟩)
        · cases hs
      · cases hs
    · cases hs
  · skip
    split at hs
    · rename_i hn
      exact same (Option.some.inj hs).symm rfl hwl (wl_cons.mpr ⟨inrB_iff.mp hn, hws⟩)
    · cases hs
  · skip
    exact same (Option.some.inj hs).symm rfl hwl (wl_cons.mpr ⟨trivial, hws⟩)
  · skip
    obtain ⟨z, hz, hz2, ht⟩ := stL_spec hs
    exact same ht rfl hwl (wl_cons.mpr ⟨trivial, hws⟩)
  · skip
    obtain ⟨z, hz, hz2, ht⟩ := stL_spec hs
    exact same ht rfl hwl (wl_cons.mpr ⟨trivial, hws⟩)
  · skip
    obtain ⟨z, st2, rfl, hi, ht⟩ := ssL_spec hs
    exact same ht (by rw [List.length_set, List.length_set]) (wl_set (wl_set hwl trivial) trivial) (wl_cons.mp hws).2
  · skip
    obtain ⟨z, st2, rfl, hi, ht⟩ := ssL_spec hs
    exact same ht (by rw [List.length_set, List.length_set]) (wl_set (wl_set hwl trivial) trivial) (wl_cons.mp hws).2
  · skip
    split at hs
    · exact same (Option.some.inj hs).symm rfl hwl (wl_cons.mpr ⟨trivial, (wl_cons.mp hws).2⟩)
    · cases hs
  · skip
    split at hs
    · exact same (Option.some.inj hs).symm rfl hwl (wl_cons.mpr ⟨trivial, (wl_c2 hws).2.2⟩)
    · cases hs
  · skip
    split at hs
    · exact same (Option.some.inj hs).symm rfl hwl (wl_cons.mpr ⟨trivial, (wl_c2 hws).2.2⟩)
    · cases hs
  · skip
    split at hs
    · exact same (Option.some.inj hs).symm rfl hwl (wl_cons.mpr ⟨inr_toInt _, (wl_c2 hws).2.2⟩)
    · cases hs
  · skip
    split at hs
    · cases hs
      exact Kp_push hwl hws hw (dflO_wl _ _)
    · cases hs
  · skip
    split at hs
    · rename_i n st2
      split at hs
      · rename_i hq
        obtain ⟨_, rfl, h0, h1⟩ := hq
        cases hs
        have hwf : wl (h.length + 1) (List.replicate n.toNat (I 0)) := fun v hv => by rw [List.eq_of_mem_replicate hv]; exact inr_0
        exact Kp_push (o := (100, List.replicate n.toNat (I 0))) hwl (wl_cons.mp hws).2 hw hwf
      · cases hs
    · cases hs
  · skip
    split at hs
    · rename_i n st2
      split at hs
      · rename_i hq
        obtain ⟨_, rfl, h0, h1⟩ := hq
        cases hs
        have hwf : wl (h.length + 1) (List.replicate n.toNat Nu) := fun v hv => by rw [List.eq_of_mem_replicate hv]; trivial
        exact Kp_push (o := (101, List.replicate n.toNat Nu)) hwl (wl_cons.mp hws).2 hw hwf
      · cases hs
    · cases hs
  · cases hs
section Sound
variable {p : Program} {l : Launch} {e : Env} {R : Room} {s : State} {m : MethodId} {args : Array Value} {below : List Frame} {meth : Method} {c : Code} {D : va_G} {cI cG : ClassId} {A : Nat → Prop} {Q : State → Prop} {k nL cells slots : Nat} {as : List Nat} {ls st : List AV} {h : AH}
/-- a step: it keeps what it must, and the machine goes with it -/
theorem ast_sound (C : Ctx p s m args meth c D cI cG k) {E : AE} {t : ASt} (hD0 : decode (bM k) E.1 = .ok (E.2.1, E.2.2.1)) (hL : chkL E = true) (hO : chkO (mOs.getD k 0) E = true) (hs : ast (isI k) E ls st h = some t) (hl : as.length = h.length) (hw : wh h) (hwl : wl h.length ls) (hws : wl h.length st) (hA : ∀ q, s.heap.size ≤ q → A q) (hnL : ls.length = nL) :
    Kp ls h t ∧ (cells + (t.2.2.2.length - h.length) ≤ R.cells → slots + (slN t.2.2.2 - slN h) ≤ R.slots →
      (∀ as' : List Nat, as <+: as' → as'.length = t.2.2.2.length → Wg p l e R s m args below meth c D cI cG A Q nL as' (cells + (t.2.2.2.length - h.length)) (slots + (slN t.2.2.2 - slN h)) t.1 t.2.1 t.2.2.1 t.2.2.2) → Wg p l e R s m args below meth c D cI cG A Q nL as cells slots E.1 ls st h) := by
  have same : ∀ {pc' : Nat} {ls' st' : List AV}, t = (pc', ls', st', h) → ls'.length = ls.length → wl h.length ls' → wl h.length st' → (Wg p l e R s m args below meth c D cI cG A Q nL as cells slots pc' ls' st' h → Wg p l e R s m args below meth c D cI cG A Q nL as cells slots E.1 ls st h) →
      Kp ls h t ∧ (cells + (t.2.2.2.length - h.length) ≤ R.cells → slots + (slN t.2.2.2 - slN h) ≤ R.slots → (∀ as' : List Nat, as <+: as' → as'.length = t.2.2.2.length → Wg p l e R s m args below meth c D cI cG A Q nL as' (cells + (t.2.2.2.length - h.length)) (slots + (slN t.2.2.2 - slN h)) t.1 t.2.1 t.2.2.1 t.2.2.2) → Wg p l e R s m args below meth c D cI cG A Q nL as cells slots E.1 ls st h) := by
    intro pc' ls' st' h5 h1 h2 h3 h4
    subst h5
    refine ⟨Kp_same h1 h2 h3 hw, fun _ _ kk => h4 ?_⟩
    have := kk as (List.prefix_refl _) hl
    simp only [Nat.sub_self, Nat.add_zero] at this
    exact this
  have sett : ∀ {pc' i c0 : Nat} {st' fs fs' : List AV}, t = (pc', ls, st', h.set i (c0, fs')) → h[i]? = some (c0, fs) → fs'.length = fs.length → wl h.length fs' → wl h.length st' → (Wg p l e R s m args below meth c D cI cG A Q nL as cells slots pc' ls st' (h.set i (c0, fs')) → Wg p l e R s m args below meth c D cI cG A Q nL as cells slots E.1 ls st h) →
      Kp ls h t ∧ (cells + (t.2.2.2.length - h.length) ≤ R.cells → slots + (slN t.2.2.2 - slN h) ≤ R.slots → (∀ as' : List Nat, as <+: as' → as'.length = t.2.2.2.length → Wg p l e R s m args below meth c D cI cG A Q nL as' (cells + (t.2.2.2.length - h.length)) (slots + (slN t.2.2.2 - slN h)) t.1 t.2.1 t.2.2.1 t.2.2.2) → Wg p l e R s m args below meth c D cI cG A Q nL as cells slots E.1 ls st h) := by
    intro pc' i c0 st' fs fs' h5 h1 h2 h3 h3' h4
    subst h5
    refine ⟨Kp_set hwl h3' hw h1 h2 h3, fun _ _ kk => h4 ?_⟩
    have := kk as (List.prefix_refl _) (by rw [hl]; exact List.length_set.symm)
    simp only [List.length_set, slN_set h1 h2, Nat.sub_self, Nat.add_zero] at this
    exact this
  obtain ⟨pc, ins, len, a, b, pl⟩ := E
  unfold ast at hs
  simp only [] at hs hD0
  split at hs
  · rename_i n
    have e := chkL_len hL (fun _ _ _ _ => by intro q; cases q); subst e
    split at hs
    · rename_i hn
      exact same (Option.some.inj hs).symm rfl hwl (wl_cons.mpr ⟨inrB_iff.mp hn, hws⟩) (g_iconst C hD0)
    · cases hs
  · rename_i n
    have e := chkL_len hL (fun _ _ _ _ => by intro q; cases q); subst e
    split at hs
    · rename_i hn
      simp only [Bool.and_eq_true, decide_eq_true_eq] at hn
      exact same (Option.some.inj hs).symm rfl hwl (wl_cons.mpr ⟨inrB_iff.mp hn.1, hws⟩) (g_bipush C hD0 hn.2)
    · cases hs
  · rename_i n
    have e := chkL_len hL (fun _ _ _ _ => by intro q; cases q); subst e
    split at hs
    · rename_i hn
      simp only [Bool.and_eq_true, decide_eq_true_eq] at hn
      exact same (Option.some.inj hs).symm rfl hwl (wl_cons.mpr ⟨inrB_iff.mp hn.1, hws⟩) (g_sipush C hD0 hn.2)
    · cases hs
  · have e := chkL_len hL (fun _ _ _ _ => by intro q; cases q); subst e
    exact same (Option.some.inj hs).symm rfl hwl (wl_cons.mpr ⟨trivial, hws⟩) (g_null C hD0)
  · have e := chkL_len hL (fun _ _ _ _ => by intro q; cases q); subst e
    obtain ⟨z, hz, ht⟩ := stI_spec hs
    exact same ht rfl hwl (wl_cons.mpr ⟨wl_get hwl hz, hws⟩) (g_iload_n C hD0 hz)
  · have e := chkL_len hL (fun _ _ _ _ => by intro q; cases q); subst e
    obtain ⟨z, hz, ht⟩ := stI_spec hs
    exact same ht rfl hwl (wl_cons.mpr ⟨wl_get hwl hz, hws⟩) (g_iload C hD0 hz)
  · have e := chkL_len hL (fun _ _ _ _ => by intro q; cases q); subst e
    obtain ⟨z, hz, ht⟩ := stA_spec hs
    exact same ht rfl hwl (wl_cons.mpr ⟨wl_get hwl hz, hws⟩) (g_aload_n C hD0 hz)
  · have e := chkL_len hL (fun _ _ _ _ => by intro q; cases q); subst e
    obtain ⟨z, hz, ht⟩ := stA_spec hs
    exact same ht rfl hwl (wl_cons.mpr ⟨wl_get hwl hz, hws⟩) (g_aload C hD0 hz)
  · have e := chkL_len hL (fun _ _ _ _ => by intro q; cases q); subst e
    obtain ⟨z, st2, rfl, hi, ht⟩ := ssI_spec hs
    exact same ht List.length_set (wl_set hwl (wl_cons.mp hws).1) (wl_cons.mp hws).2 (g_istore_n C hD0 (by rw [← hnL]; exact hi))
  · have e := chkL_len hL (fun _ _ _ _ => by intro q; cases q); subst e
    obtain ⟨z, st2, rfl, hi, ht⟩ := ssI_spec hs
    exact same ht List.length_set (wl_set hwl (wl_cons.mp hws).1) (wl_cons.mp hws).2 (g_istore C hD0 (by rw [← hnL]; exact hi))
  · have e := chkL_len hL (fun _ _ _ _ => by intro q; cases q); subst e
    obtain ⟨z, st2, rfl, hi, ht⟩ := ssA_spec hs
    exact same ht List.length_set (wl_set hwl (wl_cons.mp hws).1) (wl_cons.mp hws).2 (g_astore_n C hD0 (by rw [← hnL]; exact hi))
  · rename_i i n
    have e := chkL_len hL (fun _ _ _ _ => by intro q; cases q); subst e
    split at hs
    · rename_i z hz
      exact same (Option.some.inj hs).symm List.length_set (wl_set hwl (inr_w2 _ _ _)) hws (g_iinc C hD0 hz (by rw [← hnL]; exact (List.getElem?_eq_some_iff.mp hz).1))
    · cases hs
  · have e := chkL_len hL (fun _ _ _ _ => by intro q; cases q); subst e
    obtain ⟨x, y, st2, rfl, ht⟩ := sbin_spec hs
    exact same ht rfl hwl (wl_cons.mpr ⟨inr_w2 _ _ _, (wl_c2 hws).2.2⟩) (g_iadd C hD0)
  · have e := chkL_len hL (fun _ _ _ _ => by intro q; cases q); subst e
    obtain ⟨x, y, st2, rfl, ht⟩ := sbin_spec hs
    exact same ht rfl hwl (wl_cons.mpr ⟨inr_w2 _ _ _, (wl_c2 hws).2.2⟩) (g_isub C hD0)
  · have e := chkL_len hL (fun _ _ _ _ => by intro q; cases q); subst e
    obtain ⟨x, y, st2, rfl, ht⟩ := sbin_spec hs
    exact same ht rfl hwl (wl_cons.mpr ⟨inr_w2 _ _ _, (wl_c2 hws).2.2⟩) (g_imul C hD0)
  · have e := chkL_len hL (fun _ _ _ _ => by intro q; cases q); subst e
    obtain ⟨x, y, st2, rfl, ht⟩ := sbin_spec hs
    exact same ht rfl hwl (wl_cons.mpr ⟨inr_w2 _ _ _, (wl_c2 hws).2.2⟩) (g_iand C hD0)
  · have e := chkL_len hL (fun _ _ _ _ => by intro q; cases q); subst e
    obtain ⟨x, y, st2, rfl, ht⟩ := sbin_spec hs
    exact same ht rfl hwl (wl_cons.mpr ⟨inr_w2 _ _ _, (wl_c2 hws).2.2⟩) (g_ior C hD0)
  · have e := chkL_len hL (fun _ _ _ _ => by intro q; cases q); subst e
    obtain ⟨x, y, st2, rfl, ht⟩ := sbin_spec hs
    exact same ht rfl hwl (wl_cons.mpr ⟨inr_w2 _ _ _, (wl_c2 hws).2.2⟩) (g_ishl C hD0)
  · have e := chkL_len hL (fun _ _ _ _ => by intro q; cases q); subst e
    obtain ⟨x, y, st2, rfl, ht⟩ := sbin_spec hs
    exact same ht rfl hwl (wl_cons.mpr ⟨inr_w2 _ _ _, (wl_c2 hws).2.2⟩) (g_ishr C hD0)
  · have e := chkL_len hL (fun _ _ _ _ => by intro q; cases q); subst e
    obtain ⟨x, y, st2, rfl, hy, ht⟩ := sdiv_spec hs
    exact same ht rfl hwl (wl_cons.mpr ⟨inr_w2 _ _ _, (wl_c2 hws).2.2⟩) (g_idiv C hD0 (wl_c2 hws).1 hy)
  · have e := chkL_len hL (fun _ _ _ _ => by intro q; cases q); subst e
    obtain ⟨x, y, st2, rfl, hy, ht⟩ := sdiv_spec hs
    exact same ht rfl hwl (wl_cons.mpr ⟨inr_w2 _ _ _, (wl_c2 hws).2.2⟩) (g_irem C hD0 (wl_c2 hws).1 hy)
  · have e := chkL_len hL (fun _ _ _ _ => by intro q; cases q); subst e
    split at hs
    · exact same (Option.some.inj hs).symm rfl hwl (wl_cons.mpr ⟨inr_w2 _ _ _, (wl_cons.mp hws).2⟩) (g_ineg C hD0)
    · cases hs
  · have e := chkL_len hL (fun _ _ _ _ => by intro q; cases q); subst e
    split at hs
    · cases hs
    · rename_i v st2 hv
      have hd : isDb v = false := by
        rcases v with z | r | x
        · rfl
        · rfl
        · exact absurd rfl (hv x)
      exact same (Option.some.inj hs).symm rfl hwl (wl_cons.mpr ⟨(wl_cons.mp hws).1, hws⟩) (g_dup C hD0 hd)
    · cases hs
  · have e := chkL_len hL (fun _ _ _ _ => by intro q; cases q); subst e
    split at hs
    · cases hs
    · rename_i v st2 hv
      have hd : isDb v = false := by
        rcases v with z | r | x
        · rfl
        · rfl
        · exact absurd rfl (hv x)
      exact same (Option.some.inj hs).symm rfl hwl (wl_cons.mp hws).2 (g_pop C hD0 hd)
    · cases hs
  · have e := chkL_len hL (fun _ _ _ _ => by intro q; cases q); subst e
    split at hs
    · cases hs
    · cases hs
    · rename_i v u st2 hv hu
      have hd : isDb v = false := by
        rcases v with z | r | x
        · rfl
        · rfl
        · exact absurd rfl (hv x)
      have hd2 : isDb u = false := by
        rcases u with z | r | x
        · rfl
        · rfl
        · exact absurd rfl (hu x)
      exact same (Option.some.inj hs).symm rfl hwl (wl_cons.mpr ⟨(wl_c2 hws).1, wl_cons.mpr ⟨(wl_c2 hws).2.1, hws⟩⟩) (g_dup2 C hD0 hd hd2)
    · cases hs
  · have e := chkL_len hL (fun _ _ _ _ => by intro q; cases q); subst e
    split at hs
    · split at hs
      · rename_i ht
        exact same (Option.some.inj hs).symm rfl hwl (wl_cons.mp hws).2 (g_if C hD0 ht (wl_cons.mp hws).1)
      · cases hs
    · cases hs
  · have e := chkL_len hL (fun _ _ _ _ => by intro q; cases q); subst e
    split at hs
    · split at hs
      · rename_i ht
        exact same (Option.some.inj hs).symm rfl hwl (wl_c2 hws).2.2 (g_icmp C hD0 ht (wl_c2 hws).2.1 (wl_c2 hws).1)
      · cases hs
    · cases hs
  · have e := chkL_len hL (fun _ _ _ _ => by intro q; cases q); subst e
    split at hs
    · split at hs
      · rename_i ht
        exact same (Option.some.inj hs).symm rfl hwl (wl_cons.mp hws).2 (g_ifnull C hD0 ht)
      · cases hs
    · cases hs
  · have e := chkL_len hL (fun _ _ _ _ => by intro q; cases q); subst e
    split at hs
    · split at hs
      · rename_i ht
        exact same (Option.some.inj hs).symm rfl hwl (wl_cons.mp hws).2 (g_ifnonnull C hD0 ht)
      · cases hs
    · cases hs
  · have e := chkL_len hL (fun _ _ _ _ => by intro q; cases q); subst e
    split at hs
    · rename_i ht
      exact same (Option.some.inj hs).symm rfl hwl hws (g_goto C hD0 ht)
    · cases hs
  · split at hs
    · split at hs
      · rename_i hq
        split at hs
        · rename_i ht
          exact same (Option.some.inj hs).symm rfl hwl (wl_cons.mp hws).2 (g_tabOut C hD0 (wl_cons.mp hws).1 hq ht)
        · cases hs
      · rename_i hq
        split at hs
        · rename_i off ho
          split at hs
          · rename_i ht
            exact same (Option.some.inj hs).symm rfl hwl (wl_cons.mp hws).2 (g_tabIn C hD0 (wl_cons.mp hws).1 hq ho ht)
          · cases hs
        · cases hs
    · cases hs
  · have e := chkL_len hL (fun _ _ _ _ => by intro q; cases q); subst e
    split at hs
    · split at hs
      · rename_i c0 fs hi
        split at hs
        · rename_i hc0
          subst hc0
          split at hs
          · rename_i v hv
            exact same (Option.some.inj hs).symm rfl hwl (wl_cons.mpr ⟨wl_get (wh_get hw hi) hv, (wl_cons.mp hws).2⟩) (g_getf C hD0 hl hO hi hv)
          · cases hs
        · cases hs
      · cases hs
    · cases hs
  · have e := chkL_len hL (fun _ _ _ _ => by intro q; cases q); subst e
    split at hs
    · split at hs
      · rename_i c0 fs hi
        split at hs
        · rename_i hc0
          obtain ⟨hc0, hb, hf, hfin⟩ := hc0
          subst hc0
          exact sett (Option.some.inj hs).symm hi List.length_set (wl_set (wh_get hw hi) (wl_c2 hws).1) (wl_c2 hws).2.2 (g_putf C hD0 hl hO hi hb hf hfin)
        · cases hs
      · cases hs
    · cases hs
  · have e := chkL_len hL (fun _ _ _ _ => by intro q; cases q); subst e
    split at hs
    · split at hs
      · rename_i c0 fs hi
        split at hs
        · rename_i hc0
          obtain ⟨hc0, hz⟩ := hc0
          subst hc0
          split at hs
          · rename_i x hv
            exact same (Option.some.inj hs).symm rfl hwl (wl_cons.mpr ⟨wl_get (wh_get hw hi) hv, (wl_c2 hws).2.2⟩) (g_iald C hD0 hl (wl_c2 hws).1 hz hi hv)
          · cases hs
        · cases hs
      · cases hs
    · cases hs
  · have e := chkL_len hL (fun _ _ _ _ => by intro q; cases q); subst e
    split at hs
    · split at hs
      · rename_i c0 fs hi
        split at hs
        · rename_i hc0
          obtain ⟨hc0, hz, hlt⟩ := hc0
          subst hc0
          have h1 := wl_c2 hws
          exact sett (Option.some.inj hs).symm hi List.length_set (wl_set (wh_get hw hi) h1.1) (wl_cons.mp h1.2.2).2 (g_iast C hD0 hl h1.2.1 hz hi hlt)
        · cases hs
      · cases hs
    · cases hs
  · have e := chkL_len hL (fun _ _ _ _ => by intro q; cases q); subst e
    split at hs
    · split at hs
      · rename_i c0 fs hi
        split at hs
        · rename_i hc0
          obtain ⟨hc0, hz⟩ := hc0
          subst hc0
          split at hs
          · rename_i x hv
            exact same (Option.some.inj hs).symm rfl hwl (wl_cons.mpr ⟨wl_get (wh_get hw hi) hv, (wl_c2 hws).2.2⟩) (g_aald C hD0 hl (wl_c2 hws).1 hz hi hv)
          · cases hs
        · cases hs
      · cases hs
    · cases hs
  · have e := chkL_len hL (fun _ _ _ _ => by intro q; cases q); subst e
    split at hs
    · split at hs
      · rename_i c0 fs c2 vs hi hv
        split at hs
        · rename_i hc0
          obtain ⟨hc0, hc2, hz, hlt⟩ := hc0
          subst hc0; subst hc2
          have h1 := wl_c2 hws
          exact sett (Option.some.inj hs).symm hi List.length_set (wl_set (wh_get hw hi) h1.1) (wl_cons.mp h1.2.2).2 (g_aast C hD0 hl h1.2.1 hz hi hv hlt)
        · cases hs
      · cases hs
    · cases hs
  · have e := chkL_len hL (fun _ _ _ _ => by intro q; cases q); subst e
    split at hs
    · split at hs
      · rename_i c0 fs hi
        split at hs
        · rename_i hc0
          exact same (Option.some.inj hs).symm rfl hwl (wl_cons.mpr ⟨nat_inr hc0.2, (wl_cons.mp hws).2⟩) (g_alen C hD0 hl hc0.1 hi)
        · cases hs
      · cases hs
    · cases hs
  · skip
    have e := chkL_len hL (fun _ _ _ _ => by intro q; cases q); subst e
    split at hs
    · rename_i hn
      exact same (Option.some.inj hs).symm rfl hwl (wl_cons.mpr ⟨inrB_iff.mp hn, hws⟩) (g_ldc C hD0 hO)
    · cases hs
  · skip
    have e := chkL_len hL (fun _ _ _ _ => by intro q; cases q); subst e
    exact same (Option.some.inj hs).symm rfl hwl (wl_cons.mpr ⟨trivial, hws⟩) (g_ldc2 C hD0 hO)
  · skip
    have e := chkL_len hL (fun _ _ _ _ => by intro q; cases q); subst e
    obtain ⟨z, hz, hz2, ht⟩ := stL_spec hs
    exact same ht rfl hwl (wl_cons.mpr ⟨trivial, hws⟩) (g_lload_n C hD0 hz hz2)
  · skip
    have e := chkL_len hL (fun _ _ _ _ => by intro q; cases q); subst e
    obtain ⟨z, hz, hz2, ht⟩ := stL_spec hs
    exact same ht rfl hwl (wl_cons.mpr ⟨trivial, hws⟩) (g_lload C hD0 hz hz2)
  · skip
    have e := chkL_len hL (fun _ _ _ _ => by intro q; cases q); subst e
    obtain ⟨z, st2, rfl, hi, ht⟩ := ssL_spec hs
    exact same ht (by rw [List.length_set, List.length_set]) (wl_set (wl_set hwl trivial) trivial) (wl_cons.mp hws).2 (g_lstore_n C hD0 (by rw [← hnL]; exact hi))
  · skip
    have e := chkL_len hL (fun _ _ _ _ => by intro q; cases q); subst e
    obtain ⟨z, st2, rfl, hi, ht⟩ := ssL_spec hs
    exact same ht (by rw [List.length_set, List.length_set]) (wl_set (wl_set hwl trivial) trivial) (wl_cons.mp hws).2 (g_lstore C hD0 (by rw [← hnL]; exact hi))
  · skip
    have e := chkL_len hL (fun _ _ _ _ => by intro q; cases q); subst e
    split at hs
    · exact same (Option.some.inj hs).symm rfl hwl (wl_cons.mpr ⟨trivial, (wl_cons.mp hws).2⟩) (g_i2l C hD0)
    · cases hs
  · skip
    have e := chkL_len hL (fun _ _ _ _ => by intro q; cases q); subst e
    split at hs
    · exact same (Option.some.inj hs).symm rfl hwl (wl_cons.mpr ⟨trivial, (wl_c2 hws).2.2⟩) (g_ladd C hD0)
    · cases hs
  · skip
    have e := chkL_len hL (fun _ _ _ _ => by intro q; cases q); subst e
    split at hs
    · exact same (Option.some.inj hs).symm rfl hwl (wl_cons.mpr ⟨trivial, (wl_c2 hws).2.2⟩) (g_lmul C hD0)
    · cases hs
  · skip
    have e := chkL_len hL (fun _ _ _ _ => by intro q; cases q); subst e
    split at hs
    · exact same (Option.some.inj hs).symm rfl hwl (wl_cons.mpr ⟨inr_toInt _, (wl_c2 hws).2.2⟩) (g_lcmp C hD0)
    · cases hs
  · have e := chkL_len hL (fun _ _ _ _ => by intro q; cases q); subst e
    split at hs
    · cases hs
      refine ⟨Kp_push hwl hws hw (dflO_wl _ _), fun hc2 hs2 kk => ?_⟩
      have ho : a < 8 := by
        unfold chkO at hO
        simp only [] at hO
        split at hO
        · rename_i hq; exact vw_lt hq
        · cases hO
      have e1 : (h ++ [(a, dflO a)]).length - h.length = 1 := by simp
      have e2 : slN (h ++ [(a, dflO a)]) - slN h = nC a := by
        rw [slN_push]
        show slN h + slO (a, dflO a) - slN h = nC a
        unfold slO
        rw [if_neg (by simp only []; omega)]
        exact Nat.add_sub_cancel_left _ _
      have hc3 : cells + ((h ++ [(a, dflO a)]).length - h.length) ≤ R.cells := hc2
      have hs3 : slots + (slN (h ++ [(a, dflO a)]) - slN h) ≤ R.slots := hs2
      rw [e1] at hc3
      rw [e2] at hs3
      refine g_new C hl hw hwl hws hD0 (by unfold chkO at hO ⊢; exact hO) hA hc3 hs3 (fun q => ?_)
      have h3 := kk (as ++ [q]) (List.prefix_append _ _) (by show (as ++ [q]).length = (h ++ [(a, dflO a)]).length; simp [hl])
      have h4 : Wg p l e R s m args below meth c D cI cG A Q nL (as ++ [q]) (cells + ((h ++ [(a, dflO a)]).length - h.length)) (slots + (slN (h ++ [(a, dflO a)]) - slN h)) (pc + 3) ls (Rf h.length :: st) (h ++ [(a, dflO a)]) := h3
      rw [e1, e2] at h4
      exact h4
    · cases hs
  · have e := chkL_len hL (fun _ _ _ _ => by intro q; cases q); subst e
    split at hs
    · rename_i n st2
      split at hs
      · rename_i hq
        obtain ⟨_, rfl, h0, h1⟩ := hq
        cases hs
        have hwf : wl (h.length + 1) (List.replicate n.toNat (I 0)) := fun v hv => by rw [List.eq_of_mem_replicate hv]; exact inr_0
        refine ⟨Kp_push (o := (100, List.replicate n.toNat (I 0))) hwl (wl_cons.mp hws).2 hw hwf, fun hc2 hs2 kk => ?_⟩
        have e1 : (h ++ [(100, List.replicate n.toNat (I 0))]).length - h.length = 1 := by simp
        have e2 : slN (h ++ [(100, List.replicate n.toNat (I 0))]) - slN h = n.toNat := by
          rw [slN_push]
          show slN h + slO (100, List.replicate n.toNat (I 0)) - slN h = n.toNat
          unfold slO
          rw [if_pos (Or.inl rfl), List.length_replicate]
          omega
        have hc3 : cells + ((h ++ [(100, List.replicate n.toNat (I 0))]).length - h.length) ≤ R.cells := hc2
        have hs3 : slots + (slN (h ++ [(100, List.replicate n.toNat (I 0))]) - slN h) ≤ R.slots := hs2
        rw [e1] at hc3
        rw [e2] at hs3
        refine g_newa C hl hw hwl (wl_cons.mp hws).2 hD0 h0 h1 hA hc3 hs3 (fun q => ?_)
        have h3 := kk (as ++ [q]) (List.prefix_append _ _) (by show (as ++ [q]).length = (h ++ [(100, List.replicate n.toNat (I 0))]).length; simp [hl])
        have h4 : Wg p l e R s m args below meth c D cI cG A Q nL (as ++ [q]) (cells + ((h ++ [(100, List.replicate n.toNat (I 0))]).length - h.length)) (slots + (slN (h ++ [(100, List.replicate n.toNat (I 0))]) - slN h)) (pc + 2) ls (Rf h.length :: st2) (h ++ [(100, List.replicate n.toNat (I 0))]) := h3
        rw [e1, e2] at h4
        exact h4
      · cases hs
    · cases hs
  · have e := chkL_len hL (fun _ _ _ _ => by intro q; cases q); subst e
    split at hs
    · rename_i n st2
      split at hs
      · rename_i hq
        obtain ⟨_, rfl, h0, h1⟩ := hq
        cases hs
        have hwf : wl (h.length + 1) (List.replicate n.toNat Nu) := fun v hv => by rw [List.eq_of_mem_replicate hv]; trivial
        refine ⟨Kp_push (o := (101, List.replicate n.toNat Nu)) hwl (wl_cons.mp hws).2 hw hwf, fun hc2 hs2 kk => ?_⟩
        have e1 : (h ++ [(101, List.replicate n.toNat Nu)]).length - h.length = 1 := by simp
        have e2 : slN (h ++ [(101, List.replicate n.toNat Nu)]) - slN h = n.toNat := by
          rw [slN_push]
          show slN h + slO (101, List.replicate n.toNat Nu) - slN h = n.toNat
          unfold slO
          rw [if_pos (Or.inr rfl), List.length_replicate]
          omega
        have hc3 : cells + ((h ++ [(101, List.replicate n.toNat Nu)]).length - h.length) ≤ R.cells := hc2
        have hs3 : slots + (slN (h ++ [(101, List.replicate n.toNat Nu)]) - slN h) ≤ R.slots := hs2
        rw [e1] at hc3
        rw [e2] at hs3
        refine g_anew C hl hw hwl (wl_cons.mp hws).2 hD0 (lwG_in (isW_mem hO) rfl) h0 h1 hA hc3 hs3 (fun q => ?_)
        have h3 := kk (as ++ [q]) (List.prefix_append _ _) (by show (as ++ [q]).length = (h ++ [(101, List.replicate n.toNat Nu)]).length; simp [hl])
        have h4 : Wg p l e R s m args below meth c D cI cG A Q nL (as ++ [q]) (cells + ((h ++ [(101, List.replicate n.toNat Nu)]).length - h.length)) (slots + (slN (h ++ [(101, List.replicate n.toNat Nu)]) - slN h)) (pc + 3) ls (Rf h.length :: st2) (h ++ [(101, List.replicate n.toNat Nu)]) := h3
        rw [e1, e2] at h4
        exact h4
      · cases hs
    · cases hs
  · cases hs
end Sound
end
section
/-! ===== WHOLE RUNS ===== -/
/-- what a run keeps: the heap in range, the answer in range, the heap grows alone -/
def KpR (h : AH) (r : Option AV) (h' : AH) : Prop := wh h' ∧ (∀ v, r = some v → wv h'.length v) ∧ h.length ≤ h'.length ∧ slN h ≤ slN h'
theorem retOk_wv {k : Nat} {st : List AV} {i : Instr} {r : Option AV} {n : Nat} (hr : retOk k st i = some r) (hws : wl n st) : ∀ v, r = some v → wv n v := by
  intro v hv
  subst hv
  unfold retOk at hr
  split at hr
  · cases hr
  · cases hr; exact (wl_cons.mp hws).1
  · split at hr
    · cases hr; exact (wl_cons.mp hws).1
    · cases hr
  · cases hr; exact (wl_cons.mp hws).1
  · cases hr; trivial
  · cases hr
theorem mathB_wl {a n : Nat} {st rest : List AV} {v : AV} (hv : mathB a st = some (v, rest)) (hws : wl n st) : wl n (v :: rest) := by
  unfold mathB at hv
  split at hv
  · rename_i y st1
    have hy : wv n (I y) := (wl_cons.mp hws).1
    have h1 := (wl_cons.mp hws).2
    split at hv
    · cases hv
      refine wl_cons.mpr ⟨?_, h1⟩
      show inr _
      split
      · exact hy
      · exact inr_w2 _ _ _
    · split at hv
      · rename_i x st2
        have hx : wv n (I x) := (wl_cons.mp h1).1
        split at hv
        · cases hv
          refine wl_cons.mpr ⟨?_, (wl_cons.mp h1).2⟩
          show inr _
          split
          · exact hy
          · exact hx
        · split at hv
          · cases hv
            refine wl_cons.mpr ⟨?_, (wl_cons.mp h1).2⟩
            show inr _
            split
            · exact hy
            · exact hx
          · cases hv
      · cases hv
  · cases hv
theorem loc0_wl {n k : Nat} {av : List AV} (h : wl n av) : wl n (loc0 k av) := wl_app.mpr ⟨h, fun v hv => by rw [List.eq_of_mem_replicate hv]; trivial⟩
theorem loc0_len {k : Nat} {av : List AV} (h : av.length ≤ maxl k) : (loc0 k av).length = maxl k := by
  unfold loc0
  simp
  omega
theorem isI_ret_all : ∀ k, k < 117 → isI k = true → rM k = none := by decide +kernel
theorem isI_ret {k : Nat} (h : k < 117) (hi : isI k = true) : rM k = none := isI_ret_all k h hi
theorem ret_len {k : Nat} {st : List AV} {i : Instr} {r : Option AV} (h : retOk k st i = some r) : lenI i = 1 := by
  unfold retOk at h
  split at h <;> first | rfl | cases h
section Runs
variable {l : Launch} {D : va_G} {cI cG : ClassId}
/-- a run from any point, as the machine's -/
def RunS (l : Launch) (D : va_G) (cI cG : ClassId) (n : Nat) : Prop := ∀ (k pc : Nat) (ls st : List AV) (h : AH) (r : Option AV) (h' : AH), arun n k pc ls st h = some (r, h') → k < 117 → wh h → wl h.length ls → wl h.length st → ls.length = maxl k →
  KpR h r h' ∧ ∀ (p : Program) (e : Env) (R : Room) (s : State) (m : MethodId) (args : Array Value) (below : List Frame) (meth : Method) (c : Code) (A : Nat → Prop) (as0 as : List Nat) (cells slots mc ms : Nat), Ctx p s m args meth c D cI cG k → as0 <+: as → as.length = h.length → (∀ q, s.heap.size ≤ q → A q) → dpM k ≤ R.frames → lcM k ≤ R.locals → cells + (h'.length - h.length) = mc → slots + (slN h' - slN h) = ms → mc ≤ R.cells → ms ≤ R.slots →
    Wg p l e R s m args below meth c D cI cG A (MQ below (Qcn D cI cG as0 h' r A) args s mc ms A) (maxl k) as cells slots pc ls st h
set_option maxHeartbeats 4000000 in
/-- the contract of a method, out of runs -/
theorem Cok_of {n k : Nat} {as : List Nat} {av : List AV} {h : AH} {r : Option AV} {h' : AH} (ih : RunS l D cI cG n) (hr : arun n k 0 (loc0 k av) [] h = some (r, h')) (hk : k < 117) (hw : wh h) (hav : wl h.length av) (hn : av.length = nar k) (hmx : nar k ≤ maxl k) (hdb : noDb av = true) (hl : as.length = h.length) : Cok l D cI cG k as av h r h' := by
  obtain ⟨m1, m2, m3, m4, m5, m6, m7, m8⟩ := okM_spec hk
  intro sz
  refine Met.ofW (cc := bM k) (maxL := maxl k) (ret := rM k) m5 rfl ?_
  intro p e s m args below meth c s₁ B hml hv
  obtain ⟨rfl, hsz, hP, hK, hAO, hN, hD0⟩ := hv
  have hts0 := atoms_spec (ws := wsM k) B.pre
  have hts : ∀ w ∈ lwG, w.before ((av.map (cv as)).toArray) s = true := fun w hw => hts0 w (List.mem_cons_of_mem _ hw)
  have hown : s.vm.findClass (oN (mOs.getD k 0)) = some m.cls := by rw [m8]; exact findClass_of_methodNamed B.named
  have C : Ctx p s m ((av.map (cv as)).toArray) meth c D cI cG k := ⟨B.exec, B.bytes, hml, hown, hts, hK, hAO, B.notSynchronized, B.returns, fun q => by
    have h1 : meth.name = (yM k).name := (name_of_methodNamed B.named B.method).1
    rw [h1]
    simpa [isI] using q, hN⟩
  subst hsz
  have hD := hD0.self (sz := s.heap.size)
  have hA : ∀ q : Nat, s.heap.size ≤ q → va_A (wsO cI cG as h) s.heap.size q := fun q h => Or.inr h
  have hS : va_S (va_A (wsO cI cG as h) s.heap.size) s.heap s.heap [] := va_S.rf
  have hlen : (lg_sl (av.map (cv as))).length ≤ maxl k := by rw [lg_sl_len hdb, hn]; exact hmx
  have hl0 := lv_entry (av.map (cv as)) (n := maxl k) hlen
  rw [lg_entry_eq]
  generalize (lg_sl (av.map (cv as)) ++ List.replicate (maxl k - (lg_sl (av.map (cv as))).length) Slot.unset).toArray = lsA at hl0 ⊢
  have hlv : lv_has lsA (maxl k) (lvl as 0 (loc0 k av)) := by
    unfold loc0
    rw [lvl_append hdb, lvl_db, List.append_nil, ← lv_args_eq hdb]
    exact hl0
  have h1 := (ih k 0 (loc0 k av) [] h r h' hr hk hw (loc0_wl hav) wl_nil (loc0_len (by rw [hn]; exact hmx))).2 p e (headSpec (wsM k) (rmM k h h')).room s m ((av.map (cv as)).toArray) below meth c (va_A (wsO cI cG as h) s.heap.size) as as 0 0 (h'.length - h.length) (slN h' - slN h) C (List.prefix_refl _) hl hA (Nat.le_refl _) (Nat.le_refl _) (Nat.zero_add _) (Nat.zero_add _) (Nat.le_refl _) (Nat.le_refl _)
  exact h1 s.heap [] lsA hP hD hS hlv
set_option maxHeartbeats 8000000 in
theorem runs (n : Nat) : RunS l D cI cG n := by
  induction n with
  | zero =>
    intro k pc ls st h r h' hr
    exact absurd hr (by simp [arun])
  | succ n ih =>
    intro k pc ls st h r h' hr hk hw hwl hws hls
    unfold arun at hr
    split at hr
    · cases hr
    rename_i E hE
    obtain ⟨hmem, hpc⟩ := cd_mem hE
    subst hpc
    have hD0 := okD_spec hk hmem
    obtain ⟨hL, hO⟩ := okL_spec hk hmem
    split at hr
    · rename_i pc' ls' st' h1 hs
      obtain ⟨k1, k2, k3, k4, k5, k6⟩ := ast_kp hs hw hwl hws
      obtain ⟨⟨q1, q2, q3, q4⟩, q5⟩ := ih k pc' ls' st' h1 r h' hr hk k4 k2 k3 (k1.trans hls)
      refine ⟨⟨q1, q2, Nat.le_trans k5 q3, Nat.le_trans k6 q4⟩, ?_⟩
      intro p e R s m args below meth c A as0 as cells slots mc ms C has hl hA hRf hRl hmc hms hmc2 hms2
      have k5' : h.length ≤ h1.length := k5
      have k6' : slN h ≤ slN h1 := k6
      refine (ast_sound C hD0 hL hO hs hl hw hwl hws hA hls).2 (by show cells + (h1.length - h.length) ≤ R.cells; omega) (by show slots + (slN h1 - slN h) ≤ R.slots; omega) (fun as' g1 g2 => ?_)
      exact q5 p e R s m args below meth c A as0 as' _ _ mc ms C (has.trans g1) g2 hA hRf hRl (by show cells + (h1.length - h.length) + (h'.length - h1.length) = mc; omega) (by show slots + (slN h1 - slN h) + (slN h' - slN h1) = ms; omega) hmc2 hms2
    · split at hr
      · -- invokevirtual
        rename_i idx hins
        obtain ⟨pc, ins, len, a, b, pl⟩ := E
        simp only [] at hins hr hD0
        subst hins
        have e := chkL_len hL (fun _ _ _ _ => by intro q; cases q); subst e
        split at hr
        · rename_i av rest hst
          split at hr
          · rename_i hok
            simp only [Bool.and_eq_true, Bool.not_eq_true'] at hok
            obtain ⟨⟨⟨⟨ok1, ok2⟩, ok3⟩, ok4⟩, ok5⟩ := hok
            obtain ⟨c1, c2, c3, c4, c5⟩ := callOk_spec ok1
            obtain ⟨e1, e2⟩ := popA_spec hst
            have hsplit := wl_app.mp (by rw [← e1]; exact hws : wl h.length (av.reverse ++ rest))
            have hav : wl h.length av := fun v hv => hsplit.1 v (List.mem_reverse.mpr hv)
            split at hr
            · rename_i r1 h1 hcal
              split at hr
              · rename_i hlen
                obtain ⟨⟨w1, w2', w3, w4⟩, -⟩ := ih a 0 (loc0 a av) [] h r1 h1 hcal c5 hw (loc0_wl hav) wl_nil (loc0_len (by rw [e2]; exact c4))
                have hst2 : wl h1.length (r1.toList ++ rest) := wl_app.mpr ⟨fun v hv => w2' v (Option.mem_toList.mp hv), wl_mono w3 hsplit.2⟩
                obtain ⟨⟨q1, q2, q3, q4⟩, q5⟩ := ih k (pc + 3) ls (r1.toList ++ rest) h1 r h' hr hk w1 (wl_mono w3 hwl) hst2 hls
                refine ⟨⟨q1, q2, Nat.le_trans w3 q3, Nat.le_trans w4 q4⟩, ?_⟩
                intro p e R s m args below meth c A as0 as cells slots mc ms C has hl hA hRf hRl hmc hms hmc2 hms2
                refine g_callV C (Cok_of ih hcal c5 hw hav e2 c4 ok3 hl) hD0 (lwG_in (isW_mem hO) rfl) ok1 ok2 hst ok4 ok5 hl hwl hws hA ⟨hRf, hRl⟩ (by omega) (by omega) rfl (fun as' g1 g2 => ?_)
                exact q5 p e R s m args below meth c A as0 as' _ _ mc ms C (has.trans g1) g2 hA hRf hRl (by omega) (by omega) hmc2 hms2
              · cases hr
            · cases hr
          · cases hr
        · cases hr
      · -- invokestatic
        rename_i idx hins
        obtain ⟨pc, ins, len, a, b, pl⟩ := E
        simp only [] at hins hr hD0
        subst hins
        have e := chkL_len hL (fun _ _ _ _ => by intro q; cases q); subst e
        split at hr
        · split at hr
          · rename_i v rest hv
            split at hr
            · rename_i hok
              have hst2 := mathB_wl hv hws
              obtain ⟨⟨q1, q2, q3, q4⟩, q5⟩ := ih k (pc + 3) ls (v :: rest) h r h' hr hk hw hwl hst2 hls
              refine ⟨⟨q1, q2, q3, q4⟩, ?_⟩
              intro p e R s m args below meth c A as0 as cells slots mc ms C has hl hA hRf hRl hmc hms hmc2 hms2
              refine g_math C hD0 hO hv hws hok.1 ⟨Nat.le_trans hok.2.1 hRf, Nat.le_trans hok.2.2 hRl⟩ (by omega) (by omega) rfl ?_
              exact q5 p e R s m args below meth c A as0 as _ _ mc ms C has hl hA hRf hRl hmc hms hmc2 hms2
            · cases hr
          · cases hr
        · rename_i h900
          split at hr
          · rename_i av rest hst
            split at hr
            · rename_i hok
              simp only [Bool.and_eq_true] at hok
              obtain ⟨⟨ok1, ok3⟩, ok4⟩ := hok
              obtain ⟨c1, c2, c3, c4, c5⟩ := callOk_spec ok1
              obtain ⟨e1, e2⟩ := popA_spec hst
              have hsplit := wl_app.mp (by rw [← e1]; exact hws : wl h.length (av.reverse ++ rest))
              have hav : wl h.length av := fun v hv => hsplit.1 v (List.mem_reverse.mpr hv)
              split at hr
              · rename_i r1 h1 hcal
                split at hr
                · rename_i hlen
                  obtain ⟨⟨w1, w2', w3, w4⟩, -⟩ := ih a 0 (loc0 a av) [] h r1 h1 hcal c5 hw (loc0_wl hav) wl_nil (loc0_len (by rw [e2]; exact c4))
                  have hst2 : wl h1.length (r1.toList ++ rest) := wl_app.mpr ⟨fun v hv => w2' v (Option.mem_toList.mp hv), wl_mono w3 hsplit.2⟩
                  obtain ⟨⟨q1, q2, q3, q4⟩, q5⟩ := ih k (pc + 3) ls (r1.toList ++ rest) h1 r h' hr hk w1 (wl_mono w3 hwl) hst2 hls
                  refine ⟨⟨q1, q2, Nat.le_trans w3 q3, Nat.le_trans w4 q4⟩, ?_⟩
                  intro p e R s m args below meth c A as0 as cells slots mc ms C has hl hA hRf hRl hmc hms hmc2 hms2
                  have hO2 : isW pl (.methodLink (oN (mOs.getD k 0)) idx (yM a)) = true := by
                    unfold chkO at hO
                    simp only [] at hO
                    rw [if_neg (by omega), if_neg (by omega), if_neg (by omega)] at hO
                    exact hO
                  refine g_callS C (Cok_of ih hcal c5 hw hav e2 c4 ok3 hl) hD0 (lwG_in (isW_mem hO2) rfl) ok1 hst ok4 hl hwl hws hA ⟨hRf, hRl⟩ (by omega) (by omega) rfl (fun as' g1 g2 => ?_)
                  exact q5 p e R s m args below meth c A as0 as' _ _ mc ms C (has.trans g1) g2 hA hRf hRl (by omega) (by omega) hmc2 hms2
                · cases hr
              · cases hr
            · cases hr
          · cases hr
      · -- invokespecial
        rename_i idx hins
        obtain ⟨pc, ins, len, a, b, pl⟩ := E
        simp only [] at hins hr hD0
        subst hins
        have e := chkL_len hL (fun _ _ _ _ => by intro q; cases q); subst e
        split at hr
        · rename_i h999
          split at hr
          · rename_i i rest _
            split at hr
            · rename_i hok
              have hst2 := (wl_cons.mp hws).2
              obtain ⟨⟨q1, q2, q3, q4⟩, q5⟩ := ih k (pc + 3) ls rest h r h' hr hk hw hwl hst2 hls
              refine ⟨⟨q1, q2, q3, q4⟩, ?_⟩
              intro p e R s m args below meth c A as0 as cells slots mc ms C has hl hA hRf hRl hmc hms hmc2 hms2
              have hO2 : isW pl (.methodLink (oN (mOs.getD k 0)) idx objectInit) = true := by
                unfold chkO at hO
                simp only [] at hO
                rw [if_pos h999] at hO
                exact hO
              refine g_obj C hD0 (lwG_in (isW_mem hO2) rfl) hok.1 ⟨Nat.le_trans hok.2.1 hRf, Nat.le_trans hok.2.2 hRl⟩ rfl ?_
              exact q5 p e R s m args below meth c A as0 as _ _ mc ms C has hl hA hRf hRl hmc hms hmc2 hms2
            · cases hr
          · cases hr
        · rename_i h999
          split at hr
          · rename_i av rest hst
            split at hr
            · rename_i hok
              simp only [Bool.and_eq_true, Bool.not_eq_true'] at hok
              obtain ⟨⟨⟨⟨⟨ok1, ok2⟩, ok3⟩, ok4⟩, ok5⟩, ok6⟩ := hok
              obtain ⟨c1, c2, c3, c4, c5⟩ := callOk_spec ok1
              obtain ⟨e1, e2⟩ := popA_spec hst
              have hsplit := wl_app.mp (by rw [← e1]; exact hws : wl h.length (av.reverse ++ rest))
              have hav : wl h.length av := fun v hv => hsplit.1 v (List.mem_reverse.mpr hv)
              split at hr
              · rename_i r1 h1 hcal
                split at hr
                · rename_i hrn
                  cases r1 with
                  | some v => cases hrn
                  | none =>
                    obtain ⟨⟨w1, w2', w3, w4⟩, -⟩ := ih a 0 (loc0 a av) [] h none h1 hcal c5 hw (loc0_wl hav) wl_nil (loc0_len (by rw [e2]; exact c4))
                    obtain ⟨⟨q1, q2, q3, q4⟩, q5⟩ := ih k (pc + 3) ls rest h1 r h' hr hk w1 (wl_mono w3 hwl) (wl_mono w3 hsplit.2) hls
                    refine ⟨⟨q1, q2, Nat.le_trans w3 q3, Nat.le_trans w4 q4⟩, ?_⟩
                    intro p e R s m args below meth c A as0 as cells slots mc ms C has hl hA hRf hRl hmc hms hmc2 hms2
                    have hO2 : Cond.methodLink (oN (mOs.getD k 0)) idx (yM a) ∈ lwG ∨ Cond.methodLinkNest (oN (mOs.getD k 0)) idx (yM a) "TankDivers" ∈ lwN := by
                      unfold chkO at hO
                      simp only [] at hO
                      rw [if_neg h999] at hO
                      split at hO
                      · exact Or.inr (lwN_in (isW_mem hO) rfl)
                      · exact Or.inl (lwG_in (isW_mem hO) rfl)
                    refine g_callI C (Cok_of ih hcal c5 hw hav e2 c4 ok3 hl) hD0 hO2 ok1 ok2 hst ok4 ok5 (isI_ret c5 ok5) hl hwl hws hA ⟨hRf, hRl⟩ (by omega) (by omega) rfl (fun as' g1 g2 => ?_)
                    exact q5 p e R s m args below meth c A as0 as' _ _ mc ms C (has.trans g1) g2 hA hRf hRl (by omega) (by omega) hmc2 hms2
                · cases hr
              · cases hr
            · cases hr
          · cases hr
      · -- a return
        split at hr
        · rename_i r1 hret
          cases hr
          obtain ⟨pc, ins, len, a, b, pl⟩ := E
          simp only [] at hret hD0
          have hlen : len = 1 := by
            have hz : ∀ d lo hi offs, ins ≠ .tableswitch d lo hi offs := by
              intro d lo hi offs q
              subst q
              cases hret
            have e := chkL_len hL hz
            rw [e]
            exact ret_len hret
          subst hlen
          refine ⟨⟨hw, retOk_wv hret hws, Nat.le_refl _, Nat.le_refl _⟩, ?_⟩
          intro p e R s m args below meth c A as0 as cells slots mc ms C has hl hA hRf hRl hmc hms hmc2 hms2
          have e1 : cells = mc := by omega
          have e2 : slots = ms := by omega
          subst e1; subst e2
          exact g_ret C hret hD0 has hl
        · cases hr
end Runs
end
section
/-! ===== runs without fuel: a value, by equations ===== -/
abbrev AOne : Type := ASt ⊕ ((Nat × List AV × Bool × List AV) ⊕ Option AV)
/-- what one step asks: to go on, a call, an end -/
def aone (k pc : Nat) (ls st : List AV) (h : AH) : Option AOne := match cd k pc with
  | none => none
  | some e =>
    match ast (isI k) e ls st h with
    | some t => some (.inl t)
    | none => match e.2.1 with
      | .invokevirtual _ => match popA (nar e.2.2.2.1) st with
        | some (as, rest) => if callOk k e.2.2.2.1 rest && clsOk h e.2.2.2.1 as[0]? && noDb as && !(stM e.2.2.2.1) && !(isI e.2.2.2.1) then some (.inr (.inl (e.2.2.2.1, as, true, rest))) else none
        | none => none
      | .invokestatic _ => if 900 ≤ e.2.2.2.1 then (match mathB e.2.2.2.1 st with
          | some (v, rest) => if rest.length ≤ 4 ∧ 1 ≤ dpM k ∧ 21 ≤ lcM k then some (.inl (pc + 3, ls, v :: rest, h)) else none
          | none => none) else
        match popA (nar e.2.2.2.1) st with
        | some (as, rest) => if callOk k e.2.2.2.1 rest && noDb as && stM e.2.2.2.1 then some (.inr (.inl (e.2.2.2.1, as, true, rest))) else none
        | none => none
      | .invokespecial _ => if e.2.2.2.1 = 999 then
          match st with
          | .inr (.inl (some _)) :: rest => if rest.length ≤ 4 ∧ 1 ≤ dpM k ∧ 20 ≤ lcM k then some (.inl (pc + 3, ls, rest, h)) else none
          | _ => none
        else match popA (nar e.2.2.2.1) st with
        | some (as, rest) => if callOk k e.2.2.2.1 rest && clsOk h e.2.2.2.1 as[0]? && noDb as && !(stM e.2.2.2.1) && isI e.2.2.2.1 && isI k then some (.inr (.inl (e.2.2.2.1, as, false, rest))) else none
        | none => none
      | i => match retOk k st i with
        | some r => some (.inr (.inr r))
        | none => none
abbrev ARec : Type := Nat → Nat → List AV → List AV → AH → Option (Option AV × AH)
def aafter (f : ARec) (k pc : Nat) (ls : List AV) (h : AH) (o : Option AOne) : Option (Option AV × AH) := match o with
  | none => none
  | some (.inl t) => f k t.1 t.2.1 t.2.2.1 t.2.2.2
  | some (.inr (.inl (k', as, true, rest))) => match f k' 0 (loc0 k' as) [] h with
    | some (r, h') => if h'.length = h.length then f k (pc + 3) ls (r.toList ++ rest) h' else none
    | none => none
  | some (.inr (.inl (k', as, false, rest))) => match f k' 0 (loc0 k' as) [] h with
    | some (r, h') => if r.isNone then f k (pc + 3) ls rest h' else none
    | none => none
  | some (.inr (.inr r)) => some (r, h)
theorem arun_succ (n k pc : Nat) (ls st : List AV) (h : AH) : arun (n + 1) k pc ls st h = aafter (arun n) k pc ls h (aone k pc ls st h) := by
  conv => lhs; unfold arun
  unfold aone
  cases hE : cd k pc with
  | none => rfl
  | some e =>
    obtain ⟨pc0, ins, len, a, b, p⟩ := e
    simp only []
    cases hs : ast (isI k) (pc0, ins, len, a, b, p) ls st h with
    | some t => rfl
    | none =>
      simp only []
      cases ins
      case invokevirtual i =>
        simp only []
        cases popA (nar a) st with
        | none => rfl
        | some q =>
          obtain ⟨as, rest⟩ := q
          simp only []
          generalize (callOk k a rest && clsOk h a as[0]? && noDb as && !(stM a) && !(isI a)) = b0
          cases b0 <;> rfl
      case invokestatic i =>
        simp only []
        by_cases h9 : 900 ≤ a
        · rw [if_pos h9, if_pos h9]
          cases mathB a st with
          | none => rfl
          | some q =>
            obtain ⟨v, rest⟩ := q
            simp only []
            by_cases hc : rest.length ≤ 4 ∧ 1 ≤ dpM k ∧ 21 ≤ lcM k
            · rw [if_pos hc, if_pos hc]; rfl
            · rw [if_neg hc, if_neg hc]; rfl
        · rw [if_neg h9, if_neg h9]
          cases popA (nar a) st with
          | none => rfl
          | some q =>
            obtain ⟨as, rest⟩ := q
            simp only []
            generalize (callOk k a rest && noDb as && stM a) = b0
            cases b0 <;> rfl
      case invokespecial i =>
        simp only []
        by_cases h9 : a = 999
        · rw [if_pos h9, if_pos h9]
          clear hs
          rcases st with _ | ⟨v, rest⟩
          · rfl
          rcases v with z | r | x
          · rfl
          · cases r with
            | none => rfl
            | some i0 =>
              simp only []
              by_cases hc : rest.length ≤ 4 ∧ 1 ≤ dpM k ∧ 20 ≤ lcM k
              · rw [if_pos hc, if_pos hc]; rfl
              · rw [if_neg hc, if_neg hc]; rfl
          · rfl
        · rw [if_neg h9, if_neg h9]
          cases popA (nar a) st with
          | none => rfl
          | some q =>
            obtain ⟨as, rest⟩ := q
            simp only []
            generalize (callOk k a rest && clsOk h a as[0]? && noDb as && !(stM a) && isI a && isI k) = b0
            cases b0 <;> rfl
      all_goals (simp only []; generalize retOk k st _ = o0; cases o0 <;> rfl)
theorem aafter_mono {f g : ARec} (hfg : ∀ k pc ls st h x, f k pc ls st h = some x → g k pc ls st h = some x) {k pc : Nat} {ls : List AV} {h : AH} {o : Option AOne} {x : Option AV × AH} (hx : aafter f k pc ls h o = some x) : aafter g k pc ls h o = some x := by
  unfold aafter at hx ⊢
  split at hx
  · cases hx
  · exact hfg _ _ _ _ _ _ hx
  · split at hx
    · rename_i r h' hc
      rw [hfg _ _ _ _ _ _ hc]
      simp only []
      split at hx
      · rename_i hl
        rw [if_pos hl]
        exact hfg _ _ _ _ _ _ hx
      · cases hx
    · cases hx
  · split at hx
    · rename_i r h' hc
      rw [hfg _ _ _ _ _ _ hc]
      simp only []
      split at hx
      · rename_i hl
        rw [if_pos hl]
        exact hfg _ _ _ _ _ _ hx
      · cases hx
    · cases hx
  · exact hx
theorem arun_mono1 (n : Nat) : ∀ k pc ls st h x, arun n k pc ls st h = some x → arun (n + 1) k pc ls st h = some x := by
  induction n with
  | zero => intro k pc ls st h x hx; exact absurd hx (by simp [arun])
  | succ n ih =>
    intro k pc ls st h x hx
    rw [arun_succ] at hx ⊢
    exact aafter_mono ih hx
theorem arun_mono {n m : Nat} (hnm : n ≤ m) : ∀ k pc ls st h x, arun n k pc ls st h = some x → arun m k pc ls st h = some x := by
  induction hnm with
  | refl => intro _ _ _ _ _ _ h; exact h
  | step _ ih => intro k pc ls st h x hx; exact arun_mono1 _ _ _ _ _ _ _ (ih k pc ls st h x hx)
theorem arun_det {n m k pc : Nat} {ls st : List AV} {h : AH} {x y : Option AV × AH} (hx : arun n k pc ls st h = some x) (hy : arun m k pc ls st h = some y) : x = y := by
  have h1 := arun_mono (Nat.le_max_left n m) k pc ls st h x hx
  have h2 := arun_mono (Nat.le_max_right n m) k pc ls st h y hy
  exact Option.some.inj (h1.symm.trans h2)
noncomputable def evL : ARec := fun k pc ls st h => @dite _ (∃ x n, arun n k pc ls st h = some x) (Classical.propDecidable _) (fun hx => some hx.choose) (fun _ => none)
theorem evL_iff {k pc : Nat} {ls st : List AV} {h : AH} {x : Option AV × AH} : evL k pc ls st h = some x ↔ ∃ n, arun n k pc ls st h = some x := by
  unfold evL
  constructor
  · intro q
    split at q
    · rename_i hx
      have h1 := hx.choose_spec
      rw [Option.some.inj q] at h1
      exact h1
    · cases q
  · rintro ⟨n, hn⟩
    have hx : ∃ x n, arun n k pc ls st h = some x := ⟨x, n, hn⟩
    rw [dif_pos hx]
    obtain ⟨m, hm⟩ := hx.choose_spec
    rw [arun_det hm hn]
theorem evL_eq (k pc : Nat) (ls st : List AV) (h : AH) : evL k pc ls st h = aafter evL k pc ls h (aone k pc ls st h) := by
  apply Option.ext
  intro x
  constructor
  · intro hx
    obtain ⟨n, hn⟩ := evL_iff.mp hx
    cases n with
    | zero => exact absurd hn (by simp [arun])
    | succ n =>
      rw [arun_succ] at hn
      exact aafter_mono (fun k pc ls st h x q => evL_iff.mpr ⟨n, q⟩) hn
  · intro hx
    rw [evL_iff]
    suffices ∃ n, aafter (arun n) k pc ls h (aone k pc ls st h) = some x by
      obtain ⟨n, hn⟩ := this
      exact ⟨n + 1, by rw [arun_succ]; exact hn⟩
    generalize aone k pc ls st h = o at hx
    unfold aafter at hx
    split at hx
    · cases hx
    · exact evL_iff.mp hx
    · split at hx
      · rename_i r h' hc
        split at hx
        · rename_i hl
          obtain ⟨n1, q1⟩ := evL_iff.mp hc
          obtain ⟨n2, q2⟩ := evL_iff.mp hx
          refine ⟨max n1 n2, ?_⟩
          unfold aafter
          simp only [arun_mono (Nat.le_max_left n1 n2) _ _ _ _ _ _ q1, hl, if_true]
          exact arun_mono (Nat.le_max_right n1 n2) _ _ _ _ _ _ q2
        · cases hx
      · cases hx
    · split at hx
      · rename_i r h' hc
        split at hx
        · rename_i hl
          obtain ⟨n1, q1⟩ := evL_iff.mp hc
          obtain ⟨n2, q2⟩ := evL_iff.mp hx
          refine ⟨max n1 n2, ?_⟩
          unfold aafter
          simp only [arun_mono (Nat.le_max_left n1 n2) _ _ _ _ _ _ q1, hl, if_true]
          exact arun_mono (Nat.le_max_right n1 n2) _ _ _ _ _ _ q2
        · cases hx
      · cases hx
    · exact ⟨0, hx⟩
noncomputable def evM (k : Nat) (av : List AV) (h : AH) : Option (Option AV × AH) := evL k 0 (loc0 k av) [] h
/-- a step that goes on -/
theorem ev_go {k pc : Nat} {ls st : List AV} {h : AH} {e : AE} {pc' : Nat} {ls' st' : List AV} {h' : AH} (hc : cd k pc = some e) (hs : ast (isI k) e ls st h = some (pc', ls', st', h')) : evL k pc ls st h = evL k pc' ls' st' h' := by
  rw [evL_eq]
  unfold aone
  rw [hc]
  simp only [hs]
  rfl
end
