section
-- ===== PART A: goes FIRST, ahead of the names: the tables' words, and 'selects' of the private methods out of them =====
/-- a private method of a class that the tables say can be made, by its rows of tables_1 -/
def lw_okq (q : MethodName × Nat) : Prop := (q.1.cls ≠ "java/lang/invoke/MethodHandle" ∧ q.1.cls ≠ "java/lang/invoke/VarHandle") ∧ Cond.instantiable q.1.cls q.2 ∈ tables_1 ∧ Cond.privateMethod q.1 ∈ tables_1 ∧ Cond.instanceMethod q.1 ∈ tables_1
theorem lw_p0 : lw_okq (⟨"TankDivers$Game", "drawLot", "()V"⟩, 10) := ⟨⟨by decide +kernel, by decide +kernel⟩, List.mem_of_getElem? (i := 21) (by decide +kernel), List.mem_of_getElem? (i := 193) (by decide +kernel), List.mem_of_getElem? (i := 194) (by decide +kernel)⟩
theorem lw_p1 : lw_okq (⟨"TankDivers$History", "dropOldest", "()V"⟩, 2) := ⟨⟨by decide +kernel, by decide +kernel⟩, List.mem_of_getElem? (i := 143) (by decide +kernel), List.mem_of_getElem? (i := 256) (by decide +kernel), List.mem_of_getElem? (i := 257) (by decide +kernel)⟩
theorem lw_p2 : lw_okq (⟨"TankDivers$History", "stateAt", "(I)LTankDivers$Game;"⟩, 2) := ⟨⟨by decide +kernel, by decide +kernel⟩, List.mem_of_getElem? (i := 143) (by decide +kernel), List.mem_of_getElem? (i := 260) (by decide +kernel), List.mem_of_getElem? (i := 261) (by decide +kernel)⟩
theorem lw_p3 : lw_okq (⟨"TankDivers$Game", "throwDie", "()I"⟩, 10) := ⟨⟨by decide +kernel, by decide +kernel⟩, List.mem_of_getElem? (i := 21) (by decide +kernel), List.mem_of_getElem? (i := 350) (by decide +kernel), List.mem_of_getElem? (i := 351) (by decide +kernel)⟩
theorem lw_p4 : lw_okq (⟨"TankDivers$Game", "stepUp", "(I)I"⟩, 10) := ⟨⟨by decide +kernel, by decide +kernel⟩, List.mem_of_getElem? (i := 21) (by decide +kernel), List.mem_of_getElem? (i := 358) (by decide +kernel), List.mem_of_getElem? (i := 359) (by decide +kernel)⟩
theorem lw_p5 : lw_okq (⟨"TankDivers$Game", "stepDown", "(I)I"⟩, 10) := ⟨⟨by decide +kernel, by decide +kernel⟩, List.mem_of_getElem? (i := 21) (by decide +kernel), List.mem_of_getElem? (i := 366) (by decide +kernel), List.mem_of_getElem? (i := 367) (by decide +kernel)⟩
theorem lw_p6 : lw_okq (⟨"TankDivers$Game", "whyNoDeed", "(II)I"⟩, 10) := ⟨⟨by decide +kernel, by decide +kernel⟩, List.mem_of_getElem? (i := 21) (by decide +kernel), List.mem_of_getElem? (i := 378) (by decide +kernel), List.mem_of_getElem? (i := 379) (by decide +kernel)⟩
theorem lw_p7 : lw_okq (⟨"TankDivers$Game", "whyNotTake", "()I"⟩, 10) := ⟨⟨by decide +kernel, by decide +kernel⟩, List.mem_of_getElem? (i := 21) (by decide +kernel), List.mem_of_getElem? (i := 382) (by decide +kernel), List.mem_of_getElem? (i := 383) (by decide +kernel)⟩
theorem lw_p8 : lw_okq (⟨"TankDivers$Game", "whyNotLay", "(I)I"⟩, 10) := ⟨⟨by decide +kernel, by decide +kernel⟩, List.mem_of_getElem? (i := 21) (by decide +kernel), List.mem_of_getElem? (i := 390) (by decide +kernel), List.mem_of_getElem? (i := 391) (by decide +kernel)⟩
theorem lw_p9 : lw_okq (⟨"TankDivers$Game", "endRound", "()V"⟩, 10) := ⟨⟨by decide +kernel, by decide +kernel⟩, List.mem_of_getElem? (i := 21) (by decide +kernel), List.mem_of_getElem? (i := 420) (by decide +kernel), List.mem_of_getElem? (i := 421) (by decide +kernel)⟩
theorem lw_p10 : lw_okq (⟨"TankDivers$Crew", "sinkStacksOf", "(ILTankDivers$Row;I)I"⟩, 9) := ⟨⟨by decide +kernel, by decide +kernel⟩, List.mem_of_getElem? (i := 57) (by decide +kernel), List.mem_of_getElem? (i := 432) (by decide +kernel), List.mem_of_getElem? (i := 433) (by decide +kernel)⟩
theorem lw_p11 : lw_okq (⟨"TankDivers$Odds", "moveUp", "(LTankDivers$Game;)V"⟩, 2) := ⟨⟨by decide +kernel, by decide +kernel⟩, List.mem_of_getElem? (i := 174) (by decide +kernel), List.mem_of_getElem? (i := 619) (by decide +kernel), List.mem_of_getElem? (i := 620) (by decide +kernel)⟩
theorem lw_p12 : lw_okq (⟨"TankDiversModel", "goBegin", "(II)I"⟩, 18) := ⟨⟨by decide +kernel, by decide +kernel⟩, List.mem_of_getElem? (i := 655) (by decide +kernel), List.mem_of_getElem? (i := 661) (by decide +kernel), List.mem_of_getElem? (i := 662) (by decide +kernel)⟩
theorem lw_p13 : lw_okq (⟨"TankDiversModel", "draws", "()I"⟩, 18) := ⟨⟨by decide +kernel, by decide +kernel⟩, List.mem_of_getElem? (i := 655) (by decide +kernel), List.mem_of_getElem? (i := 665) (by decide +kernel), List.mem_of_getElem? (i := 666) (by decide +kernel)⟩
theorem lw_p14 : lw_okq (⟨"TankDiversModel", "beginsRound", "()V"⟩, 18) := ⟨⟨by decide +kernel, by decide +kernel⟩, List.mem_of_getElem? (i := 655) (by decide +kernel), List.mem_of_getElem? (i := 669) (by decide +kernel), List.mem_of_getElem? (i := 670) (by decide +kernel)⟩
theorem lw_p15 : lw_okq (⟨"TankDiversModel", "lays", "(III)V"⟩, 18) := ⟨⟨by decide +kernel, by decide +kernel⟩, List.mem_of_getElem? (i := 655) (by decide +kernel), List.mem_of_getElem? (i := 673) (by decide +kernel), List.mem_of_getElem? (i := 674) (by decide +kernel)⟩
def lw_privs_1 : List (MethodName × Nat) := [(⟨"TankDivers$Game", "drawLot", "()V"⟩, 10), (⟨"TankDivers$History", "dropOldest", "()V"⟩, 2), (⟨"TankDivers$History", "stateAt", "(I)LTankDivers$Game;"⟩, 2), (⟨"TankDivers$Game", "throwDie", "()I"⟩, 10), (⟨"TankDivers$Game", "stepUp", "(I)I"⟩, 10), (⟨"TankDivers$Game", "stepDown", "(I)I"⟩, 10), (⟨"TankDivers$Game", "whyNoDeed", "(II)I"⟩, 10), (⟨"TankDivers$Game", "whyNotTake", "()I"⟩, 10), (⟨"TankDivers$Game", "whyNotLay", "(I)I"⟩, 10), (⟨"TankDivers$Game", "endRound", "()V"⟩, 10), (⟨"TankDivers$Crew", "sinkStacksOf", "(ILTankDivers$Row;I)I"⟩, 9), (⟨"TankDivers$Odds", "moveUp", "(LTankDivers$Game;)V"⟩, 2), (⟨"TankDiversModel", "goBegin", "(II)I"⟩, 18), (⟨"TankDiversModel", "draws", "()I"⟩, 18), (⟨"TankDiversModel", "beginsRound", "()V"⟩, 18), (⟨"TankDiversModel", "lays", "(III)V"⟩, 18)]
theorem lw_r1 : ∀ q ∈ lw_privs_1, lw_okq q := List.forall_mem_cons.mpr ⟨lw_p0, List.forall_mem_cons.mpr ⟨lw_p1, List.forall_mem_cons.mpr ⟨lw_p2, List.forall_mem_cons.mpr ⟨lw_p3, List.forall_mem_cons.mpr ⟨lw_p4, List.forall_mem_cons.mpr ⟨lw_p5, List.forall_mem_cons.mpr ⟨lw_p6, List.forall_mem_cons.mpr ⟨lw_p7, List.forall_mem_cons.mpr ⟨lw_p8, List.forall_mem_cons.mpr ⟨lw_p9, List.forall_mem_cons.mpr ⟨lw_p10, List.forall_mem_cons.mpr ⟨lw_p11, List.forall_mem_cons.mpr ⟨lw_p12, List.forall_mem_cons.mpr ⟨lw_p13, List.forall_mem_cons.mpr ⟨lw_p14, List.forall_mem_cons.mpr ⟨lw_p15, fun _ h => absurd h List.not_mem_nil⟩⟩⟩⟩⟩⟩⟩⟩⟩⟩⟩⟩⟩⟩⟩⟩
theorem lw_p16 : lw_okq (⟨"TankDiversModel", "records", "()V"⟩, 18) := ⟨⟨by decide +kernel, by decide +kernel⟩, List.mem_of_getElem? (i := 655) (by decide +kernel), List.mem_of_getElem? (i := 739) (by decide +kernel), List.mem_of_getElem? (i := 740) (by decide +kernel)⟩
theorem lw_p17 : lw_okq (⟨"TankDiversModel", "goMove", "(Z)I"⟩, 18) := ⟨⟨by decide +kernel, by decide +kernel⟩, List.mem_of_getElem? (i := 655) (by decide +kernel), List.mem_of_getElem? (i := 750) (by decide +kernel), List.mem_of_getElem? (i := 751) (by decide +kernel)⟩
theorem lw_p18 : lw_okq (⟨"TankDiversModel", "reasonMove", "(Z)I"⟩, 18) := ⟨⟨by decide +kernel, by decide +kernel⟩, List.mem_of_getElem? (i := 655) (by decide +kernel), List.mem_of_getElem? (i := 754) (by decide +kernel), List.mem_of_getElem? (i := 755) (by decide +kernel)⟩
theorem lw_p19 : lw_okq (⟨"TankDiversModel", "of", "(II)I"⟩, 18) := ⟨⟨by decide +kernel, by decide +kernel⟩, List.mem_of_getElem? (i := 655) (by decide +kernel), List.mem_of_getElem? (i := 758) (by decide +kernel), List.mem_of_getElem? (i := 759) (by decide +kernel)⟩
theorem lw_p20 : lw_okq (⟨"TankDiversModel", "refuses", "(I)I"⟩, 18) := ⟨⟨by decide +kernel, by decide +kernel⟩, List.mem_of_getElem? (i := 655) (by decide +kernel), List.mem_of_getElem? (i := 762) (by decide +kernel), List.mem_of_getElem? (i := 763) (by decide +kernel)⟩
theorem lw_p21 : lw_okq (⟨"TankDiversModel", "stepsOf", "(II)I"⟩, 18) := ⟨⟨by decide +kernel, by decide +kernel⟩, List.mem_of_getElem? (i := 655) (by decide +kernel), List.mem_of_getElem? (i := 766) (by decide +kernel), List.mem_of_getElem? (i := 767) (by decide +kernel)⟩
theorem lw_p22 : lw_okq (⟨"TankDiversModel", "behind", "(IIZI)I"⟩, 18) := ⟨⟨by decide +kernel, by decide +kernel⟩, List.mem_of_getElem? (i := 655) (by decide +kernel), List.mem_of_getElem? (i := 770) (by decide +kernel), List.mem_of_getElem? (i := 771) (by decide +kernel)⟩
theorem lw_p23 : lw_okq (⟨"TankDiversModel", "isFree", "(II)Z"⟩, 18) := ⟨⟨by decide +kernel, by decide +kernel⟩, List.mem_of_getElem? (i := 655) (by decide +kernel), List.mem_of_getElem? (i := 774) (by decide +kernel), List.mem_of_getElem? (i := 775) (by decide +kernel)⟩
theorem lw_p24 : lw_okq (⟨"TankDiversModel", "diverAt", "(I)I"⟩, 18) := ⟨⟨by decide +kernel, by decide +kernel⟩, List.mem_of_getElem? (i := 655) (by decide +kernel), List.mem_of_getElem? (i := 778) (by decide +kernel), List.mem_of_getElem? (i := 779) (by decide +kernel)⟩
theorem lw_p25 : lw_okq (⟨"TankDiversModel", "goTake", "()I"⟩, 18) := ⟨⟨by decide +kernel, by decide +kernel⟩, List.mem_of_getElem? (i := 655) (by decide +kernel), List.mem_of_getElem? (i := 786) (by decide +kernel), List.mem_of_getElem? (i := 787) (by decide +kernel)⟩
theorem lw_p26 : lw_okq (⟨"TankDiversModel", "reasonDeed", "()I"⟩, 18) := ⟨⟨by decide +kernel, by decide +kernel⟩, List.mem_of_getElem? (i := 655) (by decide +kernel), List.mem_of_getElem? (i := 790) (by decide +kernel), List.mem_of_getElem? (i := 791) (by decide +kernel)⟩
theorem lw_p27 : lw_okq (⟨"TankDiversModel", "at", "(I)I"⟩, 18) := ⟨⟨by decide +kernel, by decide +kernel⟩, List.mem_of_getElem? (i := 655) (by decide +kernel), List.mem_of_getElem? (i := 794) (by decide +kernel), List.mem_of_getElem? (i := 795) (by decide +kernel)⟩
theorem lw_p28 : lw_okq (⟨"TankDiversModel", "endsTurn", "()V"⟩, 18) := ⟨⟨by decide +kernel, by decide +kernel⟩, List.mem_of_getElem? (i := 655) (by decide +kernel), List.mem_of_getElem? (i := 798) (by decide +kernel), List.mem_of_getElem? (i := 799) (by decide +kernel)⟩
theorem lw_p29 : lw_okq (⟨"TankDiversModel", "areAllHome", "()Z"⟩, 18) := ⟨⟨by decide +kernel, by decide +kernel⟩, List.mem_of_getElem? (i := 655) (by decide +kernel), List.mem_of_getElem? (i := 802) (by decide +kernel), List.mem_of_getElem? (i := 803) (by decide +kernel)⟩
theorem lw_p30 : lw_okq (⟨"TankDiversModel", "endsRound", "()V"⟩, 18) := ⟨⟨by decide +kernel, by decide +kernel⟩, List.mem_of_getElem? (i := 655) (by decide +kernel), List.mem_of_getElem? (i := 806) (by decide +kernel), List.mem_of_getElem? (i := 807) (by decide +kernel)⟩
theorem lw_p31 : lw_okq (⟨"TankDiversModel", "deepest", "(I)I"⟩, 18) := ⟨⟨by decide +kernel, by decide +kernel⟩, List.mem_of_getElem? (i := 655) (by decide +kernel), List.mem_of_getElem? (i := 810) (by decide +kernel), List.mem_of_getElem? (i := 811) (by decide +kernel)⟩
def lw_privs_2 : List (MethodName × Nat) := [(⟨"TankDiversModel", "records", "()V"⟩, 18), (⟨"TankDiversModel", "goMove", "(Z)I"⟩, 18), (⟨"TankDiversModel", "reasonMove", "(Z)I"⟩, 18), (⟨"TankDiversModel", "of", "(II)I"⟩, 18), (⟨"TankDiversModel", "refuses", "(I)I"⟩, 18), (⟨"TankDiversModel", "stepsOf", "(II)I"⟩, 18), (⟨"TankDiversModel", "behind", "(IIZI)I"⟩, 18), (⟨"TankDiversModel", "isFree", "(II)Z"⟩, 18), (⟨"TankDiversModel", "diverAt", "(I)I"⟩, 18), (⟨"TankDiversModel", "goTake", "()I"⟩, 18), (⟨"TankDiversModel", "reasonDeed", "()I"⟩, 18), (⟨"TankDiversModel", "at", "(I)I"⟩, 18), (⟨"TankDiversModel", "endsTurn", "()V"⟩, 18), (⟨"TankDiversModel", "areAllHome", "()Z"⟩, 18), (⟨"TankDiversModel", "endsRound", "()V"⟩, 18), (⟨"TankDiversModel", "deepest", "(I)I"⟩, 18)]
theorem lw_r2 : ∀ q ∈ lw_privs_2, lw_okq q := List.forall_mem_cons.mpr ⟨lw_p16, List.forall_mem_cons.mpr ⟨lw_p17, List.forall_mem_cons.mpr ⟨lw_p18, List.forall_mem_cons.mpr ⟨lw_p19, List.forall_mem_cons.mpr ⟨lw_p20, List.forall_mem_cons.mpr ⟨lw_p21, List.forall_mem_cons.mpr ⟨lw_p22, List.forall_mem_cons.mpr ⟨lw_p23, List.forall_mem_cons.mpr ⟨lw_p24, List.forall_mem_cons.mpr ⟨lw_p25, List.forall_mem_cons.mpr ⟨lw_p26, List.forall_mem_cons.mpr ⟨lw_p27, List.forall_mem_cons.mpr ⟨lw_p28, List.forall_mem_cons.mpr ⟨lw_p29, List.forall_mem_cons.mpr ⟨lw_p30, List.forall_mem_cons.mpr ⟨lw_p31, fun _ h => absurd h List.not_mem_nil⟩⟩⟩⟩⟩⟩⟩⟩⟩⟩⟩⟩⟩⟩⟩⟩
theorem lw_p32 : lw_okq (⟨"TankDiversModel", "brings", "(I)V"⟩, 18) := ⟨⟨by decide +kernel, by decide +kernel⟩, List.mem_of_getElem? (i := 655) (by decide +kernel), List.mem_of_getElem? (i := 814) (by decide +kernel), List.mem_of_getElem? (i := 815) (by decide +kernel)⟩
theorem lw_p33 : lw_okq (⟨"TankDiversModel", "valuesOf", "(I)I"⟩, 18) := ⟨⟨by decide +kernel, by decide +kernel⟩, List.mem_of_getElem? (i := 655) (by decide +kernel), List.mem_of_getElem? (i := 818) (by decide +kernel), List.mem_of_getElem? (i := 819) (by decide +kernel)⟩
theorem lw_p34 : lw_okq (⟨"TankDiversModel", "treasuresOf", "(I)I"⟩, 18) := ⟨⟨by decide +kernel, by decide +kernel⟩, List.mem_of_getElem? (i := 655) (by decide +kernel), List.mem_of_getElem? (i := 831) (by decide +kernel), List.mem_of_getElem? (i := 832) (by decide +kernel)⟩
theorem lw_p35 : lw_okq (⟨"TankDiversModel", "sinks", "(I)V"⟩, 18) := ⟨⟨by decide +kernel, by decide +kernel⟩, List.mem_of_getElem? (i := 655) (by decide +kernel), List.mem_of_getElem? (i := 835) (by decide +kernel), List.mem_of_getElem? (i := 836) (by decide +kernel)⟩
theorem lw_p36 : lw_okq (⟨"TankDiversModel", "closesUp", "()V"⟩, 18) := ⟨⟨by decide +kernel, by decide +kernel⟩, List.mem_of_getElem? (i := 655) (by decide +kernel), List.mem_of_getElem? (i := 839) (by decide +kernel), List.mem_of_getElem? (i := 840) (by decide +kernel)⟩
theorem lw_p37 : lw_okq (⟨"TankDiversModel", "goLay", "(I)I"⟩, 18) := ⟨⟨by decide +kernel, by decide +kernel⟩, List.mem_of_getElem? (i := 655) (by decide +kernel), List.mem_of_getElem? (i := 847) (by decide +kernel), List.mem_of_getElem? (i := 848) (by decide +kernel)⟩
theorem lw_p38 : lw_okq (⟨"TankDiversModel", "goNothing", "()I"⟩, 18) := ⟨⟨by decide +kernel, by decide +kernel⟩, List.mem_of_getElem? (i := 655) (by decide +kernel), List.mem_of_getElem? (i := 855) (by decide +kernel), List.mem_of_getElem? (i := 856) (by decide +kernel)⟩
theorem lw_p39 : lw_okq (⟨"TankDiversModel", "isGame", "()Z"⟩, 18) := ⟨⟨by decide +kernel, by decide +kernel⟩, List.mem_of_getElem? (i := 655) (by decide +kernel), List.mem_of_getElem? (i := 871) (by decide +kernel), List.mem_of_getElem? (i := 872) (by decide +kernel)⟩
theorem lw_p40 : lw_okq (⟨"TankDiversModel", "takesTurn", "()V"⟩, 18) := ⟨⟨by decide +kernel, by decide +kernel⟩, List.mem_of_getElem? (i := 655) (by decide +kernel), List.mem_of_getElem? (i := 875) (by decide +kernel), List.mem_of_getElem? (i := 876) (by decide +kernel)⟩
theorem lw_p41 : lw_okq (⟨"TankDiversModel", "here", "()I"⟩, 18) := ⟨⟨by decide +kernel, by decide +kernel⟩, List.mem_of_getElem? (i := 655) (by decide +kernel), List.mem_of_getElem? (i := 879) (by decide +kernel), List.mem_of_getElem? (i := 880) (by decide +kernel)⟩
theorem lw_p42 : lw_okq (⟨"TankDiversModel", "takes", "(Z)V"⟩, 18) := ⟨⟨by decide +kernel, by decide +kernel⟩, List.mem_of_getElem? (i := 655) (by decide +kernel), List.mem_of_getElem? (i := 883) (by decide +kernel), List.mem_of_getElem? (i := 884) (by decide +kernel)⟩
theorem lw_p43 : lw_okq (⟨"TankDiversModel", "doesDeed", "()I"⟩, 18) := ⟨⟨by decide +kernel, by decide +kernel⟩, List.mem_of_getElem? (i := 655) (by decide +kernel), List.mem_of_getElem? (i := 891) (by decide +kernel), List.mem_of_getElem? (i := 892) (by decide +kernel)⟩
theorem lw_p44 : lw_okq (⟨"TankDiversModel", "isDiver", "(I)Z"⟩, 18) := ⟨⟨by decide +kernel, by decide +kernel⟩, List.mem_of_getElem? (i := 655) (by decide +kernel), List.mem_of_getElem? (i := 903) (by decide +kernel), List.mem_of_getElem? (i := 904) (by decide +kernel)⟩
theorem lw_p45 : lw_okq (⟨"TankDiversModel", "blank", "()I"⟩, 18) := ⟨⟨by decide +kernel, by decide +kernel⟩, List.mem_of_getElem? (i := 655) (by decide +kernel), List.mem_of_getElem? (i := 919) (by decide +kernel), List.mem_of_getElem? (i := 920) (by decide +kernel)⟩
theorem lw_p46 : lw_okq (⟨"TankDiversModel", "onPath", "()I"⟩, 18) := ⟨⟨by decide +kernel, by decide +kernel⟩, List.mem_of_getElem? (i := 655) (by decide +kernel), List.mem_of_getElem? (i := 923) (by decide +kernel), List.mem_of_getElem? (i := 924) (by decide +kernel)⟩
theorem lw_p47 : lw_okq (⟨"TankDiversModel", "onWay", "()I"⟩, 18) := ⟨⟨by decide +kernel, by decide +kernel⟩, List.mem_of_getElem? (i := 655) (by decide +kernel), List.mem_of_getElem? (i := 927) (by decide +kernel), List.mem_of_getElem? (i := 928) (by decide +kernel)⟩
def lw_privs_3 : List (MethodName × Nat) := [(⟨"TankDiversModel", "brings", "(I)V"⟩, 18), (⟨"TankDiversModel", "valuesOf", "(I)I"⟩, 18), (⟨"TankDiversModel", "treasuresOf", "(I)I"⟩, 18), (⟨"TankDiversModel", "sinks", "(I)V"⟩, 18), (⟨"TankDiversModel", "closesUp", "()V"⟩, 18), (⟨"TankDiversModel", "goLay", "(I)I"⟩, 18), (⟨"TankDiversModel", "goNothing", "()I"⟩, 18), (⟨"TankDiversModel", "isGame", "()Z"⟩, 18), (⟨"TankDiversModel", "takesTurn", "()V"⟩, 18), (⟨"TankDiversModel", "here", "()I"⟩, 18), (⟨"TankDiversModel", "takes", "(Z)V"⟩, 18), (⟨"TankDiversModel", "doesDeed", "()I"⟩, 18), (⟨"TankDiversModel", "isDiver", "(I)Z"⟩, 18), (⟨"TankDiversModel", "blank", "()I"⟩, 18), (⟨"TankDiversModel", "onPath", "()I"⟩, 18), (⟨"TankDiversModel", "onWay", "()I"⟩, 18)]
theorem lw_r3 : ∀ q ∈ lw_privs_3, lw_okq q := List.forall_mem_cons.mpr ⟨lw_p32, List.forall_mem_cons.mpr ⟨lw_p33, List.forall_mem_cons.mpr ⟨lw_p34, List.forall_mem_cons.mpr ⟨lw_p35, List.forall_mem_cons.mpr ⟨lw_p36, List.forall_mem_cons.mpr ⟨lw_p37, List.forall_mem_cons.mpr ⟨lw_p38, List.forall_mem_cons.mpr ⟨lw_p39, List.forall_mem_cons.mpr ⟨lw_p40, List.forall_mem_cons.mpr ⟨lw_p41, List.forall_mem_cons.mpr ⟨lw_p42, List.forall_mem_cons.mpr ⟨lw_p43, List.forall_mem_cons.mpr ⟨lw_p44, List.forall_mem_cons.mpr ⟨lw_p45, List.forall_mem_cons.mpr ⟨lw_p46, List.forall_mem_cons.mpr ⟨lw_p47, fun _ h => absurd h List.not_mem_nil⟩⟩⟩⟩⟩⟩⟩⟩⟩⟩⟩⟩⟩⟩⟩⟩
theorem lw_p48 : lw_okq (⟨"TankDiversModel", "broughtAll", "()I"⟩, 18) := ⟨⟨by decide +kernel, by decide +kernel⟩, List.mem_of_getElem? (i := 655) (by decide +kernel), List.mem_of_getElem? (i := 931) (by decide +kernel), List.mem_of_getElem? (i := 932) (by decide +kernel)⟩
def lw_privs_4 : List (MethodName × Nat) := [(⟨"TankDiversModel", "broughtAll", "()I"⟩, 18)]
theorem lw_r4 : ∀ q ∈ lw_privs_4, lw_okq q := List.forall_mem_cons.mpr ⟨lw_p48, fun _ h => absurd h List.not_mem_nil⟩
def lw_privs : List (MethodName × Nat) := lw_privs_1 ++ (lw_privs_2 ++ (lw_privs_3 ++ (lw_privs_4)))
def lw_tbl : List Cond := k2_sels lw_privs ++ tables_1
theorem lw_privs_ok : ∀ q ∈ lw_privs, lw_okq q := by
  show ∀ q ∈ lw_privs_1 ++ (lw_privs_2 ++ (lw_privs_3 ++ (lw_privs_4))), lw_okq q
  exact List.forall_mem_append.mpr ⟨lw_r1, List.forall_mem_append.mpr ⟨lw_r2, List.forall_mem_append.mpr ⟨lw_r3, lw_r4⟩⟩⟩
/-- the streams that the claim lets the run draw from -/
abbrev lw_cs : List Choice := [Jvm.Choice.named "NaN.bits"]
theorem lw_bits : nanBits ∈ lw_cs := by first | decide | exact List.mem_cons_self | simp [lw_cs, nanBits]

def RX0 : String := "TankDivers$Crew"
def TX0 : u_T := fun k => match k with
  | 0 => ("TankDivers$Crew", "places", "LTankDivers$Row;", true)
  | 1 => ("TankDivers$Crew", "goingUp", "LTankDivers$Row;", true)
  | 2 => ("TankDivers$Crew", "home", "LTankDivers$Row;", true)
  | 3 => ("TankDivers$Crew", "held", "LTankDivers$Row;", true)
  | 4 => ("TankDivers$Crew", "piles", "LTankDivers$Row;", true)
  | 5 => ("TankDivers$Crew", "scores", "LTankDivers$Row;", true)
  | 6 => ("TankDivers$Crew", "owned", "LTankDivers$Row;", true)
  | 7 => ("TankDivers$Crew", "drowned", "LTankDivers$Row;", true)
  | _ => ("TankDivers$Crew", "size", "I", false)
def tyX0 : Nat → FieldType := fun k => match k with
  | 0 => .object "TankDivers$Row"
  | 1 => .object "TankDivers$Row"
  | 2 => .object "TankDivers$Row"
  | 3 => .object "TankDivers$Row"
  | 4 => .object "TankDivers$Row"
  | 5 => .object "TankDivers$Row"
  | 6 => .object "TankDivers$Row"
  | 7 => .object "TankDivers$Row"
  | _ => .int
abbrev wsX00 : List Cond := u_ws RX0 TX0 9
theorem nmX0 : ∀ a, a < 9 → ∀ b, b < 9 → a ≠ b → (TX0 a).2.1 ≠ (TX0 b).2.1 := by decide +kernel
theorem tyX0_ok : ∀ k, k < 9 → parseFieldDescriptor (TX0 k).2.2.1 = some (tyX0 k) := by decide +kernel
abbrev cX0_init : ByteArray := prog_2_method_1_code
def yX0_init : MethodName := ⟨RX0, "<init>", "()V"⟩
abbrev cX0_has : ByteArray := prog_2_method_2_code
def yX0_has : MethodName := ⟨RX0, "has", "(I)Z"⟩
abbrev cX0_muster : ByteArray := prog_2_method_3_code
def yX0_muster : MethodName := ⟨RX0, "muster", "(I)V"⟩
abbrev cX0_toShip : ByteArray := prog_2_method_4_code
def yX0_toShip : MethodName := ⟨RX0, "toShip", "()V"⟩
abbrev cX0_propertyOf : ByteArray := prog_2_method_5_code
def yX0_propertyOf : MethodName := ⟨RX0, "propertyOf", "(II)I"⟩
abbrev cX0_cellOf : ByteArray := prog_2_method_6_code
def yX0_cellOf : MethodName := ⟨RX0, "cellOf", "(II)I"⟩
abbrev cX0_pileOf : ByteArray := prog_2_method_7_code
def yX0_pileOf : MethodName := ⟨RX0, "pileOf", "(II)I"⟩
abbrev cX0_addPile : ByteArray := prog_2_method_8_code
def yX0_addPile : MethodName := ⟨RX0, "addPile", "(II)V"⟩
abbrev cX0_removePile : ByteArray := prog_2_method_9_code
def yX0_removePile : MethodName := ⟨RX0, "removePile", "(II)I"⟩
abbrev cX0_treasuresHeldBy : ByteArray := prog_2_method_10_code
def yX0_treasuresHeldBy : MethodName := ⟨RX0, "treasuresHeldBy", "(I)I"⟩
abbrev cX0_valuesHeldBy : ByteArray := prog_2_method_11_code
def yX0_valuesHeldBy : MethodName := ⟨RX0, "valuesHeldBy", "(I)I"⟩
abbrev cX0_heldTreasures : ByteArray := prog_2_method_12_code
def yX0_heldTreasures : MethodName := ⟨RX0, "heldTreasures", "()I"⟩
abbrev cX0_heldValues : ByteArray := prog_2_method_13_code
def yX0_heldValues : MethodName := ⟨RX0, "heldValues", "()I"⟩
abbrev cX0_heldByThoseOut : ByteArray := prog_2_method_14_code
def yX0_heldByThoseOut : MethodName := ⟨RX0, "heldByThoseOut", "()I"⟩
abbrev cX0_ownedValues : ByteArray := prog_2_method_15_code
def yX0_ownedValues : MethodName := ⟨RX0, "ownedValues", "()I"⟩
abbrev cX0_isHome : ByteArray := prog_2_method_16_code
def yX0_isHome : MethodName := ⟨RX0, "isHome", "(I)Z"⟩
abbrev cX0_allHome : ByteArray := prog_2_method_17_code
def yX0_allHome : MethodName := ⟨RX0, "allHome", "()Z"⟩
abbrev cX0_diverAt : ByteArray := prog_2_method_18_code
def yX0_diverAt : MethodName := ⟨RX0, "diverAt", "(I)I"⟩
abbrev cX0_isFreeFor : ByteArray := prog_2_method_19_code
def yX0_isFreeFor : MethodName := ⟨RX0, "isFreeFor", "(II)Z"⟩
abbrev cX0_nextOut : ByteArray := prog_2_method_20_code
def yX0_nextOut : MethodName := ⟨RX0, "nextOut", "(I)I"⟩
abbrev cX0_deepest : ByteArray := prog_2_method_21_code
def yX0_deepest : MethodName := ⟨RX0, "deepest", "()I"⟩
abbrev cX0_best : ByteArray := prog_2_method_22_code
def yX0_best : MethodName := ⟨RX0, "best", "()I"⟩
abbrev cX0_bringStacks : ByteArray := prog_2_method_23_code
def yX0_bringStacks : MethodName := ⟨RX0, "bringStacks", "()V"⟩
abbrev cX0_sinkInto : ByteArray := prog_2_method_24_code
def yX0_sinkInto : MethodName := ⟨RX0, "sinkInto", "(LTankDivers$Row;I)I"⟩
abbrev cX0_sinkStacksOf : ByteArray := prog_2_method_25_code
def yX0_sinkStacksOf : MethodName := ⟨RX0, "sinkStacksOf", "(ILTankDivers$Row;I)I"⟩
abbrev cX0_copyFrom : ByteArray := prog_2_method_26_code
def yX0_copyFrom : MethodName := ⟨RX0, "copyFrom", "(LTankDivers$Crew;)V"⟩
def RX1 : String := "TankDivers$Game"
def TX1 : u_T := fun k => match k with
  | 0 => ("TankDivers$Game", "path", "LTankDivers$Path;", true)
  | 1 => ("TankDivers$Game", "crew", "LTankDivers$Crew;", true)
  | 2 => ("TankDivers$Game", "lost", "LTankDivers$Row;", true)
  | 3 => ("TankDivers$Game", "lot", "I", false)
  | 4 => ("TankDivers$Game", "round", "I", false)
  | 5 => ("TankDivers$Game", "onTurn", "I", false)
  | 6 => ("TankDivers$Game", "deedDue", "Z", false)
  | 7 => ("TankDivers$Game", "tank", "I", false)
  | 8 => ("TankDivers$Game", "shown", "I", false)
  | _ => ("TankDivers$Game", "refused", "I", false)
def tyX1 : Nat → FieldType := fun k => match k with
  | 0 => .object "TankDivers$Path"
  | 1 => .object "TankDivers$Crew"
  | 2 => .object "TankDivers$Row"
  | 3 => .int
  | 4 => .int
  | 5 => .int
  | 6 => .boolean
  | 7 => .int
  | 8 => .int
  | _ => .int
abbrev wsX10 : List Cond := u_ws RX1 TX1 10
theorem nmX1 : ∀ a, a < 10 → ∀ b, b < 10 → a ≠ b → (TX1 a).2.1 ≠ (TX1 b).2.1 := by decide +kernel
theorem tyX1_ok : ∀ k, k < 10 → parseFieldDescriptor (TX1 k).2.2.1 = some (tyX1 k) := by decide +kernel
abbrev cX1_init : ByteArray := prog_3_method_1_code
def yX1_init : MethodName := ⟨RX1, "<init>", "()V"⟩
abbrev cX1_deal : ByteArray := prog_3_method_2_code
def yX1_deal : MethodName := ⟨RX1, "deal", "(II)V"⟩
abbrev cX1_drawLot : ByteArray := prog_3_method_3_code
def yX1_drawLot : MethodName := ⟨RX1, "drawLot", "()V"⟩
abbrev cX1_throwDie : ByteArray := prog_3_method_4_code
def yX1_throwDie : MethodName := ⟨RX1, "throwDie", "()I"⟩
abbrev cX1_isOver : ByteArray := prog_3_method_5_code
def yX1_isOver : MethodName := ⟨RX1, "isOver", "()Z"⟩
abbrev cX1_placeOnTurn : ByteArray := prog_3_method_6_code
def yX1_placeOnTurn : MethodName := ⟨RX1, "placeOnTurn", "()I"⟩
abbrev cX1_allValues : ByteArray := prog_3_method_7_code
def yX1_allValues : MethodName := ⟨RX1, "allValues", "()I"⟩
abbrev cX1_allTreasures : ByteArray := prog_3_method_8_code
def yX1_allTreasures : MethodName := ⟨RX1, "allTreasures", "()I"⟩
abbrev cX1_whyNoMove : ByteArray := prog_3_method_9_code
def yX1_whyNoMove : MethodName := ⟨RX1, "whyNoMove", "(Z)I"⟩
abbrev cX1_goesUp : ByteArray := prog_3_method_10_code
def yX1_goesUp : MethodName := ⟨RX1, "goesUp", "()Z"⟩
abbrev cX1_makeMove : ByteArray := prog_3_method_11_code
def yX1_makeMove : MethodName := ⟨RX1, "makeMove", "(Z)I"⟩
abbrev cX1_landing : ByteArray := prog_3_method_12_code
def yX1_landing : MethodName := ⟨RX1, "landing", "(IZI)I"⟩
abbrev cX1_stepUp : ByteArray := prog_3_method_13_code
def yX1_stepUp : MethodName := ⟨RX1, "stepUp", "(I)I"⟩
abbrev cX1_stepDown : ByteArray := prog_3_method_14_code
def yX1_stepDown : MethodName := ⟨RX1, "stepDown", "(I)I"⟩
abbrev cX1_doDeed : ByteArray := prog_3_method_15_code
def yX1_doDeed : MethodName := ⟨RX1, "doDeed", "(II)I"⟩
abbrev cX1_whyNoDeed : ByteArray := prog_3_method_16_code
def yX1_whyNoDeed : MethodName := ⟨RX1, "whyNoDeed", "(II)I"⟩
abbrev cX1_whyNotTake : ByteArray := prog_3_method_17_code
def yX1_whyNotTake : MethodName := ⟨RX1, "whyNotTake", "()I"⟩
abbrev cX1_whyNotLay : ByteArray := prog_3_method_18_code
def yX1_whyNotLay : MethodName := ⟨RX1, "whyNotLay", "(I)I"⟩
abbrev cX1_endRound : ByteArray := prog_3_method_19_code
def yX1_endRound : MethodName := ⟨RX1, "endRound", "()V"⟩
abbrev cX1_copyFrom : ByteArray := prog_3_method_20_code
def yX1_copyFrom : MethodName := ⟨RX1, "copyFrom", "(LTankDivers$Game;)V"⟩
def RX2 : String := "TankDivers$History"
def TX2 : u_T := fun k => match k with
  | 0 => ("TankDivers$History", "states", "[LTankDivers$Game;", true)
  | _ => ("TankDivers$History", "size", "I", false)
def tyX2 : Nat → FieldType := fun k => match k with
  | 0 => .array (.object "TankDivers$Game")
  | _ => .int
abbrev wsX20 : List Cond := u_ws RX2 TX2 2
theorem nmX2 : ∀ a, a < 2 → ∀ b, b < 2 → a ≠ b → (TX2 a).2.1 ≠ (TX2 b).2.1 := by decide +kernel
theorem tyX2_ok : ∀ k, k < 2 → parseFieldDescriptor (TX2 k).2.2.1 = some (tyX2 k) := by decide +kernel
abbrev cX2_init : ByteArray := prog_4_method_1_code
def yX2_init : MethodName := ⟨RX2, "<init>", "()V"⟩
abbrev cX2_size : ByteArray := prog_4_method_2_code
def yX2_size : MethodName := ⟨RX2, "size", "()I"⟩
abbrev cX2_record : ByteArray := prog_4_method_3_code
def yX2_record : MethodName := ⟨RX2, "record", "(LTankDivers$Game;)V"⟩
abbrev cX2_dropOldest : ByteArray := prog_4_method_4_code
def yX2_dropOldest : MethodName := ⟨RX2, "dropOldest", "()V"⟩
abbrev cX2_takeBack : ByteArray := prog_4_method_5_code
def yX2_takeBack : MethodName := ⟨RX2, "takeBack", "(LTankDivers$Game;)I"⟩
abbrev cX2_stateAt : ByteArray := prog_4_method_6_code
def yX2_stateAt : MethodName := ⟨RX2, "stateAt", "(I)LTankDivers$Game;"⟩
def RX3 : String := "TankDivers$Odds"
def TX3 : u_T := fun k => match k with
  | 0 => ("TankDivers$Odds", "now", "LTankDivers$Row;", true)
  | _ => ("TankDivers$Odds", "next", "LTankDivers$Row;", true)
def tyX3 : Nat → FieldType := fun k => match k with
  | 0 => .object "TankDivers$Row"
  | _ => .object "TankDivers$Row"
abbrev wsX30 : List Cond := u_ws RX3 TX3 2
theorem nmX3 : ∀ a, a < 2 → ∀ b, b < 2 → a ≠ b → (TX3 a).2.1 ≠ (TX3 b).2.1 := by decide +kernel
theorem tyX3_ok : ∀ k, k < 2 → parseFieldDescriptor (TX3 k).2.2.1 = some (tyX3 k) := by decide +kernel
abbrev cX3_init : ByteArray := prog_5_method_1_code
def yX3_init : MethodName := ⟨RX3, "<init>", "()V"⟩
abbrev cX3_byThrows : ByteArray := prog_5_method_2_code
def yX3_byThrows : MethodName := ⟨RX3, "byThrows", "(LTankDivers$Game;IZ)I"⟩
abbrev cX3_bySums : ByteArray := prog_5_method_3_code
def yX3_bySums : MethodName := ⟨RX3, "bySums", "(LTankDivers$Game;IZ)I"⟩
abbrev cX3_throwsShowing : ByteArray := prog_5_method_4_code
def yX3_throwsShowing : MethodName := ⟨RX3, "throwsShowing", "(I)I"⟩
abbrev cX3_home : ByteArray := prog_5_method_5_code
def yX3_home : MethodName := ⟨RX3, "home", "(LTankDivers$Game;I)I"⟩
abbrev cX3_moveUp : ByteArray := prog_5_method_6_code
def yX3_moveUp : MethodName := ⟨RX3, "moveUp", "(LTankDivers$Game;)V"⟩
def RX4 : String := "TankDivers$Pad"
def TX4 : u_T := fun k => match k with
  | 0 => ("TankDivers$Pad", "letters", "LTankDivers$Row;", true)
  | _ => ("TankDivers$Pad", "length", "I", false)
def tyX4 : Nat → FieldType := fun k => match k with
  | 0 => .object "TankDivers$Row"
  | _ => .int
abbrev wsX40 : List Cond := u_ws RX4 TX4 2
theorem nmX4 : ∀ a, a < 2 → ∀ b, b < 2 → a ≠ b → (TX4 a).2.1 ≠ (TX4 b).2.1 := by decide +kernel
theorem tyX4_ok : ∀ k, k < 2 → parseFieldDescriptor (TX4 k).2.2.1 = some (tyX4 k) := by decide +kernel
abbrev cX4_init : ByteArray := prog_6_method_1_code
def yX4_init : MethodName := ⟨RX4, "<init>", "()V"⟩
abbrev cX4_length : ByteArray := prog_6_method_2_code
def yX4_length : MethodName := ⟨RX4, "length", "()I"⟩
abbrev cX4_letterAt : ByteArray := prog_6_method_3_code
def yX4_letterAt : MethodName := ⟨RX4, "letterAt", "(I)I"⟩
abbrev cX4_write : ByteArray := prog_6_method_4_code
def yX4_write : MethodName := ⟨RX4, "write", "(I)I"⟩
abbrev cX4_wipe : ByteArray := prog_6_method_5_code
def yX4_wipe : MethodName := ⟨RX4, "wipe", "()I"⟩
abbrev cX4_firstFault : ByteArray := prog_6_method_6_code
def yX4_firstFault : MethodName := ⟨RX4, "firstFault", "()I"⟩
abbrev cX4_dueBehind : ByteArray := prog_6_method_7_code
def yX4_dueBehind : MethodName := ⟨RX4, "dueBehind", "(II)I"⟩
def RX5 : String := "TankDivers$Path"
def TX5 : u_T := fun k => match k with
  | 0 => ("TankDivers$Path", "piles", "LTankDivers$Row;", true)
  | _ => ("TankDivers$Path", "spaces", "I", false)
def tyX5 : Nat → FieldType := fun k => match k with
  | 0 => .object "TankDivers$Row"
  | _ => .int
abbrev wsX50 : List Cond := u_ws RX5 TX5 2
theorem nmX5 : ∀ a, a < 2 → ∀ b, b < 2 → a ≠ b → (TX5 a).2.1 ≠ (TX5 b).2.1 := by decide +kernel
theorem tyX5_ok : ∀ k, k < 2 → parseFieldDescriptor (TX5 k).2.2.1 = some (tyX5 k) := by decide +kernel
abbrev cX5_init : ByteArray := prog_7_method_1_code
def yX5_init : MethodName := ⟨RX5, "<init>", "()V"⟩
abbrev cX5_pileAt : ByteArray := prog_7_method_2_code
def yX5_pileAt : MethodName := ⟨RX5, "pileAt", "(I)I"⟩
abbrev cX5_setPile : ByteArray := prog_7_method_3_code
def yX5_setPile : MethodName := ⟨RX5, "setPile", "(II)V"⟩
abbrev cX5_addSpace : ByteArray := prog_7_method_4_code
def yX5_addSpace : MethodName := ⟨RX5, "addSpace", "(I)V"⟩
abbrev cX5_blanks : ByteArray := prog_7_method_5_code
def yX5_blanks : MethodName := ⟨RX5, "blanks", "()I"⟩
abbrev cX5_treasures : ByteArray := prog_7_method_6_code
def yX5_treasures : MethodName := ⟨RX5, "treasures", "()I"⟩
abbrev cX5_values : ByteArray := prog_7_method_7_code
def yX5_values : MethodName := ⟨RX5, "values", "()I"⟩
abbrev cX5_closeUp : ByteArray := prog_7_method_8_code
def yX5_closeUp : MethodName := ⟨RX5, "closeUp", "()V"⟩
abbrev cX5_addStacks : ByteArray := prog_7_method_9_code
def yX5_addStacks : MethodName := ⟨RX5, "addStacks", "(LTankDivers$Row;I)V"⟩
abbrev cX5_copyFrom : ByteArray := prog_7_method_10_code
def yX5_copyFrom : MethodName := ⟨RX5, "copyFrom", "(LTankDivers$Path;)V"⟩
def RX6 : String := "TankDivers$Pile"
def TX6 : u_T := fun k => match k with
  | _ => ("", "", "", false)
def tyX6 : Nat → FieldType := fun k => match k with
  | _ => .int
abbrev wsX60 : List Cond := u_ws RX6 TX6 0
theorem nmX6 : ∀ a, a < 0 → ∀ b, b < 0 → a ≠ b → (TX6 a).2.1 ≠ (TX6 b).2.1 := by decide +kernel
theorem tyX6_ok : ∀ k, k < 0 → parseFieldDescriptor (TX6 k).2.2.1 = some (tyX6 k) := by decide +kernel
abbrev cX6_sizeOf : ByteArray := prog_8_method_2_code
def yX6_sizeOf : MethodName := ⟨RX6, "sizeOf", "(I)I"⟩
abbrev cX6_valueAt : ByteArray := prog_8_method_3_code
def yX6_valueAt : MethodName := ⟨RX6, "valueAt", "(II)I"⟩
abbrev cX6_sumOf : ByteArray := prog_8_method_4_code
def yX6_sumOf : MethodName := ⟨RX6, "sumOf", "(I)I"⟩
abbrev cX6_withOnTop : ByteArray := prog_8_method_5_code
def yX6_withOnTop : MethodName := ⟨RX6, "withOnTop", "(II)I"⟩
def RX7 : String := "TankDivers$Row"
def TX7 : u_T := fun k => match k with
  | _ => ("TankDivers$Row", "cells", "[I", true)
def tyX7 : Nat → FieldType := fun k => match k with
  | _ => .array .int
abbrev wsX70 : List Cond := u_ws RX7 TX7 1
theorem nmX7 : ∀ a, a < 1 → ∀ b, b < 1 → a ≠ b → (TX7 a).2.1 ≠ (TX7 b).2.1 := by decide +kernel
theorem tyX7_ok : ∀ k, k < 1 → parseFieldDescriptor (TX7 k).2.2.1 = some (tyX7 k) := by decide +kernel
abbrev cX7_init : ByteArray := prog_9_method_1_code
def yX7_init : MethodName := ⟨RX7, "<init>", "(I)V"⟩
abbrev cX7_get : ByteArray := prog_9_method_2_code
def yX7_get : MethodName := ⟨RX7, "get", "(I)I"⟩
abbrev cX7_set : ByteArray := prog_9_method_3_code
def yX7_set : MethodName := ⟨RX7, "set", "(II)V"⟩
abbrev cX7_add : ByteArray := prog_9_method_4_code
def yX7_add : MethodName := ⟨RX7, "add", "(II)V"⟩
abbrev cX7_sum : ByteArray := prog_9_method_5_code
def yX7_sum : MethodName := ⟨RX7, "sum", "()I"⟩
abbrev cX7_wipe : ByteArray := prog_9_method_6_code
def yX7_wipe : MethodName := ⟨RX7, "wipe", "()V"⟩
abbrev cX7_copyFrom : ByteArray := prog_9_method_7_code
def yX7_copyFrom : MethodName := ⟨RX7, "copyFrom", "(LTankDivers$Row;)V"⟩
def RX8 : String := "TankDivers"
def TX8 : u_T := fun k => match k with
  | 0 => ("TankDivers", "game", "LTankDivers$Game;", true)
  | 1 => ("TankDivers", "snapshot", "LTankDivers$Game;", true)
  | 2 => ("TankDivers", "history", "LTankDivers$History;", true)
  | 3 => ("TankDivers", "pad", "LTankDivers$Pad;", true)
  | 4 => ("TankDivers", "odds", "LTankDivers$Odds;", true)
  | 5 => ("TankDivers", "hasSnapshot", "Z", false)
  | 6 => ("TankDivers", "stopReason", "I", false)
  | _ => ("TankDivers", "stopPosition", "I", false)
def tyX8 : Nat → FieldType := fun k => match k with
  | 0 => .object "TankDivers$Game"
  | 1 => .object "TankDivers$Game"
  | 2 => .object "TankDivers$History"
  | 3 => .object "TankDivers$Pad"
  | 4 => .object "TankDivers$Odds"
  | 5 => .boolean
  | 6 => .int
  | _ => .int
abbrev wsX80 : List Cond := u_ws RX8 TX8 8
theorem nmX8 : ∀ a, a < 8 → ∀ b, b < 8 → a ≠ b → (TX8 a).2.1 ≠ (TX8 b).2.1 := by decide +kernel
theorem tyX8_ok : ∀ k, k < 8 → parseFieldDescriptor (TX8 k).2.2.1 = some (tyX8 k) := by decide +kernel
abbrev cX8_init : ByteArray := prog_1_method_1_code
def yX8_init : MethodName := ⟨RX8, "<init>", "()V"⟩
abbrev cX8_begin : ByteArray := prog_1_method_2_code
def yX8_begin : MethodName := ⟨RX8, "begin", "(II)I"⟩
abbrev cX8_move : ByteArray := prog_1_method_3_code
def yX8_move : MethodName := ⟨RX8, "move", "(Z)I"⟩
abbrev cX8_take : ByteArray := prog_1_method_4_code
def yX8_take : MethodName := ⟨RX8, "take", "()I"⟩
abbrev cX8_lay : ByteArray := prog_1_method_5_code
def yX8_lay : MethodName := ⟨RX8, "lay", "(I)I"⟩
abbrev cX8_nothing : ByteArray := prog_1_method_6_code
def yX8_nothing : MethodName := ⟨RX8, "nothing", "()I"⟩
abbrev cX8_append : ByteArray := prog_1_method_7_code
def yX8_append : MethodName := ⟨RX8, "append", "(I)I"⟩
abbrev cX8_clear : ByteArray := prog_1_method_8_code
def yX8_clear : MethodName := ⟨RX8, "clear", "()I"⟩
abbrev cX8_fault : ByteArray := prog_1_method_9_code
def yX8_fault : MethodName := ⟨RX8, "fault", "()I"⟩
abbrev cX8_play : ByteArray := prog_1_method_10_code
def yX8_play : MethodName := ⟨RX8, "play", "()I"⟩
abbrev cX8_why : ByteArray := prog_1_method_11_code
def yX8_why : MethodName := ⟨RX8, "why", "(I)I"⟩
abbrev cX8_diver : ByteArray := prog_1_method_12_code
def yX8_diver : MethodName := ⟨RX8, "diver", "(II)I"⟩
abbrev cX8_stack : ByteArray := prog_1_method_13_code
def yX8_stack : MethodName := ⟨RX8, "stack", "(III)I"⟩
abbrev cX8_space : ByteArray := prog_1_method_14_code
def yX8_space : MethodName := ⟨RX8, "space", "(II)I"⟩
abbrev cX8_count : ByteArray := prog_1_method_15_code
def yX8_count : MethodName := ⟨RX8, "count", "(I)I"⟩
abbrev cX8_leader : ByteArray := prog_1_method_16_code
def yX8_leader : MethodName := ⟨RX8, "leader", "()I"⟩
abbrev cX8_chances : ByteArray := prog_1_method_17_code
def yX8_chances : MethodName := ⟨RX8, "chances", "(IZI)I"⟩
abbrev cX8_homeward : ByteArray := prog_1_method_18_code
def yX8_homeward : MethodName := ⟨RX8, "homeward", "(I)I"⟩
abbrev cX8_used : ByteArray := prog_1_method_19_code
def yX8_used : MethodName := ⟨RX8, "used", "()I"⟩
abbrev cX8_brought : ByteArray := prog_1_method_20_code
def yX8_brought : MethodName := ⟨RX8, "brought", "()D"⟩
abbrev cX8_undo : ByteArray := prog_1_method_21_code
def yX8_undo : MethodName := ⟨RX8, "undo", "()I"⟩
abbrev cX8_save : ByteArray := prog_1_method_22_code
def yX8_save : MethodName := ⟨RX8, "save", "()I"⟩
abbrev cX8_restore : ByteArray := prog_1_method_23_code
def yX8_restore : MethodName := ⟨RX8, "restore", "()I"⟩
def RX9 : String := "TankDiversModel"
def TX9 : u_T := fun k => match k with
  | 0 => ("TankDiversModel", "s", "[I", true)
  | 1 => ("TankDiversModel", "past", "[I", true)
  | 2 => ("TankDiversModel", "known", "I", false)
  | 3 => ("TankDiversModel", "kept", "[I", true)
  | 4 => ("TankDiversModel", "isKept", "Z", false)
  | 5 => ("TankDiversModel", "pad", "[I", true)
  | 6 => ("TankDiversModel", "length", "I", false)
  | 7 => ("TankDiversModel", "whyReason", "I", false)
  | 8 => ("TankDiversModel", "whySpot", "I", false)
  | 9 => ("TankDiversModel", "sinking", "[I", true)
  | 10 => ("TankDiversModel", "sunk", "I", false)
  | 11 => ("TankDiversModel", "spot", "I", false)
  | 12 => ("TankDiversModel", "isForm", "Z", false)
  | 13 => ("TankDiversModel", "first", "I", false)
  | 14 => ("TankDiversModel", "deed", "I", false)
  | 15 => ("TankDiversModel", "told", "I", false)
  | 16 => ("TankDiversModel", "ways", "[I", true)
  | _ => ("TankDiversModel", "next", "[I", true)
def tyX9 : Nat → FieldType := fun k => match k with
  | 0 => .array .int
  | 1 => .array .int
  | 2 => .int
  | 3 => .array .int
  | 4 => .boolean
  | 5 => .array .int
  | 6 => .int
  | 7 => .int
  | 8 => .int
  | 9 => .array .int
  | 10 => .int
  | 11 => .int
  | 12 => .boolean
  | 13 => .int
  | 14 => .int
  | 15 => .int
  | 16 => .array .int
  | _ => .array .int
abbrev wsX90 : List Cond := u_ws RX9 TX9 18
theorem nmX9 : ∀ a, a < 18 → ∀ b, b < 18 → a ≠ b → (TX9 a).2.1 ≠ (TX9 b).2.1 := by decide +kernel
theorem tyX9_ok : ∀ k, k < 18 → parseFieldDescriptor (TX9 k).2.2.1 = some (tyX9 k) := by decide +kernel
abbrev cX9_init : ByteArray := prog_11_method_1_code
def yX9_init : MethodName := ⟨RX9, "<init>", "()V"⟩
abbrev cX9_in : ByteArray := prog_11_method_3_code
def yX9_in : MethodName := ⟨RX9, "in", "(III)Z"⟩
abbrev cX9_copies : ByteArray := prog_11_method_4_code
def yX9_copies : MethodName := ⟨RX9, "copies", "([II[II)V"⟩
abbrev cX9_records : ByteArray := prog_11_method_5_code
def yX9_records : MethodName := ⟨RX9, "records", "()V"⟩
abbrev cX9_treasures : ByteArray := prog_11_method_6_code
def yX9_treasures : MethodName := ⟨RX9, "treasures", "(I)I"⟩
abbrev cX9_treasure : ByteArray := prog_11_method_7_code
def yX9_treasure : MethodName := ⟨RX9, "treasure", "(II)I"⟩
abbrev cX9_valueOf : ByteArray := prog_11_method_8_code
def yX9_valueOf : MethodName := ⟨RX9, "valueOf", "(I)I"⟩
abbrev cX9_of : ByteArray := prog_11_method_9_code
def yX9_of : MethodName := ⟨RX9, "of", "(II)I"⟩
abbrev cX9_lays : ByteArray := prog_11_method_10_code
def yX9_lays : MethodName := ⟨RX9, "lays", "(III)V"⟩
abbrev cX9_isDiver : ByteArray := prog_11_method_11_code
def yX9_isDiver : MethodName := ⟨RX9, "isDiver", "(I)Z"⟩
abbrev cX9_at : ByteArray := prog_11_method_12_code
def yX9_at : MethodName := ⟨RX9, "at", "(I)I"⟩
abbrev cX9_diverAt : ByteArray := prog_11_method_13_code
def yX9_diverAt : MethodName := ⟨RX9, "diverAt", "(I)I"⟩
abbrev cX9_isFree : ByteArray := prog_11_method_14_code
def yX9_isFree : MethodName := ⟨RX9, "isFree", "(II)Z"⟩
abbrev cX9_valuesOf : ByteArray := prog_11_method_15_code
def yX9_valuesOf : MethodName := ⟨RX9, "valuesOf", "(I)I"⟩
abbrev cX9_treasuresOf : ByteArray := prog_11_method_16_code
def yX9_treasuresOf : MethodName := ⟨RX9, "treasuresOf", "(I)I"⟩
abbrev cX9_onPath : ByteArray := prog_11_method_17_code
def yX9_onPath : MethodName := ⟨RX9, "onPath", "()I"⟩
abbrev cX9_onWay : ByteArray := prog_11_method_18_code
def yX9_onWay : MethodName := ⟨RX9, "onWay", "()I"⟩
abbrev cX9_broughtAll : ByteArray := prog_11_method_19_code
def yX9_broughtAll : MethodName := ⟨RX9, "broughtAll", "()I"⟩
abbrev cX9_draws : ByteArray := prog_11_method_20_code
def yX9_draws : MethodName := ⟨RX9, "draws", "()I"⟩
abbrev cX9_beginsRound : ByteArray := prog_11_method_21_code
def yX9_beginsRound : MethodName := ⟨RX9, "beginsRound", "()V"⟩
abbrev cX9_goBegin : ByteArray := prog_11_method_22_code
def yX9_goBegin : MethodName := ⟨RX9, "goBegin", "(II)I"⟩
abbrev cX9_refuses : ByteArray := prog_11_method_23_code
def yX9_refuses : MethodName := ⟨RX9, "refuses", "(I)I"⟩
abbrev cX9_reasonMove : ByteArray := prog_11_method_24_code
def yX9_reasonMove : MethodName := ⟨RX9, "reasonMove", "(Z)I"⟩
abbrev cX9_behind : ByteArray := prog_11_method_25_code
def yX9_behind : MethodName := ⟨RX9, "behind", "(IIZI)I"⟩
abbrev cX9_stepsOf : ByteArray := prog_11_method_26_code
def yX9_stepsOf : MethodName := ⟨RX9, "stepsOf", "(II)I"⟩
abbrev cX9_goMove : ByteArray := prog_11_method_27_code
def yX9_goMove : MethodName := ⟨RX9, "goMove", "(Z)I"⟩
abbrev cX9_reasonDeed : ByteArray := prog_11_method_28_code
def yX9_reasonDeed : MethodName := ⟨RX9, "reasonDeed", "()I"⟩
abbrev cX9_areAllHome : ByteArray := prog_11_method_29_code
def yX9_areAllHome : MethodName := ⟨RX9, "areAllHome", "()Z"⟩
abbrev cX9_endsTurn : ByteArray := prog_11_method_30_code
def yX9_endsTurn : MethodName := ⟨RX9, "endsTurn", "()V"⟩
abbrev cX9_brings : ByteArray := prog_11_method_31_code
def yX9_brings : MethodName := ⟨RX9, "brings", "(I)V"⟩
abbrev cX9_deepest : ByteArray := prog_11_method_32_code
def yX9_deepest : MethodName := ⟨RX9, "deepest", "(I)I"⟩
abbrev cX9_closesUp : ByteArray := prog_11_method_33_code
def yX9_closesUp : MethodName := ⟨RX9, "closesUp", "()V"⟩
abbrev cX9_sinks : ByteArray := prog_11_method_34_code
def yX9_sinks : MethodName := ⟨RX9, "sinks", "(I)V"⟩
abbrev cX9_endsRound : ByteArray := prog_11_method_35_code
def yX9_endsRound : MethodName := ⟨RX9, "endsRound", "()V"⟩
abbrev cX9_goTake : ByteArray := prog_11_method_36_code
def yX9_goTake : MethodName := ⟨RX9, "goTake", "()I"⟩
abbrev cX9_goLay : ByteArray := prog_11_method_37_code
def yX9_goLay : MethodName := ⟨RX9, "goLay", "(I)I"⟩
abbrev cX9_goNothing : ByteArray := prog_11_method_38_code
def yX9_goNothing : MethodName := ⟨RX9, "goNothing", "()I"⟩
abbrev cX9_begin : ByteArray := prog_11_method_39_code
def yX9_begin : MethodName := ⟨RX9, "begin", "(II)I"⟩
abbrev cX9_move : ByteArray := prog_11_method_40_code
def yX9_move : MethodName := ⟨RX9, "move", "(Z)I"⟩
abbrev cX9_take : ByteArray := prog_11_method_41_code
def yX9_take : MethodName := ⟨RX9, "take", "()I"⟩
abbrev cX9_lay : ByteArray := prog_11_method_42_code
def yX9_lay : MethodName := ⟨RX9, "lay", "(I)I"⟩
abbrev cX9_nothing : ByteArray := prog_11_method_43_code
def yX9_nothing : MethodName := ⟨RX9, "nothing", "()I"⟩
abbrev cX9_append : ByteArray := prog_11_method_44_code
def yX9_append : MethodName := ⟨RX9, "append", "(I)I"⟩
abbrev cX9_clear : ByteArray := prog_11_method_45_code
def yX9_clear : MethodName := ⟨RX9, "clear", "()I"⟩
abbrev cX9_here : ByteArray := prog_11_method_46_code
def yX9_here : MethodName := ⟨RX9, "here", "()I"⟩
abbrev cX9_takes : ByteArray := prog_11_method_47_code
def yX9_takes : MethodName := ⟨RX9, "takes", "(Z)V"⟩
abbrev cX9_takesTurn : ByteArray := prog_11_method_48_code
def yX9_takesTurn : MethodName := ⟨RX9, "takesTurn", "()V"⟩
abbrev cX9_isGame : ByteArray := prog_11_method_49_code
def yX9_isGame : MethodName := ⟨RX9, "isGame", "()Z"⟩
abbrev cX9_fault : ByteArray := prog_11_method_50_code
def yX9_fault : MethodName := ⟨RX9, "fault", "()I"⟩
abbrev cX9_doesDeed : ByteArray := prog_11_method_51_code
def yX9_doesDeed : MethodName := ⟨RX9, "doesDeed", "()I"⟩
abbrev cX9_play : ByteArray := prog_11_method_52_code
def yX9_play : MethodName := ⟨RX9, "play", "()I"⟩
abbrev cX9_why : ByteArray := prog_11_method_53_code
def yX9_why : MethodName := ⟨RX9, "why", "(I)I"⟩
abbrev cX9_diver : ByteArray := prog_11_method_54_code
def yX9_diver : MethodName := ⟨RX9, "diver", "(II)I"⟩
abbrev cX9_stack : ByteArray := prog_11_method_55_code
def yX9_stack : MethodName := ⟨RX9, "stack", "(III)I"⟩
abbrev cX9_space : ByteArray := prog_11_method_56_code
def yX9_space : MethodName := ⟨RX9, "space", "(II)I"⟩
abbrev cX9_blank : ByteArray := prog_11_method_57_code
def yX9_blank : MethodName := ⟨RX9, "blank", "()I"⟩
abbrev cX9_count : ByteArray := prog_11_method_58_code
def yX9_count : MethodName := ⟨RX9, "count", "(I)I"⟩
abbrev cX9_leader : ByteArray := prog_11_method_59_code
def yX9_leader : MethodName := ⟨RX9, "leader", "()I"⟩
abbrev cX9_throwsOf : ByteArray := prog_11_method_60_code
def yX9_throwsOf : MethodName := ⟨RX9, "throwsOf", "(I)I"⟩
abbrev cX9_chances : ByteArray := prog_11_method_61_code
def yX9_chances : MethodName := ⟨RX9, "chances", "(IZI)I"⟩
abbrev cX9_homeward : ByteArray := prog_11_method_62_code
def yX9_homeward : MethodName := ⟨RX9, "homeward", "(I)I"⟩
abbrev cX9_used : ByteArray := prog_11_method_63_code
def yX9_used : MethodName := ⟨RX9, "used", "()I"⟩
abbrev cX9_brought : ByteArray := prog_11_method_64_code
def yX9_brought : MethodName := ⟨RX9, "brought", "()D"⟩
abbrev cX9_undo : ByteArray := prog_11_method_65_code
def yX9_undo : MethodName := ⟨RX9, "undo", "()I"⟩
abbrev cX9_save : ByteArray := prog_11_method_66_code
def yX9_save : MethodName := ⟨RX9, "save", "()I"⟩
abbrev cX9_restore : ByteArray := prog_11_method_67_code
def yX9_restore : MethodName := ⟨RX9, "restore", "()I"⟩
def RJ9 : String := "java/lang/Math"
def TJ9 : u_T := fun k => match k with
  | _ => ("", "", "", false)
def tyJ9 : Nat → FieldType := fun k => match k with
  | _ => .int
abbrev wsJ90 : List Cond := u_ws RJ9 TJ9 0
theorem nmJ9 : ∀ a, a < 0 → ∀ b, b < 0 → a ≠ b → (TJ9 a).2.1 ≠ (TJ9 b).2.1 := by decide +kernel
theorem tyJ9_ok : ∀ k, k < 0 → parseFieldDescriptor (TJ9 k).2.2.1 = some (tyJ9 k) := by decide +kernel
abbrev cJ9_abs_0f7a4 : ByteArray := prog_12_method_59_code
def yJ9_abs_0f7a4 : MethodName := ⟨RJ9, "abs", "(I)I"⟩
abbrev cJ9_max_7cf53 : ByteArray := prog_12_method_65_code
def yJ9_max_7cf53 : MethodName := ⟨RJ9, "max", "(II)I"⟩
abbrev cJ9_min_7cf53 : ByteArray := prog_12_method_69_code
def yJ9_min_7cf53 : MethodName := ⟨RJ9, "min", "(II)I"⟩
def RL : String := "TankDiversLaw"
abbrev cL_law : ByteArray := code
def yL_law : MethodName := ⟨RL, "law", "([I)Z"⟩

abbrev vwCl : List vw_C := [(RX0, TX0, 9), (RX1, TX1, 10), (RX2, TX2, 2), (RX3, TX3, 2), (RX4, TX4, 2), (RX5, TX5, 2), (RX7, TX7, 1), (RX8, TX8, 8), (RX9, TX9, 18)]
/-! ===== methods by number ===== -/
def oNs : List String := [RX0, RX1, RX2, RX3, RX4, RX5, RX6, RX7, RX8, RX9, RJ9]
def mYs : List MethodName := [yX0_init, yX0_has, yX0_muster, yX0_toShip, yX0_propertyOf, yX0_cellOf, yX0_pileOf, yX0_addPile, yX0_removePile, yX0_treasuresHeldBy, yX0_valuesHeldBy, yX0_heldTreasures, yX0_heldValues, yX0_heldByThoseOut, yX0_ownedValues, yX0_isHome, yX0_allHome, yX0_diverAt, yX0_isFreeFor, yX0_nextOut, yX0_deepest, yX0_best, yX0_bringStacks, yX0_sinkInto, yX0_sinkStacksOf, yX0_copyFrom, yX1_init, yX1_deal, yX1_drawLot, yX1_throwDie, yX1_isOver, yX1_placeOnTurn, yX1_allValues, yX1_allTreasures, yX1_whyNoMove, yX1_goesUp, yX1_makeMove, yX1_landing, yX1_stepUp, yX1_stepDown, yX1_doDeed, yX1_whyNoDeed, yX1_whyNotTake, yX1_whyNotLay, yX1_endRound, yX1_copyFrom, yX2_init, yX2_size, yX2_record, yX2_dropOldest, yX2_takeBack, yX2_stateAt, yX3_init, yX3_byThrows, yX3_bySums, yX3_throwsShowing, yX3_home, yX3_moveUp, yX4_init, yX4_length, yX4_letterAt, yX4_write, yX4_wipe, yX4_firstFault, yX4_dueBehind, yX5_init, yX5_pileAt, yX5_setPile, yX5_addSpace, yX5_blanks, yX5_treasures, yX5_values, yX5_closeUp, yX5_addStacks, yX5_copyFrom, yX6_sizeOf, yX6_valueAt, yX6_sumOf, yX6_withOnTop, yX7_init, yX7_get, yX7_set, yX7_add, yX7_sum, yX7_wipe, yX7_copyFrom, yX8_init, yX8_begin, yX8_move, yX8_take, yX8_lay, yX8_nothing, yX8_append, yX8_clear, yX8_fault, yX8_play, yX8_why, yX8_diver, yX8_stack, yX8_space, yX8_count, yX8_leader, yX8_chances, yX8_homeward, yX8_used, yX8_brought, yX8_undo, yX8_save, yX8_restore, yX9_init, yX9_in, yX9_copies, yX9_records, yX9_treasures, yX9_treasure, yX9_valueOf, yX9_of, yX9_lays, yX9_isDiver, yX9_at, yX9_diverAt, yX9_isFree, yX9_valuesOf, yX9_treasuresOf, yX9_onPath, yX9_onWay, yX9_broughtAll, yX9_draws, yX9_beginsRound, yX9_goBegin, yX9_refuses, yX9_reasonMove, yX9_behind, yX9_stepsOf, yX9_goMove, yX9_reasonDeed, yX9_areAllHome, yX9_endsTurn, yX9_brings, yX9_deepest, yX9_closesUp, yX9_sinks, yX9_endsRound, yX9_goTake, yX9_goLay, yX9_goNothing, yX9_begin, yX9_move, yX9_take, yX9_lay, yX9_nothing, yX9_append, yX9_clear, yX9_here, yX9_takes, yX9_takesTurn, yX9_isGame, yX9_fault, yX9_doesDeed, yX9_play, yX9_why, yX9_diver, yX9_stack, yX9_space, yX9_blank, yX9_count, yX9_leader, yX9_throwsOf, yX9_chances, yX9_homeward, yX9_used, yX9_brought, yX9_undo, yX9_save, yX9_restore]
def mBs : List ByteArray := [prog_2_method_1_code, prog_2_method_2_code, prog_2_method_3_code, prog_2_method_4_code, prog_2_method_5_code, prog_2_method_6_code, prog_2_method_7_code, prog_2_method_8_code, prog_2_method_9_code, prog_2_method_10_code, prog_2_method_11_code, prog_2_method_12_code, prog_2_method_13_code, prog_2_method_14_code, prog_2_method_15_code, prog_2_method_16_code, prog_2_method_17_code, prog_2_method_18_code, prog_2_method_19_code, prog_2_method_20_code, prog_2_method_21_code, prog_2_method_22_code, prog_2_method_23_code, prog_2_method_24_code, prog_2_method_25_code, prog_2_method_26_code, prog_3_method_1_code, prog_3_method_2_code, prog_3_method_3_code, prog_3_method_4_code, prog_3_method_5_code, prog_3_method_6_code, prog_3_method_7_code, prog_3_method_8_code, prog_3_method_9_code, prog_3_method_10_code, prog_3_method_11_code, prog_3_method_12_code, prog_3_method_13_code, prog_3_method_14_code, prog_3_method_15_code, prog_3_method_16_code, prog_3_method_17_code, prog_3_method_18_code, prog_3_method_19_code, prog_3_method_20_code, prog_4_method_1_code, prog_4_method_2_code, prog_4_method_3_code, prog_4_method_4_code, prog_4_method_5_code, prog_4_method_6_code, prog_5_method_1_code, prog_5_method_2_code, prog_5_method_3_code, prog_5_method_4_code, prog_5_method_5_code, prog_5_method_6_code, prog_6_method_1_code, prog_6_method_2_code, prog_6_method_3_code, prog_6_method_4_code, prog_6_method_5_code, prog_6_method_6_code, prog_6_method_7_code, prog_7_method_1_code, prog_7_method_2_code, prog_7_method_3_code, prog_7_method_4_code, prog_7_method_5_code, prog_7_method_6_code, prog_7_method_7_code, prog_7_method_8_code, prog_7_method_9_code, prog_7_method_10_code, prog_8_method_2_code, prog_8_method_3_code, prog_8_method_4_code, prog_8_method_5_code, prog_9_method_1_code, prog_9_method_2_code, prog_9_method_3_code, prog_9_method_4_code, prog_9_method_5_code, prog_9_method_6_code, prog_9_method_7_code, prog_1_method_1_code, prog_1_method_2_code, prog_1_method_3_code, prog_1_method_4_code, prog_1_method_5_code, prog_1_method_6_code, prog_1_method_7_code, prog_1_method_8_code, prog_1_method_9_code, prog_1_method_10_code, prog_1_method_11_code, prog_1_method_12_code, prog_1_method_13_code, prog_1_method_14_code, prog_1_method_15_code, prog_1_method_16_code, prog_1_method_17_code, prog_1_method_18_code, prog_1_method_19_code, prog_1_method_20_code, prog_1_method_21_code, prog_1_method_22_code, prog_1_method_23_code, prog_11_method_1_code, prog_11_method_3_code, prog_11_method_4_code, prog_11_method_5_code, prog_11_method_6_code, prog_11_method_7_code, prog_11_method_8_code, prog_11_method_9_code, prog_11_method_10_code, prog_11_method_11_code, prog_11_method_12_code, prog_11_method_13_code, prog_11_method_14_code, prog_11_method_15_code, prog_11_method_16_code, prog_11_method_17_code, prog_11_method_18_code, prog_11_method_19_code, prog_11_method_20_code, prog_11_method_21_code, prog_11_method_22_code, prog_11_method_23_code, prog_11_method_24_code, prog_11_method_25_code, prog_11_method_26_code, prog_11_method_27_code, prog_11_method_28_code, prog_11_method_29_code, prog_11_method_30_code, prog_11_method_31_code, prog_11_method_32_code, prog_11_method_33_code, prog_11_method_34_code, prog_11_method_35_code, prog_11_method_36_code, prog_11_method_37_code, prog_11_method_38_code, prog_11_method_39_code, prog_11_method_40_code, prog_11_method_41_code, prog_11_method_42_code, prog_11_method_43_code, prog_11_method_44_code, prog_11_method_45_code, prog_11_method_46_code, prog_11_method_47_code, prog_11_method_48_code, prog_11_method_49_code, prog_11_method_50_code, prog_11_method_51_code, prog_11_method_52_code, prog_11_method_53_code, prog_11_method_54_code, prog_11_method_55_code, prog_11_method_56_code, prog_11_method_57_code, prog_11_method_58_code, prog_11_method_59_code, prog_11_method_60_code, prog_11_method_61_code, prog_11_method_62_code, prog_11_method_63_code, prog_11_method_64_code, prog_11_method_65_code, prog_11_method_66_code, prog_11_method_67_code]
def mLs : List Nat := [1, 2, 2, 1, 3, 2, 3, 3, 6, 4, 4, 3, 3, 3, 1, 2, 1, 3, 4, 4, 3, 3, 2, 6, 8, 2, 1, 4, 1, 1, 1, 1, 1, 1, 2, 1, 4, 7, 3, 3, 6, 3, 1, 2, 2, 2, 2, 1, 3, 3, 3, 2, 1, 8, 7, 1, 4, 5, 1, 1, 2, 2, 2, 3, 2, 1, 2, 3, 2, 3, 3, 3, 4, 5, 2, 1, 2, 1, 2, 2, 2, 3, 3, 3, 2, 3, 1, 3, 2, 1, 2, 1, 2, 1, 1, 6, 2, 3, 6, 3, 2, 1, 4, 2, 1, 2, 1, 1, 1, 1, 3, 5, 2, 3, 2, 3, 3, 4, 2, 2, 4, 4, 4, 4, 3, 3, 3, 1, 3, 7, 2, 3, 9, 3, 8, 1, 3, 2, 2, 5, 3, 5, 5, 5, 7, 2, 3, 2, 1, 2, 1, 2, 2, 1, 2, 1, 1, 1, 1, 4, 2, 3, 5, 3, 3, 2, 3, 1, 8, 6, 3, 2, 1, 1, 1]
def mRs : List (Option FieldType) := [none, (some FieldType.boolean), none, none, (some FieldType.int), (some FieldType.int), (some FieldType.int), none, (some FieldType.int), (some FieldType.int), (some FieldType.int), (some FieldType.int), (some FieldType.int), (some FieldType.int), (some FieldType.int), (some FieldType.boolean), (some FieldType.boolean), (some FieldType.int), (some FieldType.boolean), (some FieldType.int), (some FieldType.int), (some FieldType.int), none, (some FieldType.int), (some FieldType.int), none, none, none, none, (some FieldType.int), (some FieldType.boolean), (some FieldType.int), (some FieldType.int), (some FieldType.int), (some FieldType.int), (some FieldType.boolean), (some FieldType.int), (some FieldType.int), (some FieldType.int), (some FieldType.int), (some FieldType.int), (some FieldType.int), (some FieldType.int), (some FieldType.int), none, none, none, (some FieldType.int), none, none, (some FieldType.int), (some (FieldType.object "TankDivers$Game")), none, (some FieldType.int), (some FieldType.int), (some FieldType.int), (some FieldType.int), none, none, (some FieldType.int), (some FieldType.int), (some FieldType.int), (some FieldType.int), (some FieldType.int), (some FieldType.int), none, (some FieldType.int), none, none, (some FieldType.int), (some FieldType.int), (some FieldType.int), none, none, none, (some FieldType.int), (some FieldType.int), (some FieldType.int), (some FieldType.int), none, (some FieldType.int), none, none, (some FieldType.int), none, none, none, (some FieldType.int), (some FieldType.int), (some FieldType.int), (some FieldType.int), (some FieldType.int), (some FieldType.int), (some FieldType.int), (some FieldType.int), (some FieldType.int), (some FieldType.int), (some FieldType.int), (some FieldType.int), (some FieldType.int), (some FieldType.int), (some FieldType.int), (some FieldType.int), (some FieldType.int), (some FieldType.int), (some FieldType.double), (some FieldType.int), (some FieldType.int), (some FieldType.int), none, (some FieldType.boolean), none, none, (some FieldType.int), (some FieldType.int), (some FieldType.int), (some FieldType.int), none, (some FieldType.boolean), (some FieldType.int), (some FieldType.int), (some FieldType.boolean), (some FieldType.int), (some FieldType.int), (some FieldType.int), (some FieldType.int), (some FieldType.int), (some FieldType.int), none, (some FieldType.int), (some FieldType.int), (some FieldType.int), (some FieldType.int), (some FieldType.int), (some FieldType.int), (some FieldType.int), (some FieldType.boolean), none, none, (some FieldType.int), none, none, none, (some FieldType.int), (some FieldType.int), (some FieldType.int), (some FieldType.int), (some FieldType.int), (some FieldType.int), (some FieldType.int), (some FieldType.int), (some FieldType.int), (some FieldType.int), (some FieldType.int), none, none, (some FieldType.boolean), (some FieldType.int), (some FieldType.int), (some FieldType.int), (some FieldType.int), (some FieldType.int), (some FieldType.int), (some FieldType.int), (some FieldType.int), (some FieldType.int), (some FieldType.int), (some FieldType.int), (some FieldType.int), (some FieldType.int), (some FieldType.int), (some FieldType.double), (some FieldType.int), (some FieldType.int), (some FieldType.int)]
def mNs : List Nat := [1, 2, 2, 1, 3, 2, 3, 3, 3, 2, 2, 1, 1, 1, 1, 2, 1, 2, 3, 2, 1, 1, 1, 3, 4, 2, 1, 3, 1, 1, 1, 1, 1, 1, 2, 1, 2, 4, 2, 2, 3, 3, 1, 2, 1, 2, 1, 1, 2, 1, 2, 2, 1, 4, 4, 1, 3, 2, 1, 1, 2, 2, 1, 1, 2, 1, 2, 3, 2, 1, 1, 1, 1, 3, 2, 1, 2, 1, 2, 2, 2, 3, 3, 1, 1, 2, 1, 3, 2, 1, 2, 1, 2, 1, 1, 1, 2, 3, 4, 3, 2, 1, 4, 2, 1, 1, 1, 1, 1, 1, 3, 4, 1, 1, 2, 1, 3, 4, 2, 2, 2, 3, 2, 2, 1, 1, 1, 1, 1, 3, 2, 2, 5, 3, 2, 1, 1, 1, 2, 2, 1, 2, 1, 1, 2, 1, 3, 2, 1, 2, 1, 2, 1, 1, 2, 1, 1, 1, 1, 1, 2, 3, 4, 3, 1, 2, 1, 1, 4, 2, 1, 1, 1, 1, 1]
def mSs : List Bool := [false, false, false, false, false, true, false, false, false, false, false, false, false, false, false, false, false, false, false, false, false, false, false, false, false, false, false, false, false, false, false, false, false, false, false, false, false, false, false, false, false, false, false, false, false, false, false, false, false, false, false, false, false, false, false, true, false, false, false, false, false, false, false, false, true, false, false, false, false, false, false, false, false, false, false, true, true, true, true, false, false, false, false, false, false, false, false, false, false, false, false, false, false, false, false, false, false, false, false, false, false, false, false, false, false, false, false, false, false, false, true, true, false, true, true, true, false, false, false, false, false, false, false, false, false, false, false, false, false, false, false, false, false, false, false, false, false, false, false, false, false, false, false, false, false, false, false, false, false, false, false, false, false, false, false, false, false, false, false, false, false, false, false, false, false, false, false, true, false, false, false, false, false, false, false]
def mOs : List Nat := [0, 0, 0, 0, 0, 0, 0, 0, 0, 0, 0, 0, 0, 0, 0, 0, 0, 0, 0, 0, 0, 0, 0, 0, 0, 0, 1, 1, 1, 1, 1, 1, 1, 1, 1, 1, 1, 1, 1, 1, 1, 1, 1, 1, 1, 1, 2, 2, 2, 2, 2, 2, 3, 3, 3, 3, 3, 3, 4, 4, 4, 4, 4, 4, 4, 5, 5, 5, 5, 5, 5, 5, 5, 5, 5, 6, 6, 6, 6, 7, 7, 7, 7, 7, 7, 7, 8, 8, 8, 8, 8, 8, 8, 8, 8, 8, 8, 8, 8, 8, 8, 8, 8, 8, 8, 8, 8, 8, 8, 9, 9, 9, 9, 9, 9, 9, 9, 9, 9, 9, 9, 9, 9, 9, 9, 9, 9, 9, 9, 9, 9, 9, 9, 9, 9, 9, 9, 9, 9, 9, 9, 9, 9, 9, 9, 9, 9, 9, 9, 9, 9, 9, 9, 9, 9, 9, 9, 9, 9, 9, 9, 9, 9, 9, 9, 9, 9, 9, 9, 9, 9, 9, 9, 9, 9]
def mDs : List Nat := [2, 0, 2, 1, 3, 0, 1, 2, 2, 1, 2, 2, 3, 2, 1, 1, 1, 1, 1, 2, 1, 1, 3, 2, 1, 2, 3, 3, 0, 1, 0, 1, 4, 3, 2, 1, 4, 3, 2, 2, 5, 3, 2, 2, 4, 3, 4, 0, 4, 1, 4, 0, 2, 4, 4, 1, 5, 4, 2, 0, 1, 1, 0, 1, 0, 2, 1, 1, 1, 1, 1, 2, 2, 2, 2, 0, 0, 1, 1, 1, 0, 0, 1, 0, 0, 1, 5, 5, 5, 6, 6, 6, 2, 1, 2, 6, 0, 4, 2, 2, 4, 2, 5, 6, 3, 5, 5, 4, 5, 3, 0, 0, 1, 0, 0, 1, 0, 0, 1, 0, 1, 2, 2, 1, 2, 3, 1, 0, 1, 2, 0, 1, 3, 1, 4, 0, 1, 5, 3, 1, 0, 1, 4, 6, 6, 6, 3, 5, 7, 7, 7, 1, 0, 0, 0, 1, 2, 3, 7, 8, 1, 3, 2, 2, 1, 4, 1, 0, 4, 4, 1, 4, 1, 1, 2]
def mWs : List Nat := [42, 0, 41, 21, 64, 0, 21, 44, 43, 21, 41, 44, 64, 42, 22, 21, 22, 21, 21, 42, 21, 21, 64, 49, 22, 43, 62, 62, 0, 20, 0, 21, 86, 66, 41, 21, 92, 66, 44, 44, 106, 63, 42, 42, 85, 64, 82, 0, 85, 21, 85, 0, 42, 92, 92, 21, 116, 92, 42, 0, 21, 22, 0, 21, 0, 42, 21, 22, 22, 21, 21, 41, 43, 43, 43, 0, 0, 21, 20, 21, 0, 0, 22, 0, 0, 21, 103, 107, 115, 131, 131, 131, 43, 21, 43, 131, 0, 86, 43, 43, 86, 43, 119, 139, 64, 106, 107, 85, 107, 71, 0, 0, 24, 0, 0, 22, 0, 0, 22, 0, 22, 45, 44, 22, 44, 67, 22, 0, 23, 45, 0, 22, 68, 22, 96, 0, 22, 112, 67, 22, 0, 22, 88, 133, 133, 133, 71, 123, 157, 159, 154, 22, 0, 0, 0, 22, 42, 62, 159, 179, 22, 67, 43, 45, 21, 89, 22, 0, 96, 96, 22, 89, 24, 24, 45]
def mPs : List (Nat × Nat × Nat × Nat) := [(109, 108, 0, 55), (574, 572, 573, 55), (262, 260, 261, 55), (270, 268, 269, 55), (578, 576, 577, 55), (359, 358, 0, 55), (463, 461, 462, 55), (445, 443, 444, 55), (459, 457, 458, 55), (493, 491, 492, 55), (355, 353, 354, 55), (620, 618, 619, 55), (351, 349, 350, 55), (681, 679, 680, 55), (364, 362, 363, 55), (479, 477, 478, 55), (467, 465, 466, 55), (596, 594, 595, 55), (413, 411, 412, 55), (513, 511, 512, 55), (508, 506, 507, 55), (633, 631, 632, 55), (489, 487, 488, 55), (475, 473, 474, 55), (483, 482, 10, 55), (331, 329, 330, 55), (73, 72, 0, 51), (240, 238, 239, 51), (244, 243, 0, 51), (401, 400, 3, 51), (384, 382, 383, 51), (393, 391, 392, 51), (336, 334, 335, 51), (612, 610, 611, 51), (380, 378, 379, 51), (388, 386, 387, 51), (376, 374, 375, 51), (405, 403, 404, 51), (409, 408, 4, 51), (417, 416, 5, 51), (425, 423, 424, 51), (429, 428, 6, 51), (433, 432, 7, 51), (441, 440, 8, 51), (471, 470, 9, 51), (315, 313, 314, 51), (195, 194, 0, 56), (625, 623, 624, 56), (303, 301, 302, 56), (307, 306, 1, 56), (693, 691, 692, 56), (311, 310, 2, 56), (226, 225, 0, 58), (642, 640, 641, 58), (649, 647, 648, 58), (652, 651, 0, 58), (664, 662, 663, 58), (670, 669, 11, 58), (211, 210, 0, 57), (558, 556, 557, 57), (562, 560, 561, 57), (529, 527, 528, 57), (538, 536, 537, 57), (546, 544, 545, 57), (550, 549, 0, 57), (79, 78, 0, 52), (437, 435, 436, 52), (455, 453, 454, 52), (254, 252, 253, 52), (605, 603, 604, 52), (616, 614, 615, 52), (340, 338, 339, 52), (497, 495, 496, 52), (502, 500, 501, 52), (319, 317, 318, 52), (250, 249, 0, 59), (347, 346, 0, 59), (344, 343, 0, 59), (247, 246, 0, 59), (85, 84, 0, 53), (327, 325, 326, 53), (258, 256, 257, 53), (450, 448, 449, 53), (368, 366, 367, 53), (266, 264, 265, 53), (323, 321, 322, 53), (65, 64, 0, 50), (299, 297, 298, 50), (372, 370, 371, 50), (421, 419, 420, 50), (517, 515, 516, 50), (521, 519, 520, 50), (525, 523, 524, 50), (534, 532, 533, 50), (542, 540, 541, 50), (554, 552, 553, 50), (566, 564, 565, 50), (570, 568, 569, 50), (582, 580, 581, 50), (590, 588, 589, 50), (600, 598, 599, 50), (629, 627, 628, 50), (637, 635, 636, 50), (659, 657, 658, 50), (677, 675, 676, 50), (685, 683, 684, 50), (689, 687, 688, 50), (697, 695, 696, 50), (702, 700, 701, 50), (707, 706, 0, 60), (786, 785, 0, 60), (793, 792, 0, 60), (790, 789, 16, 60), (875, 874, 0, 60), (878, 877, 0, 60), (872, 871, 0, 60), (809, 808, 19, 60), (724, 723, 15, 60), (954, 953, 44, 60), (845, 844, 27, 60), (829, 828, 24, 60), (825, 824, 23, 60), (869, 868, 33, 60), (882, 881, 34, 60), (974, 973, 46, 60), (978, 977, 47, 60), (982, 981, 48, 60), (716, 715, 13, 60), (720, 719, 14, 60), (712, 711, 12, 60), (813, 812, 20, 60), (805, 804, 18, 60), (821, 820, 22, 60), (817, 816, 21, 60), (801, 800, 17, 60), (841, 840, 26, 60), (853, 852, 29, 60), (849, 848, 28, 60), (865, 864, 32, 60), (861, 860, 31, 60), (890, 889, 36, 60), (886, 885, 35, 60), (857, 856, 30, 60), (837, 836, 25, 60), (898, 897, 37, 60), (906, 905, 38, 60), (783, 781, 782, 60), (797, 795, 796, 60), (833, 831, 832, 60), (894, 892, 893, 60), (902, 900, 901, 60), (910, 908, 909, 60), (914, 912, 913, 60), (930, 929, 41, 60), (934, 933, 42, 60), (926, 925, 40, 60), (922, 921, 39, 60), (918, 916, 917, 60), (942, 941, 43, 60), (938, 936, 937, 60), (946, 944, 945, 60), (950, 948, 949, 60), (958, 956, 957, 60), (962, 960, 961, 60), (970, 969, 45, 60), (966, 964, 965, 60), (986, 984, 985, 60), (993, 992, 0, 60), (990, 988, 989, 60), (997, 995, 996, 60), (1001, 999, 1000, 60), (1005, 1003, 1004, 60), (1009, 1007, 1008, 60), (1013, 1011, 1012, 60), (1017, 1015, 1016, 60)]
/-! ===== code: pc, instruction, length, and what its link says: (a, b, place of its word) ===== -/
abbrev AE : Type := Nat × Instr × Nat × Nat × Nat × Nat
/-- TankDivers$Crew.<init>()V -/
def q0 : List AE := [(0, .aload_n 0, 1, 0, 0, 0), (1, .invokespecial 3, 3, 999, 0, 110), (4, .aload_n 0, 1, 0, 0, 0), (5, .new 9, 3, 6, 0, 111), (8, .dup, 1, 0, 0, 0), (9, .iconst 4, 1, 0, 0, 0), (10, .invokespecial 11, 3, 79, 0, 112), (13, .putfield 14, 3, 0, 0, 113), (16, .aload_n 0, 1, 0, 0, 0), (17, .new 9, 3, 6, 0, 111), (20, .dup, 1, 0, 0, 0), (21, .iconst 4, 1, 0, 0, 0), (22, .invokespecial 11, 3, 79, 0, 112), (25, .putfield 20, 3, 0, 1, 115), (28, .aload_n 0, 1, 0, 0, 0), (29, .new 9, 3, 6, 0, 111), (32, .dup, 1, 0, 0, 0), (33, .iconst 4, 1, 0, 0, 0), (34, .invokespecial 11, 3, 79, 0, 112), (37, .putfield 23, 3, 0, 2, 117), (40, .aload_n 0, 1, 0, 0, 0), (41, .new 9, 3, 6, 0, 111), (44, .dup, 1, 0, 0, 0), (45, .iconst 4, 1, 0, 0, 0), (46, .invokespecial 11, 3, 79, 0, 112), (49, .putfield 26, 3, 0, 3, 119), (52, .aload_n 0, 1, 0, 0, 0), (53, .new 9, 3, 6, 0, 111), (56, .dup, 1, 0, 0, 0), (57, .bipush 24, 2, 0, 0, 0), (59, .invokespecial 11, 3, 79, 0, 112), (62, .putfield 29, 3, 0, 4, 122), (65, .aload_n 0, 1, 0, 0, 0), (66, .new 9, 3, 6, 0, 111), (69, .dup, 1, 0, 0, 0), (70, .iconst 4, 1, 0, 0, 0), (71, .invokespecial 11, 3, 79, 0, 112), (74, .putfield 32, 3, 0, 5, 123), (77, .aload_n 0, 1, 0, 0, 0), (78, .new 9, 3, 6, 0, 111), (81, .dup, 1, 0, 0, 0), (82, .iconst 4, 1, 0, 0, 0), (83, .invokespecial 11, 3, 79, 0, 112), (86, .putfield 35, 3, 0, 6, 124), (89, .aload_n 0, 1, 0, 0, 0), (90, .new 9, 3, 6, 0, 111), (93, .dup, 1, 0, 0, 0), (94, .iconst 4, 1, 0, 0, 0), (95, .invokespecial 11, 3, 79, 0, 112), (98, .putfield 38, 3, 0, 7, 126), (101, .return_, 1, 0, 0, 0)]
/-- TankDivers$Crew.has(I)Z -/
def q1 : List AE := [(0, .iload_n 1, 1, 0, 0, 0), (1, .ifCond .lt 15, 3, 0, 0, 0), (4, .iload_n 1, 1, 0, 0, 0), (5, .aload_n 0, 1, 0, 0, 0), (6, .getfield 41, 3, 0, 8, 127), (9, .if_icmp .ge 7, 3, 0, 0, 0), (12, .iconst 1, 1, 0, 0, 0), (13, .goto 4, 3, 0, 0, 0), (16, .iconst 0, 1, 0, 0, 0), (17, .ireturn, 1, 0, 0, 0)]
/-- TankDivers$Crew.muster(I)V -/
def q2 : List AE := [(0, .aload_n 0, 1, 0, 0, 0), (1, .iload_n 1, 1, 0, 0, 0), (2, .putfield 41, 3, 0, 8, 127), (5, .aload_n 0, 1, 0, 0, 0), (6, .getfield 32, 3, 0, 5, 123), (9, .invokevirtual 45, 3, 84, 0, 263), (12, .aload_n 0, 1, 0, 0, 0), (13, .getfield 35, 3, 0, 6, 124), (16, .invokevirtual 45, 3, 84, 0, 263), (19, .aload_n 0, 1, 0, 0, 0), (20, .getfield 38, 3, 0, 7, 126), (23, .invokevirtual 45, 3, 84, 0, 263), (26, .aload_n 0, 1, 0, 0, 0), (27, .invokevirtual 48, 3, 3, 0, 267), (30, .return_, 1, 0, 0, 0)]
/-- TankDivers$Crew.toShip()V -/
def q3 : List AE := [(0, .aload_n 0, 1, 0, 0, 0), (1, .getfield 14, 3, 0, 0, 113), (4, .invokevirtual 45, 3, 84, 0, 263), (7, .aload_n 0, 1, 0, 0, 0), (8, .getfield 20, 3, 0, 1, 115), (11, .invokevirtual 45, 3, 84, 0, 263), (14, .aload_n 0, 1, 0, 0, 0), (15, .getfield 23, 3, 0, 2, 117), (18, .invokevirtual 45, 3, 84, 0, 263), (21, .aload_n 0, 1, 0, 0, 0), (22, .getfield 26, 3, 0, 3, 119), (25, .invokevirtual 45, 3, 84, 0, 263), (28, .return_, 1, 0, 0, 0)]
/-- TankDivers$Crew.propertyOf(II)I -/
def q4 : List AE := [(0, .iload_n 2, 1, 0, 0, 0), (1, .tableswitch 126 0 8 #[51, 60, 69, 78, 87, 93, 99, 108, 117], 51, 0, 0, 0), (52, .aload_n 0, 1, 0, 0, 0), (53, .getfield 14, 3, 0, 0, 113), (56, .iload_n 1, 1, 0, 0, 0), (57, .invokevirtual 51, 3, 80, 0, 356), (60, .ireturn, 1, 0, 0, 0), (61, .aload_n 0, 1, 0, 0, 0), (62, .getfield 20, 3, 0, 1, 115), (65, .iload_n 1, 1, 0, 0, 0), (66, .invokevirtual 51, 3, 80, 0, 356), (69, .ireturn, 1, 0, 0, 0), (70, .aload_n 0, 1, 0, 0, 0), (71, .getfield 23, 3, 0, 2, 117), (74, .iload_n 1, 1, 0, 0, 0), (75, .invokevirtual 51, 3, 80, 0, 356), (78, .ireturn, 1, 0, 0, 0), (79, .aload_n 0, 1, 0, 0, 0), (80, .getfield 26, 3, 0, 3, 119), (83, .iload_n 1, 1, 0, 0, 0), (84, .invokevirtual 51, 3, 80, 0, 356), (87, .ireturn, 1, 0, 0, 0), (88, .aload_n 0, 1, 0, 0, 0), (89, .iload_n 1, 1, 0, 0, 0), (90, .invokevirtual 55, 3, 9, 0, 490), (93, .ireturn, 1, 0, 0, 0), (94, .aload_n 0, 1, 0, 0, 0), (95, .iload_n 1, 1, 0, 0, 0), (96, .invokevirtual 58, 3, 10, 0, 352), (99, .ireturn, 1, 0, 0, 0), (100, .aload_n 0, 1, 0, 0, 0), (101, .getfield 32, 3, 0, 5, 123), (104, .iload_n 1, 1, 0, 0, 0), (105, .invokevirtual 51, 3, 80, 0, 356), (108, .ireturn, 1, 0, 0, 0), (109, .aload_n 0, 1, 0, 0, 0), (110, .getfield 35, 3, 0, 6, 124), (113, .iload_n 1, 1, 0, 0, 0), (114, .invokevirtual 51, 3, 80, 0, 356), (117, .ireturn, 1, 0, 0, 0), (118, .aload_n 0, 1, 0, 0, 0), (119, .getfield 38, 3, 0, 7, 126), (122, .iload_n 1, 1, 0, 0, 0), (123, .invokevirtual 51, 3, 80, 0, 356), (126, .ireturn, 1, 0, 0, 0), (127, .iconst (-1), 1, 0, 0, 0), (128, .ireturn, 1, 0, 0, 0)]
/-- TankDivers$Crew.cellOf(II)I -/
def q5 : List AE := [(0, .iload_n 0, 1, 0, 0, 0), (1, .bipush 6, 2, 0, 0, 0), (3, .imul, 1, 0, 0, 0), (4, .iload_n 1, 1, 0, 0, 0), (5, .iadd, 1, 0, 0, 0), (6, .ireturn, 1, 0, 0, 0)]
/-- TankDivers$Crew.pileOf(II)I -/
def q6 : List AE := [(0, .aload_n 0, 1, 0, 0, 0), (1, .getfield 29, 3, 0, 4, 122), (4, .iload_n 1, 1, 0, 0, 0), (5, .iload_n 2, 1, 0, 0, 0), (6, .invokestatic 61, 3, 5, 0, 357), (9, .invokevirtual 51, 3, 80, 0, 356), (12, .ireturn, 1, 0, 0, 0)]
/-- TankDivers$Crew.addPile(II)V -/
def q7 : List AE := [(0, .aload_n 0, 1, 0, 0, 0), (1, .getfield 29, 3, 0, 4, 122), (4, .iload_n 1, 1, 0, 0, 0), (5, .aload_n 0, 1, 0, 0, 0), (6, .getfield 26, 3, 0, 3, 119), (9, .iload_n 1, 1, 0, 0, 0), (10, .invokevirtual 51, 3, 80, 0, 356), (13, .invokestatic 61, 3, 5, 0, 357), (16, .iload_n 2, 1, 0, 0, 0), (17, .invokevirtual 65, 3, 81, 0, 446), (20, .aload_n 0, 1, 0, 0, 0), (21, .getfield 26, 3, 0, 3, 119), (24, .iload_n 1, 1, 0, 0, 0), (25, .iconst 1, 1, 0, 0, 0), (26, .invokevirtual 69, 3, 82, 0, 447), (29, .return_, 1, 0, 0, 0)]
/-- TankDivers$Crew.removePile(II)I -/
def q8 : List AE := [(0, .aload_n 0, 1, 0, 0, 0), (1, .iload_n 1, 1, 0, 0, 0), (2, .iload_n 2, 1, 0, 0, 0), (3, .invokevirtual 72, 3, 6, 0, 460), (6, .istore_n 3, 1, 0, 0, 0), (7, .aload_n 0, 1, 0, 0, 0), (8, .getfield 26, 3, 0, 3, 119), (11, .iload_n 1, 1, 0, 0, 0), (12, .invokevirtual 51, 3, 80, 0, 356), (15, .iconst 1, 1, 0, 0, 0), (16, .isub, 1, 0, 0, 0), (17, .istore 4, 2, 0, 0, 0), (19, .iload_n 2, 1, 0, 0, 0), (20, .istore 5, 2, 0, 0, 0), (22, .iload 5, 2, 0, 0, 0), (24, .iload 4, 2, 0, 0, 0), (26, .if_icmp .ge 37, 3, 0, 0, 0), (29, .aload_n 0, 1, 0, 0, 0), (30, .getfield 29, 3, 0, 4, 122), (33, .iload_n 1, 1, 0, 0, 0), (34, .iload 5, 2, 0, 0, 0), (36, .invokestatic 61, 3, 5, 0, 357), (39, .aload_n 0, 1, 0, 0, 0), (40, .getfield 29, 3, 0, 4, 122), (43, .iload_n 1, 1, 0, 0, 0), (44, .iload 5, 2, 0, 0, 0), (46, .iconst 1, 1, 0, 0, 0), (47, .iadd, 1, 0, 0, 0), (48, .invokestatic 61, 3, 5, 0, 357), (51, .invokevirtual 51, 3, 80, 0, 356), (54, .invokevirtual 65, 3, 81, 0, 446), (57, .iinc 5 1, 3, 0, 0, 0), (60, .goto (-38), 3, 0, 0, 0), (63, .aload_n 0, 1, 0, 0, 0), (64, .getfield 26, 3, 0, 3, 119), (67, .iload_n 1, 1, 0, 0, 0), (68, .iload 4, 2, 0, 0, 0), (70, .invokevirtual 65, 3, 81, 0, 446), (73, .iload_n 3, 1, 0, 0, 0), (74, .ireturn, 1, 0, 0, 0)]
/-- TankDivers$Crew.treasuresHeldBy(I)I -/
def q9 : List AE := [(0, .iconst 0, 1, 0, 0, 0), (1, .istore_n 2, 1, 0, 0, 0), (2, .iconst 0, 1, 0, 0, 0), (3, .istore_n 3, 1, 0, 0, 0), (4, .iload_n 3, 1, 0, 0, 0), (5, .aload_n 0, 1, 0, 0, 0), (6, .getfield 26, 3, 0, 3, 119), (9, .iload_n 1, 1, 0, 0, 0), (10, .invokevirtual 51, 3, 80, 0, 356), (13, .if_icmp .ge 27, 3, 0, 0, 0), (16, .iload_n 2, 1, 0, 0, 0), (17, .aload_n 0, 1, 0, 0, 0), (18, .getfield 29, 3, 0, 4, 122), (21, .iload_n 1, 1, 0, 0, 0), (22, .iload_n 3, 1, 0, 0, 0), (23, .invokestatic 61, 3, 5, 0, 357), (26, .invokevirtual 51, 3, 80, 0, 356), (29, .invokestatic 75, 3, 75, 0, 484), (32, .iadd, 1, 0, 0, 0), (33, .istore_n 2, 1, 0, 0, 0), (34, .iinc 3 1, 3, 0, 0, 0), (37, .goto (-33), 3, 0, 0, 0), (40, .iload_n 2, 1, 0, 0, 0), (41, .ireturn, 1, 0, 0, 0)]
/-- TankDivers$Crew.valuesHeldBy(I)I -/
def q10 : List AE := [(0, .iconst 0, 1, 0, 0, 0), (1, .istore_n 2, 1, 0, 0, 0), (2, .iconst 0, 1, 0, 0, 0), (3, .istore_n 3, 1, 0, 0, 0), (4, .iload_n 3, 1, 0, 0, 0), (5, .aload_n 0, 1, 0, 0, 0), (6, .getfield 26, 3, 0, 3, 119), (9, .iload_n 1, 1, 0, 0, 0), (10, .invokevirtual 51, 3, 80, 0, 356), (13, .if_icmp .ge 27, 3, 0, 0, 0), (16, .iload_n 2, 1, 0, 0, 0), (17, .aload_n 0, 1, 0, 0, 0), (18, .getfield 29, 3, 0, 4, 122), (21, .iload_n 1, 1, 0, 0, 0), (22, .iload_n 3, 1, 0, 0, 0), (23, .invokestatic 61, 3, 5, 0, 357), (26, .invokevirtual 51, 3, 80, 0, 356), (29, .invokestatic 80, 3, 77, 0, 360), (32, .iadd, 1, 0, 0, 0), (33, .istore_n 2, 1, 0, 0, 0), (34, .iinc 3 1, 3, 0, 0, 0), (37, .goto (-33), 3, 0, 0, 0), (40, .iload_n 2, 1, 0, 0, 0), (41, .ireturn, 1, 0, 0, 0)]
/-- TankDivers$Crew.heldTreasures()I -/
def q11 : List AE := [(0, .iconst 0, 1, 0, 0, 0), (1, .istore_n 1, 1, 0, 0, 0), (2, .iconst 0, 1, 0, 0, 0), (3, .istore_n 2, 1, 0, 0, 0), (4, .iload_n 2, 1, 0, 0, 0), (5, .aload_n 0, 1, 0, 0, 0), (6, .getfield 41, 3, 0, 8, 127), (9, .if_icmp .ge 17, 3, 0, 0, 0), (12, .iload_n 1, 1, 0, 0, 0), (13, .aload_n 0, 1, 0, 0, 0), (14, .iload_n 2, 1, 0, 0, 0), (15, .invokevirtual 55, 3, 9, 0, 490), (18, .iadd, 1, 0, 0, 0), (19, .istore_n 1, 1, 0, 0, 0), (20, .iinc 2 1, 3, 0, 0, 0), (23, .goto (-19), 3, 0, 0, 0), (26, .iload_n 1, 1, 0, 0, 0), (27, .ireturn, 1, 0, 0, 0)]
/-- TankDivers$Crew.heldValues()I -/
def q12 : List AE := [(0, .iconst 0, 1, 0, 0, 0), (1, .istore_n 1, 1, 0, 0, 0), (2, .iconst 0, 1, 0, 0, 0), (3, .istore_n 2, 1, 0, 0, 0), (4, .iload_n 2, 1, 0, 0, 0), (5, .aload_n 0, 1, 0, 0, 0), (6, .getfield 41, 3, 0, 8, 127), (9, .if_icmp .ge 17, 3, 0, 0, 0), (12, .iload_n 1, 1, 0, 0, 0), (13, .aload_n 0, 1, 0, 0, 0), (14, .iload_n 2, 1, 0, 0, 0), (15, .invokevirtual 58, 3, 10, 0, 352), (18, .iadd, 1, 0, 0, 0), (19, .istore_n 1, 1, 0, 0, 0), (20, .iinc 2 1, 3, 0, 0, 0), (23, .goto (-19), 3, 0, 0, 0), (26, .iload_n 1, 1, 0, 0, 0), (27, .ireturn, 1, 0, 0, 0)]
/-- TankDivers$Crew.heldByThoseOut()I -/
def q13 : List AE := [(0, .iconst 0, 1, 0, 0, 0), (1, .istore_n 1, 1, 0, 0, 0), (2, .iconst 0, 1, 0, 0, 0), (3, .istore_n 2, 1, 0, 0, 0), (4, .iload_n 2, 1, 0, 0, 0), (5, .aload_n 0, 1, 0, 0, 0), (6, .getfield 41, 3, 0, 8, 127), (9, .if_icmp .ge 32, 3, 0, 0, 0), (12, .iload_n 1, 1, 0, 0, 0), (13, .aload_n 0, 1, 0, 0, 0), (14, .iload_n 2, 1, 0, 0, 0), (15, .invokevirtual 83, 3, 15, 0, 476), (18, .ifCond .eq 7, 3, 0, 0, 0), (21, .iconst 0, 1, 0, 0, 0), (22, .goto 11, 3, 0, 0, 0), (25, .aload_n 0, 1, 0, 0, 0), (26, .getfield 26, 3, 0, 3, 119), (29, .iload_n 2, 1, 0, 0, 0), (30, .invokevirtual 51, 3, 80, 0, 356), (33, .iadd, 1, 0, 0, 0), (34, .istore_n 1, 1, 0, 0, 0), (35, .iinc 2 1, 3, 0, 0, 0), (38, .goto (-34), 3, 0, 0, 0), (41, .iload_n 1, 1, 0, 0, 0), (42, .ireturn, 1, 0, 0, 0)]
/-- TankDivers$Crew.ownedValues()I -/
def q14 : List AE := [(0, .aload_n 0, 1, 0, 0, 0), (1, .getfield 32, 3, 0, 5, 123), (4, .invokevirtual 87, 3, 83, 0, 365), (7, .ireturn, 1, 0, 0, 0)]
/-- TankDivers$Crew.isHome(I)Z -/
def q15 : List AE := [(0, .aload_n 0, 1, 0, 0, 0), (1, .getfield 23, 3, 0, 2, 117), (4, .iload_n 1, 1, 0, 0, 0), (5, .invokevirtual 51, 3, 80, 0, 356), (8, .iconst 1, 1, 0, 0, 0), (9, .if_icmp .ne 7, 3, 0, 0, 0), (12, .iconst 1, 1, 0, 0, 0), (13, .goto 4, 3, 0, 0, 0), (16, .iconst 0, 1, 0, 0, 0), (17, .ireturn, 1, 0, 0, 0)]
/-- TankDivers$Crew.allHome()Z -/
def q16 : List AE := [(0, .aload_n 0, 1, 0, 0, 0), (1, .getfield 23, 3, 0, 2, 117), (4, .invokevirtual 87, 3, 83, 0, 365), (7, .aload_n 0, 1, 0, 0, 0), (8, .getfield 41, 3, 0, 8, 127), (11, .if_icmp .ne 7, 3, 0, 0, 0), (14, .iconst 1, 1, 0, 0, 0), (15, .goto 4, 3, 0, 0, 0), (18, .iconst 0, 1, 0, 0, 0), (19, .ireturn, 1, 0, 0, 0)]
/-- TankDivers$Crew.diverAt(I)I -/
def q17 : List AE := [(0, .iconst 0, 1, 0, 0, 0), (1, .istore_n 2, 1, 0, 0, 0), (2, .iload_n 2, 1, 0, 0, 0), (3, .aload_n 0, 1, 0, 0, 0), (4, .getfield 41, 3, 0, 8, 127), (7, .if_icmp .ge 23, 3, 0, 0, 0), (10, .aload_n 0, 1, 0, 0, 0), (11, .getfield 14, 3, 0, 0, 113), (14, .iload_n 2, 1, 0, 0, 0), (15, .invokevirtual 51, 3, 80, 0, 356), (18, .iload_n 1, 1, 0, 0, 0), (19, .if_icmp .ne 5, 3, 0, 0, 0), (22, .iload_n 2, 1, 0, 0, 0), (23, .ireturn, 1, 0, 0, 0), (24, .iinc 2 1, 3, 0, 0, 0), (27, .goto (-25), 3, 0, 0, 0), (30, .bipush (-4), 2, 0, 0, 0), (32, .ireturn, 1, 0, 0, 0)]
/-- TankDivers$Crew.isFreeFor(II)Z -/
def q18 : List AE := [(0, .iconst 0, 1, 0, 0, 0), (1, .istore_n 3, 1, 0, 0, 0), (2, .iload_n 3, 1, 0, 0, 0), (3, .aload_n 0, 1, 0, 0, 0), (4, .getfield 41, 3, 0, 8, 127), (7, .if_icmp .ge 28, 3, 0, 0, 0), (10, .iload_n 3, 1, 0, 0, 0), (11, .iload_n 1, 1, 0, 0, 0), (12, .if_icmp .eq 17, 3, 0, 0, 0), (15, .aload_n 0, 1, 0, 0, 0), (16, .getfield 14, 3, 0, 0, 113), (19, .iload_n 3, 1, 0, 0, 0), (20, .invokevirtual 51, 3, 80, 0, 356), (23, .iload_n 2, 1, 0, 0, 0), (24, .if_icmp .ne 5, 3, 0, 0, 0), (27, .iconst 0, 1, 0, 0, 0), (28, .ireturn, 1, 0, 0, 0), (29, .iinc 3 1, 3, 0, 0, 0), (32, .goto (-30), 3, 0, 0, 0), (35, .iconst 1, 1, 0, 0, 0), (36, .ireturn, 1, 0, 0, 0)]
/-- TankDivers$Crew.nextOut(I)I -/
def q19 : List AE := [(0, .iload_n 1, 1, 0, 0, 0), (1, .istore_n 2, 1, 0, 0, 0), (2, .iconst 0, 1, 0, 0, 0), (3, .istore_n 3, 1, 0, 0, 0), (4, .iload_n 3, 1, 0, 0, 0), (5, .aload_n 0, 1, 0, 0, 0), (6, .getfield 41, 3, 0, 8, 127), (9, .if_icmp .ge 37, 3, 0, 0, 0), (12, .iload_n 2, 1, 0, 0, 0), (13, .iconst 1, 1, 0, 0, 0), (14, .iadd, 1, 0, 0, 0), (15, .aload_n 0, 1, 0, 0, 0), (16, .getfield 41, 3, 0, 8, 127), (19, .if_icmp .ge 9, 3, 0, 0, 0), (22, .iload_n 2, 1, 0, 0, 0), (23, .iconst 1, 1, 0, 0, 0), (24, .iadd, 1, 0, 0, 0), (25, .goto 4, 3, 0, 0, 0), (28, .iconst 0, 1, 0, 0, 0), (29, .istore_n 2, 1, 0, 0, 0), (30, .aload_n 0, 1, 0, 0, 0), (31, .iload_n 2, 1, 0, 0, 0), (32, .invokevirtual 83, 3, 15, 0, 476), (35, .ifCond .ne 5, 3, 0, 0, 0), (38, .iload_n 2, 1, 0, 0, 0), (39, .ireturn, 1, 0, 0, 0), (40, .iinc 3 1, 3, 0, 0, 0), (43, .goto (-39), 3, 0, 0, 0), (46, .iload_n 1, 1, 0, 0, 0), (47, .ireturn, 1, 0, 0, 0)]
/-- TankDivers$Crew.deepest()I -/
def q20 : List AE := [(0, .iconst 0, 1, 0, 0, 0), (1, .istore_n 1, 1, 0, 0, 0), (2, .iconst 1, 1, 0, 0, 0), (3, .istore_n 2, 1, 0, 0, 0), (4, .iload_n 2, 1, 0, 0, 0), (5, .aload_n 0, 1, 0, 0, 0), (6, .getfield 41, 3, 0, 8, 127), (9, .if_icmp .ge 30, 3, 0, 0, 0), (12, .aload_n 0, 1, 0, 0, 0), (13, .getfield 14, 3, 0, 0, 113), (16, .iload_n 2, 1, 0, 0, 0), (17, .invokevirtual 51, 3, 80, 0, 356), (20, .aload_n 0, 1, 0, 0, 0), (21, .getfield 14, 3, 0, 0, 113), (24, .iload_n 1, 1, 0, 0, 0), (25, .invokevirtual 51, 3, 80, 0, 356), (28, .if_icmp .le 5, 3, 0, 0, 0), (31, .iload_n 2, 1, 0, 0, 0), (32, .istore_n 1, 1, 0, 0, 0), (33, .iinc 2 1, 3, 0, 0, 0), (36, .goto (-32), 3, 0, 0, 0), (39, .iload_n 1, 1, 0, 0, 0), (40, .ireturn, 1, 0, 0, 0)]
/-- TankDivers$Crew.best()I -/
def q21 : List AE := [(0, .iconst 0, 1, 0, 0, 0), (1, .istore_n 1, 1, 0, 0, 0), (2, .iconst 1, 1, 0, 0, 0), (3, .istore_n 2, 1, 0, 0, 0), (4, .iload_n 2, 1, 0, 0, 0), (5, .aload_n 0, 1, 0, 0, 0), (6, .getfield 41, 3, 0, 8, 127), (9, .if_icmp .ge 30, 3, 0, 0, 0), (12, .aload_n 0, 1, 0, 0, 0), (13, .getfield 32, 3, 0, 5, 123), (16, .iload_n 2, 1, 0, 0, 0), (17, .invokevirtual 51, 3, 80, 0, 356), (20, .aload_n 0, 1, 0, 0, 0), (21, .getfield 32, 3, 0, 5, 123), (24, .iload_n 1, 1, 0, 0, 0), (25, .invokevirtual 51, 3, 80, 0, 356), (28, .if_icmp .le 5, 3, 0, 0, 0), (31, .iload_n 2, 1, 0, 0, 0), (32, .istore_n 1, 1, 0, 0, 0), (33, .iinc 2 1, 3, 0, 0, 0), (36, .goto (-32), 3, 0, 0, 0), (39, .iload_n 1, 1, 0, 0, 0), (40, .ireturn, 1, 0, 0, 0)]
/-- TankDivers$Crew.bringStacks()V -/
def q22 : List AE := [(0, .iconst 0, 1, 0, 0, 0), (1, .istore_n 1, 1, 0, 0, 0), (2, .iload_n 1, 1, 0, 0, 0), (3, .aload_n 0, 1, 0, 0, 0), (4, .getfield 41, 3, 0, 8, 127), (7, .if_icmp .ge 55, 3, 0, 0, 0), (10, .aload_n 0, 1, 0, 0, 0), (11, .iload_n 1, 1, 0, 0, 0), (12, .invokevirtual 83, 3, 15, 0, 476), (15, .ifCond .eq 32, 3, 0, 0, 0), (18, .aload_n 0, 1, 0, 0, 0), (19, .getfield 32, 3, 0, 5, 123), (22, .iload_n 1, 1, 0, 0, 0), (23, .aload_n 0, 1, 0, 0, 0), (24, .iload_n 1, 1, 0, 0, 0), (25, .invokevirtual 58, 3, 10, 0, 352), (28, .invokevirtual 69, 3, 82, 0, 447), (31, .aload_n 0, 1, 0, 0, 0), (32, .getfield 35, 3, 0, 6, 124), (35, .iload_n 1, 1, 0, 0, 0), (36, .aload_n 0, 1, 0, 0, 0), (37, .iload_n 1, 1, 0, 0, 0), (38, .invokevirtual 55, 3, 9, 0, 490), (41, .invokevirtual 69, 3, 82, 0, 447), (44, .goto 12, 3, 0, 0, 0), (47, .aload_n 0, 1, 0, 0, 0), (48, .getfield 38, 3, 0, 7, 126), (51, .iload_n 1, 1, 0, 0, 0), (52, .iconst 1, 1, 0, 0, 0), (53, .invokevirtual 69, 3, 82, 0, 447), (56, .iinc 1 1, 3, 0, 0, 0), (59, .goto (-57), 3, 0, 0, 0), (62, .return_, 1, 0, 0, 0)]
/-- TankDivers$Crew.sinkInto(LTankDivers$Row;I)I -/
def q23 : List AE := [(0, .iconst 0, 1, 0, 0, 0), (1, .istore_n 3, 1, 0, 0, 0), (2, .iload_n 2, 1, 0, 0, 0), (3, .istore 4, 2, 0, 0, 0), (5, .iload 4, 2, 0, 0, 0), (7, .ifCond .lt 59, 3, 0, 0, 0), (10, .iconst 0, 1, 0, 0, 0), (11, .istore 5, 2, 0, 0, 0), (13, .iload 5, 2, 0, 0, 0), (15, .aload_n 0, 1, 0, 0, 0), (16, .getfield 41, 3, 0, 8, 127), (19, .if_icmp .ge 41, 3, 0, 0, 0), (22, .aload_n 0, 1, 0, 0, 0), (23, .getfield 14, 3, 0, 0, 113), (26, .iload 5, 2, 0, 0, 0), (28, .invokevirtual 51, 3, 80, 0, 356), (31, .iload 4, 2, 0, 0, 0), (33, .if_icmp .ne 21, 3, 0, 0, 0), (36, .aload_n 0, 1, 0, 0, 0), (37, .iload 5, 2, 0, 0, 0), (39, .invokevirtual 83, 3, 15, 0, 476), (42, .ifCond .ne 12, 3, 0, 0, 0), (45, .aload_n 0, 1, 0, 0, 0), (46, .iload 5, 2, 0, 0, 0), (48, .aload_n 1, 1, 0, 0, 0), (49, .iload_n 3, 1, 0, 0, 0), (50, .invokevirtual 91, 3, 24, 0, 480), (53, .istore_n 3, 1, 0, 0, 0), (54, .iinc 5 1, 3, 0, 0, 0), (57, .goto (-44), 3, 0, 0, 0), (60, .iinc 4 (-1), 3, 0, 0, 0), (63, .goto (-58), 3, 0, 0, 0), (66, .iload_n 3, 1, 0, 0, 0), (67, .ireturn, 1, 0, 0, 0)]
/-- TankDivers$Crew.sinkStacksOf(ILTankDivers$Row;I)I -/
def q24 : List AE := [(0, .iload_n 3, 1, 0, 0, 0), (1, .istore 4, 2, 0, 0, 0), (3, .iconst 0, 1, 0, 0, 0), (4, .istore 5, 2, 0, 0, 0), (6, .iload 5, 2, 0, 0, 0), (8, .aload_n 0, 1, 0, 0, 0), (9, .getfield 26, 3, 0, 3, 119), (12, .iload_n 1, 1, 0, 0, 0), (13, .invokevirtual 51, 3, 80, 0, 356), (16, .if_icmp .ge 59, 3, 0, 0, 0), (19, .aload_n 0, 1, 0, 0, 0), (20, .getfield 29, 3, 0, 4, 122), (23, .iload_n 1, 1, 0, 0, 0), (24, .iload 5, 2, 0, 0, 0), (26, .invokestatic 61, 3, 5, 0, 357), (29, .invokevirtual 51, 3, 80, 0, 356), (32, .istore 6, 2, 0, 0, 0), (34, .iconst 0, 1, 0, 0, 0), (35, .istore 7, 2, 0, 0, 0), (37, .iload 7, 2, 0, 0, 0), (39, .iload 6, 2, 0, 0, 0), (41, .invokestatic 75, 3, 75, 0, 484), (44, .if_icmp .ge 25, 3, 0, 0, 0), (47, .aload_n 2, 1, 0, 0, 0), (48, .iload 4, 2, 0, 0, 0), (50, .iload 6, 2, 0, 0, 0), (52, .iload 7, 2, 0, 0, 0), (54, .invokestatic 95, 3, 76, 0, 485), (57, .invokevirtual 65, 3, 81, 0, 446), (60, .iinc 4 1, 3, 0, 0, 0), (63, .iinc 7 1, 3, 0, 0, 0), (66, .goto (-29), 3, 0, 0, 0), (69, .iinc 5 1, 3, 0, 0, 0), (72, .goto (-66), 3, 0, 0, 0), (75, .iload 4, 2, 0, 0, 0), (77, .ireturn, 1, 0, 0, 0)]
/-- TankDivers$Crew.copyFrom(LTankDivers$Crew;)V -/
def q25 : List AE := [(0, .aload_n 0, 1, 0, 0, 0), (1, .aload_n 1, 1, 0, 0, 0), (2, .getfield 41, 3, 0, 8, 127), (5, .putfield 41, 3, 0, 8, 127), (8, .aload_n 0, 1, 0, 0, 0), (9, .getfield 14, 3, 0, 0, 113), (12, .aload_n 1, 1, 0, 0, 0), (13, .getfield 14, 3, 0, 0, 113), (16, .invokevirtual 98, 3, 85, 0, 332), (19, .aload_n 0, 1, 0, 0, 0), (20, .getfield 20, 3, 0, 1, 115), (23, .aload_n 1, 1, 0, 0, 0), (24, .getfield 20, 3, 0, 1, 115), (27, .invokevirtual 98, 3, 85, 0, 332), (30, .aload_n 0, 1, 0, 0, 0), (31, .getfield 23, 3, 0, 2, 117), (34, .aload_n 1, 1, 0, 0, 0), (35, .getfield 23, 3, 0, 2, 117), (38, .invokevirtual 98, 3, 85, 0, 332), (41, .aload_n 0, 1, 0, 0, 0), (42, .getfield 26, 3, 0, 3, 119), (45, .aload_n 1, 1, 0, 0, 0), (46, .getfield 26, 3, 0, 3, 119), (49, .invokevirtual 98, 3, 85, 0, 332), (52, .aload_n 0, 1, 0, 0, 0), (53, .getfield 29, 3, 0, 4, 122), (56, .aload_n 1, 1, 0, 0, 0), (57, .getfield 29, 3, 0, 4, 122), (60, .invokevirtual 98, 3, 85, 0, 332), (63, .aload_n 0, 1, 0, 0, 0), (64, .getfield 32, 3, 0, 5, 123), (67, .aload_n 1, 1, 0, 0, 0), (68, .getfield 32, 3, 0, 5, 123), (71, .invokevirtual 98, 3, 85, 0, 332), (74, .aload_n 0, 1, 0, 0, 0), (75, .getfield 35, 3, 0, 6, 124), (78, .aload_n 1, 1, 0, 0, 0), (79, .getfield 35, 3, 0, 6, 124), (82, .invokevirtual 98, 3, 85, 0, 332), (85, .aload_n 0, 1, 0, 0, 0), (86, .getfield 38, 3, 0, 7, 126), (89, .aload_n 1, 1, 0, 0, 0), (90, .getfield 38, 3, 0, 7, 126), (93, .invokevirtual 98, 3, 85, 0, 332), (96, .return_, 1, 0, 0, 0)]
/-- TankDivers$Game.<init>()V -/
def q26 : List AE := [(0, .aload_n 0, 1, 0, 0, 0), (1, .invokespecial 3, 3, 999, 0, 74), (4, .aload_n 0, 1, 0, 0, 0), (5, .new 9, 3, 5, 0, 75), (8, .dup, 1, 0, 0, 0), (9, .invokespecial 11, 3, 65, 1, 77), (12, .putfield 12, 3, 1, 0, 150), (15, .aload_n 0, 1, 0, 0, 0), (16, .new 18, 3, 0, 0, 105), (19, .dup, 1, 0, 0, 0), (20, .invokespecial 20, 3, 0, 1, 107), (23, .putfield 21, 3, 1, 1, 153), (26, .aload_n 0, 1, 0, 0, 0), (27, .new 25, 3, 6, 0, 148), (30, .dup, 1, 0, 0, 0), (31, .bipush 16, 2, 0, 0, 0), (33, .invokespecial 27, 3, 79, 0, 149), (36, .putfield 30, 3, 1, 2, 155), (39, .return_, 1, 0, 0, 0)]
/-- TankDivers$Game.deal(II)V -/
def q27 : List AE := [(0, .aload_n 0, 1, 0, 0, 0), (1, .iload_n 2, 1, 0, 0, 0), (2, .putfield 34, 3, 1, 3, 156), (5, .aload_n 0, 1, 0, 0, 0), (6, .getfield 12, 3, 1, 0, 150), (9, .iconst 0, 1, 0, 0, 0), (10, .putfield 38, 3, 5, 1, 96), (13, .iconst 1, 1, 0, 0, 0), (14, .istore_n 3, 1, 0, 0, 0), (15, .iload_n 3, 1, 0, 0, 0), (16, .bipush 16, 2, 0, 0, 0), (18, .if_icmp .gt 38, 3, 0, 0, 0), (21, .aload_n 0, 1, 0, 0, 0), (22, .invokevirtual 41, 3, 28, 0, 241), (25, .aload_n 0, 1, 0, 0, 0), (26, .getfield 12, 3, 1, 0, 150), (29, .iconst 0, 1, 0, 0, 0), (30, .iload_n 3, 1, 0, 0, 0), (31, .iconst 1, 1, 0, 0, 0), (32, .isub, 1, 0, 0, 0), (33, .iconst 4, 1, 0, 0, 0), (34, .idiv, 1, 0, 0, 0), (35, .iconst 4, 1, 0, 0, 0), (36, .imul, 1, 0, 0, 0), (37, .aload_n 0, 1, 0, 0, 0), (38, .getfield 34, 3, 1, 3, 156), (41, .iconst 4, 1, 0, 0, 0), (42, .irem, 1, 0, 0, 0), (43, .iadd, 1, 0, 0, 0), (44, .invokestatic 46, 3, 78, 0, 245), (47, .invokevirtual 50, 3, 68, 0, 251), (50, .iinc 3 1, 3, 0, 0, 0), (53, .goto (-38), 3, 0, 0, 0), (56, .aload_n 0, 1, 0, 0, 0), (57, .getfield 21, 3, 1, 1, 153), (60, .iload_n 1, 1, 0, 0, 0), (61, .invokevirtual 53, 3, 2, 0, 259), (64, .aload_n 0, 1, 0, 0, 0), (65, .iconst 0, 1, 0, 0, 0), (66, .putfield 56, 3, 1, 4, 158), (69, .aload_n 0, 1, 0, 0, 0), (70, .iconst 0, 1, 0, 0, 0), (71, .putfield 59, 3, 1, 5, 160), (74, .aload_n 0, 1, 0, 0, 0), (75, .iconst 0, 1, 0, 0, 0), (76, .putfield 62, 3, 1, 6, 162), (79, .aload_n 0, 1, 0, 0, 0), (80, .bipush 25, 2, 0, 0, 0), (82, .putfield 66, 3, 1, 7, 164), (85, .aload_n 0, 1, 0, 0, 0), (86, .iconst 0, 1, 0, 0, 0), (87, .putfield 69, 3, 1, 8, 166), (90, .return_, 1, 0, 0, 0)]
/-- TankDivers$Game.drawLot()V -/
def q28 : List AE := [(0, .aload_n 0, 1, 0, 0, 0), (1, .sipush 421, 3, 0, 0, 0), (4, .aload_n 0, 1, 0, 0, 0), (5, .getfield 34, 3, 1, 3, 156), (8, .imul, 1, 0, 0, 0), (9, .sipush 1663, 3, 0, 0, 0), (12, .iadd, 1, 0, 0, 0), (13, .sipush 10000, 3, 0, 0, 0), (16, .irem, 1, 0, 0, 0), (17, .putfield 34, 3, 1, 3, 156), (20, .return_, 1, 0, 0, 0)]
/-- TankDivers$Game.throwDie()I -/
def q29 : List AE := [(0, .aload_n 0, 1, 0, 0, 0), (1, .invokevirtual 41, 3, 28, 0, 241), (4, .iconst 1, 1, 0, 0, 0), (5, .aload_n 0, 1, 0, 0, 0), (6, .getfield 34, 3, 1, 3, 156), (9, .iconst 3, 1, 0, 0, 0), (10, .irem, 1, 0, 0, 0), (11, .iadd, 1, 0, 0, 0), (12, .ireturn, 1, 0, 0, 0)]
/-- TankDivers$Game.isOver()Z -/
def q30 : List AE := [(0, .aload_n 0, 1, 0, 0, 0), (1, .getfield 56, 3, 1, 4, 158), (4, .iconst 3, 1, 0, 0, 0), (5, .if_icmp .lt 7, 3, 0, 0, 0), (8, .iconst 1, 1, 0, 0, 0), (9, .goto 4, 3, 0, 0, 0), (12, .iconst 0, 1, 0, 0, 0), (13, .ireturn, 1, 0, 0, 0)]
/-- TankDivers$Game.placeOnTurn()I -/
def q31 : List AE := [(0, .aload_n 0, 1, 0, 0, 0), (1, .getfield 21, 3, 1, 1, 153), (4, .getfield 72, 3, 0, 0, 114), (7, .aload_n 0, 1, 0, 0, 0), (8, .getfield 59, 3, 1, 5, 160), (11, .invokevirtual 75, 3, 80, 0, 389), (14, .ireturn, 1, 0, 0, 0)]
/-- TankDivers$Game.allValues()I -/
def q32 : List AE := [(0, .aload_n 0, 1, 0, 0, 0), (1, .getfield 12, 3, 1, 0, 150), (4, .invokevirtual 79, 3, 71, 0, 337), (7, .aload_n 0, 1, 0, 0, 0), (8, .getfield 21, 3, 1, 1, 153), (11, .invokevirtual 83, 3, 12, 0, 348), (14, .iadd, 1, 0, 0, 0), (15, .aload_n 0, 1, 0, 0, 0), (16, .getfield 21, 3, 1, 1, 153), (19, .invokevirtual 86, 3, 14, 0, 361), (22, .iadd, 1, 0, 0, 0), (23, .ireturn, 1, 0, 0, 0)]
/-- TankDivers$Game.allTreasures()I -/
def q33 : List AE := [(0, .aload_n 0, 1, 0, 0, 0), (1, .getfield 12, 3, 1, 0, 150), (4, .invokevirtual 89, 3, 70, 0, 613), (7, .aload_n 0, 1, 0, 0, 0), (8, .getfield 21, 3, 1, 1, 153), (11, .invokevirtual 92, 3, 11, 0, 617), (14, .iadd, 1, 0, 0, 0), (15, .aload_n 0, 1, 0, 0, 0), (16, .getfield 21, 3, 1, 1, 153), (19, .getfield 95, 3, 0, 6, 125), (22, .invokevirtual 98, 3, 83, 0, 621), (25, .iadd, 1, 0, 0, 0), (26, .ireturn, 1, 0, 0, 0)]
/-- TankDivers$Game.whyNoMove(Z)I -/
def q34 : List AE := [(0, .aload_n 0, 1, 0, 0, 0), (1, .invokevirtual 101, 3, 30, 0, 381), (4, .ifCond .eq 5, 3, 0, 0, 0), (7, .iconst 1, 1, 0, 0, 0), (8, .ireturn, 1, 0, 0, 0), (9, .aload_n 0, 1, 0, 0, 0), (10, .getfield 62, 3, 1, 6, 162), (13, .ifCond .eq 5, 3, 0, 0, 0), (16, .iconst 3, 1, 0, 0, 0), (17, .ireturn, 1, 0, 0, 0), (18, .iload_n 1, 1, 0, 0, 0), (19, .ifCond .eq 21, 3, 0, 0, 0), (22, .aload_n 0, 1, 0, 0, 0), (23, .invokevirtual 105, 3, 35, 0, 385), (26, .ifCond .ne 10, 3, 0, 0, 0), (29, .aload_n 0, 1, 0, 0, 0), (30, .invokevirtual 108, 3, 31, 0, 390), (33, .ifCond .ne 7, 3, 0, 0, 0), (36, .iconst 4, 1, 0, 0, 0), (37, .goto 4, 3, 0, 0, 0), (40, .iconst 0, 1, 0, 0, 0), (41, .ireturn, 1, 0, 0, 0)]
/-- TankDivers$Game.goesUp()Z -/
def q35 : List AE := [(0, .aload_n 0, 1, 0, 0, 0), (1, .getfield 21, 3, 1, 1, 153), (4, .getfield 111, 3, 0, 1, 116), (7, .aload_n 0, 1, 0, 0, 0), (8, .getfield 59, 3, 1, 5, 160), (11, .invokevirtual 75, 3, 80, 0, 389), (14, .iconst 1, 1, 0, 0, 0), (15, .if_icmp .ne 7, 3, 0, 0, 0), (18, .iconst 1, 1, 0, 0, 0), (19, .goto 4, 3, 0, 0, 0), (22, .iconst 0, 1, 0, 0, 0), (23, .ireturn, 1, 0, 0, 0)]
/-- TankDivers$Game.makeMove(Z)I -/
def q36 : List AE := [(0, .aload_n 0, 1, 0, 0, 0), (1, .iload_n 1, 1, 0, 0, 0), (2, .invokevirtual 114, 3, 34, 0, 377), (5, .istore_n 2, 1, 0, 0, 0), (6, .iload_n 2, 1, 0, 0, 0), (7, .ifCond .eq 15, 3, 0, 0, 0), (10, .aload_n 0, 1, 0, 0, 0), (11, .dup, 1, 0, 0, 0), (12, .getfield 118, 3, 1, 9, 168), (15, .iconst 1, 1, 0, 0, 0), (16, .iadd, 1, 0, 0, 0), (17, .putfield 118, 3, 1, 9, 168), (20, .iload_n 2, 1, 0, 0, 0), (21, .ireturn, 1, 0, 0, 0), (22, .aload_n 0, 1, 0, 0, 0), (23, .dup, 1, 0, 0, 0), (24, .getfield 66, 3, 1, 7, 164), (27, .aload_n 0, 1, 0, 0, 0), (28, .getfield 66, 3, 1, 7, 164), (31, .aload_n 0, 1, 0, 0, 0), (32, .getfield 21, 3, 1, 1, 153), (35, .getfield 121, 3, 0, 3, 120), (38, .aload_n 0, 1, 0, 0, 0), (39, .getfield 59, 3, 1, 5, 160), (42, .invokevirtual 75, 3, 80, 0, 389), (45, .invokestatic 124, 3, 902, 0, 394), (48, .isub, 1, 0, 0, 0), (49, .putfield 66, 3, 1, 7, 164), (52, .iload_n 1, 1, 0, 0, 0), (53, .ifCond .eq 18, 3, 0, 0, 0), (56, .aload_n 0, 1, 0, 0, 0), (57, .getfield 21, 3, 1, 1, 153), (60, .getfield 111, 3, 0, 1, 116), (63, .aload_n 0, 1, 0, 0, 0), (64, .getfield 59, 3, 1, 5, 160), (67, .iconst 1, 1, 0, 0, 0), (68, .invokevirtual 129, 3, 81, 0, 397), (71, .aload_n 0, 1, 0, 0, 0), (72, .aload_n 0, 1, 0, 0, 0), (73, .invokevirtual 133, 3, 29, 0, 398), (76, .aload_n 0, 1, 0, 0, 0), (77, .invokevirtual 133, 3, 29, 0, 398), (80, .iadd, 1, 0, 0, 0), (81, .putfield 69, 3, 1, 8, 166), (84, .aload_n 0, 1, 0, 0, 0), (85, .aload_n 0, 1, 0, 0, 0), (86, .invokevirtual 108, 3, 31, 0, 390), (89, .aload_n 0, 1, 0, 0, 0), (90, .invokevirtual 105, 3, 35, 0, 385), (93, .aload_n 0, 1, 0, 0, 0), (94, .getfield 69, 3, 1, 8, 166), (97, .invokevirtual 136, 3, 37, 0, 402), (100, .istore_n 3, 1, 0, 0, 0), (101, .aload_n 0, 1, 0, 0, 0), (102, .getfield 21, 3, 1, 1, 153), (105, .getfield 72, 3, 0, 0, 114), (108, .aload_n 0, 1, 0, 0, 0), (109, .getfield 59, 3, 1, 5, 160), (112, .iload_n 3, 1, 0, 0, 0), (113, .invokevirtual 129, 3, 81, 0, 397), (116, .aload_n 0, 1, 0, 0, 0), (117, .invokevirtual 105, 3, 35, 0, 385), (120, .ifCond .eq 22, 3, 0, 0, 0), (123, .iload_n 3, 1, 0, 0, 0), (124, .ifCond .ne 18, 3, 0, 0, 0), (127, .aload_n 0, 1, 0, 0, 0), (128, .getfield 21, 3, 1, 1, 153), (131, .getfield 140, 3, 0, 2, 118), (134, .aload_n 0, 1, 0, 0, 0), (135, .getfield 59, 3, 1, 5, 160), (138, .iconst 1, 1, 0, 0, 0), (139, .invokevirtual 129, 3, 81, 0, 397), (142, .aload_n 0, 1, 0, 0, 0), (143, .iconst 1, 1, 0, 0, 0), (144, .putfield 62, 3, 1, 6, 162), (147, .bipush 10, 2, 0, 0, 0), (149, .iload_n 3, 1, 0, 0, 0), (150, .iadd, 1, 0, 0, 0), (151, .ireturn, 1, 0, 0, 0)]
/-- TankDivers$Game.landing(IZI)I -/
def q37 : List AE := [(0, .iload_n 3, 1, 0, 0, 0), (1, .aload_n 0, 1, 0, 0, 0), (2, .getfield 21, 3, 1, 1, 153), (5, .getfield 121, 3, 0, 3, 120), (8, .aload_n 0, 1, 0, 0, 0), (9, .getfield 59, 3, 1, 5, 160), (12, .invokevirtual 75, 3, 80, 0, 389), (15, .isub, 1, 0, 0, 0), (16, .istore 4, 2, 0, 0, 0), (18, .iload_n 1, 1, 0, 0, 0), (19, .istore 5, 2, 0, 0, 0), (21, .iconst 0, 1, 0, 0, 0), (22, .istore 6, 2, 0, 0, 0), (24, .iload 6, 2, 0, 0, 0), (26, .iload 4, 2, 0, 0, 0), (28, .if_icmp .ge 30, 3, 0, 0, 0), (31, .iload_n 2, 1, 0, 0, 0), (32, .ifCond .eq 12, 3, 0, 0, 0), (35, .aload_n 0, 1, 0, 0, 0), (36, .iload 5, 2, 0, 0, 0), (38, .invokevirtual 143, 3, 38, 0, 406), (41, .goto 9, 3, 0, 0, 0), (44, .aload_n 0, 1, 0, 0, 0), (45, .iload 5, 2, 0, 0, 0), (47, .invokevirtual 146, 3, 39, 0, 414), (50, .istore 5, 2, 0, 0, 0), (52, .iinc 6 1, 3, 0, 0, 0), (55, .goto (-31), 3, 0, 0, 0), (58, .iload 5, 2, 0, 0, 0), (60, .ireturn, 1, 0, 0, 0)]
/-- TankDivers$Game.stepUp(I)I -/
def q38 : List AE := [(0, .iload_n 1, 1, 0, 0, 0), (1, .iconst 1, 1, 0, 0, 0), (2, .isub, 1, 0, 0, 0), (3, .istore_n 2, 1, 0, 0, 0), (4, .iload_n 2, 1, 0, 0, 0), (5, .ifCond .le 26, 3, 0, 0, 0), (8, .aload_n 0, 1, 0, 0, 0), (9, .getfield 21, 3, 1, 1, 153), (12, .aload_n 0, 1, 0, 0, 0), (13, .getfield 59, 3, 1, 5, 160), (16, .iload_n 2, 1, 0, 0, 0), (17, .invokevirtual 149, 3, 18, 0, 410), (20, .ifCond .eq 5, 3, 0, 0, 0), (23, .iload_n 2, 1, 0, 0, 0), (24, .ireturn, 1, 0, 0, 0), (25, .iinc 2 (-1), 3, 0, 0, 0), (28, .goto (-24), 3, 0, 0, 0), (31, .iconst 0, 1, 0, 0, 0), (32, .ireturn, 1, 0, 0, 0)]
/-- TankDivers$Game.stepDown(I)I -/
def q39 : List AE := [(0, .iload_n 1, 1, 0, 0, 0), (1, .iconst 1, 1, 0, 0, 0), (2, .iadd, 1, 0, 0, 0), (3, .istore_n 2, 1, 0, 0, 0), (4, .iload_n 2, 1, 0, 0, 0), (5, .aload_n 0, 1, 0, 0, 0), (6, .getfield 12, 3, 1, 0, 150), (9, .getfield 38, 3, 5, 1, 96), (12, .if_icmp .gt 26, 3, 0, 0, 0), (15, .aload_n 0, 1, 0, 0, 0), (16, .getfield 21, 3, 1, 1, 153), (19, .aload_n 0, 1, 0, 0, 0), (20, .getfield 59, 3, 1, 5, 160), (23, .iload_n 2, 1, 0, 0, 0), (24, .invokevirtual 149, 3, 18, 0, 410), (27, .ifCond .eq 5, 3, 0, 0, 0), (30, .iload_n 2, 1, 0, 0, 0), (31, .ireturn, 1, 0, 0, 0), (32, .iinc 2 1, 3, 0, 0, 0), (35, .goto (-31), 3, 0, 0, 0), (38, .iload_n 1, 1, 0, 0, 0), (39, .ireturn, 1, 0, 0, 0)]
/-- TankDivers$Game.doDeed(II)I -/
def q40 : List AE := [(0, .aload_n 0, 1, 0, 0, 0), (1, .iload_n 1, 1, 0, 0, 0), (2, .iload_n 2, 1, 0, 0, 0), (3, .invokevirtual 153, 3, 41, 0, 426), (6, .istore_n 3, 1, 0, 0, 0), (7, .iload_n 3, 1, 0, 0, 0), (8, .ifCond .eq 15, 3, 0, 0, 0), (11, .aload_n 0, 1, 0, 0, 0), (12, .dup, 1, 0, 0, 0), (13, .getfield 118, 3, 1, 9, 168), (16, .iconst 1, 1, 0, 0, 0), (17, .iadd, 1, 0, 0, 0), (18, .putfield 118, 3, 1, 9, 168), (21, .iload_n 3, 1, 0, 0, 0), (22, .ireturn, 1, 0, 0, 0), (23, .aload_n 0, 1, 0, 0, 0), (24, .invokevirtual 108, 3, 31, 0, 390), (27, .istore 4, 2, 0, 0, 0), (29, .bipush 10, 2, 0, 0, 0), (31, .istore 5, 2, 0, 0, 0), (33, .iload_n 1, 1, 0, 0, 0), (34, .bipush 116, 2, 0, 0, 0), (36, .if_icmp .ne 55, 3, 0, 0, 0), (39, .aload_n 0, 1, 0, 0, 0), (40, .getfield 21, 3, 1, 1, 153), (43, .aload_n 0, 1, 0, 0, 0), (44, .getfield 59, 3, 1, 5, 160), (47, .aload_n 0, 1, 0, 0, 0), (48, .getfield 12, 3, 1, 0, 150), (51, .iload 4, 2, 0, 0, 0), (53, .invokevirtual 156, 3, 66, 0, 434), (56, .invokevirtual 159, 3, 7, 0, 442), (59, .aload_n 0, 1, 0, 0, 0), (60, .getfield 12, 3, 1, 0, 150), (63, .iload 4, 2, 0, 0, 0), (65, .iconst 0, 1, 0, 0, 0), (66, .invokevirtual 162, 3, 67, 0, 452), (69, .iload 5, 2, 0, 0, 0), (71, .aload_n 0, 1, 0, 0, 0), (72, .getfield 21, 3, 1, 1, 153), (75, .getfield 121, 3, 0, 3, 120), (78, .aload_n 0, 1, 0, 0, 0), (79, .getfield 59, 3, 1, 5, 160), (82, .invokevirtual 75, 3, 80, 0, 389), (85, .iadd, 1, 0, 0, 0), (86, .istore 5, 2, 0, 0, 0), (88, .goto 49, 3, 0, 0, 0), (91, .iload_n 1, 1, 0, 0, 0), (92, .bipush 108, 2, 0, 0, 0), (94, .if_icmp .ne 43, 3, 0, 0, 0), (97, .aload_n 0, 1, 0, 0, 0), (98, .getfield 12, 3, 1, 0, 150), (101, .iload 4, 2, 0, 0, 0), (103, .aload_n 0, 1, 0, 0, 0), (104, .getfield 21, 3, 1, 1, 153), (107, .aload_n 0, 1, 0, 0, 0), (108, .getfield 59, 3, 1, 5, 160), (111, .iload_n 2, 1, 0, 0, 0), (112, .invokevirtual 165, 3, 8, 0, 456), (115, .invokevirtual 162, 3, 67, 0, 452), (118, .iload 5, 2, 0, 0, 0), (120, .aload_n 0, 1, 0, 0, 0), (121, .getfield 21, 3, 1, 1, 153), (124, .getfield 121, 3, 0, 3, 120), (127, .aload_n 0, 1, 0, 0, 0), (128, .getfield 59, 3, 1, 5, 160), (131, .invokevirtual 75, 3, 80, 0, 389), (134, .iadd, 1, 0, 0, 0), (135, .istore 5, 2, 0, 0, 0), (137, .aload_n 0, 1, 0, 0, 0), (138, .iconst 0, 1, 0, 0, 0), (139, .putfield 62, 3, 1, 6, 162), (142, .aload_n 0, 1, 0, 0, 0), (143, .getfield 66, 3, 1, 7, 164), (146, .ifCond .eq 13, 3, 0, 0, 0), (149, .aload_n 0, 1, 0, 0, 0), (150, .getfield 21, 3, 1, 1, 153), (153, .invokevirtual 168, 3, 16, 0, 464), (156, .ifCond .eq 10, 3, 0, 0, 0), (159, .aload_n 0, 1, 0, 0, 0), (160, .invokevirtual 171, 3, 44, 0, 468), (163, .goto 18, 3, 0, 0, 0), (166, .aload_n 0, 1, 0, 0, 0), (167, .aload_n 0, 1, 0, 0, 0), (168, .getfield 21, 3, 1, 1, 153), (171, .aload_n 0, 1, 0, 0, 0), (172, .getfield 59, 3, 1, 5, 160), (175, .invokevirtual 174, 3, 19, 0, 510), (178, .putfield 59, 3, 1, 5, 160), (181, .iload 5, 2, 0, 0, 0), (183, .ireturn, 1, 0, 0, 0)]
/-- TankDivers$Game.whyNoDeed(II)I -/
def q41 : List AE := [(0, .aload_n 0, 1, 0, 0, 0), (1, .invokevirtual 101, 3, 30, 0, 381), (4, .ifCond .eq 5, 3, 0, 0, 0), (7, .iconst 1, 1, 0, 0, 0), (8, .ireturn, 1, 0, 0, 0), (9, .aload_n 0, 1, 0, 0, 0), (10, .getfield 62, 3, 1, 6, 162), (13, .ifCond .ne 5, 3, 0, 0, 0), (16, .iconst 2, 1, 0, 0, 0), (17, .ireturn, 1, 0, 0, 0), (18, .iload_n 1, 1, 0, 0, 0), (19, .bipush 110, 2, 0, 0, 0), (21, .if_icmp .ne 5, 3, 0, 0, 0), (24, .iconst 0, 1, 0, 0, 0), (25, .ireturn, 1, 0, 0, 0), (26, .aload_n 0, 1, 0, 0, 0), (27, .invokevirtual 108, 3, 31, 0, 390), (30, .ifCond .ne 5, 3, 0, 0, 0), (33, .iconst 5, 1, 0, 0, 0), (34, .ireturn, 1, 0, 0, 0), (35, .iload_n 1, 1, 0, 0, 0), (36, .bipush 116, 2, 0, 0, 0), (38, .if_icmp .ne 10, 3, 0, 0, 0), (41, .aload_n 0, 1, 0, 0, 0), (42, .invokevirtual 177, 3, 42, 0, 430), (45, .goto 8, 3, 0, 0, 0), (48, .aload_n 0, 1, 0, 0, 0), (49, .iload_n 2, 1, 0, 0, 0), (50, .invokevirtual 180, 3, 43, 0, 438), (53, .ireturn, 1, 0, 0, 0)]
/-- TankDivers$Game.whyNotTake()I -/
def q42 : List AE := [(0, .aload_n 0, 1, 0, 0, 0), (1, .getfield 12, 3, 1, 0, 150), (4, .aload_n 0, 1, 0, 0, 0), (5, .invokevirtual 108, 3, 31, 0, 390), (8, .invokevirtual 156, 3, 66, 0, 434), (11, .ifCond .ne 6, 3, 0, 0, 0), (14, .bipush 6, 2, 0, 0, 0), (16, .ireturn, 1, 0, 0, 0), (17, .aload_n 0, 1, 0, 0, 0), (18, .getfield 21, 3, 1, 1, 153), (21, .getfield 121, 3, 0, 3, 120), (24, .aload_n 0, 1, 0, 0, 0), (25, .getfield 59, 3, 1, 5, 160), (28, .invokevirtual 75, 3, 80, 0, 389), (31, .bipush 6, 2, 0, 0, 0), (33, .if_icmp .ge 7, 3, 0, 0, 0), (36, .iconst 0, 1, 0, 0, 0), (37, .goto 5, 3, 0, 0, 0), (40, .bipush 8, 2, 0, 0, 0), (42, .ireturn, 1, 0, 0, 0)]
/-- TankDivers$Game.whyNotLay(I)I -/
def q43 : List AE := [(0, .iload_n 1, 1, 0, 0, 0), (1, .ifCond .lt 21, 3, 0, 0, 0), (4, .iload_n 1, 1, 0, 0, 0), (5, .aload_n 0, 1, 0, 0, 0), (6, .getfield 21, 3, 1, 1, 153), (9, .getfield 121, 3, 0, 3, 120), (12, .aload_n 0, 1, 0, 0, 0), (13, .getfield 59, 3, 1, 5, 160), (16, .invokevirtual 75, 3, 80, 0, 389), (19, .if_icmp .lt 6, 3, 0, 0, 0), (22, .bipush 6, 2, 0, 0, 0), (24, .ireturn, 1, 0, 0, 0), (25, .aload_n 0, 1, 0, 0, 0), (26, .getfield 12, 3, 1, 0, 150), (29, .aload_n 0, 1, 0, 0, 0), (30, .invokevirtual 108, 3, 31, 0, 390), (33, .invokevirtual 156, 3, 66, 0, 434), (36, .ifCond .ne 7, 3, 0, 0, 0), (39, .iconst 0, 1, 0, 0, 0), (40, .goto 5, 3, 0, 0, 0), (43, .bipush 7, 2, 0, 0, 0), (45, .ireturn, 1, 0, 0, 0)]
/-- TankDivers$Game.endRound()V -/
def q44 : List AE := [(0, .aload_n 0, 1, 0, 0, 0), (1, .getfield 21, 3, 1, 1, 153), (4, .aload_n 0, 1, 0, 0, 0), (5, .getfield 30, 3, 1, 2, 155), (8, .aload_n 0, 1, 0, 0, 0), (9, .getfield 12, 3, 1, 0, 150), (12, .getfield 38, 3, 5, 1, 96), (15, .invokevirtual 183, 3, 23, 0, 472), (18, .istore_n 1, 1, 0, 0, 0), (19, .aload_n 0, 1, 0, 0, 0), (20, .getfield 21, 3, 1, 1, 153), (23, .invokevirtual 187, 3, 22, 0, 486), (26, .aload_n 0, 1, 0, 0, 0), (27, .getfield 12, 3, 1, 0, 150), (30, .invokevirtual 190, 3, 72, 0, 494), (33, .aload_n 0, 1, 0, 0, 0), (34, .getfield 12, 3, 1, 0, 150), (37, .aload_n 0, 1, 0, 0, 0), (38, .getfield 30, 3, 1, 2, 155), (41, .iload_n 1, 1, 0, 0, 0), (42, .invokevirtual 193, 3, 73, 0, 499), (45, .aload_n 0, 1, 0, 0, 0), (46, .aload_n 0, 1, 0, 0, 0), (47, .getfield 21, 3, 1, 1, 153), (50, .invokevirtual 197, 3, 20, 0, 505), (53, .putfield 59, 3, 1, 5, 160), (56, .aload_n 0, 1, 0, 0, 0), (57, .getfield 21, 3, 1, 1, 153), (60, .invokevirtual 200, 3, 3, 0, 509), (63, .aload_n 0, 1, 0, 0, 0), (64, .bipush 25, 2, 0, 0, 0), (66, .putfield 66, 3, 1, 7, 164), (69, .aload_n 0, 1, 0, 0, 0), (70, .dup, 1, 0, 0, 0), (71, .getfield 56, 3, 1, 4, 158), (74, .iconst 1, 1, 0, 0, 0), (75, .iadd, 1, 0, 0, 0), (76, .putfield 56, 3, 1, 4, 158), (79, .return_, 1, 0, 0, 0)]
/-- TankDivers$Game.copyFrom(LTankDivers$Game;)V -/
def q45 : List AE := [(0, .aload_n 0, 1, 0, 0, 0), (1, .getfield 12, 3, 1, 0, 150), (4, .aload_n 1, 1, 0, 0, 0), (5, .getfield 12, 3, 1, 0, 150), (8, .invokevirtual 203, 3, 74, 0, 316), (11, .aload_n 0, 1, 0, 0, 0), (12, .getfield 21, 3, 1, 1, 153), (15, .aload_n 1, 1, 0, 0, 0), (16, .getfield 21, 3, 1, 1, 153), (19, .invokevirtual 207, 3, 25, 0, 328), (22, .aload_n 0, 1, 0, 0, 0), (23, .aload_n 1, 1, 0, 0, 0), (24, .getfield 34, 3, 1, 3, 156), (27, .putfield 34, 3, 1, 3, 156), (30, .aload_n 0, 1, 0, 0, 0), (31, .aload_n 1, 1, 0, 0, 0), (32, .getfield 56, 3, 1, 4, 158), (35, .putfield 56, 3, 1, 4, 158), (38, .aload_n 0, 1, 0, 0, 0), (39, .aload_n 1, 1, 0, 0, 0), (40, .getfield 59, 3, 1, 5, 160), (43, .putfield 59, 3, 1, 5, 160), (46, .aload_n 0, 1, 0, 0, 0), (47, .aload_n 1, 1, 0, 0, 0), (48, .getfield 62, 3, 1, 6, 162), (51, .putfield 62, 3, 1, 6, 162), (54, .aload_n 0, 1, 0, 0, 0), (55, .aload_n 1, 1, 0, 0, 0), (56, .getfield 66, 3, 1, 7, 164), (59, .putfield 66, 3, 1, 7, 164), (62, .aload_n 0, 1, 0, 0, 0), (63, .aload_n 1, 1, 0, 0, 0), (64, .getfield 69, 3, 1, 8, 166), (67, .putfield 69, 3, 1, 8, 166), (70, .aload_n 0, 1, 0, 0, 0), (71, .aload_n 1, 1, 0, 0, 0), (72, .getfield 118, 3, 1, 9, 168), (75, .putfield 118, 3, 1, 9, 168), (78, .return_, 1, 0, 0, 0)]
/-- TankDivers$History.<init>()V -/
def q46 : List AE := [(0, .aload_n 0, 1, 0, 0, 0), (1, .invokespecial 3, 3, 999, 0, 196), (4, .aload_n 0, 1, 0, 0, 0), (5, .iconst 4, 1, 0, 0, 0), (6, .anewarray 9, 3, 1, 0, 197), (9, .putfield 11, 3, 2, 0, 200), (12, .iconst 0, 1, 0, 0, 0), (13, .istore_n 1, 1, 0, 0, 0), (14, .iload_n 1, 1, 0, 0, 0), (15, .aload_n 0, 1, 0, 0, 0), (16, .getfield 11, 3, 2, 0, 200), (19, .arraylength, 1, 0, 0, 0), (20, .if_icmp .ge 22, 3, 0, 0, 0), (23, .aload_n 0, 1, 0, 0, 0), (24, .getfield 11, 3, 2, 0, 200), (27, .iload_n 1, 1, 0, 0, 0), (28, .new 9, 3, 1, 0, 197), (31, .dup, 1, 0, 0, 0), (32, .invokespecial 17, 3, 26, 1, 199), (35, .aastore, 1, 0, 0, 0), (36, .iinc 1 1, 3, 0, 0, 0), (39, .goto (-25), 3, 0, 0, 0), (42, .return_, 1, 0, 0, 0)]
/-- TankDivers$History.size()I -/
def q47 : List AE := [(0, .aload_n 0, 1, 0, 0, 0), (1, .getfield 18, 3, 2, 1, 201), (4, .ireturn, 1, 0, 0, 0)]
/-- TankDivers$History.record(LTankDivers$Game;)V -/
def q48 : List AE := [(0, .aload_n 0, 1, 0, 0, 0), (1, .getfield 18, 3, 2, 1, 201), (4, .aload_n 0, 1, 0, 0, 0), (5, .getfield 11, 3, 2, 0, 200), (8, .arraylength, 1, 0, 0, 0), (9, .if_icmp .lt 7, 3, 0, 0, 0), (12, .aload_n 0, 1, 0, 0, 0), (13, .invokevirtual 22, 3, 49, 0, 304), (16, .aload_n 0, 1, 0, 0, 0), (17, .aload_n 0, 1, 0, 0, 0), (18, .getfield 18, 3, 2, 1, 201), (21, .invokevirtual 25, 3, 51, 0, 308), (24, .astore_n 2, 1, 0, 0, 0), (25, .aload_n 2, 1, 0, 0, 0), (26, .ifnull 18, 3, 0, 0, 0), (29, .aload_n 2, 1, 0, 0, 0), (30, .aload_n 1, 1, 0, 0, 0), (31, .invokevirtual 29, 3, 45, 0, 312), (34, .aload_n 0, 1, 0, 0, 0), (35, .dup, 1, 0, 0, 0), (36, .getfield 18, 3, 2, 1, 201), (39, .iconst 1, 1, 0, 0, 0), (40, .iadd, 1, 0, 0, 0), (41, .putfield 18, 3, 2, 1, 201), (44, .return_, 1, 0, 0, 0)]
/-- TankDivers$History.dropOldest()V -/
def q49 : List AE := [(0, .aload_n 0, 1, 0, 0, 0), (1, .iconst 0, 1, 0, 0, 0), (2, .invokevirtual 25, 3, 51, 0, 308), (5, .astore_n 1, 1, 0, 0, 0), (6, .iconst 1, 1, 0, 0, 0), (7, .istore_n 2, 1, 0, 0, 0), (8, .iload_n 2, 1, 0, 0, 0), (9, .aload_n 0, 1, 0, 0, 0), (10, .getfield 11, 3, 2, 0, 200), (13, .arraylength, 1, 0, 0, 0), (14, .if_icmp .ge 23, 3, 0, 0, 0), (17, .aload_n 0, 1, 0, 0, 0), (18, .getfield 11, 3, 2, 0, 200), (21, .iload_n 2, 1, 0, 0, 0), (22, .iconst 1, 1, 0, 0, 0), (23, .isub, 1, 0, 0, 0), (24, .aload_n 0, 1, 0, 0, 0), (25, .getfield 11, 3, 2, 0, 200), (28, .iload_n 2, 1, 0, 0, 0), (29, .aaload, 1, 0, 0, 0), (30, .aastore, 1, 0, 0, 0), (31, .iinc 2 1, 3, 0, 0, 0), (34, .goto (-26), 3, 0, 0, 0), (37, .aload_n 0, 1, 0, 0, 0), (38, .getfield 11, 3, 2, 0, 200), (41, .arraylength, 1, 0, 0, 0), (42, .ifCond .le 16, 3, 0, 0, 0), (45, .aload_n 0, 1, 0, 0, 0), (46, .getfield 11, 3, 2, 0, 200), (49, .aload_n 0, 1, 0, 0, 0), (50, .getfield 11, 3, 2, 0, 200), (53, .arraylength, 1, 0, 0, 0), (54, .iconst 1, 1, 0, 0, 0), (55, .isub, 1, 0, 0, 0), (56, .aload_n 1, 1, 0, 0, 0), (57, .aastore, 1, 0, 0, 0), (58, .aload_n 0, 1, 0, 0, 0), (59, .aload_n 0, 1, 0, 0, 0), (60, .getfield 11, 3, 2, 0, 200), (63, .arraylength, 1, 0, 0, 0), (64, .iconst 1, 1, 0, 0, 0), (65, .isub, 1, 0, 0, 0), (66, .putfield 18, 3, 2, 1, 201), (69, .return_, 1, 0, 0, 0)]
/-- TankDivers$History.takeBack(LTankDivers$Game;)I -/
def q50 : List AE := [(0, .aload_n 0, 1, 0, 0, 0), (1, .aload_n 0, 1, 0, 0, 0), (2, .getfield 18, 3, 2, 1, 201), (5, .iconst 1, 1, 0, 0, 0), (6, .isub, 1, 0, 0, 0), (7, .invokevirtual 25, 3, 51, 0, 308), (10, .astore_n 2, 1, 0, 0, 0), (11, .aload_n 2, 1, 0, 0, 0), (12, .ifnonnull 6, 3, 0, 0, 0), (15, .bipush (-2), 2, 0, 0, 0), (17, .ireturn, 1, 0, 0, 0), (18, .aload_n 1, 1, 0, 0, 0), (19, .aload_n 2, 1, 0, 0, 0), (20, .invokevirtual 29, 3, 45, 0, 312), (23, .aload_n 0, 1, 0, 0, 0), (24, .dup, 1, 0, 0, 0), (25, .getfield 18, 3, 2, 1, 201), (28, .iconst 1, 1, 0, 0, 0), (29, .isub, 1, 0, 0, 0), (30, .putfield 18, 3, 2, 1, 201), (33, .aload_n 0, 1, 0, 0, 0), (34, .getfield 18, 3, 2, 1, 201), (37, .ireturn, 1, 0, 0, 0)]
/-- TankDivers$History.stateAt(I)LTankDivers$Game; -/
def q51 : List AE := [(0, .iload_n 1, 1, 0, 0, 0), (1, .ifCond .lt 21, 3, 0, 0, 0), (4, .iload_n 1, 1, 0, 0, 0), (5, .aload_n 0, 1, 0, 0, 0), (6, .getfield 11, 3, 2, 0, 200), (9, .arraylength, 1, 0, 0, 0), (10, .if_icmp .ge 12, 3, 0, 0, 0), (13, .aload_n 0, 1, 0, 0, 0), (14, .getfield 11, 3, 2, 0, 200), (17, .iload_n 1, 1, 0, 0, 0), (18, .aaload, 1, 0, 0, 0), (19, .goto 4, 3, 0, 0, 0), (22, .aconst_null, 1, 0, 0, 0), (23, .areturn, 1, 0, 0, 0)]
/-- TankDivers$Odds.<init>()V -/
def q52 : List AE := [(0, .aload_n 0, 1, 0, 0, 0), (1, .invokespecial 3, 3, 999, 0, 227), (4, .aload_n 0, 1, 0, 0, 0), (5, .new 9, 3, 6, 0, 228), (8, .dup, 1, 0, 0, 0), (9, .bipush 17, 2, 0, 0, 0), (11, .invokespecial 11, 3, 79, 0, 229), (14, .putfield 14, 3, 3, 0, 230), (17, .aload_n 0, 1, 0, 0, 0), (18, .new 9, 3, 6, 0, 228), (21, .dup, 1, 0, 0, 0), (22, .bipush 17, 2, 0, 0, 0), (24, .invokespecial 11, 3, 79, 0, 229), (27, .putfield 20, 3, 3, 1, 231), (30, .return_, 1, 0, 0, 0)]
/-- TankDivers$Odds.byThrows(LTankDivers$Game;IZ)I -/
def q53 : List AE := [(0, .iload_n 3, 1, 0, 0, 0), (1, .ifCond .ne 10, 3, 0, 0, 0), (4, .aload_n 1, 1, 0, 0, 0), (5, .invokevirtual 23, 3, 35, 0, 643), (8, .ifCond .eq 7, 3, 0, 0, 0), (11, .iconst 1, 1, 0, 0, 0), (12, .goto 4, 3, 0, 0, 0), (15, .iconst 0, 1, 0, 0, 0), (16, .istore 4, 2, 0, 0, 0), (18, .iconst 0, 1, 0, 0, 0), (19, .istore 5, 2, 0, 0, 0), (21, .iconst 1, 1, 0, 0, 0), (22, .istore 6, 2, 0, 0, 0), (24, .iload 6, 2, 0, 0, 0), (26, .iconst 3, 1, 0, 0, 0), (27, .if_icmp .gt 46, 3, 0, 0, 0), (30, .iconst 1, 1, 0, 0, 0), (31, .istore 7, 2, 0, 0, 0), (33, .iload 7, 2, 0, 0, 0), (35, .iconst 3, 1, 0, 0, 0), (36, .if_icmp .gt 31, 3, 0, 0, 0), (39, .aload_n 1, 1, 0, 0, 0), (40, .aload_n 1, 1, 0, 0, 0), (41, .invokevirtual 29, 3, 31, 0, 644), (44, .iload 4, 2, 0, 0, 0), (46, .iload 6, 2, 0, 0, 0), (48, .iload 7, 2, 0, 0, 0), (50, .iadd, 1, 0, 0, 0), (51, .invokevirtual 33, 3, 37, 0, 645), (54, .iload_n 2, 1, 0, 0, 0), (55, .if_icmp .ne 6, 3, 0, 0, 0), (58, .iinc 5 1, 3, 0, 0, 0), (61, .iinc 7 1, 3, 0, 0, 0), (64, .goto (-31), 3, 0, 0, 0), (67, .iinc 6 1, 3, 0, 0, 0), (70, .goto (-46), 3, 0, 0, 0), (73, .iload 5, 2, 0, 0, 0), (75, .ireturn, 1, 0, 0, 0)]
/-- TankDivers$Odds.bySums(LTankDivers$Game;IZ)I -/
def q54 : List AE := [(0, .iload_n 3, 1, 0, 0, 0), (1, .ifCond .ne 10, 3, 0, 0, 0), (4, .aload_n 1, 1, 0, 0, 0), (5, .invokevirtual 23, 3, 35, 0, 643), (8, .ifCond .eq 7, 3, 0, 0, 0), (11, .iconst 1, 1, 0, 0, 0), (12, .goto 4, 3, 0, 0, 0), (15, .iconst 0, 1, 0, 0, 0), (16, .istore 4, 2, 0, 0, 0), (18, .iconst 0, 1, 0, 0, 0), (19, .istore 5, 2, 0, 0, 0), (21, .iconst 2, 1, 0, 0, 0), (22, .istore 6, 2, 0, 0, 0), (24, .iload 6, 2, 0, 0, 0), (26, .bipush 6, 2, 0, 0, 0), (28, .if_icmp .gt 35, 3, 0, 0, 0), (31, .aload_n 1, 1, 0, 0, 0), (32, .aload_n 1, 1, 0, 0, 0), (33, .invokevirtual 29, 3, 31, 0, 644), (36, .iload 4, 2, 0, 0, 0), (38, .iload 6, 2, 0, 0, 0), (40, .invokevirtual 33, 3, 37, 0, 645), (43, .iload_n 2, 1, 0, 0, 0), (44, .if_icmp .ne 13, 3, 0, 0, 0), (47, .iload 5, 2, 0, 0, 0), (49, .iload 6, 2, 0, 0, 0), (51, .invokestatic 37, 3, 55, 0, 650), (54, .iadd, 1, 0, 0, 0), (55, .istore 5, 2, 0, 0, 0), (57, .iinc 6 1, 3, 0, 0, 0), (60, .goto (-36), 3, 0, 0, 0), (63, .iload 5, 2, 0, 0, 0), (65, .ireturn, 1, 0, 0, 0)]
/-- TankDivers$Odds.throwsShowing(I)I -/
def q55 : List AE := [(0, .iconst 3, 1, 0, 0, 0), (1, .iload_n 0, 1, 0, 0, 0), (2, .iconst 3, 1, 0, 0, 0), (3, .isub, 1, 0, 0, 0), (4, .iconst 1, 1, 0, 0, 0), (5, .isub, 1, 0, 0, 0), (6, .invokestatic 41, 3, 900, 0, 653), (9, .isub, 1, 0, 0, 0), (10, .ireturn, 1, 0, 0, 0)]
/-- TankDivers$Odds.home(LTankDivers$Game;I)I -/
def q56 : List AE := [(0, .aload_n 0, 1, 0, 0, 0), (1, .getfield 14, 3, 3, 0, 230), (4, .invokevirtual 46, 3, 84, 0, 665), (7, .aload_n 0, 1, 0, 0, 0), (8, .getfield 14, 3, 3, 0, 230), (11, .aload_n 1, 1, 0, 0, 0), (12, .invokevirtual 29, 3, 31, 0, 644), (15, .iconst 1, 1, 0, 0, 0), (16, .invokevirtual 49, 3, 81, 0, 666), (19, .iconst 0, 1, 0, 0, 0), (20, .istore_n 3, 1, 0, 0, 0), (21, .iload_n 3, 1, 0, 0, 0), (22, .iload_n 2, 1, 0, 0, 0), (23, .if_icmp .ge 14, 3, 0, 0, 0), (26, .aload_n 0, 1, 0, 0, 0), (27, .aload_n 1, 1, 0, 0, 0), (28, .invokevirtual 53, 3, 57, 0, 667), (31, .iinc 3 1, 3, 0, 0, 0), (34, .goto (-13), 3, 0, 0, 0), (37, .aload_n 0, 1, 0, 0, 0), (38, .getfield 14, 3, 3, 0, 230), (41, .iconst 0, 1, 0, 0, 0), (42, .invokevirtual 57, 3, 80, 0, 671), (45, .ireturn, 1, 0, 0, 0)]
/-- TankDivers$Odds.moveUp(LTankDivers$Game;)V -/
def q57 : List AE := [(0, .aload_n 0, 1, 0, 0, 0), (1, .getfield 20, 3, 3, 1, 231), (4, .invokevirtual 46, 3, 84, 0, 665), (7, .aload_n 0, 1, 0, 0, 0), (8, .getfield 20, 3, 3, 1, 231), (11, .iconst 0, 1, 0, 0, 0), (12, .aload_n 0, 1, 0, 0, 0), (13, .getfield 14, 3, 3, 0, 230), (16, .iconst 0, 1, 0, 0, 0), (17, .invokevirtual 57, 3, 80, 0, 671), (20, .bipush 9, 2, 0, 0, 0), (22, .imul, 1, 0, 0, 0), (23, .invokevirtual 49, 3, 81, 0, 666), (26, .iconst 1, 1, 0, 0, 0), (27, .istore_n 2, 1, 0, 0, 0), (28, .iload_n 2, 1, 0, 0, 0), (29, .aload_n 1, 1, 0, 0, 0), (30, .getfield 60, 3, 1, 0, 151), (33, .getfield 64, 3, 5, 1, 98), (36, .if_icmp .gt 60, 3, 0, 0, 0), (39, .aload_n 0, 1, 0, 0, 0), (40, .getfield 14, 3, 3, 0, 230), (43, .iload_n 2, 1, 0, 0, 0), (44, .invokevirtual 57, 3, 80, 0, 671), (47, .istore_n 3, 1, 0, 0, 0), (48, .iconst 2, 1, 0, 0, 0), (49, .istore 4, 2, 0, 0, 0), (51, .iload 4, 2, 0, 0, 0), (53, .bipush 6, 2, 0, 0, 0), (55, .if_icmp .gt 35, 3, 0, 0, 0), (58, .iload_n 3, 1, 0, 0, 0), (59, .ifCond .le 31, 3, 0, 0, 0), (62, .aload_n 0, 1, 0, 0, 0), (63, .getfield 20, 3, 3, 1, 231), (66, .aload_n 1, 1, 0, 0, 0), (67, .iload_n 2, 1, 0, 0, 0), (68, .iconst 1, 1, 0, 0, 0), (69, .iload 4, 2, 0, 0, 0), (71, .invokevirtual 33, 3, 37, 0, 645), (74, .iload_n 3, 1, 0, 0, 0), (75, .iload 4, 2, 0, 0, 0), (77, .invokestatic 37, 3, 55, 0, 650), (80, .imul, 1, 0, 0, 0), (81, .invokevirtual 70, 3, 82, 0, 672), (84, .iinc 4 1, 3, 0, 0, 0), (87, .goto (-36), 3, 0, 0, 0), (90, .iinc 2 1, 3, 0, 0, 0), (93, .goto (-65), 3, 0, 0, 0), (96, .aload_n 0, 1, 0, 0, 0), (97, .getfield 14, 3, 3, 0, 230), (100, .aload_n 0, 1, 0, 0, 0), (101, .getfield 20, 3, 3, 1, 231), (104, .invokevirtual 73, 3, 85, 0, 673), (107, .return_, 1, 0, 0, 0)]
/-- TankDivers$Pad.<init>()V -/
def q58 : List AE := [(0, .aload_n 0, 1, 0, 0, 0), (1, .invokespecial 3, 3, 999, 0, 212), (4, .aload_n 0, 1, 0, 0, 0), (5, .new 9, 3, 6, 0, 213), (8, .dup, 1, 0, 0, 0), (9, .bipush 60, 2, 0, 0, 0), (11, .invokespecial 11, 3, 79, 0, 214), (14, .putfield 14, 3, 4, 0, 215), (17, .return_, 1, 0, 0, 0)]
/-- TankDivers$Pad.length()I -/
def q59 : List AE := [(0, .aload_n 0, 1, 0, 0, 0), (1, .getfield 20, 3, 4, 1, 216), (4, .ireturn, 1, 0, 0, 0)]
/-- TankDivers$Pad.letterAt(I)I -/
def q60 : List AE := [(0, .aload_n 0, 1, 0, 0, 0), (1, .getfield 14, 3, 4, 0, 215), (4, .iload_n 1, 1, 0, 0, 0), (5, .invokevirtual 24, 3, 80, 0, 547), (8, .ireturn, 1, 0, 0, 0)]
/-- TankDivers$Pad.write(I)I -/
def q61 : List AE := [(0, .aload_n 0, 1, 0, 0, 0), (1, .getfield 20, 3, 4, 1, 216), (4, .bipush 60, 2, 0, 0, 0), (6, .if_icmp .lt 6, 3, 0, 0, 0), (9, .bipush (-3), 2, 0, 0, 0), (11, .ireturn, 1, 0, 0, 0), (12, .aload_n 0, 1, 0, 0, 0), (13, .getfield 14, 3, 4, 0, 215), (16, .aload_n 0, 1, 0, 0, 0), (17, .getfield 20, 3, 4, 1, 216), (20, .iload_n 1, 1, 0, 0, 0), (21, .invokevirtual 28, 3, 81, 0, 530), (24, .aload_n 0, 1, 0, 0, 0), (25, .dup, 1, 0, 0, 0), (26, .getfield 20, 3, 4, 1, 216), (29, .iconst 1, 1, 0, 0, 0), (30, .iadd, 1, 0, 0, 0), (31, .putfield 20, 3, 4, 1, 216), (34, .aload_n 0, 1, 0, 0, 0), (35, .getfield 20, 3, 4, 1, 216), (38, .ireturn, 1, 0, 0, 0)]
/-- TankDivers$Pad.wipe()I -/
def q62 : List AE := [(0, .aload_n 0, 1, 0, 0, 0), (1, .getfield 20, 3, 4, 1, 216), (4, .istore_n 1, 1, 0, 0, 0), (5, .aload_n 0, 1, 0, 0, 0), (6, .iconst 0, 1, 0, 0, 0), (7, .putfield 20, 3, 4, 1, 216), (10, .iload_n 1, 1, 0, 0, 0), (11, .ireturn, 1, 0, 0, 0)]
/-- TankDivers$Pad.firstFault()I -/
def q63 : List AE := [(0, .iconst 1, 1, 0, 0, 0), (1, .istore_n 1, 1, 0, 0, 0), (2, .iconst 0, 1, 0, 0, 0), (3, .istore_n 2, 1, 0, 0, 0), (4, .iload_n 2, 1, 0, 0, 0), (5, .aload_n 0, 1, 0, 0, 0), (6, .getfield 20, 3, 4, 1, 216), (9, .if_icmp .ge 28, 3, 0, 0, 0), (12, .iload_n 1, 1, 0, 0, 0), (13, .aload_n 0, 1, 0, 0, 0), (14, .getfield 14, 3, 4, 0, 215), (17, .iload_n 2, 1, 0, 0, 0), (18, .invokevirtual 24, 3, 80, 0, 547), (21, .invokestatic 32, 3, 64, 0, 548), (24, .istore_n 1, 1, 0, 0, 0), (25, .iload_n 1, 1, 0, 0, 0), (26, .ifCond .ne 5, 3, 0, 0, 0), (29, .iload_n 2, 1, 0, 0, 0), (30, .ireturn, 1, 0, 0, 0), (31, .iinc 2 1, 3, 0, 0, 0), (34, .goto (-30), 3, 0, 0, 0), (37, .aload_n 0, 1, 0, 0, 0), (38, .getfield 20, 3, 4, 1, 216), (41, .ifCond .le 13, 3, 0, 0, 0), (44, .iload_n 1, 1, 0, 0, 0), (45, .iconst 1, 1, 0, 0, 0), (46, .if_icmp .ne 8, 3, 0, 0, 0), (49, .bipush (-4), 2, 0, 0, 0), (51, .goto 7, 3, 0, 0, 0), (54, .aload_n 0, 1, 0, 0, 0), (55, .getfield 20, 3, 4, 1, 216), (58, .ireturn, 1, 0, 0, 0)]
/-- TankDivers$Pad.dueBehind(II)I -/
def q64 : List AE := [(0, .iload_n 0, 1, 0, 0, 0), (1, .iconst 1, 1, 0, 0, 0), (2, .if_icmp .ne 21, 3, 0, 0, 0), (5, .iload_n 1, 1, 0, 0, 0), (6, .bipush 100, 2, 0, 0, 0), (8, .if_icmp .eq 9, 3, 0, 0, 0), (11, .iload_n 1, 1, 0, 0, 0), (12, .bipush 117, 2, 0, 0, 0), (14, .if_icmp .ne 7, 3, 0, 0, 0), (17, .iconst 2, 1, 0, 0, 0), (18, .goto 4, 3, 0, 0, 0), (21, .iconst 0, 1, 0, 0, 0), (22, .ireturn, 1, 0, 0, 0), (23, .iload_n 0, 1, 0, 0, 0), (24, .iconst 3, 1, 0, 0, 0), (25, .if_icmp .ne 21, 3, 0, 0, 0), (28, .iload_n 1, 1, 0, 0, 0), (29, .bipush 48, 2, 0, 0, 0), (31, .if_icmp .lt 13, 3, 0, 0, 0), (34, .iload_n 1, 1, 0, 0, 0), (35, .bipush 53, 2, 0, 0, 0), (37, .if_icmp .gt 7, 3, 0, 0, 0), (40, .iconst 1, 1, 0, 0, 0), (41, .goto 4, 3, 0, 0, 0), (44, .iconst 0, 1, 0, 0, 0), (45, .ireturn, 1, 0, 0, 0), (46, .iload_n 1, 1, 0, 0, 0), (47, .bipush 108, 2, 0, 0, 0), (49, .if_icmp .ne 5, 3, 0, 0, 0), (52, .iconst 3, 1, 0, 0, 0), (53, .ireturn, 1, 0, 0, 0), (54, .iload_n 1, 1, 0, 0, 0), (55, .bipush 116, 2, 0, 0, 0), (57, .if_icmp .eq 9, 3, 0, 0, 0), (60, .iload_n 1, 1, 0, 0, 0), (61, .bipush 110, 2, 0, 0, 0), (63, .if_icmp .ne 7, 3, 0, 0, 0), (66, .iconst 1, 1, 0, 0, 0), (67, .goto 4, 3, 0, 0, 0), (70, .iconst 0, 1, 0, 0, 0), (71, .ireturn, 1, 0, 0, 0)]
/-- TankDivers$Path.<init>()V -/
def q65 : List AE := [(0, .aload_n 0, 1, 0, 0, 0), (1, .invokespecial 3, 3, 999, 0, 80), (4, .aload_n 0, 1, 0, 0, 0), (5, .new 9, 3, 6, 0, 81), (8, .dup, 1, 0, 0, 0), (9, .bipush 17, 2, 0, 0, 0), (11, .invokespecial 11, 3, 79, 0, 83), (14, .putfield 14, 3, 5, 0, 95), (17, .return_, 1, 0, 0, 0)]
/-- TankDivers$Path.pileAt(I)I -/
def q66 : List AE := [(0, .aload_n 0, 1, 0, 0, 0), (1, .getfield 14, 3, 5, 0, 95), (4, .iload_n 1, 1, 0, 0, 0), (5, .invokevirtual 20, 3, 80, 0, 341), (8, .ireturn, 1, 0, 0, 0)]
/-- TankDivers$Path.setPile(II)V -/
def q67 : List AE := [(0, .aload_n 0, 1, 0, 0, 0), (1, .getfield 14, 3, 5, 0, 95), (4, .iload_n 1, 1, 0, 0, 0), (5, .iload_n 2, 1, 0, 0, 0), (6, .invokevirtual 24, 3, 81, 0, 255), (9, .return_, 1, 0, 0, 0)]
/-- TankDivers$Path.addSpace(I)V -/
def q68 : List AE := [(0, .aload_n 0, 1, 0, 0, 0), (1, .dup, 1, 0, 0, 0), (2, .getfield 28, 3, 5, 1, 97), (5, .iconst 1, 1, 0, 0, 0), (6, .iadd, 1, 0, 0, 0), (7, .putfield 28, 3, 5, 1, 97), (10, .aload_n 0, 1, 0, 0, 0), (11, .getfield 14, 3, 5, 0, 95), (14, .aload_n 0, 1, 0, 0, 0), (15, .getfield 28, 3, 5, 1, 97), (18, .iload_n 1, 1, 0, 0, 0), (19, .invokevirtual 24, 3, 81, 0, 255), (22, .return_, 1, 0, 0, 0)]
/-- TankDivers$Path.blanks()I -/
def q69 : List AE := [(0, .iconst 0, 1, 0, 0, 0), (1, .istore_n 1, 1, 0, 0, 0), (2, .iconst 1, 1, 0, 0, 0), (3, .istore_n 2, 1, 0, 0, 0), (4, .iload_n 2, 1, 0, 0, 0), (5, .aload_n 0, 1, 0, 0, 0), (6, .getfield 28, 3, 5, 1, 97), (9, .if_icmp .gt 28, 3, 0, 0, 0), (12, .iload_n 1, 1, 0, 0, 0), (13, .aload_n 0, 1, 0, 0, 0), (14, .getfield 14, 3, 5, 0, 95), (17, .iload_n 2, 1, 0, 0, 0), (18, .invokevirtual 20, 3, 80, 0, 341), (21, .ifCond .ne 7, 3, 0, 0, 0), (24, .iconst 1, 1, 0, 0, 0), (25, .goto 4, 3, 0, 0, 0), (28, .iconst 0, 1, 0, 0, 0), (29, .iadd, 1, 0, 0, 0), (30, .istore_n 1, 1, 0, 0, 0), (31, .iinc 2 1, 3, 0, 0, 0), (34, .goto (-30), 3, 0, 0, 0), (37, .iload_n 1, 1, 0, 0, 0), (38, .ireturn, 1, 0, 0, 0)]
/-- TankDivers$Path.treasures()I -/
def q70 : List AE := [(0, .iconst 0, 1, 0, 0, 0), (1, .istore_n 1, 1, 0, 0, 0), (2, .iconst 1, 1, 0, 0, 0), (3, .istore_n 2, 1, 0, 0, 0), (4, .iload_n 2, 1, 0, 0, 0), (5, .aload_n 0, 1, 0, 0, 0), (6, .getfield 28, 3, 5, 1, 97), (9, .if_icmp .gt 23, 3, 0, 0, 0), (12, .iload_n 1, 1, 0, 0, 0), (13, .aload_n 0, 1, 0, 0, 0), (14, .getfield 14, 3, 5, 0, 95), (17, .iload_n 2, 1, 0, 0, 0), (18, .invokevirtual 20, 3, 80, 0, 341), (21, .invokestatic 32, 3, 75, 0, 504), (24, .iadd, 1, 0, 0, 0), (25, .istore_n 1, 1, 0, 0, 0), (26, .iinc 2 1, 3, 0, 0, 0), (29, .goto (-25), 3, 0, 0, 0), (32, .iload_n 1, 1, 0, 0, 0), (33, .ireturn, 1, 0, 0, 0)]
/-- TankDivers$Path.values()I -/
def q71 : List AE := [(0, .iconst 0, 1, 0, 0, 0), (1, .istore_n 1, 1, 0, 0, 0), (2, .iconst 1, 1, 0, 0, 0), (3, .istore_n 2, 1, 0, 0, 0), (4, .iload_n 2, 1, 0, 0, 0), (5, .aload_n 0, 1, 0, 0, 0), (6, .getfield 28, 3, 5, 1, 97), (9, .if_icmp .gt 23, 3, 0, 0, 0), (12, .iload_n 1, 1, 0, 0, 0), (13, .aload_n 0, 1, 0, 0, 0), (14, .getfield 14, 3, 5, 0, 95), (17, .iload_n 2, 1, 0, 0, 0), (18, .invokevirtual 20, 3, 80, 0, 341), (21, .invokestatic 37, 3, 77, 0, 342), (24, .iadd, 1, 0, 0, 0), (25, .istore_n 1, 1, 0, 0, 0), (26, .iinc 2 1, 3, 0, 0, 0), (29, .goto (-25), 3, 0, 0, 0), (32, .iload_n 1, 1, 0, 0, 0), (33, .ireturn, 1, 0, 0, 0)]
/-- TankDivers$Path.closeUp()V -/
def q72 : List AE := [(0, .aload_n 0, 1, 0, 0, 0), (1, .getfield 28, 3, 5, 1, 97), (4, .istore_n 1, 1, 0, 0, 0), (5, .aload_n 0, 1, 0, 0, 0), (6, .iconst 0, 1, 0, 0, 0), (7, .putfield 28, 3, 5, 1, 97), (10, .iconst 1, 1, 0, 0, 0), (11, .istore_n 2, 1, 0, 0, 0), (12, .iload_n 2, 1, 0, 0, 0), (13, .iload_n 1, 1, 0, 0, 0), (14, .if_icmp .gt 27, 3, 0, 0, 0), (17, .aload_n 0, 1, 0, 0, 0), (18, .getfield 14, 3, 5, 0, 95), (21, .iload_n 2, 1, 0, 0, 0), (22, .invokevirtual 20, 3, 80, 0, 341), (25, .istore_n 3, 1, 0, 0, 0), (26, .iload_n 3, 1, 0, 0, 0), (27, .ifCond .eq 8, 3, 0, 0, 0), (30, .aload_n 0, 1, 0, 0, 0), (31, .iload_n 3, 1, 0, 0, 0), (32, .invokevirtual 40, 3, 68, 0, 498), (35, .iinc 2 1, 3, 0, 0, 0), (38, .goto (-26), 3, 0, 0, 0), (41, .return_, 1, 0, 0, 0)]
/-- TankDivers$Path.addStacks(LTankDivers$Row;I)V -/
def q73 : List AE := [(0, .iconst 0, 1, 0, 0, 0), (1, .istore_n 3, 1, 0, 0, 0), (2, .iconst 0, 1, 0, 0, 0), (3, .istore 4, 2, 0, 0, 0), (5, .iload 4, 2, 0, 0, 0), (7, .iload_n 2, 1, 0, 0, 0), (8, .if_icmp .ge 43, 3, 0, 0, 0), (11, .iload_n 3, 1, 0, 0, 0), (12, .aload_n 1, 1, 0, 0, 0), (13, .iload 4, 2, 0, 0, 0), (15, .invokevirtual 20, 3, 80, 0, 341), (18, .invokestatic 43, 3, 78, 0, 503), (21, .istore_n 3, 1, 0, 0, 0), (22, .iload_n 3, 1, 0, 0, 0), (23, .invokestatic 32, 3, 75, 0, 504), (26, .iconst 3, 1, 0, 0, 0), (27, .if_icmp .eq 11, 3, 0, 0, 0), (30, .iload 4, 2, 0, 0, 0), (32, .iload_n 2, 1, 0, 0, 0), (33, .iconst 1, 1, 0, 0, 0), (34, .isub, 1, 0, 0, 0), (35, .if_icmp .ne 10, 3, 0, 0, 0), (38, .aload_n 0, 1, 0, 0, 0), (39, .iload_n 3, 1, 0, 0, 0), (40, .invokevirtual 40, 3, 68, 0, 498), (43, .iconst 0, 1, 0, 0, 0), (44, .istore_n 3, 1, 0, 0, 0), (45, .iinc 4 1, 3, 0, 0, 0), (48, .goto (-43), 3, 0, 0, 0), (51, .return_, 1, 0, 0, 0)]
/-- TankDivers$Path.copyFrom(LTankDivers$Path;)V -/
def q74 : List AE := [(0, .aload_n 0, 1, 0, 0, 0), (1, .getfield 14, 3, 5, 0, 95), (4, .aload_n 1, 1, 0, 0, 0), (5, .getfield 14, 3, 5, 0, 95), (8, .invokevirtual 47, 3, 85, 0, 320), (11, .aload_n 0, 1, 0, 0, 0), (12, .aload_n 1, 1, 0, 0, 0), (13, .getfield 28, 3, 5, 1, 97), (16, .putfield 28, 3, 5, 1, 97), (19, .return_, 1, 0, 0, 0)]
/-- TankDivers$Pile.sizeOf(I)I -/
def q75 : List AE := [(0, .iload_n 0, 1, 0, 0, 0), (1, .bipush 12, 2, 0, 0, 0), (3, .ishr, 1, 0, 0, 0), (4, .ireturn, 1, 0, 0, 0)]
/-- TankDivers$Pile.valueAt(II)I -/
def q76 : List AE := [(0, .iload_n 0, 1, 0, 0, 0), (1, .iconst 4, 1, 0, 0, 0), (2, .iload_n 1, 1, 0, 0, 0), (3, .imul, 1, 0, 0, 0), (4, .ishr, 1, 0, 0, 0), (5, .bipush 15, 2, 0, 0, 0), (7, .iand, 1, 0, 0, 0), (8, .ireturn, 1, 0, 0, 0)]
/-- TankDivers$Pile.sumOf(I)I -/
def q77 : List AE := [(0, .iload_n 0, 1, 0, 0, 0), (1, .iconst 0, 1, 0, 0, 0), (2, .invokestatic 11, 3, 76, 0, 345), (5, .iload_n 0, 1, 0, 0, 0), (6, .iconst 1, 1, 0, 0, 0), (7, .invokestatic 11, 3, 76, 0, 345), (10, .iadd, 1, 0, 0, 0), (11, .iload_n 0, 1, 0, 0, 0), (12, .iconst 2, 1, 0, 0, 0), (13, .invokestatic 11, 3, 76, 0, 345), (16, .iadd, 1, 0, 0, 0), (17, .ireturn, 1, 0, 0, 0)]
/-- TankDivers$Pile.withOnTop(II)I -/
def q78 : List AE := [(0, .iload_n 0, 1, 0, 0, 0), (1, .sipush 4096, 3, 0, 0, 0), (4, .iadd, 1, 0, 0, 0), (5, .iload_n 1, 1, 0, 0, 0), (6, .iconst 4, 1, 0, 0, 0), (7, .iload_n 0, 1, 0, 0, 0), (8, .invokestatic 15, 3, 75, 0, 248), (11, .imul, 1, 0, 0, 0), (12, .ishl, 1, 0, 0, 0), (13, .iadd, 1, 0, 0, 0), (14, .ireturn, 1, 0, 0, 0)]
/-- TankDivers$Row.<init>(I)V -/
def q79 : List AE := [(0, .aload_n 0, 1, 0, 0, 0), (1, .invokespecial 1, 3, 999, 0, 86), (4, .aload_n 0, 1, 0, 0, 0), (5, .iload_n 1, 1, 0, 0, 0), (6, .iconst 0, 1, 0, 0, 0), (7, .invokestatic 7, 3, 901, 0, 87), (10, .newarray .int, 2, 0, 0, 0), (12, .putfield 13, 3, 6, 0, 90), (15, .return_, 1, 0, 0, 0)]
/-- TankDivers$Row.get(I)I -/
def q80 : List AE := [(0, .iload_n 1, 1, 0, 0, 0), (1, .ifCond .lt 21, 3, 0, 0, 0), (4, .iload_n 1, 1, 0, 0, 0), (5, .aload_n 0, 1, 0, 0, 0), (6, .getfield 13, 3, 6, 0, 90), (9, .arraylength, 1, 0, 0, 0), (10, .if_icmp .ge 12, 3, 0, 0, 0), (13, .aload_n 0, 1, 0, 0, 0), (14, .getfield 13, 3, 6, 0, 90), (17, .iload_n 1, 1, 0, 0, 0), (18, .iaload, 1, 0, 0, 0), (19, .goto 4, 3, 0, 0, 0), (22, .iconst 0, 1, 0, 0, 0), (23, .ireturn, 1, 0, 0, 0)]
/-- TankDivers$Row.set(II)V -/
def q81 : List AE := [(0, .iload_n 1, 1, 0, 0, 0), (1, .ifCond .lt 19, 3, 0, 0, 0), (4, .iload_n 1, 1, 0, 0, 0), (5, .aload_n 0, 1, 0, 0, 0), (6, .getfield 13, 3, 6, 0, 90), (9, .arraylength, 1, 0, 0, 0), (10, .if_icmp .ge 10, 3, 0, 0, 0), (13, .aload_n 0, 1, 0, 0, 0), (14, .getfield 13, 3, 6, 0, 90), (17, .iload_n 1, 1, 0, 0, 0), (18, .iload_n 2, 1, 0, 0, 0), (19, .iastore, 1, 0, 0, 0), (20, .return_, 1, 0, 0, 0)]
/-- TankDivers$Row.add(II)V -/
def q82 : List AE := [(0, .aload_n 0, 1, 0, 0, 0), (1, .iload_n 1, 1, 0, 0, 0), (2, .aload_n 0, 1, 0, 0, 0), (3, .iload_n 1, 1, 0, 0, 0), (4, .invokevirtual 19, 3, 80, 0, 324), (7, .iload_n 2, 1, 0, 0, 0), (8, .iadd, 1, 0, 0, 0), (9, .invokevirtual 23, 3, 81, 0, 451), (12, .return_, 1, 0, 0, 0)]
/-- TankDivers$Row.sum()I -/
def q83 : List AE := [(0, .iconst 0, 1, 0, 0, 0), (1, .istore_n 1, 1, 0, 0, 0), (2, .iconst 0, 1, 0, 0, 0), (3, .istore_n 2, 1, 0, 0, 0), (4, .iload_n 2, 1, 0, 0, 0), (5, .aload_n 0, 1, 0, 0, 0), (6, .getfield 13, 3, 6, 0, 90), (9, .arraylength, 1, 0, 0, 0), (10, .if_icmp .ge 18, 3, 0, 0, 0), (13, .iload_n 1, 1, 0, 0, 0), (14, .aload_n 0, 1, 0, 0, 0), (15, .getfield 13, 3, 6, 0, 90), (18, .iload_n 2, 1, 0, 0, 0), (19, .iaload, 1, 0, 0, 0), (20, .iadd, 1, 0, 0, 0), (21, .istore_n 1, 1, 0, 0, 0), (22, .iinc 2 1, 3, 0, 0, 0), (25, .goto (-21), 3, 0, 0, 0), (28, .iload_n 1, 1, 0, 0, 0), (29, .ireturn, 1, 0, 0, 0)]
/-- TankDivers$Row.wipe()V -/
def q84 : List AE := [(0, .iconst 0, 1, 0, 0, 0), (1, .istore_n 1, 1, 0, 0, 0), (2, .iload_n 1, 1, 0, 0, 0), (3, .aload_n 0, 1, 0, 0, 0), (4, .getfield 13, 3, 6, 0, 90), (7, .arraylength, 1, 0, 0, 0), (8, .if_icmp .ge 16, 3, 0, 0, 0), (11, .aload_n 0, 1, 0, 0, 0), (12, .getfield 13, 3, 6, 0, 90), (15, .iload_n 1, 1, 0, 0, 0), (16, .iconst 0, 1, 0, 0, 0), (17, .iastore, 1, 0, 0, 0), (18, .iinc 1 1, 3, 0, 0, 0), (21, .goto (-19), 3, 0, 0, 0), (24, .return_, 1, 0, 0, 0)]
/-- TankDivers$Row.copyFrom(LTankDivers$Row;)V -/
def q85 : List AE := [(0, .iconst 0, 1, 0, 0, 0), (1, .istore_n 2, 1, 0, 0, 0), (2, .iload_n 2, 1, 0, 0, 0), (3, .aload_n 0, 1, 0, 0, 0), (4, .getfield 13, 3, 6, 0, 90), (7, .arraylength, 1, 0, 0, 0), (8, .if_icmp .ge 20, 3, 0, 0, 0), (11, .aload_n 0, 1, 0, 0, 0), (12, .getfield 13, 3, 6, 0, 90), (15, .iload_n 2, 1, 0, 0, 0), (16, .aload_n 1, 1, 0, 0, 0), (17, .iload_n 2, 1, 0, 0, 0), (18, .invokevirtual 19, 3, 80, 0, 324), (21, .iastore, 1, 0, 0, 0), (22, .iinc 2 1, 3, 0, 0, 0), (25, .goto (-23), 3, 0, 0, 0), (28, .return_, 1, 0, 0, 0)]
/-- TankDivers.<init>()V -/
def q86 : List AE := [(0, .aload_n 0, 1, 0, 0, 0), (1, .invokespecial 3, 3, 999, 0, 66), (4, .aload_n 0, 1, 0, 0, 0), (5, .new 9, 3, 1, 0, 69), (8, .dup, 1, 0, 0, 0), (9, .invokespecial 11, 3, 26, 1, 71), (12, .putfield 12, 3, 7, 0, 271), (15, .aload_n 0, 1, 0, 0, 0), (16, .new 9, 3, 1, 0, 69), (19, .dup, 1, 0, 0, 0), (20, .invokespecial 11, 3, 26, 1, 71), (23, .putfield 16, 3, 7, 1, 272), (26, .aload_n 0, 1, 0, 0, 0), (27, .new 19, 3, 2, 0, 191), (30, .dup, 1, 0, 0, 0), (31, .invokespecial 21, 3, 46, 0, 193), (34, .putfield 22, 3, 7, 2, 273), (37, .aload_n 0, 1, 0, 0, 0), (38, .new 26, 3, 4, 0, 207), (41, .dup, 1, 0, 0, 0), (42, .invokespecial 28, 3, 58, 1, 209), (45, .putfield 29, 3, 7, 3, 274), (48, .aload_n 0, 1, 0, 0, 0), (49, .new 33, 3, 3, 0, 222), (52, .dup, 1, 0, 0, 0), (53, .invokespecial 35, 3, 52, 1, 224), (56, .putfield 36, 3, 7, 4, 275), (59, .aload_n 0, 1, 0, 0, 0), (60, .iconst 0, 1, 0, 0, 0), (61, .putfield 40, 3, 7, 6, 277), (64, .aload_n 0, 1, 0, 0, 0), (65, .getfield 12, 3, 7, 0, 271), (68, .iconst 2, 1, 0, 0, 0), (69, .iconst 1, 1, 0, 0, 0), (70, .invokevirtual 44, 3, 27, 0, 237), (73, .return_, 1, 0, 0, 0)]
/-- TankDivers.begin(II)I -/
def q87 : List AE := [(0, .iload_n 1, 1, 0, 0, 0), (1, .iconst 2, 1, 0, 0, 0), (2, .if_icmp .lt 19, 3, 0, 0, 0), (5, .iload_n 1, 1, 0, 0, 0), (6, .iconst 4, 1, 0, 0, 0), (7, .if_icmp .gt 14, 3, 0, 0, 0), (10, .iload_n 2, 1, 0, 0, 0), (11, .ifCond .lt 10, 3, 0, 0, 0), (14, .iload_n 2, 1, 0, 0, 0), (15, .sipush 10000, 3, 0, 0, 0), (18, .if_icmp .lt 5, 3, 0, 0, 0), (21, .iconst (-1), 1, 0, 0, 0), (22, .ireturn, 1, 0, 0, 0), (23, .aload_n 0, 1, 0, 0, 0), (24, .getfield 22, 3, 7, 2, 273), (27, .aload_n 0, 1, 0, 0, 0), (28, .getfield 12, 3, 7, 0, 271), (31, .invokevirtual 48, 3, 48, 0, 300), (34, .aload_n 0, 1, 0, 0, 0), (35, .getfield 12, 3, 7, 0, 271), (38, .iload_n 1, 1, 0, 0, 0), (39, .iload_n 2, 1, 0, 0, 0), (40, .invokevirtual 44, 3, 27, 0, 237), (43, .aload_n 0, 1, 0, 0, 0), (44, .getfield 12, 3, 7, 0, 271), (47, .invokevirtual 52, 3, 32, 0, 333), (50, .ireturn, 1, 0, 0, 0)]
/-- TankDivers.move(Z)I -/
def q88 : List AE := [(0, .aload_n 0, 1, 0, 0, 0), (1, .getfield 22, 3, 7, 2, 273), (4, .aload_n 0, 1, 0, 0, 0), (5, .getfield 12, 3, 7, 0, 271), (8, .invokevirtual 48, 3, 48, 0, 300), (11, .aload_n 0, 1, 0, 0, 0), (12, .getfield 12, 3, 7, 0, 271), (15, .iload_n 1, 1, 0, 0, 0), (16, .invokevirtual 56, 3, 36, 0, 373), (19, .ireturn, 1, 0, 0, 0)]
/-- TankDivers.take()I -/
def q89 : List AE := [(0, .aload_n 0, 1, 0, 0, 0), (1, .getfield 22, 3, 7, 2, 273), (4, .aload_n 0, 1, 0, 0, 0), (5, .getfield 12, 3, 7, 0, 271), (8, .invokevirtual 48, 3, 48, 0, 300), (11, .aload_n 0, 1, 0, 0, 0), (12, .getfield 12, 3, 7, 0, 271), (15, .bipush 116, 2, 0, 0, 0), (17, .iconst 0, 1, 0, 0, 0), (18, .invokevirtual 60, 3, 40, 0, 422), (21, .ireturn, 1, 0, 0, 0)]
/-- TankDivers.lay(I)I -/
def q90 : List AE := [(0, .aload_n 0, 1, 0, 0, 0), (1, .getfield 22, 3, 7, 2, 273), (4, .aload_n 0, 1, 0, 0, 0), (5, .getfield 12, 3, 7, 0, 271), (8, .invokevirtual 48, 3, 48, 0, 300), (11, .aload_n 0, 1, 0, 0, 0), (12, .getfield 12, 3, 7, 0, 271), (15, .bipush 108, 2, 0, 0, 0), (17, .iload_n 1, 1, 0, 0, 0), (18, .invokevirtual 60, 3, 40, 0, 422), (21, .ireturn, 1, 0, 0, 0)]
/-- TankDivers.nothing()I -/
def q91 : List AE := [(0, .aload_n 0, 1, 0, 0, 0), (1, .getfield 22, 3, 7, 2, 273), (4, .aload_n 0, 1, 0, 0, 0), (5, .getfield 12, 3, 7, 0, 271), (8, .invokevirtual 48, 3, 48, 0, 300), (11, .aload_n 0, 1, 0, 0, 0), (12, .getfield 12, 3, 7, 0, 271), (15, .bipush 110, 2, 0, 0, 0), (17, .iconst 0, 1, 0, 0, 0), (18, .invokevirtual 60, 3, 40, 0, 422), (21, .ireturn, 1, 0, 0, 0)]
/-- TankDivers.append(I)I -/
def q92 : List AE := [(0, .iload_n 1, 1, 0, 0, 0), (1, .bipush 33, 2, 0, 0, 0), (3, .if_icmp .lt 9, 3, 0, 0, 0), (6, .iload_n 1, 1, 0, 0, 0), (7, .bipush 126, 2, 0, 0, 0), (9, .if_icmp .le 5, 3, 0, 0, 0), (12, .iconst (-1), 1, 0, 0, 0), (13, .ireturn, 1, 0, 0, 0), (14, .aload_n 0, 1, 0, 0, 0), (15, .getfield 29, 3, 7, 3, 274), (18, .iload_n 1, 1, 0, 0, 0), (19, .invokevirtual 64, 3, 61, 0, 526), (22, .ireturn, 1, 0, 0, 0)]
/-- TankDivers.clear()I -/
def q93 : List AE := [(0, .aload_n 0, 1, 0, 0, 0), (1, .getfield 29, 3, 7, 3, 274), (4, .invokevirtual 68, 3, 62, 0, 535), (7, .ireturn, 1, 0, 0, 0)]
/-- TankDivers.fault()I -/
def q94 : List AE := [(0, .aload_n 0, 1, 0, 0, 0), (1, .getfield 29, 3, 7, 3, 274), (4, .invokevirtual 71, 3, 63, 0, 543), (7, .ireturn, 1, 0, 0, 0)]
/-- TankDivers.play()I -/
def q95 : List AE := [(0, .aload_n 0, 1, 0, 0, 0), (1, .getfield 29, 3, 7, 3, 274), (4, .invokevirtual 71, 3, 63, 0, 543), (7, .bipush (-4), 2, 0, 0, 0), (9, .if_icmp .eq 6, 3, 0, 0, 0), (12, .bipush (-2), 2, 0, 0, 0), (14, .ireturn, 1, 0, 0, 0), (15, .aload_n 0, 1, 0, 0, 0), (16, .getfield 22, 3, 7, 2, 273), (19, .aload_n 0, 1, 0, 0, 0), (20, .getfield 12, 3, 7, 0, 271), (23, .invokevirtual 48, 3, 48, 0, 300), (26, .aload_n 0, 1, 0, 0, 0), (27, .iconst 0, 1, 0, 0, 0), (28, .putfield 40, 3, 7, 6, 277), (31, .iconst 0, 1, 0, 0, 0), (32, .istore_n 1, 1, 0, 0, 0), (33, .aload_n 0, 1, 0, 0, 0), (34, .getfield 29, 3, 7, 3, 274), (37, .invokevirtual 74, 3, 59, 0, 555), (40, .istore_n 2, 1, 0, 0, 0), (41, .iconst 0, 1, 0, 0, 0), (42, .istore_n 3, 1, 0, 0, 0), (43, .iload_n 3, 1, 0, 0, 0), (44, .iload_n 2, 1, 0, 0, 0), (45, .if_icmp .ge 127, 3, 0, 0, 0), (48, .aload_n 0, 1, 0, 0, 0), (49, .getfield 40, 3, 7, 6, 277), (52, .ifCond .ne 120, 3, 0, 0, 0), (55, .aload_n 0, 1, 0, 0, 0), (56, .getfield 29, 3, 7, 3, 274), (59, .iload_n 3, 1, 0, 0, 0), (60, .invokevirtual 77, 3, 60, 0, 559), (63, .istore 4, 2, 0, 0, 0), (65, .iload 4, 2, 0, 0, 0), (67, .bipush 48, 2, 0, 0, 0), (69, .if_icmp .lt 13, 3, 0, 0, 0), (72, .iload 4, 2, 0, 0, 0), (74, .bipush 53, 2, 0, 0, 0), (76, .if_icmp .gt 6, 3, 0, 0, 0), (79, .goto 87, 3, 0, 0, 0), (82, .iload 4, 2, 0, 0, 0), (84, .bipush 100, 2, 0, 0, 0), (86, .if_icmp .eq 10, 3, 0, 0, 0), (89, .iload 4, 2, 0, 0, 0), (91, .bipush 117, 2, 0, 0, 0), (93, .if_icmp .ne 25, 3, 0, 0, 0), (96, .aload_n 0, 1, 0, 0, 0), (97, .getfield 12, 3, 7, 0, 271), (100, .iload 4, 2, 0, 0, 0), (102, .bipush 117, 2, 0, 0, 0), (104, .if_icmp .ne 7, 3, 0, 0, 0), (107, .iconst 1, 1, 0, 0, 0), (108, .goto 4, 3, 0, 0, 0), (111, .iconst 0, 1, 0, 0, 0), (112, .invokevirtual 56, 3, 36, 0, 373), (115, .goto 25, 3, 0, 0, 0), (118, .aload_n 0, 1, 0, 0, 0), (119, .getfield 12, 3, 7, 0, 271), (122, .iload 4, 2, 0, 0, 0), (124, .aload_n 0, 1, 0, 0, 0), (125, .getfield 29, 3, 7, 3, 274), (128, .iload_n 3, 1, 0, 0, 0), (129, .iconst 1, 1, 0, 0, 0), (130, .iadd, 1, 0, 0, 0), (131, .invokevirtual 77, 3, 60, 0, 559), (134, .bipush 48, 2, 0, 0, 0), (136, .isub, 1, 0, 0, 0), (137, .invokevirtual 60, 3, 40, 0, 422), (140, .istore 5, 2, 0, 0, 0), (142, .iload 5, 2, 0, 0, 0), (144, .bipush 10, 2, 0, 0, 0), (146, .if_icmp .lt 9, 3, 0, 0, 0), (149, .iinc 1 1, 3, 0, 0, 0), (152, .goto 14, 3, 0, 0, 0), (155, .aload_n 0, 1, 0, 0, 0), (156, .iload 5, 2, 0, 0, 0), (158, .putfield 40, 3, 7, 6, 277), (161, .aload_n 0, 1, 0, 0, 0), (162, .iload_n 3, 1, 0, 0, 0), (163, .putfield 80, 3, 7, 7, 278), (166, .iinc 3 1, 3, 0, 0, 0), (169, .goto (-126), 3, 0, 0, 0), (172, .aload_n 0, 1, 0, 0, 0), (173, .getfield 29, 3, 7, 3, 274), (176, .invokevirtual 68, 3, 62, 0, 535), (179, .pop, 1, 0, 0, 0), (180, .iload_n 1, 1, 0, 0, 0), (181, .ireturn, 1, 0, 0, 0)]
/-- TankDivers.why(I)I -/
def q96 : List AE := [(0, .iload_n 1, 1, 0, 0, 0), (1, .ifCond .lt 8, 3, 0, 0, 0), (4, .iload_n 1, 1, 0, 0, 0), (5, .iconst 1, 1, 0, 0, 0), (6, .if_icmp .le 5, 3, 0, 0, 0), (9, .iconst (-1), 1, 0, 0, 0), (10, .ireturn, 1, 0, 0, 0), (11, .aload_n 0, 1, 0, 0, 0), (12, .getfield 40, 3, 7, 6, 277), (15, .ifCond .ne 6, 3, 0, 0, 0), (18, .bipush (-4), 2, 0, 0, 0), (20, .ireturn, 1, 0, 0, 0), (21, .iload_n 1, 1, 0, 0, 0), (22, .ifCond .ne 10, 3, 0, 0, 0), (25, .aload_n 0, 1, 0, 0, 0), (26, .getfield 40, 3, 7, 6, 277), (29, .goto 7, 3, 0, 0, 0), (32, .aload_n 0, 1, 0, 0, 0), (33, .getfield 80, 3, 7, 7, 278), (36, .ireturn, 1, 0, 0, 0)]
/-- TankDivers.diver(II)I -/
def q97 : List AE := [(0, .aload_n 0, 1, 0, 0, 0), (1, .getfield 12, 3, 7, 0, 271), (4, .getfield 83, 3, 1, 1, 154), (7, .iload_n 1, 1, 0, 0, 0), (8, .invokevirtual 87, 3, 1, 0, 571), (11, .ifCond .ne 5, 3, 0, 0, 0), (14, .iconst (-1), 1, 0, 0, 0), (15, .ireturn, 1, 0, 0, 0), (16, .aload_n 0, 1, 0, 0, 0), (17, .getfield 12, 3, 7, 0, 271), (20, .getfield 83, 3, 1, 1, 154), (23, .iload_n 1, 1, 0, 0, 0), (24, .iload_n 2, 1, 0, 0, 0), (25, .invokevirtual 93, 3, 4, 0, 575), (28, .ireturn, 1, 0, 0, 0)]
/-- TankDivers.stack(III)I -/
def q98 : List AE := [(0, .aload_n 0, 1, 0, 0, 0), (1, .getfield 12, 3, 7, 0, 271), (4, .getfield 83, 3, 1, 1, 154), (7, .iload_n 1, 1, 0, 0, 0), (8, .invokevirtual 87, 3, 1, 0, 571), (11, .ifCond .eq 16, 3, 0, 0, 0), (14, .iload_n 2, 1, 0, 0, 0), (15, .ifCond .lt 12, 3, 0, 0, 0), (18, .iload_n 3, 1, 0, 0, 0), (19, .ifCond .lt 8, 3, 0, 0, 0), (22, .iload_n 3, 1, 0, 0, 0), (23, .iconst 3, 1, 0, 0, 0), (24, .if_icmp .le 5, 3, 0, 0, 0), (27, .iconst (-1), 1, 0, 0, 0), (28, .ireturn, 1, 0, 0, 0), (29, .iload_n 2, 1, 0, 0, 0), (30, .aload_n 0, 1, 0, 0, 0), (31, .getfield 12, 3, 7, 0, 271), (34, .getfield 83, 3, 1, 1, 154), (37, .getfield 96, 3, 0, 3, 121), (40, .iload_n 1, 1, 0, 0, 0), (41, .invokevirtual 100, 3, 80, 0, 583), (44, .if_icmp .lt 6, 3, 0, 0, 0), (47, .bipush (-4), 2, 0, 0, 0), (49, .ireturn, 1, 0, 0, 0), (50, .aload_n 0, 1, 0, 0, 0), (51, .getfield 12, 3, 7, 0, 271), (54, .getfield 83, 3, 1, 1, 154), (57, .iload_n 1, 1, 0, 0, 0), (58, .iload_n 2, 1, 0, 0, 0), (59, .invokevirtual 105, 3, 6, 0, 584), (62, .istore 4, 2, 0, 0, 0), (64, .iload 4, 2, 0, 0, 0), (66, .invokestatic 108, 3, 75, 0, 585), (69, .istore 5, 2, 0, 0, 0), (71, .iload_n 3, 1, 0, 0, 0), (72, .ifCond .ne 6, 3, 0, 0, 0), (75, .iload 5, 2, 0, 0, 0), (77, .ireturn, 1, 0, 0, 0), (78, .iload_n 3, 1, 0, 0, 0), (79, .iload 5, 2, 0, 0, 0), (81, .if_icmp .gt 14, 3, 0, 0, 0), (84, .iload 4, 2, 0, 0, 0), (86, .iload_n 3, 1, 0, 0, 0), (87, .iconst 1, 1, 0, 0, 0), (88, .isub, 1, 0, 0, 0), (89, .invokestatic 113, 3, 76, 0, 586), (92, .goto 5, 3, 0, 0, 0), (95, .bipush (-4), 2, 0, 0, 0), (97, .ireturn, 1, 0, 0, 0)]
/-- TankDivers.space(II)I -/
def q99 : List AE := [(0, .iload_n 1, 1, 0, 0, 0), (1, .iconst 1, 1, 0, 0, 0), (2, .if_icmp .lt 17, 3, 0, 0, 0), (5, .iload_n 1, 1, 0, 0, 0), (6, .aload_n 0, 1, 0, 0, 0), (7, .getfield 12, 3, 7, 0, 271), (10, .getfield 116, 3, 1, 0, 152), (13, .getfield 120, 3, 5, 1, 99), (16, .if_icmp .le 5, 3, 0, 0, 0), (19, .iconst (-1), 1, 0, 0, 0), (20, .ireturn, 1, 0, 0, 0), (21, .iload_n 2, 1, 0, 0, 0), (22, .tableswitch 68 0 2 #[26, 41, 56], 26, 0, 0, 0), (48, .aload_n 0, 1, 0, 0, 0), (49, .getfield 12, 3, 7, 0, 271), (52, .getfield 116, 3, 1, 0, 152), (55, .iload_n 1, 1, 0, 0, 0), (56, .invokevirtual 125, 3, 66, 0, 591), (59, .invokestatic 108, 3, 75, 0, 585), (62, .ireturn, 1, 0, 0, 0), (63, .aload_n 0, 1, 0, 0, 0), (64, .getfield 12, 3, 7, 0, 271), (67, .getfield 116, 3, 1, 0, 152), (70, .iload_n 1, 1, 0, 0, 0), (71, .invokevirtual 125, 3, 66, 0, 591), (74, .invokestatic 128, 3, 77, 0, 592), (77, .ireturn, 1, 0, 0, 0), (78, .aload_n 0, 1, 0, 0, 0), (79, .getfield 12, 3, 7, 0, 271), (82, .getfield 83, 3, 1, 1, 154), (85, .iload_n 1, 1, 0, 0, 0), (86, .invokevirtual 131, 3, 17, 0, 593), (89, .ireturn, 1, 0, 0, 0), (90, .iconst (-1), 1, 0, 0, 0), (91, .ireturn, 1, 0, 0, 0)]
/-- TankDivers.count(I)I -/
def q100 : List AE := [(0, .iload_n 1, 1, 0, 0, 0), (1, .tableswitch 262 0 15 #[79, 90, 101, 109, 132, 162, 170, 181, 192, 203, 214, 222, 230, 238, 246, 254], 79, 0, 0, 0), (80, .aload_n 0, 1, 0, 0, 0), (81, .getfield 12, 3, 7, 0, 271), (84, .getfield 83, 3, 1, 1, 154), (87, .getfield 134, 3, 0, 8, 128), (90, .ireturn, 1, 0, 0, 0), (91, .aload_n 0, 1, 0, 0, 0), (92, .getfield 12, 3, 7, 0, 271), (95, .getfield 116, 3, 1, 0, 152), (98, .getfield 120, 3, 5, 1, 99), (101, .ireturn, 1, 0, 0, 0), (102, .aload_n 0, 1, 0, 0, 0), (103, .getfield 12, 3, 7, 0, 271), (106, .getfield 137, 3, 1, 4, 159), (109, .ireturn, 1, 0, 0, 0), (110, .aload_n 0, 1, 0, 0, 0), (111, .getfield 12, 3, 7, 0, 271), (114, .invokevirtual 140, 3, 30, 0, 601), (117, .ifCond .eq 8, 3, 0, 0, 0), (120, .bipush (-4), 2, 0, 0, 0), (122, .goto 10, 3, 0, 0, 0), (125, .aload_n 0, 1, 0, 0, 0), (126, .getfield 12, 3, 7, 0, 271), (129, .getfield 144, 3, 1, 5, 161), (132, .ireturn, 1, 0, 0, 0), (133, .aload_n 0, 1, 0, 0, 0), (134, .getfield 12, 3, 7, 0, 271), (137, .invokevirtual 140, 3, 30, 0, 601), (140, .ifCond .eq 7, 3, 0, 0, 0), (143, .iconst 2, 1, 0, 0, 0), (144, .goto 18, 3, 0, 0, 0), (147, .aload_n 0, 1, 0, 0, 0), (148, .getfield 12, 3, 7, 0, 271), (151, .getfield 147, 3, 1, 6, 163), (154, .ifCond .eq 7, 3, 0, 0, 0), (157, .iconst 1, 1, 0, 0, 0), (158, .goto 4, 3, 0, 0, 0), (161, .iconst 0, 1, 0, 0, 0), (162, .ireturn, 1, 0, 0, 0), (163, .aload_n 0, 1, 0, 0, 0), (164, .getfield 12, 3, 7, 0, 271), (167, .getfield 151, 3, 1, 7, 165), (170, .ireturn, 1, 0, 0, 0), (171, .aload_n 0, 1, 0, 0, 0), (172, .getfield 12, 3, 7, 0, 271), (175, .getfield 116, 3, 1, 0, 152), (178, .invokevirtual 154, 3, 69, 0, 602), (181, .ireturn, 1, 0, 0, 0), (182, .aload_n 0, 1, 0, 0, 0), (183, .getfield 12, 3, 7, 0, 271), (186, .getfield 116, 3, 1, 0, 152), (189, .invokevirtual 157, 3, 71, 0, 606), (192, .ireturn, 1, 0, 0, 0), (193, .aload_n 0, 1, 0, 0, 0), (194, .getfield 12, 3, 7, 0, 271), (197, .getfield 83, 3, 1, 1, 154), (200, .invokevirtual 160, 3, 12, 0, 607), (203, .ireturn, 1, 0, 0, 0), (204, .aload_n 0, 1, 0, 0, 0), (205, .getfield 12, 3, 7, 0, 271), (208, .getfield 83, 3, 1, 1, 154), (211, .invokevirtual 163, 3, 14, 0, 608), (214, .ireturn, 1, 0, 0, 0), (215, .aload_n 0, 1, 0, 0, 0), (216, .getfield 12, 3, 7, 0, 271), (219, .invokevirtual 166, 3, 33, 0, 609), (222, .ireturn, 1, 0, 0, 0), (223, .aload_n 0, 1, 0, 0, 0), (224, .getfield 12, 3, 7, 0, 271), (227, .getfield 169, 3, 1, 8, 167), (230, .ireturn, 1, 0, 0, 0), (231, .aload_n 0, 1, 0, 0, 0), (232, .getfield 12, 3, 7, 0, 271), (235, .getfield 172, 3, 1, 9, 169), (238, .ireturn, 1, 0, 0, 0), (239, .aload_n 0, 1, 0, 0, 0), (240, .getfield 12, 3, 7, 0, 271), (243, .getfield 175, 3, 1, 3, 157), (246, .ireturn, 1, 0, 0, 0), (247, .aload_n 0, 1, 0, 0, 0), (248, .getfield 29, 3, 7, 3, 274), (251, .invokevirtual 74, 3, 59, 0, 555), (254, .ireturn, 1, 0, 0, 0), (255, .aload_n 0, 1, 0, 0, 0), (256, .getfield 22, 3, 7, 2, 273), (259, .invokevirtual 178, 3, 47, 0, 622), (262, .ireturn, 1, 0, 0, 0), (263, .iconst (-1), 1, 0, 0, 0), (264, .ireturn, 1, 0, 0, 0)]
/-- TankDivers.leader()I -/
def q101 : List AE := [(0, .aload_n 0, 1, 0, 0, 0), (1, .getfield 12, 3, 7, 0, 271), (4, .getfield 83, 3, 1, 1, 154), (7, .invokevirtual 180, 3, 21, 0, 630), (10, .ireturn, 1, 0, 0, 0)]
/-- TankDivers.chances(IZI)I -/
def q102 : List AE := [(0, .iload_n 1, 1, 0, 0, 0), (1, .ifCond .lt 26, 3, 0, 0, 0), (4, .iload_n 1, 1, 0, 0, 0), (5, .aload_n 0, 1, 0, 0, 0), (6, .getfield 12, 3, 7, 0, 271), (9, .getfield 116, 3, 1, 0, 152), (12, .getfield 120, 3, 5, 1, 99), (15, .if_icmp .gt 12, 3, 0, 0, 0), (18, .iload_n 3, 1, 0, 0, 0), (19, .ifCond .lt 8, 3, 0, 0, 0), (22, .iload_n 3, 1, 0, 0, 0), (23, .iconst 1, 1, 0, 0, 0), (24, .if_icmp .le 5, 3, 0, 0, 0), (27, .iconst (-1), 1, 0, 0, 0), (28, .ireturn, 1, 0, 0, 0), (29, .aload_n 0, 1, 0, 0, 0), (30, .getfield 12, 3, 7, 0, 271), (33, .iload_n 2, 1, 0, 0, 0), (34, .invokevirtual 183, 3, 34, 0, 638), (37, .ifCond .eq 6, 3, 0, 0, 0), (40, .bipush (-2), 2, 0, 0, 0), (42, .ireturn, 1, 0, 0, 0), (43, .iload_n 3, 1, 0, 0, 0), (44, .ifCond .ne 19, 3, 0, 0, 0), (47, .aload_n 0, 1, 0, 0, 0), (48, .getfield 36, 3, 7, 4, 275), (51, .aload_n 0, 1, 0, 0, 0), (52, .getfield 12, 3, 7, 0, 271), (55, .iload_n 1, 1, 0, 0, 0), (56, .iload_n 2, 1, 0, 0, 0), (57, .invokevirtual 186, 3, 53, 0, 639), (60, .goto 16, 3, 0, 0, 0), (63, .aload_n 0, 1, 0, 0, 0), (64, .getfield 36, 3, 7, 4, 275), (67, .aload_n 0, 1, 0, 0, 0), (68, .getfield 12, 3, 7, 0, 271), (71, .iload_n 1, 1, 0, 0, 0), (72, .iload_n 2, 1, 0, 0, 0), (73, .invokevirtual 190, 3, 54, 0, 646), (76, .ireturn, 1, 0, 0, 0)]
/-- TankDivers.homeward(I)I -/
def q103 : List AE := [(0, .iload_n 1, 1, 0, 0, 0), (1, .iconst 1, 1, 0, 0, 0), (2, .if_icmp .lt 9, 3, 0, 0, 0), (5, .iload_n 1, 1, 0, 0, 0), (6, .bipush 6, 2, 0, 0, 0), (8, .if_icmp .le 5, 3, 0, 0, 0), (11, .iconst (-1), 1, 0, 0, 0), (12, .ireturn, 1, 0, 0, 0), (13, .aload_n 0, 1, 0, 0, 0), (14, .getfield 12, 3, 7, 0, 271), (17, .iconst 0, 1, 0, 0, 0), (18, .invokevirtual 183, 3, 34, 0, 638), (21, .ifCond .ne 13, 3, 0, 0, 0), (24, .aload_n 0, 1, 0, 0, 0), (25, .getfield 12, 3, 7, 0, 271), (28, .invokevirtual 193, 3, 31, 0, 660), (31, .ifCond .ne 6, 3, 0, 0, 0), (34, .bipush (-2), 2, 0, 0, 0), (36, .ireturn, 1, 0, 0, 0), (37, .aload_n 0, 1, 0, 0, 0), (38, .getfield 36, 3, 7, 4, 275), (41, .aload_n 0, 1, 0, 0, 0), (42, .getfield 12, 3, 7, 0, 271), (45, .iload_n 1, 1, 0, 0, 0), (46, .invokevirtual 196, 3, 56, 0, 661), (49, .ireturn, 1, 0, 0, 0)]
/-- TankDivers.used()I -/
def q104 : List AE := [(0, .aload_n 0, 1, 0, 0, 0), (1, .getfield 12, 3, 7, 0, 271), (4, .getfield 83, 3, 1, 1, 154), (7, .invokevirtual 200, 3, 13, 0, 678), (10, .ireturn, 1, 0, 0, 0)]
/-- TankDivers.brought()D -/
def q105 : List AE := [(0, .aload_n 0, 1, 0, 0, 0), (1, .getfield 12, 3, 7, 0, 271), (4, .invokevirtual 52, 3, 32, 0, 333), (7, .istore_n 1, 1, 0, 0, 0), (8, .iload_n 1, 1, 0, 0, 0), (9, .ifCond .ne 7, 3, 0, 0, 0), (12, .dconst 0, 1, 0, 0, 0), (13, .goto 17, 3, 0, 0, 0), (16, .aload_n 0, 1, 0, 0, 0), (17, .getfield 12, 3, 7, 0, 271), (20, .getfield 83, 3, 1, 1, 154), (23, .invokevirtual 163, 3, 14, 0, 608), (26, .i2d, 1, 0, 0, 0), (27, .iload_n 1, 1, 0, 0, 0), (28, .i2d, 1, 0, 0, 0), (29, .ddiv, 1, 0, 0, 0), (30, .dreturn, 1, 0, 0, 0)]
/-- TankDivers.undo()I -/
def q106 : List AE := [(0, .aload_n 0, 1, 0, 0, 0), (1, .getfield 22, 3, 7, 2, 273), (4, .aload_n 0, 1, 0, 0, 0), (5, .getfield 12, 3, 7, 0, 271), (8, .invokevirtual 203, 3, 50, 0, 690), (11, .ireturn, 1, 0, 0, 0)]
/-- TankDivers.save()I -/
def q107 : List AE := [(0, .aload_n 0, 1, 0, 0, 0), (1, .getfield 16, 3, 7, 1, 272), (4, .aload_n 0, 1, 0, 0, 0), (5, .getfield 12, 3, 7, 0, 271), (8, .invokevirtual 207, 3, 45, 0, 698), (11, .aload_n 0, 1, 0, 0, 0), (12, .iconst 1, 1, 0, 0, 0), (13, .putfield 210, 3, 7, 5, 276), (16, .aload_n 0, 1, 0, 0, 0), (17, .getfield 12, 3, 7, 0, 271), (20, .getfield 137, 3, 1, 4, 159), (23, .ireturn, 1, 0, 0, 0)]
/-- TankDivers.restore()I -/
def q108 : List AE := [(0, .aload_n 0, 1, 0, 0, 0), (1, .getfield 210, 3, 7, 5, 276), (4, .ifCond .ne 6, 3, 0, 0, 0), (7, .bipush (-2), 2, 0, 0, 0), (9, .ireturn, 1, 0, 0, 0), (10, .aload_n 0, 1, 0, 0, 0), (11, .getfield 22, 3, 7, 2, 273), (14, .aload_n 0, 1, 0, 0, 0), (15, .getfield 12, 3, 7, 0, 271), (18, .invokevirtual 48, 3, 48, 0, 300), (21, .aload_n 0, 1, 0, 0, 0), (22, .getfield 12, 3, 7, 0, 271), (25, .aload_n 0, 1, 0, 0, 0), (26, .getfield 16, 3, 7, 1, 272), (29, .invokevirtual 207, 3, 45, 0, 698), (32, .aload_n 0, 1, 0, 0, 0), (33, .getfield 12, 3, 7, 0, 271), (36, .getfield 137, 3, 1, 4, 159), (39, .ireturn, 1, 0, 0, 0)]
/-- TankDiversModel.<init>()V -/
def q109 : List AE := [(0, .aload_n 0, 1, 0, 0, 0), (1, .invokespecial 1, 3, 999, 0, 708), (4, .aload_n 0, 1, 0, 0, 0), (5, .bipush 77, 2, 0, 0, 0), (7, .newarray .int, 2, 0, 0, 0), (9, .putfield 7, 3, 8, 0, 725), (12, .aload_n 0, 1, 0, 0, 0), (13, .sipush 308, 3, 0, 0, 0), (16, .newarray .int, 2, 0, 0, 0), (18, .putfield 13, 3, 8, 1, 726), (21, .aload_n 0, 1, 0, 0, 0), (22, .bipush 77, 2, 0, 0, 0), (24, .newarray .int, 2, 0, 0, 0), (26, .putfield 16, 3, 8, 3, 728), (29, .aload_n 0, 1, 0, 0, 0), (30, .bipush 60, 2, 0, 0, 0), (32, .newarray .int, 2, 0, 0, 0), (34, .putfield 19, 3, 8, 5, 730), (37, .aload_n 0, 1, 0, 0, 0), (38, .bipush 16, 2, 0, 0, 0), (40, .newarray .int, 2, 0, 0, 0), (42, .putfield 22, 3, 8, 9, 734), (45, .aload_n 0, 1, 0, 0, 0), (46, .bipush 17, 2, 0, 0, 0), (48, .newarray .int, 2, 0, 0, 0), (50, .putfield 25, 3, 8, 16, 741), (53, .aload_n 0, 1, 0, 0, 0), (54, .bipush 17, 2, 0, 0, 0), (56, .newarray .int, 2, 0, 0, 0), (58, .putfield 28, 3, 8, 17, 742), (61, .aload_n 0, 1, 0, 0, 0), (62, .iconst 2, 1, 0, 0, 0), (63, .iconst 1, 1, 0, 0, 0), (64, .invokevirtual 31, 3, 129, 0, 709), (67, .pop, 1, 0, 0, 0), (68, .return_, 1, 0, 0, 0)]
/-- TankDiversModel.in(III)Z -/
def q110 : List AE := [(0, .iload_n 0, 1, 0, 0, 0), (1, .iload_n 1, 1, 0, 0, 0), (2, .if_icmp .lt 12, 3, 0, 0, 0), (5, .iload_n 0, 1, 0, 0, 0), (6, .iload_n 2, 1, 0, 0, 0), (7, .if_icmp .gt 7, 3, 0, 0, 0), (10, .iconst 1, 1, 0, 0, 0), (11, .goto 4, 3, 0, 0, 0), (14, .iconst 0, 1, 0, 0, 0), (15, .ireturn, 1, 0, 0, 0)]
/-- TankDiversModel.copies([II[II)V -/
def q111 : List AE := [(0, .iconst 0, 1, 0, 0, 0), (1, .istore 4, 2, 0, 0, 0), (3, .iload 4, 2, 0, 0, 0), (5, .bipush 77, 2, 0, 0, 0), (7, .if_icmp .ge 21, 3, 0, 0, 0), (10, .aload_n 2, 1, 0, 0, 0), (11, .iload_n 3, 1, 0, 0, 0), (12, .iload 4, 2, 0, 0, 0), (14, .iadd, 1, 0, 0, 0), (15, .aload_n 0, 1, 0, 0, 0), (16, .iload_n 1, 1, 0, 0, 0), (17, .iload 4, 2, 0, 0, 0), (19, .iadd, 1, 0, 0, 0), (20, .iaload, 1, 0, 0, 0), (21, .iastore, 1, 0, 0, 0), (22, .iinc 4 1, 3, 0, 0, 0), (25, .goto (-22), 3, 0, 0, 0), (28, .return_, 1, 0, 0, 0)]
/-- TankDiversModel.records()V -/
def q112 : List AE := [(0, .aload_n 0, 1, 0, 0, 0), (1, .getfield 35, 3, 8, 2, 727), (4, .iconst 4, 1, 0, 0, 0), (5, .if_icmp .ne 43, 3, 0, 0, 0), (8, .iconst 0, 1, 0, 0, 0), (9, .istore_n 1, 1, 0, 0, 0), (10, .iload_n 1, 1, 0, 0, 0), (11, .sipush 231, 3, 0, 0, 0), (14, .if_icmp .ge 24, 3, 0, 0, 0), (17, .aload_n 0, 1, 0, 0, 0), (18, .getfield 13, 3, 8, 1, 726), (21, .iload_n 1, 1, 0, 0, 0), (22, .aload_n 0, 1, 0, 0, 0), (23, .getfield 13, 3, 8, 1, 726), (26, .iload_n 1, 1, 0, 0, 0), (27, .bipush 77, 2, 0, 0, 0), (29, .iadd, 1, 0, 0, 0), (30, .iaload, 1, 0, 0, 0), (31, .iastore, 1, 0, 0, 0), (32, .iinc 1 1, 3, 0, 0, 0), (35, .goto (-25), 3, 0, 0, 0), (38, .aload_n 0, 1, 0, 0, 0), (39, .dup, 1, 0, 0, 0), (40, .getfield 35, 3, 8, 2, 727), (43, .iconst 1, 1, 0, 0, 0), (44, .isub, 1, 0, 0, 0), (45, .putfield 35, 3, 8, 2, 727), (48, .aload_n 0, 1, 0, 0, 0), (49, .getfield 7, 3, 8, 0, 725), (52, .iconst 0, 1, 0, 0, 0), (53, .aload_n 0, 1, 0, 0, 0), (54, .getfield 13, 3, 8, 1, 726), (57, .bipush 77, 2, 0, 0, 0), (59, .aload_n 0, 1, 0, 0, 0), (60, .getfield 35, 3, 8, 2, 727), (63, .imul, 1, 0, 0, 0), (64, .invokestatic 39, 3, 111, 0, 791), (67, .aload_n 0, 1, 0, 0, 0), (68, .dup, 1, 0, 0, 0), (69, .getfield 35, 3, 8, 2, 727), (72, .iconst 1, 1, 0, 0, 0), (73, .iadd, 1, 0, 0, 0), (74, .putfield 35, 3, 8, 2, 727), (77, .return_, 1, 0, 0, 0)]
/-- TankDiversModel.treasures(I)I -/
def q113 : List AE := [(0, .iconst 0, 1, 0, 0, 0), (1, .istore_n 1, 1, 0, 0, 0), (2, .iload_n 0, 1, 0, 0, 0), (3, .istore_n 2, 1, 0, 0, 0), (4, .iload_n 2, 1, 0, 0, 0), (5, .ifCond .le 13, 3, 0, 0, 0), (8, .iinc 1 1, 3, 0, 0, 0), (11, .iload_n 2, 1, 0, 0, 0), (12, .iconst 5, 1, 0, 0, 0), (13, .ishr, 1, 0, 0, 0), (14, .istore_n 2, 1, 0, 0, 0), (15, .goto (-11), 3, 0, 0, 0), (18, .iload_n 1, 1, 0, 0, 0), (19, .ireturn, 1, 0, 0, 0)]
/-- TankDiversModel.treasure(II)I -/
def q114 : List AE := [(0, .iload_n 0, 1, 0, 0, 0), (1, .iconst 5, 1, 0, 0, 0), (2, .iload_n 1, 1, 0, 0, 0), (3, .imul, 1, 0, 0, 0), (4, .ishr, 1, 0, 0, 0), (5, .bipush 31, 2, 0, 0, 0), (7, .iand, 1, 0, 0, 0), (8, .iconst 1, 1, 0, 0, 0), (9, .isub, 1, 0, 0, 0), (10, .ireturn, 1, 0, 0, 0)]
/-- TankDiversModel.valueOf(I)I -/
def q115 : List AE := [(0, .iconst 0, 1, 0, 0, 0), (1, .istore_n 1, 1, 0, 0, 0), (2, .iconst 0, 1, 0, 0, 0), (3, .istore_n 2, 1, 0, 0, 0), (4, .iload_n 2, 1, 0, 0, 0), (5, .iload_n 0, 1, 0, 0, 0), (6, .invokestatic 43, 3, 113, 0, 873), (9, .if_icmp .ge 17, 3, 0, 0, 0), (12, .iload_n 1, 1, 0, 0, 0), (13, .iload_n 0, 1, 0, 0, 0), (14, .iload_n 2, 1, 0, 0, 0), (15, .invokestatic 47, 3, 114, 0, 876), (18, .iadd, 1, 0, 0, 0), (19, .istore_n 1, 1, 0, 0, 0), (20, .iinc 2 1, 3, 0, 0, 0), (23, .goto (-19), 3, 0, 0, 0), (26, .iload_n 1, 1, 0, 0, 0), (27, .ireturn, 1, 0, 0, 0)]
/-- TankDiversModel.of(II)I -/
def q116 : List AE := [(0, .aload_n 0, 1, 0, 0, 0), (1, .getfield 7, 3, 8, 0, 725), (4, .bipush 25, 2, 0, 0, 0), (6, .bipush 13, 2, 0, 0, 0), (8, .iload_n 1, 1, 0, 0, 0), (9, .imul, 1, 0, 0, 0), (10, .iadd, 1, 0, 0, 0), (11, .iload_n 2, 1, 0, 0, 0), (12, .iadd, 1, 0, 0, 0), (13, .iaload, 1, 0, 0, 0), (14, .ireturn, 1, 0, 0, 0)]
/-- TankDiversModel.lays(III)V -/
def q117 : List AE := [(0, .aload_n 0, 1, 0, 0, 0), (1, .getfield 7, 3, 8, 0, 725), (4, .bipush 25, 2, 0, 0, 0), (6, .bipush 13, 2, 0, 0, 0), (8, .iload_n 1, 1, 0, 0, 0), (9, .imul, 1, 0, 0, 0), (10, .iadd, 1, 0, 0, 0), (11, .iload_n 2, 1, 0, 0, 0), (12, .iadd, 1, 0, 0, 0), (13, .iload_n 3, 1, 0, 0, 0), (14, .iastore, 1, 0, 0, 0), (15, .return_, 1, 0, 0, 0)]
/-- TankDiversModel.isDiver(I)Z -/
def q118 : List AE := [(0, .iload_n 1, 1, 0, 0, 0), (1, .iconst 0, 1, 0, 0, 0), (2, .aload_n 0, 1, 0, 0, 0), (3, .getfield 7, 3, 8, 0, 725), (6, .iconst 0, 1, 0, 0, 0), (7, .iaload, 1, 0, 0, 0), (8, .iconst 1, 1, 0, 0, 0), (9, .isub, 1, 0, 0, 0), (10, .invokestatic 50, 3, 110, 0, 784), (13, .ireturn, 1, 0, 0, 0)]
/-- TankDiversModel.at(I)I -/
def q119 : List AE := [(0, .iload_n 1, 1, 0, 0, 0), (1, .ifCond .ne 7, 3, 0, 0, 0), (4, .iconst 0, 1, 0, 0, 0), (5, .goto 14, 3, 0, 0, 0), (8, .aload_n 0, 1, 0, 0, 0), (9, .getfield 7, 3, 8, 0, 725), (12, .bipush 9, 2, 0, 0, 0), (14, .iload_n 1, 1, 0, 0, 0), (15, .iadd, 1, 0, 0, 0), (16, .iconst 1, 1, 0, 0, 0), (17, .isub, 1, 0, 0, 0), (18, .iaload, 1, 0, 0, 0), (19, .ireturn, 1, 0, 0, 0)]
/-- TankDiversModel.diverAt(I)I -/
def q120 : List AE := [(0, .bipush (-4), 2, 0, 0, 0), (2, .istore_n 2, 1, 0, 0, 0), (3, .iconst 0, 1, 0, 0, 0), (4, .istore_n 3, 1, 0, 0, 0), (5, .iload_n 3, 1, 0, 0, 0), (6, .aload_n 0, 1, 0, 0, 0), (7, .getfield 7, 3, 8, 0, 725), (10, .iconst 0, 1, 0, 0, 0), (11, .iaload, 1, 0, 0, 0), (12, .if_icmp .ge 25, 3, 0, 0, 0), (15, .aload_n 0, 1, 0, 0, 0), (16, .iload_n 3, 1, 0, 0, 0), (17, .iconst 0, 1, 0, 0, 0), (18, .invokevirtual 54, 3, 116, 0, 806), (21, .iload_n 1, 1, 0, 0, 0), (22, .if_icmp .ne 7, 3, 0, 0, 0), (25, .iload_n 3, 1, 0, 0, 0), (26, .goto 4, 3, 0, 0, 0), (29, .iload_n 2, 1, 0, 0, 0), (30, .istore_n 2, 1, 0, 0, 0), (31, .iinc 3 1, 3, 0, 0, 0), (34, .goto (-29), 3, 0, 0, 0), (37, .iload_n 2, 1, 0, 0, 0), (38, .ireturn, 1, 0, 0, 0)]
/-- TankDiversModel.isFree(II)Z -/
def q121 : List AE := [(0, .aload_n 0, 1, 0, 0, 0), (1, .iload_n 1, 1, 0, 0, 0), (2, .invokevirtual 57, 3, 120, 0, 826), (5, .istore_n 3, 1, 0, 0, 0), (6, .iload_n 3, 1, 0, 0, 0), (7, .bipush (-4), 2, 0, 0, 0), (9, .if_icmp .eq 8, 3, 0, 0, 0), (12, .iload_n 3, 1, 0, 0, 0), (13, .iload_n 2, 1, 0, 0, 0), (14, .if_icmp .ne 7, 3, 0, 0, 0), (17, .iconst 1, 1, 0, 0, 0), (18, .goto 4, 3, 0, 0, 0), (21, .iconst 0, 1, 0, 0, 0), (22, .ireturn, 1, 0, 0, 0)]
/-- TankDiversModel.valuesOf(I)I -/
def q122 : List AE := [(0, .iconst 0, 1, 0, 0, 0), (1, .istore_n 2, 1, 0, 0, 0), (2, .iconst 0, 1, 0, 0, 0), (3, .istore_n 3, 1, 0, 0, 0), (4, .iload_n 3, 1, 0, 0, 0), (5, .aload_n 0, 1, 0, 0, 0), (6, .iload_n 1, 1, 0, 0, 0), (7, .iconst 3, 1, 0, 0, 0), (8, .invokevirtual 54, 3, 116, 0, 806), (11, .if_icmp .ge 23, 3, 0, 0, 0), (14, .iload_n 2, 1, 0, 0, 0), (15, .aload_n 0, 1, 0, 0, 0), (16, .iload_n 1, 1, 0, 0, 0), (17, .iconst 4, 1, 0, 0, 0), (18, .iload_n 3, 1, 0, 0, 0), (19, .iadd, 1, 0, 0, 0), (20, .invokevirtual 54, 3, 116, 0, 806), (23, .invokestatic 60, 3, 115, 0, 870), (26, .iadd, 1, 0, 0, 0), (27, .istore_n 2, 1, 0, 0, 0), (28, .iinc 3 1, 3, 0, 0, 0), (31, .goto (-27), 3, 0, 0, 0), (34, .iload_n 2, 1, 0, 0, 0), (35, .ireturn, 1, 0, 0, 0)]
/-- TankDiversModel.treasuresOf(I)I -/
def q123 : List AE := [(0, .iconst 0, 1, 0, 0, 0), (1, .istore_n 2, 1, 0, 0, 0), (2, .iconst 0, 1, 0, 0, 0), (3, .istore_n 3, 1, 0, 0, 0), (4, .iload_n 3, 1, 0, 0, 0), (5, .aload_n 0, 1, 0, 0, 0), (6, .iload_n 1, 1, 0, 0, 0), (7, .iconst 3, 1, 0, 0, 0), (8, .invokevirtual 54, 3, 116, 0, 806), (11, .if_icmp .ge 23, 3, 0, 0, 0), (14, .iload_n 2, 1, 0, 0, 0), (15, .aload_n 0, 1, 0, 0, 0), (16, .iload_n 1, 1, 0, 0, 0), (17, .iconst 4, 1, 0, 0, 0), (18, .iload_n 3, 1, 0, 0, 0), (19, .iadd, 1, 0, 0, 0), (20, .invokevirtual 54, 3, 116, 0, 806), (23, .invokestatic 43, 3, 113, 0, 873), (26, .iadd, 1, 0, 0, 0), (27, .istore_n 2, 1, 0, 0, 0), (28, .iinc 3 1, 3, 0, 0, 0), (31, .goto (-27), 3, 0, 0, 0), (34, .iload_n 2, 1, 0, 0, 0), (35, .ireturn, 1, 0, 0, 0)]
/-- TankDiversModel.onPath()I -/
def q124 : List AE := [(0, .iconst 0, 1, 0, 0, 0), (1, .istore_n 1, 1, 0, 0, 0), (2, .iconst 1, 1, 0, 0, 0), (3, .istore_n 2, 1, 0, 0, 0), (4, .iload_n 2, 1, 0, 0, 0), (5, .aload_n 0, 1, 0, 0, 0), (6, .getfield 7, 3, 8, 0, 725), (9, .bipush 8, 2, 0, 0, 0), (11, .iaload, 1, 0, 0, 0), (12, .if_icmp .gt 20, 3, 0, 0, 0), (15, .iload_n 1, 1, 0, 0, 0), (16, .aload_n 0, 1, 0, 0, 0), (17, .iload_n 2, 1, 0, 0, 0), (18, .invokevirtual 63, 3, 119, 0, 842), (21, .invokestatic 60, 3, 115, 0, 870), (24, .iadd, 1, 0, 0, 0), (25, .istore_n 1, 1, 0, 0, 0), (26, .iinc 2 1, 3, 0, 0, 0), (29, .goto (-25), 3, 0, 0, 0), (32, .iload_n 1, 1, 0, 0, 0), (33, .ireturn, 1, 0, 0, 0)]
/-- TankDiversModel.onWay()I -/
def q125 : List AE := [(0, .iconst 0, 1, 0, 0, 0), (1, .istore_n 1, 1, 0, 0, 0), (2, .iconst 0, 1, 0, 0, 0), (3, .istore_n 2, 1, 0, 0, 0), (4, .iload_n 2, 1, 0, 0, 0), (5, .aload_n 0, 1, 0, 0, 0), (6, .getfield 7, 3, 8, 0, 725), (9, .iconst 0, 1, 0, 0, 0), (10, .iaload, 1, 0, 0, 0), (11, .if_icmp .ge 17, 3, 0, 0, 0), (14, .iload_n 1, 1, 0, 0, 0), (15, .aload_n 0, 1, 0, 0, 0), (16, .iload_n 2, 1, 0, 0, 0), (17, .invokevirtual 66, 3, 122, 0, 866), (20, .iadd, 1, 0, 0, 0), (21, .istore_n 1, 1, 0, 0, 0), (22, .iinc 2 1, 3, 0, 0, 0), (25, .goto (-21), 3, 0, 0, 0), (28, .iload_n 1, 1, 0, 0, 0), (29, .ireturn, 1, 0, 0, 0)]
/-- TankDiversModel.broughtAll()I -/
def q126 : List AE := [(0, .iconst 0, 1, 0, 0, 0), (1, .istore_n 1, 1, 0, 0, 0), (2, .iconst 0, 1, 0, 0, 0), (3, .istore_n 2, 1, 0, 0, 0), (4, .iload_n 2, 1, 0, 0, 0), (5, .aload_n 0, 1, 0, 0, 0), (6, .getfield 7, 3, 8, 0, 725), (9, .iconst 0, 1, 0, 0, 0), (10, .iaload, 1, 0, 0, 0), (11, .if_icmp .ge 19, 3, 0, 0, 0), (14, .iload_n 1, 1, 0, 0, 0), (15, .aload_n 0, 1, 0, 0, 0), (16, .iload_n 2, 1, 0, 0, 0), (17, .bipush 10, 2, 0, 0, 0), (19, .invokevirtual 54, 3, 116, 0, 806), (22, .iadd, 1, 0, 0, 0), (23, .istore_n 1, 1, 0, 0, 0), (24, .iinc 2 1, 3, 0, 0, 0), (27, .goto (-23), 3, 0, 0, 0), (30, .iload_n 1, 1, 0, 0, 0), (31, .ireturn, 1, 0, 0, 0)]
/-- TankDiversModel.draws()I -/
def q127 : List AE := [(0, .aload_n 0, 1, 0, 0, 0), (1, .getfield 7, 3, 8, 0, 725), (4, .iconst 5, 1, 0, 0, 0), (5, .sipush 421, 3, 0, 0, 0), (8, .aload_n 0, 1, 0, 0, 0), (9, .getfield 7, 3, 8, 0, 725), (12, .iconst 5, 1, 0, 0, 0), (13, .iaload, 1, 0, 0, 0), (14, .imul, 1, 0, 0, 0), (15, .sipush 1663, 3, 0, 0, 0), (18, .iadd, 1, 0, 0, 0), (19, .sipush 10000, 3, 0, 0, 0), (22, .irem, 1, 0, 0, 0), (23, .iastore, 1, 0, 0, 0), (24, .aload_n 0, 1, 0, 0, 0), (25, .getfield 7, 3, 8, 0, 725), (28, .iconst 5, 1, 0, 0, 0), (29, .iaload, 1, 0, 0, 0), (30, .ireturn, 1, 0, 0, 0)]
/-- TankDiversModel.beginsRound()V -/
def q128 : List AE := [(0, .aload_n 0, 1, 0, 0, 0), (1, .getfield 7, 3, 8, 0, 725), (4, .iconst 4, 1, 0, 0, 0), (5, .bipush 25, 2, 0, 0, 0), (7, .iastore, 1, 0, 0, 0), (8, .iconst 0, 1, 0, 0, 0), (9, .istore_n 1, 1, 0, 0, 0), (10, .iload_n 1, 1, 0, 0, 0), (11, .aload_n 0, 1, 0, 0, 0), (12, .getfield 7, 3, 8, 0, 725), (15, .iconst 0, 1, 0, 0, 0), (16, .iaload, 1, 0, 0, 0), (17, .if_icmp .ge 30, 3, 0, 0, 0), (20, .iconst 0, 1, 0, 0, 0), (21, .istore_n 2, 1, 0, 0, 0), (22, .iload_n 2, 1, 0, 0, 0), (23, .bipush 10, 2, 0, 0, 0), (25, .if_icmp .ge 16, 3, 0, 0, 0), (28, .aload_n 0, 1, 0, 0, 0), (29, .iload_n 1, 1, 0, 0, 0), (30, .iload_n 2, 1, 0, 0, 0), (31, .iconst 0, 1, 0, 0, 0), (32, .invokevirtual 69, 3, 117, 0, 721), (35, .iinc 2 1, 3, 0, 0, 0), (38, .goto (-16), 3, 0, 0, 0), (41, .iinc 1 1, 3, 0, 0, 0), (44, .goto (-34), 3, 0, 0, 0), (47, .return_, 1, 0, 0, 0)]
/-- TankDiversModel.goBegin(II)I -/
def q129 : List AE := [(0, .aload_n 0, 1, 0, 0, 0), (1, .getfield 7, 3, 8, 0, 725), (4, .bipush 7, 2, 0, 0, 0), (6, .iaload, 1, 0, 0, 0), (7, .istore_n 3, 1, 0, 0, 0), (8, .iconst 0, 1, 0, 0, 0), (9, .istore 4, 2, 0, 0, 0), (11, .iload 4, 2, 0, 0, 0), (13, .bipush 77, 2, 0, 0, 0), (15, .if_icmp .ge 17, 3, 0, 0, 0), (18, .aload_n 0, 1, 0, 0, 0), (19, .getfield 7, 3, 8, 0, 725), (22, .iload 4, 2, 0, 0, 0), (24, .iconst 0, 1, 0, 0, 0), (25, .iastore, 1, 0, 0, 0), (26, .iinc 4 1, 3, 0, 0, 0), (29, .goto (-18), 3, 0, 0, 0), (32, .aload_n 0, 1, 0, 0, 0), (33, .getfield 7, 3, 8, 0, 725), (36, .bipush 7, 2, 0, 0, 0), (38, .iload_n 3, 1, 0, 0, 0), (39, .iastore, 1, 0, 0, 0), (40, .aload_n 0, 1, 0, 0, 0), (41, .getfield 7, 3, 8, 0, 725), (44, .iconst 0, 1, 0, 0, 0), (45, .iload_n 1, 1, 0, 0, 0), (46, .iastore, 1, 0, 0, 0), (47, .aload_n 0, 1, 0, 0, 0), (48, .getfield 7, 3, 8, 0, 725), (51, .iconst 5, 1, 0, 0, 0), (52, .iload_n 2, 1, 0, 0, 0), (53, .iastore, 1, 0, 0, 0), (54, .aload_n 0, 1, 0, 0, 0), (55, .getfield 7, 3, 8, 0, 725), (58, .bipush 8, 2, 0, 0, 0), (60, .bipush 16, 2, 0, 0, 0), (62, .iastore, 1, 0, 0, 0), (63, .iconst 0, 1, 0, 0, 0), (64, .istore 4, 2, 0, 0, 0), (66, .iconst 0, 1, 0, 0, 0), (67, .istore 5, 2, 0, 0, 0), (69, .iload 5, 2, 0, 0, 0), (71, .bipush 16, 2, 0, 0, 0), (73, .if_icmp .ge 45, 3, 0, 0, 0), (76, .iconst 4, 1, 0, 0, 0), (77, .iload 5, 2, 0, 0, 0), (79, .iconst 4, 1, 0, 0, 0), (80, .idiv, 1, 0, 0, 0), (81, .imul, 1, 0, 0, 0), (82, .aload_n 0, 1, 0, 0, 0), (83, .invokevirtual 73, 3, 127, 0, 713), (86, .iconst 4, 1, 0, 0, 0), (87, .irem, 1, 0, 0, 0), (88, .iadd, 1, 0, 0, 0), (89, .istore 6, 2, 0, 0, 0), (91, .aload_n 0, 1, 0, 0, 0), (92, .getfield 7, 3, 8, 0, 725), (95, .bipush 9, 2, 0, 0, 0), (97, .iload 5, 2, 0, 0, 0), (99, .iadd, 1, 0, 0, 0), (100, .iload 6, 2, 0, 0, 0), (102, .iconst 1, 1, 0, 0, 0), (103, .iadd, 1, 0, 0, 0), (104, .iastore, 1, 0, 0, 0), (105, .iload 4, 2, 0, 0, 0), (107, .iload 6, 2, 0, 0, 0), (109, .iadd, 1, 0, 0, 0), (110, .istore 4, 2, 0, 0, 0), (112, .iinc 5 1, 3, 0, 0, 0), (115, .goto (-46), 3, 0, 0, 0), (118, .aload_n 0, 1, 0, 0, 0), (119, .invokevirtual 77, 3, 128, 0, 717), (122, .iload 4, 2, 0, 0, 0), (124, .ireturn, 1, 0, 0, 0)]
/-- TankDiversModel.refuses(I)I -/
def q130 : List AE := [(0, .aload_n 0, 1, 0, 0, 0), (1, .getfield 7, 3, 8, 0, 725), (4, .bipush 7, 2, 0, 0, 0), (6, .dup2, 1, 0, 0, 0), (7, .iaload, 1, 0, 0, 0), (8, .iconst 1, 1, 0, 0, 0), (9, .iadd, 1, 0, 0, 0), (10, .iastore, 1, 0, 0, 0), (11, .iload_n 1, 1, 0, 0, 0), (12, .ireturn, 1, 0, 0, 0)]
/-- TankDiversModel.reasonMove(Z)I -/
def q131 : List AE := [(0, .aload_n 0, 1, 0, 0, 0), (1, .getfield 7, 3, 8, 0, 725), (4, .iconst 2, 1, 0, 0, 0), (5, .iaload, 1, 0, 0, 0), (6, .istore_n 2, 1, 0, 0, 0), (7, .aload_n 0, 1, 0, 0, 0), (8, .getfield 7, 3, 8, 0, 725), (11, .iconst 3, 1, 0, 0, 0), (12, .iaload, 1, 0, 0, 0), (13, .iconst 2, 1, 0, 0, 0), (14, .if_icmp .ne 7, 3, 0, 0, 0), (17, .iconst 1, 1, 0, 0, 0), (18, .goto 45, 3, 0, 0, 0), (21, .aload_n 0, 1, 0, 0, 0), (22, .getfield 7, 3, 8, 0, 725), (25, .iconst 3, 1, 0, 0, 0), (26, .iaload, 1, 0, 0, 0), (27, .iconst 1, 1, 0, 0, 0), (28, .if_icmp .ne 7, 3, 0, 0, 0), (31, .iconst 3, 1, 0, 0, 0), (32, .goto 31, 3, 0, 0, 0), (35, .iload_n 1, 1, 0, 0, 0), (36, .ifCond .eq 26, 3, 0, 0, 0), (39, .aload_n 0, 1, 0, 0, 0), (40, .iload_n 2, 1, 0, 0, 0), (41, .iconst 1, 1, 0, 0, 0), (42, .invokevirtual 54, 3, 116, 0, 806), (45, .iconst 1, 1, 0, 0, 0), (46, .if_icmp .eq 12, 3, 0, 0, 0), (49, .aload_n 0, 1, 0, 0, 0), (50, .iload_n 2, 1, 0, 0, 0), (51, .iconst 0, 1, 0, 0, 0), (52, .invokevirtual 54, 3, 116, 0, 806), (55, .ifCond .ne 7, 3, 0, 0, 0), (58, .iconst 4, 1, 0, 0, 0), (59, .goto 4, 3, 0, 0, 0), (62, .iconst 0, 1, 0, 0, 0), (63, .ireturn, 1, 0, 0, 0)]
/-- TankDiversModel.behind(IIZI)I -/
def q132 : List AE := [(0, .iload_n 2, 1, 0, 0, 0), (1, .istore 5, 2, 0, 0, 0), (3, .iconst 1, 1, 0, 0, 0), (4, .istore 6, 2, 0, 0, 0), (6, .iconst 0, 1, 0, 0, 0), (7, .istore 7, 2, 0, 0, 0), (9, .iload 7, 2, 0, 0, 0), (11, .iload 4, 2, 0, 0, 0), (13, .if_icmp .ge 124, 3, 0, 0, 0), (16, .iload 6, 2, 0, 0, 0), (18, .ifCond .eq 119, 3, 0, 0, 0), (21, .iload_n 3, 1, 0, 0, 0), (22, .ifCond .eq 10, 3, 0, 0, 0), (25, .iload 5, 2, 0, 0, 0), (27, .iconst 1, 1, 0, 0, 0), (28, .isub, 1, 0, 0, 0), (29, .goto 7, 3, 0, 0, 0), (32, .iload 5, 2, 0, 0, 0), (34, .iconst 1, 1, 0, 0, 0), (35, .iadd, 1, 0, 0, 0), (36, .istore 8, 2, 0, 0, 0), (38, .iload 8, 2, 0, 0, 0), (40, .ifCond .le 42, 3, 0, 0, 0), (43, .iload 8, 2, 0, 0, 0), (45, .aload_n 0, 1, 0, 0, 0), (46, .getfield 7, 3, 8, 0, 725), (49, .bipush 8, 2, 0, 0, 0), (51, .iaload, 1, 0, 0, 0), (52, .if_icmp .gt 30, 3, 0, 0, 0), (55, .aload_n 0, 1, 0, 0, 0), (56, .iload 8, 2, 0, 0, 0), (58, .iload_n 1, 1, 0, 0, 0), (59, .invokevirtual 80, 3, 121, 0, 822), (62, .ifCond .ne 20, 3, 0, 0, 0), (65, .iload 8, 2, 0, 0, 0), (67, .iload_n 3, 1, 0, 0, 0), (68, .ifCond .eq 7, 3, 0, 0, 0), (71, .iconst (-1), 1, 0, 0, 0), (72, .goto 4, 3, 0, 0, 0), (75, .iconst 1, 1, 0, 0, 0), (76, .iadd, 1, 0, 0, 0), (77, .istore 8, 2, 0, 0, 0), (79, .goto (-41), 3, 0, 0, 0), (82, .iload 8, 2, 0, 0, 0), (84, .aload_n 0, 1, 0, 0, 0), (85, .getfield 7, 3, 8, 0, 725), (88, .bipush 8, 2, 0, 0, 0), (90, .iaload, 1, 0, 0, 0), (91, .if_icmp .gt 16, 3, 0, 0, 0), (94, .iload_n 3, 1, 0, 0, 0), (95, .ifCond .eq 8, 3, 0, 0, 0), (98, .iload 8, 2, 0, 0, 0), (100, .ifCond .eq 7, 3, 0, 0, 0), (103, .iconst 1, 1, 0, 0, 0), (104, .goto 4, 3, 0, 0, 0), (107, .iconst 0, 1, 0, 0, 0), (108, .istore 6, 2, 0, 0, 0), (110, .iload 8, 2, 0, 0, 0), (112, .aload_n 0, 1, 0, 0, 0), (113, .getfield 7, 3, 8, 0, 725), (116, .bipush 8, 2, 0, 0, 0), (118, .iaload, 1, 0, 0, 0), (119, .if_icmp .gt 8, 3, 0, 0, 0), (122, .iload 8, 2, 0, 0, 0), (124, .goto 5, 3, 0, 0, 0), (127, .iload 5, 2, 0, 0, 0), (129, .istore 5, 2, 0, 0, 0), (131, .iinc 7 1, 3, 0, 0, 0), (134, .goto (-125), 3, 0, 0, 0), (137, .iload 5, 2, 0, 0, 0), (139, .ireturn, 1, 0, 0, 0)]
/-- TankDiversModel.stepsOf(II)I -/
def q133 : List AE := [(0, .iload_n 2, 1, 0, 0, 0), (1, .aload_n 0, 1, 0, 0, 0), (2, .iload_n 1, 1, 0, 0, 0), (3, .iconst 3, 1, 0, 0, 0), (4, .invokevirtual 54, 3, 116, 0, 806), (7, .if_icmp .le 14, 3, 0, 0, 0), (10, .iload_n 2, 1, 0, 0, 0), (11, .aload_n 0, 1, 0, 0, 0), (12, .iload_n 1, 1, 0, 0, 0), (13, .iconst 3, 1, 0, 0, 0), (14, .invokevirtual 54, 3, 116, 0, 806), (17, .isub, 1, 0, 0, 0), (18, .goto 4, 3, 0, 0, 0), (21, .iconst 0, 1, 0, 0, 0), (22, .ireturn, 1, 0, 0, 0)]
/-- TankDiversModel.goMove(Z)I -/
def q134 : List AE := [(0, .aload_n 0, 1, 0, 0, 0), (1, .iload_n 1, 1, 0, 0, 0), (2, .invokevirtual 84, 3, 131, 0, 802), (5, .istore_n 2, 1, 0, 0, 0), (6, .iload_n 2, 1, 0, 0, 0), (7, .ifCond .le 9, 3, 0, 0, 0), (10, .aload_n 0, 1, 0, 0, 0), (11, .iload_n 2, 1, 0, 0, 0), (12, .invokevirtual 88, 3, 130, 0, 810), (15, .ireturn, 1, 0, 0, 0), (16, .aload_n 0, 1, 0, 0, 0), (17, .getfield 7, 3, 8, 0, 725), (20, .iconst 2, 1, 0, 0, 0), (21, .iaload, 1, 0, 0, 0), (22, .istore_n 3, 1, 0, 0, 0), (23, .aload_n 0, 1, 0, 0, 0), (24, .getfield 7, 3, 8, 0, 725), (27, .iconst 4, 1, 0, 0, 0), (28, .aload_n 0, 1, 0, 0, 0), (29, .getfield 7, 3, 8, 0, 725), (32, .iconst 4, 1, 0, 0, 0), (33, .iaload, 1, 0, 0, 0), (34, .aload_n 0, 1, 0, 0, 0), (35, .iload_n 3, 1, 0, 0, 0), (36, .iconst 3, 1, 0, 0, 0), (37, .invokevirtual 54, 3, 116, 0, 806), (40, .if_icmp .le 19, 3, 0, 0, 0), (43, .aload_n 0, 1, 0, 0, 0), (44, .getfield 7, 3, 8, 0, 725), (47, .iconst 4, 1, 0, 0, 0), (48, .iaload, 1, 0, 0, 0), (49, .aload_n 0, 1, 0, 0, 0), (50, .iload_n 3, 1, 0, 0, 0), (51, .iconst 3, 1, 0, 0, 0), (52, .invokevirtual 54, 3, 116, 0, 806), (55, .isub, 1, 0, 0, 0), (56, .goto 4, 3, 0, 0, 0), (59, .iconst 0, 1, 0, 0, 0), (60, .iastore, 1, 0, 0, 0), (61, .aload_n 0, 1, 0, 0, 0), (62, .iload_n 3, 1, 0, 0, 0), (63, .iconst 1, 1, 0, 0, 0), (64, .iload_n 1, 1, 0, 0, 0), (65, .ifCond .eq 7, 3, 0, 0, 0), (68, .iconst 1, 1, 0, 0, 0), (69, .goto 9, 3, 0, 0, 0), (72, .aload_n 0, 1, 0, 0, 0), (73, .iload_n 3, 1, 0, 0, 0), (74, .iconst 1, 1, 0, 0, 0), (75, .invokevirtual 54, 3, 116, 0, 806), (78, .invokevirtual 69, 3, 117, 0, 721), (81, .iconst 1, 1, 0, 0, 0), (82, .aload_n 0, 1, 0, 0, 0), (83, .invokevirtual 73, 3, 127, 0, 713), (86, .iconst 3, 1, 0, 0, 0), (87, .irem, 1, 0, 0, 0), (88, .iadd, 1, 0, 0, 0), (89, .istore 4, 2, 0, 0, 0), (91, .iconst 1, 1, 0, 0, 0), (92, .aload_n 0, 1, 0, 0, 0), (93, .invokevirtual 73, 3, 127, 0, 713), (96, .iconst 3, 1, 0, 0, 0), (97, .irem, 1, 0, 0, 0), (98, .iadd, 1, 0, 0, 0), (99, .istore 5, 2, 0, 0, 0), (101, .aload_n 0, 1, 0, 0, 0), (102, .getfield 7, 3, 8, 0, 725), (105, .bipush 6, 2, 0, 0, 0), (107, .iload 4, 2, 0, 0, 0), (109, .iload 5, 2, 0, 0, 0), (111, .iadd, 1, 0, 0, 0), (112, .iastore, 1, 0, 0, 0), (113, .aload_n 0, 1, 0, 0, 0), (114, .iload_n 3, 1, 0, 0, 0), (115, .iconst 1, 1, 0, 0, 0), (116, .invokevirtual 54, 3, 116, 0, 806), (119, .iconst 1, 1, 0, 0, 0), (120, .if_icmp .ne 7, 3, 0, 0, 0), (123, .iconst 1, 1, 0, 0, 0), (124, .goto 4, 3, 0, 0, 0), (127, .iconst 0, 1, 0, 0, 0), (128, .istore 6, 2, 0, 0, 0), (130, .aload_n 0, 1, 0, 0, 0), (131, .iload_n 3, 1, 0, 0, 0), (132, .aload_n 0, 1, 0, 0, 0), (133, .iload_n 3, 1, 0, 0, 0), (134, .iconst 0, 1, 0, 0, 0), (135, .invokevirtual 54, 3, 116, 0, 806), (138, .iload 6, 2, 0, 0, 0), (140, .aload_n 0, 1, 0, 0, 0), (141, .iload_n 3, 1, 0, 0, 0), (142, .aload_n 0, 1, 0, 0, 0), (143, .getfield 7, 3, 8, 0, 725), (146, .bipush 6, 2, 0, 0, 0), (148, .iaload, 1, 0, 0, 0), (149, .invokevirtual 91, 3, 133, 0, 814), (152, .invokevirtual 94, 3, 132, 0, 818), (155, .istore 7, 2, 0, 0, 0), (157, .aload_n 0, 1, 0, 0, 0), (158, .iload_n 3, 1, 0, 0, 0), (159, .iconst 0, 1, 0, 0, 0), (160, .iload 7, 2, 0, 0, 0), (162, .invokevirtual 69, 3, 117, 0, 721), (165, .aload_n 0, 1, 0, 0, 0), (166, .iload_n 3, 1, 0, 0, 0), (167, .iconst 2, 1, 0, 0, 0), (168, .iload 6, 2, 0, 0, 0), (170, .ifCond .eq 12, 3, 0, 0, 0), (173, .iload 7, 2, 0, 0, 0), (175, .ifCond .ne 7, 3, 0, 0, 0), (178, .iconst 1, 1, 0, 0, 0), (179, .goto 4, 3, 0, 0, 0), (182, .iconst 0, 1, 0, 0, 0), (183, .invokevirtual 69, 3, 117, 0, 721), (186, .aload_n 0, 1, 0, 0, 0), (187, .getfield 7, 3, 8, 0, 725), (190, .iconst 3, 1, 0, 0, 0), (191, .iconst 1, 1, 0, 0, 0), (192, .iastore, 1, 0, 0, 0), (193, .bipush 10, 2, 0, 0, 0), (195, .iload 7, 2, 0, 0, 0), (197, .iadd, 1, 0, 0, 0), (198, .ireturn, 1, 0, 0, 0)]
/-- TankDiversModel.reasonDeed()I -/
def q135 : List AE := [(0, .aload_n 0, 1, 0, 0, 0), (1, .getfield 7, 3, 8, 0, 725), (4, .iconst 3, 1, 0, 0, 0), (5, .iaload, 1, 0, 0, 0), (6, .iconst 2, 1, 0, 0, 0), (7, .if_icmp .ne 7, 3, 0, 0, 0), (10, .iconst 1, 1, 0, 0, 0), (11, .goto 17, 3, 0, 0, 0), (14, .aload_n 0, 1, 0, 0, 0), (15, .getfield 7, 3, 8, 0, 725), (18, .iconst 3, 1, 0, 0, 0), (19, .iaload, 1, 0, 0, 0), (20, .ifCond .ne 7, 3, 0, 0, 0), (23, .iconst 2, 1, 0, 0, 0), (24, .goto 4, 3, 0, 0, 0), (27, .iconst 0, 1, 0, 0, 0), (28, .ireturn, 1, 0, 0, 0)]
/-- TankDiversModel.areAllHome()Z -/
def q136 : List AE := [(0, .iconst 1, 1, 0, 0, 0), (1, .istore_n 1, 1, 0, 0, 0), (2, .iconst 0, 1, 0, 0, 0), (3, .istore_n 2, 1, 0, 0, 0), (4, .iload_n 2, 1, 0, 0, 0), (5, .aload_n 0, 1, 0, 0, 0), (6, .getfield 7, 3, 8, 0, 725), (9, .iconst 0, 1, 0, 0, 0), (10, .iaload, 1, 0, 0, 0), (11, .if_icmp .ge 29, 3, 0, 0, 0), (14, .iload_n 1, 1, 0, 0, 0), (15, .ifCond .eq 17, 3, 0, 0, 0), (18, .aload_n 0, 1, 0, 0, 0), (19, .iload_n 2, 1, 0, 0, 0), (20, .iconst 2, 1, 0, 0, 0), (21, .invokevirtual 54, 3, 116, 0, 806), (24, .iconst 1, 1, 0, 0, 0), (25, .if_icmp .ne 7, 3, 0, 0, 0), (28, .iconst 1, 1, 0, 0, 0), (29, .goto 4, 3, 0, 0, 0), (32, .iconst 0, 1, 0, 0, 0), (33, .istore_n 1, 1, 0, 0, 0), (34, .iinc 2 1, 3, 0, 0, 0), (37, .goto (-33), 3, 0, 0, 0), (40, .iload_n 1, 1, 0, 0, 0), (41, .ireturn, 1, 0, 0, 0)]
/-- TankDiversModel.endsTurn()V -/
def q137 : List AE := [(0, .aload_n 0, 1, 0, 0, 0), (1, .getfield 7, 3, 8, 0, 725), (4, .iconst 4, 1, 0, 0, 0), (5, .iaload, 1, 0, 0, 0), (6, .ifCond .eq 10, 3, 0, 0, 0), (9, .aload_n 0, 1, 0, 0, 0), (10, .invokevirtual 98, 3, 136, 0, 850), (13, .ifCond .eq 8, 3, 0, 0, 0), (16, .aload_n 0, 1, 0, 0, 0), (17, .invokevirtual 102, 3, 142, 0, 854), (20, .return_, 1, 0, 0, 0), (21, .aload_n 0, 1, 0, 0, 0), (22, .getfield 7, 3, 8, 0, 725), (25, .iconst 2, 1, 0, 0, 0), (26, .iaload, 1, 0, 0, 0), (27, .iconst 1, 1, 0, 0, 0), (28, .iadd, 1, 0, 0, 0), (29, .aload_n 0, 1, 0, 0, 0), (30, .getfield 7, 3, 8, 0, 725), (33, .iconst 0, 1, 0, 0, 0), (34, .iaload, 1, 0, 0, 0), (35, .irem, 1, 0, 0, 0), (36, .istore_n 1, 1, 0, 0, 0), (37, .aload_n 0, 1, 0, 0, 0), (38, .iload_n 1, 1, 0, 0, 0), (39, .iconst 2, 1, 0, 0, 0), (40, .invokevirtual 54, 3, 116, 0, 806), (43, .iconst 1, 1, 0, 0, 0), (44, .if_icmp .ne 17, 3, 0, 0, 0), (47, .iload_n 1, 1, 0, 0, 0), (48, .iconst 1, 1, 0, 0, 0), (49, .iadd, 1, 0, 0, 0), (50, .aload_n 0, 1, 0, 0, 0), (51, .getfield 7, 3, 8, 0, 725), (54, .iconst 0, 1, 0, 0, 0), (55, .iaload, 1, 0, 0, 0), (56, .irem, 1, 0, 0, 0), (57, .istore_n 1, 1, 0, 0, 0), (58, .goto (-21), 3, 0, 0, 0), (61, .aload_n 0, 1, 0, 0, 0), (62, .getfield 7, 3, 8, 0, 725), (65, .iconst 2, 1, 0, 0, 0), (66, .iload_n 1, 1, 0, 0, 0), (67, .iastore, 1, 0, 0, 0), (68, .aload_n 0, 1, 0, 0, 0), (69, .getfield 7, 3, 8, 0, 725), (72, .iconst 3, 1, 0, 0, 0), (73, .iconst 0, 1, 0, 0, 0), (74, .iastore, 1, 0, 0, 0), (75, .return_, 1, 0, 0, 0)]
/-- TankDiversModel.brings(I)V -/
def q138 : List AE := [(0, .aload_n 0, 1, 0, 0, 0), (1, .iload_n 1, 1, 0, 0, 0), (2, .bipush 10, 2, 0, 0, 0), (4, .aload_n 0, 1, 0, 0, 0), (5, .iload_n 1, 1, 0, 0, 0), (6, .bipush 10, 2, 0, 0, 0), (8, .invokevirtual 54, 3, 116, 0, 806), (11, .aload_n 0, 1, 0, 0, 0), (12, .iload_n 1, 1, 0, 0, 0), (13, .invokevirtual 66, 3, 122, 0, 866), (16, .iadd, 1, 0, 0, 0), (17, .invokevirtual 69, 3, 117, 0, 721), (20, .aload_n 0, 1, 0, 0, 0), (21, .iload_n 1, 1, 0, 0, 0), (22, .bipush 11, 2, 0, 0, 0), (24, .aload_n 0, 1, 0, 0, 0), (25, .iload_n 1, 1, 0, 0, 0), (26, .bipush 11, 2, 0, 0, 0), (28, .invokevirtual 54, 3, 116, 0, 806), (31, .aload_n 0, 1, 0, 0, 0), (32, .iload_n 1, 1, 0, 0, 0), (33, .invokevirtual 105, 3, 123, 0, 879), (36, .iadd, 1, 0, 0, 0), (37, .invokevirtual 69, 3, 117, 0, 721), (40, .return_, 1, 0, 0, 0)]
/-- TankDiversModel.deepest(I)I -/
def q139 : List AE := [(0, .bipush (-4), 2, 0, 0, 0), (2, .istore_n 2, 1, 0, 0, 0), (3, .iconst 0, 1, 0, 0, 0), (4, .istore_n 3, 1, 0, 0, 0), (5, .iload_n 3, 1, 0, 0, 0), (6, .aload_n 0, 1, 0, 0, 0), (7, .getfield 7, 3, 8, 0, 725), (10, .iconst 0, 1, 0, 0, 0), (11, .iaload, 1, 0, 0, 0), (12, .if_icmp .ge 56, 3, 0, 0, 0), (15, .iload_n 1, 1, 0, 0, 0), (16, .iload_n 3, 1, 0, 0, 0), (17, .ishr, 1, 0, 0, 0), (18, .iconst 1, 1, 0, 0, 0), (19, .iand, 1, 0, 0, 0), (20, .ifCond .ne 28, 3, 0, 0, 0), (23, .iload_n 2, 1, 0, 0, 0), (24, .bipush (-4), 2, 0, 0, 0), (26, .if_icmp .eq 18, 3, 0, 0, 0), (29, .aload_n 0, 1, 0, 0, 0), (30, .iload_n 3, 1, 0, 0, 0), (31, .iconst 0, 1, 0, 0, 0), (32, .invokevirtual 54, 3, 116, 0, 806), (35, .aload_n 0, 1, 0, 0, 0), (36, .iload_n 2, 1, 0, 0, 0), (37, .iconst 0, 1, 0, 0, 0), (38, .invokevirtual 54, 3, 116, 0, 806), (41, .if_icmp .le 7, 3, 0, 0, 0), (44, .iconst 1, 1, 0, 0, 0), (45, .goto 4, 3, 0, 0, 0), (48, .iconst 0, 1, 0, 0, 0), (49, .istore 4, 2, 0, 0, 0), (51, .iload 4, 2, 0, 0, 0), (53, .ifCond .eq 7, 3, 0, 0, 0), (56, .iload_n 3, 1, 0, 0, 0), (57, .goto 4, 3, 0, 0, 0), (60, .iload_n 2, 1, 0, 0, 0), (61, .istore_n 2, 1, 0, 0, 0), (62, .iinc 3 1, 3, 0, 0, 0), (65, .goto (-60), 3, 0, 0, 0), (68, .iload_n 2, 1, 0, 0, 0), (69, .ireturn, 1, 0, 0, 0)]
/-- TankDiversModel.closesUp()V -/
def q140 : List AE := [(0, .iconst 0, 1, 0, 0, 0), (1, .istore_n 1, 1, 0, 0, 0), (2, .iconst 0, 1, 0, 0, 0), (3, .istore_n 2, 1, 0, 0, 0), (4, .iload_n 2, 1, 0, 0, 0), (5, .aload_n 0, 1, 0, 0, 0), (6, .getfield 7, 3, 8, 0, 725), (9, .bipush 8, 2, 0, 0, 0), (11, .iaload, 1, 0, 0, 0), (12, .if_icmp .ge 42, 3, 0, 0, 0), (15, .aload_n 0, 1, 0, 0, 0), (16, .getfield 7, 3, 8, 0, 725), (19, .bipush 9, 2, 0, 0, 0), (21, .iload_n 2, 1, 0, 0, 0), (22, .iadd, 1, 0, 0, 0), (23, .iaload, 1, 0, 0, 0), (24, .ifCond .le 24, 3, 0, 0, 0), (27, .aload_n 0, 1, 0, 0, 0), (28, .getfield 7, 3, 8, 0, 725), (31, .bipush 9, 2, 0, 0, 0), (33, .iload_n 1, 1, 0, 0, 0), (34, .iadd, 1, 0, 0, 0), (35, .aload_n 0, 1, 0, 0, 0), (36, .getfield 7, 3, 8, 0, 725), (39, .bipush 9, 2, 0, 0, 0), (41, .iload_n 2, 1, 0, 0, 0), (42, .iadd, 1, 0, 0, 0), (43, .iaload, 1, 0, 0, 0), (44, .iastore, 1, 0, 0, 0), (45, .iinc 1 1, 3, 0, 0, 0), (48, .iinc 2 1, 3, 0, 0, 0), (51, .goto (-47), 3, 0, 0, 0), (54, .iload_n 1, 1, 0, 0, 0), (55, .istore_n 2, 1, 0, 0, 0), (56, .iload_n 2, 1, 0, 0, 0), (57, .bipush 16, 2, 0, 0, 0), (59, .if_icmp .ge 19, 3, 0, 0, 0), (62, .aload_n 0, 1, 0, 0, 0), (63, .getfield 7, 3, 8, 0, 725), (66, .bipush 9, 2, 0, 0, 0), (68, .iload_n 2, 1, 0, 0, 0), (69, .iadd, 1, 0, 0, 0), (70, .iconst 0, 1, 0, 0, 0), (71, .iastore, 1, 0, 0, 0), (72, .iinc 2 1, 3, 0, 0, 0), (75, .goto (-19), 3, 0, 0, 0), (78, .aload_n 0, 1, 0, 0, 0), (79, .getfield 7, 3, 8, 0, 725), (82, .bipush 8, 2, 0, 0, 0), (84, .iload_n 1, 1, 0, 0, 0), (85, .iastore, 1, 0, 0, 0), (86, .return_, 1, 0, 0, 0)]
/-- TankDiversModel.sinks(I)V -/
def q141 : List AE := [(0, .iconst 0, 1, 0, 0, 0), (1, .istore_n 2, 1, 0, 0, 0), (2, .iload_n 2, 1, 0, 0, 0), (3, .aload_n 0, 1, 0, 0, 0), (4, .iload_n 1, 1, 0, 0, 0), (5, .iconst 3, 1, 0, 0, 0), (6, .invokevirtual 54, 3, 116, 0, 806), (9, .if_icmp .ge 63, 3, 0, 0, 0), (12, .aload_n 0, 1, 0, 0, 0), (13, .iload_n 1, 1, 0, 0, 0), (14, .iconst 4, 1, 0, 0, 0), (15, .iload_n 2, 1, 0, 0, 0), (16, .iadd, 1, 0, 0, 0), (17, .invokevirtual 54, 3, 116, 0, 806), (20, .istore_n 3, 1, 0, 0, 0), (21, .iconst 0, 1, 0, 0, 0), (22, .istore 4, 2, 0, 0, 0), (24, .iload 4, 2, 0, 0, 0), (26, .iload_n 3, 1, 0, 0, 0), (27, .invokestatic 43, 3, 113, 0, 873), (30, .if_icmp .ge 36, 3, 0, 0, 0), (33, .aload_n 0, 1, 0, 0, 0), (34, .getfield 22, 3, 8, 9, 734), (37, .aload_n 0, 1, 0, 0, 0), (38, .getfield 108, 3, 8, 10, 735), (41, .iload_n 3, 1, 0, 0, 0), (42, .iload 4, 2, 0, 0, 0), (44, .invokestatic 47, 3, 114, 0, 876), (47, .iconst 1, 1, 0, 0, 0), (48, .iadd, 1, 0, 0, 0), (49, .iastore, 1, 0, 0, 0), (50, .aload_n 0, 1, 0, 0, 0), (51, .dup, 1, 0, 0, 0), (52, .getfield 108, 3, 8, 10, 735), (55, .iconst 1, 1, 0, 0, 0), (56, .iadd, 1, 0, 0, 0), (57, .putfield 108, 3, 8, 10, 735), (60, .iinc 4 1, 3, 0, 0, 0), (63, .goto (-39), 3, 0, 0, 0), (66, .iinc 2 1, 3, 0, 0, 0), (69, .goto (-67), 3, 0, 0, 0), (72, .return_, 1, 0, 0, 0)]
/-- TankDiversModel.endsRound()V -/
def q142 : List AE := [(0, .aload_n 0, 1, 0, 0, 0), (1, .iconst 0, 1, 0, 0, 0), (2, .invokevirtual 111, 3, 139, 0, 858), (5, .istore_n 1, 1, 0, 0, 0), (6, .aload_n 0, 1, 0, 0, 0), (7, .iconst 0, 1, 0, 0, 0), (8, .putfield 108, 3, 8, 10, 735), (11, .iconst 0, 1, 0, 0, 0), (12, .istore_n 2, 1, 0, 0, 0), (13, .iconst 0, 1, 0, 0, 0), (14, .istore_n 3, 1, 0, 0, 0), (15, .iload_n 3, 1, 0, 0, 0), (16, .aload_n 0, 1, 0, 0, 0), (17, .getfield 7, 3, 8, 0, 725), (20, .iconst 0, 1, 0, 0, 0), (21, .iaload, 1, 0, 0, 0), (22, .if_icmp .ge 67, 3, 0, 0, 0), (25, .aload_n 0, 1, 0, 0, 0), (26, .iload_n 2, 1, 0, 0, 0), (27, .invokevirtual 111, 3, 139, 0, 858), (30, .istore 4, 2, 0, 0, 0), (32, .iload_n 2, 1, 0, 0, 0), (33, .iconst 1, 1, 0, 0, 0), (34, .iload 4, 2, 0, 0, 0), (36, .ishl, 1, 0, 0, 0), (37, .ior, 1, 0, 0, 0), (38, .istore_n 2, 1, 0, 0, 0), (39, .aload_n 0, 1, 0, 0, 0), (40, .iload 4, 2, 0, 0, 0), (42, .iconst 2, 1, 0, 0, 0), (43, .invokevirtual 54, 3, 116, 0, 806), (46, .iconst 1, 1, 0, 0, 0), (47, .if_icmp .ne 12, 3, 0, 0, 0), (50, .aload_n 0, 1, 0, 0, 0), (51, .iload 4, 2, 0, 0, 0), (53, .invokevirtual 114, 3, 138, 0, 862), (56, .goto 27, 3, 0, 0, 0), (59, .aload_n 0, 1, 0, 0, 0), (60, .iload 4, 2, 0, 0, 0), (62, .invokevirtual 118, 3, 141, 0, 883), (65, .aload_n 0, 1, 0, 0, 0), (66, .iload 4, 2, 0, 0, 0), (68, .bipush 12, 2, 0, 0, 0), (70, .aload_n 0, 1, 0, 0, 0), (71, .iload 4, 2, 0, 0, 0), (73, .bipush 12, 2, 0, 0, 0), (75, .invokevirtual 54, 3, 116, 0, 806), (78, .iconst 1, 1, 0, 0, 0), (79, .iadd, 1, 0, 0, 0), (80, .invokevirtual 69, 3, 117, 0, 721), (83, .iinc 3 1, 3, 0, 0, 0), (86, .goto (-71), 3, 0, 0, 0), (89, .aload_n 0, 1, 0, 0, 0), (90, .invokevirtual 121, 3, 140, 0, 887), (93, .iconst 0, 1, 0, 0, 0), (94, .istore_n 3, 1, 0, 0, 0), (95, .iload_n 3, 1, 0, 0, 0), (96, .aload_n 0, 1, 0, 0, 0), (97, .getfield 108, 3, 8, 10, 735), (100, .if_icmp .ge 62, 3, 0, 0, 0), (103, .aload_n 0, 1, 0, 0, 0), (104, .getfield 7, 3, 8, 0, 725), (107, .bipush 8, 2, 0, 0, 0), (109, .dup2, 1, 0, 0, 0), (110, .iaload, 1, 0, 0, 0), (111, .iload_n 3, 1, 0, 0, 0), (112, .iconst 3, 1, 0, 0, 0), (113, .irem, 1, 0, 0, 0), (114, .ifCond .ne 7, 3, 0, 0, 0), (117, .iconst 1, 1, 0, 0, 0), (118, .goto 4, 3, 0, 0, 0), (121, .iconst 0, 1, 0, 0, 0), (122, .iadd, 1, 0, 0, 0), (123, .iastore, 1, 0, 0, 0), (124, .aload_n 0, 1, 0, 0, 0), (125, .getfield 7, 3, 8, 0, 725), (128, .bipush 9, 2, 0, 0, 0), (130, .aload_n 0, 1, 0, 0, 0), (131, .getfield 7, 3, 8, 0, 725), (134, .bipush 8, 2, 0, 0, 0), (136, .iaload, 1, 0, 0, 0), (137, .iadd, 1, 0, 0, 0), (138, .iconst 1, 1, 0, 0, 0), (139, .isub, 1, 0, 0, 0), (140, .dup2, 1, 0, 0, 0), (141, .iaload, 1, 0, 0, 0), (142, .aload_n 0, 1, 0, 0, 0), (143, .getfield 22, 3, 8, 9, 734), (146, .iload_n 3, 1, 0, 0, 0), (147, .iaload, 1, 0, 0, 0), (148, .iconst 5, 1, 0, 0, 0), (149, .iload_n 3, 1, 0, 0, 0), (150, .iconst 3, 1, 0, 0, 0), (151, .irem, 1, 0, 0, 0), (152, .imul, 1, 0, 0, 0), (153, .ishl, 1, 0, 0, 0), (154, .ior, 1, 0, 0, 0), (155, .iastore, 1, 0, 0, 0), (156, .iinc 3 1, 3, 0, 0, 0), (159, .goto (-64), 3, 0, 0, 0), (162, .aload_n 0, 1, 0, 0, 0), (163, .getfield 7, 3, 8, 0, 725), (166, .iconst 1, 1, 0, 0, 0), (167, .dup2, 1, 0, 0, 0), (168, .iaload, 1, 0, 0, 0), (169, .iconst 1, 1, 0, 0, 0), (170, .iadd, 1, 0, 0, 0), (171, .iastore, 1, 0, 0, 0), (172, .aload_n 0, 1, 0, 0, 0), (173, .invokevirtual 77, 3, 128, 0, 717), (176, .aload_n 0, 1, 0, 0, 0), (177, .getfield 7, 3, 8, 0, 725), (180, .iconst 2, 1, 0, 0, 0), (181, .aload_n 0, 1, 0, 0, 0), (182, .getfield 7, 3, 8, 0, 725), (185, .iconst 1, 1, 0, 0, 0), (186, .iaload, 1, 0, 0, 0), (187, .iconst 3, 1, 0, 0, 0), (188, .if_icmp .ne 7, 3, 0, 0, 0), (191, .iconst 0, 1, 0, 0, 0), (192, .goto 4, 3, 0, 0, 0), (195, .iload_n 1, 1, 0, 0, 0), (196, .iastore, 1, 0, 0, 0), (197, .aload_n 0, 1, 0, 0, 0), (198, .getfield 7, 3, 8, 0, 725), (201, .iconst 3, 1, 0, 0, 0), (202, .aload_n 0, 1, 0, 0, 0), (203, .getfield 7, 3, 8, 0, 725), (206, .iconst 1, 1, 0, 0, 0), (207, .iaload, 1, 0, 0, 0), (208, .iconst 3, 1, 0, 0, 0), (209, .if_icmp .ne 7, 3, 0, 0, 0), (212, .iconst 2, 1, 0, 0, 0), (213, .goto 4, 3, 0, 0, 0), (216, .iconst 0, 1, 0, 0, 0), (217, .iastore, 1, 0, 0, 0), (218, .return_, 1, 0, 0, 0)]
/-- TankDiversModel.goTake()I -/
def q143 : List AE := [(0, .aload_n 0, 1, 0, 0, 0), (1, .getfield 7, 3, 8, 0, 725), (4, .iconst 2, 1, 0, 0, 0), (5, .iaload, 1, 0, 0, 0), (6, .istore_n 1, 1, 0, 0, 0), (7, .aload_n 0, 1, 0, 0, 0), (8, .iload_n 1, 1, 0, 0, 0), (9, .iconst 0, 1, 0, 0, 0), (10, .invokevirtual 54, 3, 116, 0, 806), (13, .istore_n 2, 1, 0, 0, 0), (14, .aload_n 0, 1, 0, 0, 0), (15, .invokevirtual 124, 3, 135, 0, 838), (18, .istore_n 3, 1, 0, 0, 0), (19, .iload_n 3, 1, 0, 0, 0), (20, .ifCond .le 7, 3, 0, 0, 0), (23, .iload_n 3, 1, 0, 0, 0), (24, .goto 41, 3, 0, 0, 0), (27, .iload_n 2, 1, 0, 0, 0), (28, .ifCond .ne 7, 3, 0, 0, 0), (31, .iconst 5, 1, 0, 0, 0), (32, .goto 33, 3, 0, 0, 0), (35, .aload_n 0, 1, 0, 0, 0), (36, .iload_n 2, 1, 0, 0, 0), (37, .invokevirtual 63, 3, 119, 0, 842), (40, .ifCond .ne 8, 3, 0, 0, 0), (43, .bipush 6, 2, 0, 0, 0), (45, .goto 20, 3, 0, 0, 0), (48, .aload_n 0, 1, 0, 0, 0), (49, .iload_n 1, 1, 0, 0, 0), (50, .iconst 3, 1, 0, 0, 0), (51, .invokevirtual 54, 3, 116, 0, 806), (54, .bipush 6, 2, 0, 0, 0), (56, .if_icmp .ne 8, 3, 0, 0, 0), (59, .bipush 8, 2, 0, 0, 0), (61, .goto 4, 3, 0, 0, 0), (64, .iconst 0, 1, 0, 0, 0), (65, .istore_n 3, 1, 0, 0, 0), (66, .iload_n 3, 1, 0, 0, 0), (67, .ifCond .le 9, 3, 0, 0, 0), (70, .aload_n 0, 1, 0, 0, 0), (71, .iload_n 3, 1, 0, 0, 0), (72, .invokevirtual 88, 3, 130, 0, 810), (75, .ireturn, 1, 0, 0, 0), (76, .aload_n 0, 1, 0, 0, 0), (77, .iload_n 1, 1, 0, 0, 0), (78, .iconst 3, 1, 0, 0, 0), (79, .invokevirtual 54, 3, 116, 0, 806), (82, .istore 4, 2, 0, 0, 0), (84, .aload_n 0, 1, 0, 0, 0), (85, .iload_n 1, 1, 0, 0, 0), (86, .iconst 4, 1, 0, 0, 0), (87, .iload 4, 2, 0, 0, 0), (89, .iadd, 1, 0, 0, 0), (90, .aload_n 0, 1, 0, 0, 0), (91, .iload_n 2, 1, 0, 0, 0), (92, .invokevirtual 63, 3, 119, 0, 842), (95, .invokevirtual 69, 3, 117, 0, 721), (98, .aload_n 0, 1, 0, 0, 0), (99, .iload_n 1, 1, 0, 0, 0), (100, .iconst 3, 1, 0, 0, 0), (101, .iload 4, 2, 0, 0, 0), (103, .iconst 1, 1, 0, 0, 0), (104, .iadd, 1, 0, 0, 0), (105, .invokevirtual 69, 3, 117, 0, 721), (108, .aload_n 0, 1, 0, 0, 0), (109, .getfield 7, 3, 8, 0, 725), (112, .bipush 9, 2, 0, 0, 0), (114, .iload_n 2, 1, 0, 0, 0), (115, .iadd, 1, 0, 0, 0), (116, .iconst 1, 1, 0, 0, 0), (117, .isub, 1, 0, 0, 0), (118, .iconst 0, 1, 0, 0, 0), (119, .iastore, 1, 0, 0, 0), (120, .aload_n 0, 1, 0, 0, 0), (121, .invokevirtual 127, 3, 137, 0, 846), (124, .bipush 11, 2, 0, 0, 0), (126, .iload 4, 2, 0, 0, 0), (128, .iadd, 1, 0, 0, 0), (129, .ireturn, 1, 0, 0, 0)]
/-- TankDiversModel.goLay(I)I -/
def q144 : List AE := [(0, .aload_n 0, 1, 0, 0, 0), (1, .getfield 7, 3, 8, 0, 725), (4, .iconst 2, 1, 0, 0, 0), (5, .iaload, 1, 0, 0, 0), (6, .istore_n 2, 1, 0, 0, 0), (7, .aload_n 0, 1, 0, 0, 0), (8, .iload_n 2, 1, 0, 0, 0), (9, .iconst 0, 1, 0, 0, 0), (10, .invokevirtual 54, 3, 116, 0, 806), (13, .istore_n 3, 1, 0, 0, 0), (14, .aload_n 0, 1, 0, 0, 0), (15, .invokevirtual 124, 3, 135, 0, 838), (18, .istore 4, 2, 0, 0, 0), (20, .iload 4, 2, 0, 0, 0), (22, .ifCond .le 8, 3, 0, 0, 0), (25, .iload 4, 2, 0, 0, 0), (27, .goto 46, 3, 0, 0, 0), (30, .iload_n 3, 1, 0, 0, 0), (31, .ifCond .ne 7, 3, 0, 0, 0), (34, .iconst 5, 1, 0, 0, 0), (35, .goto 38, 3, 0, 0, 0), (38, .iload_n 1, 1, 0, 0, 0), (39, .iconst 0, 1, 0, 0, 0), (40, .aload_n 0, 1, 0, 0, 0), (41, .iload_n 2, 1, 0, 0, 0), (42, .iconst 3, 1, 0, 0, 0), (43, .invokevirtual 54, 3, 116, 0, 806), (46, .iconst 1, 1, 0, 0, 0), (47, .isub, 1, 0, 0, 0), (48, .invokestatic 50, 3, 110, 0, 784), (51, .ifCond .ne 8, 3, 0, 0, 0), (54, .bipush 6, 2, 0, 0, 0), (56, .goto 17, 3, 0, 0, 0), (59, .aload_n 0, 1, 0, 0, 0), (60, .iload_n 3, 1, 0, 0, 0), (61, .invokevirtual 63, 3, 119, 0, 842), (64, .ifCond .le 8, 3, 0, 0, 0), (67, .bipush 7, 2, 0, 0, 0), (69, .goto 4, 3, 0, 0, 0), (72, .iconst 0, 1, 0, 0, 0), (73, .istore 4, 2, 0, 0, 0), (75, .iload 4, 2, 0, 0, 0), (77, .ifCond .le 10, 3, 0, 0, 0), (80, .aload_n 0, 1, 0, 0, 0), (81, .iload 4, 2, 0, 0, 0), (83, .invokevirtual 88, 3, 130, 0, 810), (86, .ireturn, 1, 0, 0, 0), (87, .aload_n 0, 1, 0, 0, 0), (88, .getfield 7, 3, 8, 0, 725), (91, .bipush 9, 2, 0, 0, 0), (93, .iload_n 3, 1, 0, 0, 0), (94, .iadd, 1, 0, 0, 0), (95, .iconst 1, 1, 0, 0, 0), (96, .isub, 1, 0, 0, 0), (97, .aload_n 0, 1, 0, 0, 0), (98, .iload_n 2, 1, 0, 0, 0), (99, .iconst 4, 1, 0, 0, 0), (100, .iload_n 1, 1, 0, 0, 0), (101, .iadd, 1, 0, 0, 0), (102, .invokevirtual 54, 3, 116, 0, 806), (105, .iastore, 1, 0, 0, 0), (106, .aload_n 0, 1, 0, 0, 0), (107, .iload_n 2, 1, 0, 0, 0), (108, .iconst 3, 1, 0, 0, 0), (109, .invokevirtual 54, 3, 116, 0, 806), (112, .iconst 1, 1, 0, 0, 0), (113, .isub, 1, 0, 0, 0), (114, .istore 5, 2, 0, 0, 0), (116, .iload_n 1, 1, 0, 0, 0), (117, .istore 6, 2, 0, 0, 0), (119, .iload 6, 2, 0, 0, 0), (121, .iload 5, 2, 0, 0, 0), (123, .if_icmp .ge 29, 3, 0, 0, 0), (126, .aload_n 0, 1, 0, 0, 0), (127, .iload_n 2, 1, 0, 0, 0), (128, .iconst 4, 1, 0, 0, 0), (129, .iload 6, 2, 0, 0, 0), (131, .iadd, 1, 0, 0, 0), (132, .aload_n 0, 1, 0, 0, 0), (133, .iload_n 2, 1, 0, 0, 0), (134, .iconst 4, 1, 0, 0, 0), (135, .iload 6, 2, 0, 0, 0), (137, .iadd, 1, 0, 0, 0), (138, .iconst 1, 1, 0, 0, 0), (139, .iadd, 1, 0, 0, 0), (140, .invokevirtual 54, 3, 116, 0, 806), (143, .invokevirtual 69, 3, 117, 0, 721), (146, .iinc 6 1, 3, 0, 0, 0), (149, .goto (-30), 3, 0, 0, 0), (152, .aload_n 0, 1, 0, 0, 0), (153, .iload_n 2, 1, 0, 0, 0), (154, .iconst 4, 1, 0, 0, 0), (155, .iload 5, 2, 0, 0, 0), (157, .iadd, 1, 0, 0, 0), (158, .iconst 0, 1, 0, 0, 0), (159, .invokevirtual 69, 3, 117, 0, 721), (162, .aload_n 0, 1, 0, 0, 0), (163, .iload_n 2, 1, 0, 0, 0), (164, .iconst 3, 1, 0, 0, 0), (165, .iload 5, 2, 0, 0, 0), (167, .invokevirtual 69, 3, 117, 0, 721), (170, .aload_n 0, 1, 0, 0, 0), (171, .invokevirtual 127, 3, 137, 0, 846), (174, .bipush 10, 2, 0, 0, 0), (176, .iload 5, 2, 0, 0, 0), (178, .iadd, 1, 0, 0, 0), (179, .ireturn, 1, 0, 0, 0)]
/-- TankDiversModel.goNothing()I -/
def q145 : List AE := [(0, .aload_n 0, 1, 0, 0, 0), (1, .invokevirtual 124, 3, 135, 0, 838), (4, .istore_n 1, 1, 0, 0, 0), (5, .iload_n 1, 1, 0, 0, 0), (6, .ifCond .le 9, 3, 0, 0, 0), (9, .aload_n 0, 1, 0, 0, 0), (10, .iload_n 1, 1, 0, 0, 0), (11, .invokevirtual 88, 3, 130, 0, 810), (14, .ireturn, 1, 0, 0, 0), (15, .aload_n 0, 1, 0, 0, 0), (16, .invokevirtual 127, 3, 137, 0, 846), (19, .bipush 10, 2, 0, 0, 0), (21, .ireturn, 1, 0, 0, 0)]
/-- TankDiversModel.begin(II)I -/
def q146 : List AE := [(0, .iload_n 1, 1, 0, 0, 0), (1, .iconst 2, 1, 0, 0, 0), (2, .iconst 4, 1, 0, 0, 0), (3, .invokestatic 50, 3, 110, 0, 784), (6, .ifCond .eq 14, 3, 0, 0, 0), (9, .iload_n 2, 1, 0, 0, 0), (10, .iconst 0, 1, 0, 0, 0), (11, .sipush 9999, 3, 0, 0, 0), (14, .invokestatic 50, 3, 110, 0, 784), (17, .ifCond .ne 5, 3, 0, 0, 0), (20, .iconst (-1), 1, 0, 0, 0), (21, .ireturn, 1, 0, 0, 0), (22, .aload_n 0, 1, 0, 0, 0), (23, .invokevirtual 130, 3, 112, 0, 787), (26, .aload_n 0, 1, 0, 0, 0), (27, .iload_n 1, 1, 0, 0, 0), (28, .iload_n 2, 1, 0, 0, 0), (29, .invokevirtual 31, 3, 129, 0, 709), (32, .ireturn, 1, 0, 0, 0)]
/-- TankDiversModel.move(Z)I -/
def q147 : List AE := [(0, .aload_n 0, 1, 0, 0, 0), (1, .invokevirtual 130, 3, 112, 0, 787), (4, .aload_n 0, 1, 0, 0, 0), (5, .iload_n 1, 1, 0, 0, 0), (6, .invokevirtual 133, 3, 134, 0, 798), (9, .ireturn, 1, 0, 0, 0)]
/-- TankDiversModel.take()I -/
def q148 : List AE := [(0, .aload_n 0, 1, 0, 0, 0), (1, .invokevirtual 130, 3, 112, 0, 787), (4, .aload_n 0, 1, 0, 0, 0), (5, .invokevirtual 136, 3, 143, 0, 834), (8, .ireturn, 1, 0, 0, 0)]
/-- TankDiversModel.lay(I)I -/
def q149 : List AE := [(0, .aload_n 0, 1, 0, 0, 0), (1, .invokevirtual 130, 3, 112, 0, 787), (4, .aload_n 0, 1, 0, 0, 0), (5, .iload_n 1, 1, 0, 0, 0), (6, .invokevirtual 139, 3, 144, 0, 895), (9, .ireturn, 1, 0, 0, 0)]
/-- TankDiversModel.nothing()I -/
def q150 : List AE := [(0, .aload_n 0, 1, 0, 0, 0), (1, .invokevirtual 130, 3, 112, 0, 787), (4, .aload_n 0, 1, 0, 0, 0), (5, .invokevirtual 142, 3, 145, 0, 903), (8, .ireturn, 1, 0, 0, 0)]
/-- TankDiversModel.append(I)I -/
def q151 : List AE := [(0, .iload_n 1, 1, 0, 0, 0), (1, .bipush 33, 2, 0, 0, 0), (3, .bipush 126, 2, 0, 0, 0), (5, .invokestatic 50, 3, 110, 0, 784), (8, .ifCond .ne 5, 3, 0, 0, 0), (11, .iconst (-1), 1, 0, 0, 0), (12, .ireturn, 1, 0, 0, 0), (13, .aload_n 0, 1, 0, 0, 0), (14, .getfield 145, 3, 8, 6, 731), (17, .bipush 60, 2, 0, 0, 0), (19, .if_icmp .ne 6, 3, 0, 0, 0), (22, .bipush (-3), 2, 0, 0, 0), (24, .ireturn, 1, 0, 0, 0), (25, .aload_n 0, 1, 0, 0, 0), (26, .getfield 19, 3, 8, 5, 730), (29, .aload_n 0, 1, 0, 0, 0), (30, .getfield 145, 3, 8, 6, 731), (33, .iload_n 1, 1, 0, 0, 0), (34, .iastore, 1, 0, 0, 0), (35, .aload_n 0, 1, 0, 0, 0), (36, .dup, 1, 0, 0, 0), (37, .getfield 145, 3, 8, 6, 731), (40, .iconst 1, 1, 0, 0, 0), (41, .iadd, 1, 0, 0, 0), (42, .putfield 145, 3, 8, 6, 731), (45, .aload_n 0, 1, 0, 0, 0), (46, .getfield 145, 3, 8, 6, 731), (49, .ireturn, 1, 0, 0, 0)]
/-- TankDiversModel.clear()I -/
def q152 : List AE := [(0, .aload_n 0, 1, 0, 0, 0), (1, .getfield 145, 3, 8, 6, 731), (4, .istore_n 1, 1, 0, 0, 0), (5, .aload_n 0, 1, 0, 0, 0), (6, .iconst 0, 1, 0, 0, 0), (7, .putfield 145, 3, 8, 6, 731), (10, .iload_n 1, 1, 0, 0, 0), (11, .ireturn, 1, 0, 0, 0)]
/-- TankDiversModel.here()I -/
def q153 : List AE := [(0, .aload_n 0, 1, 0, 0, 0), (1, .getfield 148, 3, 8, 11, 736), (4, .aload_n 0, 1, 0, 0, 0), (5, .getfield 145, 3, 8, 6, 731), (8, .if_icmp .ge 15, 3, 0, 0, 0), (11, .aload_n 0, 1, 0, 0, 0), (12, .getfield 19, 3, 8, 5, 730), (15, .aload_n 0, 1, 0, 0, 0), (16, .getfield 148, 3, 8, 11, 736), (19, .iaload, 1, 0, 0, 0), (20, .goto 4, 3, 0, 0, 0), (23, .iconst 0, 1, 0, 0, 0), (24, .ireturn, 1, 0, 0, 0)]
/-- TankDiversModel.takes(Z)V -/
def q154 : List AE := [(0, .aload_n 0, 1, 0, 0, 0), (1, .aload_n 0, 1, 0, 0, 0), (2, .getfield 151, 3, 8, 12, 737), (5, .ifCond .eq 11, 3, 0, 0, 0), (8, .iload_n 1, 1, 0, 0, 0), (9, .ifCond .eq 7, 3, 0, 0, 0), (12, .iconst 1, 1, 0, 0, 0), (13, .goto 4, 3, 0, 0, 0), (16, .iconst 0, 1, 0, 0, 0), (17, .putfield 151, 3, 8, 12, 737), (20, .aload_n 0, 1, 0, 0, 0), (21, .dup, 1, 0, 0, 0), (22, .getfield 148, 3, 8, 11, 736), (25, .aload_n 0, 1, 0, 0, 0), (26, .getfield 151, 3, 8, 12, 737), (29, .ifCond .eq 7, 3, 0, 0, 0), (32, .iconst 1, 1, 0, 0, 0), (33, .goto 4, 3, 0, 0, 0), (36, .iconst 0, 1, 0, 0, 0), (37, .iadd, 1, 0, 0, 0), (38, .putfield 148, 3, 8, 11, 736), (41, .return_, 1, 0, 0, 0)]
/-- TankDiversModel.takesTurn()V -/
def q155 : List AE := [(0, .aload_n 0, 1, 0, 0, 0), (1, .aload_n 0, 1, 0, 0, 0), (2, .invokevirtual 155, 3, 153, 0, 927), (5, .putfield 158, 3, 8, 13, 738), (8, .aload_n 0, 1, 0, 0, 0), (9, .aload_n 0, 1, 0, 0, 0), (10, .getfield 158, 3, 8, 13, 738), (13, .bipush 100, 2, 0, 0, 0), (15, .if_icmp .eq 12, 3, 0, 0, 0), (18, .aload_n 0, 1, 0, 0, 0), (19, .getfield 158, 3, 8, 13, 738), (22, .bipush 117, 2, 0, 0, 0), (24, .if_icmp .ne 7, 3, 0, 0, 0), (27, .iconst 1, 1, 0, 0, 0), (28, .goto 4, 3, 0, 0, 0), (31, .iconst 0, 1, 0, 0, 0), (32, .invokevirtual 161, 3, 154, 0, 931), (35, .aload_n 0, 1, 0, 0, 0), (36, .aload_n 0, 1, 0, 0, 0), (37, .invokevirtual 155, 3, 153, 0, 927), (40, .putfield 165, 3, 8, 14, 739), (43, .aload_n 0, 1, 0, 0, 0), (44, .aload_n 0, 1, 0, 0, 0), (45, .getfield 165, 3, 8, 14, 739), (48, .bipush 116, 2, 0, 0, 0), (50, .if_icmp .eq 21, 3, 0, 0, 0), (53, .aload_n 0, 1, 0, 0, 0), (54, .getfield 165, 3, 8, 14, 739), (57, .bipush 110, 2, 0, 0, 0), (59, .if_icmp .eq 12, 3, 0, 0, 0), (62, .aload_n 0, 1, 0, 0, 0), (63, .getfield 165, 3, 8, 14, 739), (66, .bipush 108, 2, 0, 0, 0), (68, .if_icmp .ne 7, 3, 0, 0, 0), (71, .iconst 1, 1, 0, 0, 0), (72, .goto 4, 3, 0, 0, 0), (75, .iconst 0, 1, 0, 0, 0), (76, .invokevirtual 161, 3, 154, 0, 931), (79, .aload_n 0, 1, 0, 0, 0), (80, .aload_n 0, 1, 0, 0, 0), (81, .invokevirtual 155, 3, 153, 0, 927), (84, .bipush 48, 2, 0, 0, 0), (86, .isub, 1, 0, 0, 0), (87, .putfield 168, 3, 8, 15, 740), (90, .aload_n 0, 1, 0, 0, 0), (91, .getfield 165, 3, 8, 14, 739), (94, .bipush 108, 2, 0, 0, 0), (96, .if_icmp .ne 16, 3, 0, 0, 0), (99, .aload_n 0, 1, 0, 0, 0), (100, .aload_n 0, 1, 0, 0, 0), (101, .getfield 168, 3, 8, 15, 740), (104, .iconst 0, 1, 0, 0, 0), (105, .iconst 5, 1, 0, 0, 0), (106, .invokestatic 50, 3, 110, 0, 784), (109, .invokevirtual 161, 3, 154, 0, 931), (112, .return_, 1, 0, 0, 0)]
/-- TankDiversModel.isGame()Z -/
def q156 : List AE := [(0, .aload_n 0, 1, 0, 0, 0), (1, .iconst 0, 1, 0, 0, 0), (2, .putfield 148, 3, 8, 11, 736), (5, .aload_n 0, 1, 0, 0, 0), (6, .iconst 1, 1, 0, 0, 0), (7, .putfield 151, 3, 8, 12, 737), (10, .aload_n 0, 1, 0, 0, 0), (11, .invokevirtual 171, 3, 155, 0, 923), (14, .aload_n 0, 1, 0, 0, 0), (15, .getfield 151, 3, 8, 12, 737), (18, .ifCond .eq 21, 3, 0, 0, 0), (21, .aload_n 0, 1, 0, 0, 0), (22, .getfield 148, 3, 8, 11, 736), (25, .aload_n 0, 1, 0, 0, 0), (26, .getfield 145, 3, 8, 6, 731), (29, .if_icmp .ge 10, 3, 0, 0, 0), (32, .aload_n 0, 1, 0, 0, 0), (33, .invokevirtual 171, 3, 155, 0, 923), (36, .goto (-22), 3, 0, 0, 0), (39, .aload_n 0, 1, 0, 0, 0), (40, .getfield 151, 3, 8, 12, 737), (43, .ireturn, 1, 0, 0, 0)]
/-- TankDiversModel.fault()I -/
def q157 : List AE := [(0, .aload_n 0, 1, 0, 0, 0), (1, .invokevirtual 174, 3, 156, 0, 919), (4, .ifCond .eq 8, 3, 0, 0, 0), (7, .bipush (-4), 2, 0, 0, 0), (9, .goto 7, 3, 0, 0, 0), (12, .aload_n 0, 1, 0, 0, 0), (13, .getfield 148, 3, 8, 11, 736), (16, .ireturn, 1, 0, 0, 0)]
/-- TankDiversModel.doesDeed()I -/
def q158 : List AE := [(0, .aload_n 0, 1, 0, 0, 0), (1, .getfield 165, 3, 8, 14, 739), (4, .bipush 116, 2, 0, 0, 0), (6, .if_icmp .ne 10, 3, 0, 0, 0), (9, .aload_n 0, 1, 0, 0, 0), (10, .invokevirtual 136, 3, 143, 0, 834), (13, .goto 27, 3, 0, 0, 0), (16, .aload_n 0, 1, 0, 0, 0), (17, .getfield 165, 3, 8, 14, 739), (20, .bipush 108, 2, 0, 0, 0), (22, .if_icmp .ne 14, 3, 0, 0, 0), (25, .aload_n 0, 1, 0, 0, 0), (26, .aload_n 0, 1, 0, 0, 0), (27, .getfield 168, 3, 8, 15, 740), (30, .invokevirtual 139, 3, 144, 0, 895), (33, .goto 7, 3, 0, 0, 0), (36, .aload_n 0, 1, 0, 0, 0), (37, .invokevirtual 142, 3, 145, 0, 903), (40, .ireturn, 1, 0, 0, 0)]
/-- TankDiversModel.play()I -/
def q159 : List AE := [(0, .aload_n 0, 1, 0, 0, 0), (1, .invokevirtual 174, 3, 156, 0, 919), (4, .ifCond .ne 6, 3, 0, 0, 0), (7, .bipush (-2), 2, 0, 0, 0), (9, .ireturn, 1, 0, 0, 0), (10, .aload_n 0, 1, 0, 0, 0), (11, .invokevirtual 130, 3, 112, 0, 787), (14, .aload_n 0, 1, 0, 0, 0), (15, .iconst 0, 1, 0, 0, 0), (16, .putfield 177, 3, 8, 7, 732), (19, .aload_n 0, 1, 0, 0, 0), (20, .iconst 0, 1, 0, 0, 0), (21, .putfield 148, 3, 8, 11, 736), (24, .iconst 0, 1, 0, 0, 0), (25, .istore_n 1, 1, 0, 0, 0), (26, .aload_n 0, 1, 0, 0, 0), (27, .getfield 177, 3, 8, 7, 732), (30, .ifCond .ne 128, 3, 0, 0, 0), (33, .aload_n 0, 1, 0, 0, 0), (34, .getfield 148, 3, 8, 11, 736), (37, .aload_n 0, 1, 0, 0, 0), (38, .getfield 145, 3, 8, 6, 731), (41, .if_icmp .ge 117, 3, 0, 0, 0), (44, .aload_n 0, 1, 0, 0, 0), (45, .aload_n 0, 1, 0, 0, 0), (46, .getfield 148, 3, 8, 11, 736), (49, .putfield 180, 3, 8, 8, 733), (52, .aload_n 0, 1, 0, 0, 0), (53, .invokevirtual 171, 3, 155, 0, 923), (56, .aload_n 0, 1, 0, 0, 0), (57, .aload_n 0, 1, 0, 0, 0), (58, .getfield 158, 3, 8, 13, 738), (61, .bipush 117, 2, 0, 0, 0), (63, .if_icmp .ne 7, 3, 0, 0, 0), (66, .iconst 1, 1, 0, 0, 0), (67, .goto 4, 3, 0, 0, 0), (70, .iconst 0, 1, 0, 0, 0), (71, .invokevirtual 133, 3, 134, 0, 798), (74, .istore_n 2, 1, 0, 0, 0), (75, .aload_n 0, 1, 0, 0, 0), (76, .iload_n 2, 1, 0, 0, 0), (77, .bipush 10, 2, 0, 0, 0), (79, .if_icmp .ge 7, 3, 0, 0, 0), (82, .iload_n 2, 1, 0, 0, 0), (83, .goto 4, 3, 0, 0, 0), (86, .iconst 0, 1, 0, 0, 0), (87, .putfield 177, 3, 8, 7, 732), (90, .iload_n 1, 1, 0, 0, 0), (91, .iload_n 2, 1, 0, 0, 0), (92, .bipush 10, 2, 0, 0, 0), (94, .if_icmp .ge 7, 3, 0, 0, 0), (97, .iconst 0, 1, 0, 0, 0), (98, .goto 4, 3, 0, 0, 0), (101, .iconst 1, 1, 0, 0, 0), (102, .iadd, 1, 0, 0, 0), (103, .istore_n 1, 1, 0, 0, 0), (104, .aload_n 0, 1, 0, 0, 0), (105, .getfield 177, 3, 8, 7, 732), (108, .ifCond .ne 47, 3, 0, 0, 0), (111, .aload_n 0, 1, 0, 0, 0), (112, .dup, 1, 0, 0, 0), (113, .getfield 180, 3, 8, 8, 733), (116, .iconst 1, 1, 0, 0, 0), (117, .iadd, 1, 0, 0, 0), (118, .putfield 180, 3, 8, 8, 733), (121, .aload_n 0, 1, 0, 0, 0), (122, .invokevirtual 183, 3, 158, 0, 939), (125, .istore_n 3, 1, 0, 0, 0), (126, .aload_n 0, 1, 0, 0, 0), (127, .iload_n 3, 1, 0, 0, 0), (128, .bipush 10, 2, 0, 0, 0), (130, .if_icmp .ge 7, 3, 0, 0, 0), (133, .iload_n 3, 1, 0, 0, 0), (134, .goto 4, 3, 0, 0, 0), (137, .iconst 0, 1, 0, 0, 0), (138, .putfield 177, 3, 8, 7, 732), (141, .iload_n 1, 1, 0, 0, 0), (142, .iload_n 3, 1, 0, 0, 0), (143, .bipush 10, 2, 0, 0, 0), (145, .if_icmp .ge 7, 3, 0, 0, 0), (148, .iconst 0, 1, 0, 0, 0), (149, .goto 4, 3, 0, 0, 0), (152, .iconst 1, 1, 0, 0, 0), (153, .iadd, 1, 0, 0, 0), (154, .istore_n 1, 1, 0, 0, 0), (155, .goto (-129), 3, 0, 0, 0), (158, .aload_n 0, 1, 0, 0, 0), (159, .iconst 0, 1, 0, 0, 0), (160, .putfield 145, 3, 8, 6, 731), (163, .iload_n 1, 1, 0, 0, 0), (164, .ireturn, 1, 0, 0, 0)]
/-- TankDiversModel.why(I)I -/
def q160 : List AE := [(0, .iload_n 1, 1, 0, 0, 0), (1, .iconst 0, 1, 0, 0, 0), (2, .iconst 1, 1, 0, 0, 0), (3, .invokestatic 50, 3, 110, 0, 784), (6, .ifCond .ne 5, 3, 0, 0, 0), (9, .iconst (-1), 1, 0, 0, 0), (10, .ireturn, 1, 0, 0, 0), (11, .aload_n 0, 1, 0, 0, 0), (12, .getfield 177, 3, 8, 7, 732), (15, .ifCond .ne 8, 3, 0, 0, 0), (18, .bipush (-4), 2, 0, 0, 0), (20, .goto 18, 3, 0, 0, 0), (23, .iload_n 1, 1, 0, 0, 0), (24, .ifCond .ne 10, 3, 0, 0, 0), (27, .aload_n 0, 1, 0, 0, 0), (28, .getfield 177, 3, 8, 7, 732), (31, .goto 7, 3, 0, 0, 0), (34, .aload_n 0, 1, 0, 0, 0), (35, .getfield 180, 3, 8, 8, 733), (38, .ireturn, 1, 0, 0, 0)]
/-- TankDiversModel.diver(II)I -/
def q161 : List AE := [(0, .aload_n 0, 1, 0, 0, 0), (1, .iload_n 1, 1, 0, 0, 0), (2, .invokevirtual 186, 3, 118, 0, 951), (5, .ifCond .ne 5, 3, 0, 0, 0), (8, .iconst (-1), 1, 0, 0, 0), (9, .ireturn, 1, 0, 0, 0), (10, .iload_n 2, 1, 0, 0, 0), (11, .tableswitch 81 0 8 #[49, 49, 49, 49, 56, 62, 68, 68, 68], 49, 0, 0, 0), (60, .aload_n 0, 1, 0, 0, 0), (61, .iload_n 1, 1, 0, 0, 0), (62, .iload_n 2, 1, 0, 0, 0), (63, .invokevirtual 54, 3, 116, 0, 806), (66, .ireturn, 1, 0, 0, 0), (67, .aload_n 0, 1, 0, 0, 0), (68, .iload_n 1, 1, 0, 0, 0), (69, .invokevirtual 105, 3, 123, 0, 879), (72, .ireturn, 1, 0, 0, 0), (73, .aload_n 0, 1, 0, 0, 0), (74, .iload_n 1, 1, 0, 0, 0), (75, .invokevirtual 66, 3, 122, 0, 866), (78, .ireturn, 1, 0, 0, 0), (79, .aload_n 0, 1, 0, 0, 0), (80, .iload_n 1, 1, 0, 0, 0), (81, .bipush 10, 2, 0, 0, 0), (83, .iload_n 2, 1, 0, 0, 0), (84, .iadd, 1, 0, 0, 0), (85, .bipush 6, 2, 0, 0, 0), (87, .isub, 1, 0, 0, 0), (88, .invokevirtual 54, 3, 116, 0, 806), (91, .ireturn, 1, 0, 0, 0), (92, .iconst (-1), 1, 0, 0, 0), (93, .ireturn, 1, 0, 0, 0)]
/-- TankDiversModel.stack(III)I -/
def q162 : List AE := [(0, .aload_n 0, 1, 0, 0, 0), (1, .iload_n 1, 1, 0, 0, 0), (2, .invokevirtual 186, 3, 118, 0, 951), (5, .ifCond .eq 16, 3, 0, 0, 0), (8, .iload_n 2, 1, 0, 0, 0), (9, .ifCond .lt 12, 3, 0, 0, 0), (12, .iload_n 3, 1, 0, 0, 0), (13, .iconst 0, 1, 0, 0, 0), (14, .iconst 3, 1, 0, 0, 0), (15, .invokestatic 50, 3, 110, 0, 784), (18, .ifCond .ne 5, 3, 0, 0, 0), (21, .iconst (-1), 1, 0, 0, 0), (22, .ireturn, 1, 0, 0, 0), (23, .iload_n 2, 1, 0, 0, 0), (24, .aload_n 0, 1, 0, 0, 0), (25, .iload_n 1, 1, 0, 0, 0), (26, .iconst 3, 1, 0, 0, 0), (27, .invokevirtual 54, 3, 116, 0, 806), (30, .if_icmp .lt 6, 3, 0, 0, 0), (33, .bipush (-4), 2, 0, 0, 0), (35, .ireturn, 1, 0, 0, 0), (36, .aload_n 0, 1, 0, 0, 0), (37, .iload_n 1, 1, 0, 0, 0), (38, .iconst 4, 1, 0, 0, 0), (39, .iload_n 2, 1, 0, 0, 0), (40, .iadd, 1, 0, 0, 0), (41, .invokevirtual 54, 3, 116, 0, 806), (44, .istore 4, 2, 0, 0, 0), (46, .iload_n 3, 1, 0, 0, 0), (47, .ifCond .ne 11, 3, 0, 0, 0), (50, .iload 4, 2, 0, 0, 0), (52, .invokestatic 43, 3, 113, 0, 873), (55, .goto 25, 3, 0, 0, 0), (58, .iload_n 3, 1, 0, 0, 0), (59, .iload 4, 2, 0, 0, 0), (61, .invokestatic 43, 3, 113, 0, 873), (64, .if_icmp .le 8, 3, 0, 0, 0), (67, .bipush (-4), 2, 0, 0, 0), (69, .goto 11, 3, 0, 0, 0), (72, .iload 4, 2, 0, 0, 0), (74, .iload_n 3, 1, 0, 0, 0), (75, .iconst 1, 1, 0, 0, 0), (76, .isub, 1, 0, 0, 0), (77, .invokestatic 47, 3, 114, 0, 876), (80, .ireturn, 1, 0, 0, 0)]
/-- TankDiversModel.space(II)I -/
def q163 : List AE := [(0, .iload_n 1, 1, 0, 0, 0), (1, .iconst 1, 1, 0, 0, 0), (2, .aload_n 0, 1, 0, 0, 0), (3, .getfield 7, 3, 8, 0, 725), (6, .bipush 8, 2, 0, 0, 0), (8, .iaload, 1, 0, 0, 0), (9, .invokestatic 50, 3, 110, 0, 784), (12, .ifCond .eq 12, 3, 0, 0, 0), (15, .iload_n 2, 1, 0, 0, 0), (16, .iconst 0, 1, 0, 0, 0), (17, .iconst 2, 1, 0, 0, 0), (18, .invokestatic 50, 3, 110, 0, 784), (21, .ifCond .ne 5, 3, 0, 0, 0), (24, .iconst (-1), 1, 0, 0, 0), (25, .ireturn, 1, 0, 0, 0), (26, .iload_n 2, 1, 0, 0, 0), (27, .ifCond .ne 14, 3, 0, 0, 0), (30, .aload_n 0, 1, 0, 0, 0), (31, .iload_n 1, 1, 0, 0, 0), (32, .invokevirtual 63, 3, 119, 0, 842), (35, .invokestatic 43, 3, 113, 0, 873), (38, .goto 24, 3, 0, 0, 0), (41, .iload_n 2, 1, 0, 0, 0), (42, .iconst 1, 1, 0, 0, 0), (43, .if_icmp .ne 14, 3, 0, 0, 0), (46, .aload_n 0, 1, 0, 0, 0), (47, .iload_n 1, 1, 0, 0, 0), (48, .invokevirtual 63, 3, 119, 0, 842), (51, .invokestatic 60, 3, 115, 0, 870), (54, .goto 8, 3, 0, 0, 0), (57, .aload_n 0, 1, 0, 0, 0), (58, .iload_n 1, 1, 0, 0, 0), (59, .invokevirtual 57, 3, 120, 0, 826), (62, .ireturn, 1, 0, 0, 0)]
/-- TankDiversModel.blank()I -/
def q164 : List AE := [(0, .iconst 0, 1, 0, 0, 0), (1, .istore_n 1, 1, 0, 0, 0), (2, .iconst 1, 1, 0, 0, 0), (3, .istore_n 2, 1, 0, 0, 0), (4, .iload_n 2, 1, 0, 0, 0), (5, .aload_n 0, 1, 0, 0, 0), (6, .getfield 7, 3, 8, 0, 725), (9, .bipush 8, 2, 0, 0, 0), (11, .iaload, 1, 0, 0, 0), (12, .if_icmp .gt 25, 3, 0, 0, 0), (15, .iload_n 1, 1, 0, 0, 0), (16, .aload_n 0, 1, 0, 0, 0), (17, .iload_n 2, 1, 0, 0, 0), (18, .invokevirtual 63, 3, 119, 0, 842), (21, .ifCond .ne 7, 3, 0, 0, 0), (24, .iconst 1, 1, 0, 0, 0), (25, .goto 4, 3, 0, 0, 0), (28, .iconst 0, 1, 0, 0, 0), (29, .iadd, 1, 0, 0, 0), (30, .istore_n 1, 1, 0, 0, 0), (31, .iinc 2 1, 3, 0, 0, 0), (34, .goto (-30), 3, 0, 0, 0), (37, .iload_n 1, 1, 0, 0, 0), (38, .ireturn, 1, 0, 0, 0)]
/-- TankDiversModel.count(I)I -/
def q165 : List AE := [(0, .iload_n 1, 1, 0, 0, 0), (1, .tableswitch 193 0 15 #[79, 86, 94, 101, 123, 130, 137, 142, 147, 152, 157, 160, 168, 176, 183, 188], 79, 0, 0, 0), (80, .aload_n 0, 1, 0, 0, 0), (81, .getfield 7, 3, 8, 0, 725), (84, .iconst 0, 1, 0, 0, 0), (85, .iaload, 1, 0, 0, 0), (86, .ireturn, 1, 0, 0, 0), (87, .aload_n 0, 1, 0, 0, 0), (88, .getfield 7, 3, 8, 0, 725), (91, .bipush 8, 2, 0, 0, 0), (93, .iaload, 1, 0, 0, 0), (94, .ireturn, 1, 0, 0, 0), (95, .aload_n 0, 1, 0, 0, 0), (96, .getfield 7, 3, 8, 0, 725), (99, .iconst 1, 1, 0, 0, 0), (100, .iaload, 1, 0, 0, 0), (101, .ireturn, 1, 0, 0, 0), (102, .aload_n 0, 1, 0, 0, 0), (103, .getfield 7, 3, 8, 0, 725), (106, .iconst 3, 1, 0, 0, 0), (107, .iaload, 1, 0, 0, 0), (108, .iconst 2, 1, 0, 0, 0), (109, .if_icmp .ne 8, 3, 0, 0, 0), (112, .bipush (-4), 2, 0, 0, 0), (114, .goto 9, 3, 0, 0, 0), (117, .aload_n 0, 1, 0, 0, 0), (118, .getfield 7, 3, 8, 0, 725), (121, .iconst 2, 1, 0, 0, 0), (122, .iaload, 1, 0, 0, 0), (123, .ireturn, 1, 0, 0, 0), (124, .aload_n 0, 1, 0, 0, 0), (125, .getfield 7, 3, 8, 0, 725), (128, .iconst 3, 1, 0, 0, 0), (129, .iaload, 1, 0, 0, 0), (130, .ireturn, 1, 0, 0, 0), (131, .aload_n 0, 1, 0, 0, 0), (132, .getfield 7, 3, 8, 0, 725), (135, .iconst 4, 1, 0, 0, 0), (136, .iaload, 1, 0, 0, 0), (137, .ireturn, 1, 0, 0, 0), (138, .aload_n 0, 1, 0, 0, 0), (139, .invokevirtual 190, 3, 164, 0, 967), (142, .ireturn, 1, 0, 0, 0), (143, .aload_n 0, 1, 0, 0, 0), (144, .invokevirtual 193, 3, 124, 0, 971), (147, .ireturn, 1, 0, 0, 0), (148, .aload_n 0, 1, 0, 0, 0), (149, .invokevirtual 196, 3, 125, 0, 975), (152, .ireturn, 1, 0, 0, 0), (153, .aload_n 0, 1, 0, 0, 0), (154, .invokevirtual 199, 3, 126, 0, 979), (157, .ireturn, 1, 0, 0, 0), (158, .bipush 16, 2, 0, 0, 0), (160, .ireturn, 1, 0, 0, 0), (161, .aload_n 0, 1, 0, 0, 0), (162, .getfield 7, 3, 8, 0, 725), (165, .bipush 6, 2, 0, 0, 0), (167, .iaload, 1, 0, 0, 0), (168, .ireturn, 1, 0, 0, 0), (169, .aload_n 0, 1, 0, 0, 0), (170, .getfield 7, 3, 8, 0, 725), (173, .bipush 7, 2, 0, 0, 0), (175, .iaload, 1, 0, 0, 0), (176, .ireturn, 1, 0, 0, 0), (177, .aload_n 0, 1, 0, 0, 0), (178, .getfield 7, 3, 8, 0, 725), (181, .iconst 5, 1, 0, 0, 0), (182, .iaload, 1, 0, 0, 0), (183, .ireturn, 1, 0, 0, 0), (184, .aload_n 0, 1, 0, 0, 0), (185, .getfield 145, 3, 8, 6, 731), (188, .ireturn, 1, 0, 0, 0), (189, .aload_n 0, 1, 0, 0, 0), (190, .getfield 35, 3, 8, 2, 727), (193, .ireturn, 1, 0, 0, 0), (194, .iconst (-1), 1, 0, 0, 0), (195, .ireturn, 1, 0, 0, 0)]
/-- TankDiversModel.leader()I -/
def q166 : List AE := [(0, .iconst 0, 1, 0, 0, 0), (1, .istore_n 1, 1, 0, 0, 0), (2, .iconst 1, 1, 0, 0, 0), (3, .istore_n 2, 1, 0, 0, 0), (4, .iload_n 2, 1, 0, 0, 0), (5, .aload_n 0, 1, 0, 0, 0), (6, .getfield 7, 3, 8, 0, 725), (9, .iconst 0, 1, 0, 0, 0), (10, .iaload, 1, 0, 0, 0), (11, .if_icmp .ge 32, 3, 0, 0, 0), (14, .aload_n 0, 1, 0, 0, 0), (15, .iload_n 2, 1, 0, 0, 0), (16, .bipush 10, 2, 0, 0, 0), (18, .invokevirtual 54, 3, 116, 0, 806), (21, .aload_n 0, 1, 0, 0, 0), (22, .iload_n 1, 1, 0, 0, 0), (23, .bipush 10, 2, 0, 0, 0), (25, .invokevirtual 54, 3, 116, 0, 806), (28, .if_icmp .le 7, 3, 0, 0, 0), (31, .iload_n 2, 1, 0, 0, 0), (32, .goto 4, 3, 0, 0, 0), (35, .iload_n 1, 1, 0, 0, 0), (36, .istore_n 1, 1, 0, 0, 0), (37, .iinc 2 1, 3, 0, 0, 0), (40, .goto (-36), 3, 0, 0, 0), (43, .iload_n 1, 1, 0, 0, 0), (44, .ireturn, 1, 0, 0, 0)]
/-- TankDiversModel.throwsOf(I)I -/
def q167 : List AE := [(0, .iload_n 0, 1, 0, 0, 0), (1, .iconst 4, 1, 0, 0, 0), (2, .if_icmp .ne 7, 3, 0, 0, 0), (5, .iconst 3, 1, 0, 0, 0), (6, .goto 18, 3, 0, 0, 0), (9, .iload_n 0, 1, 0, 0, 0), (10, .iconst 3, 1, 0, 0, 0), (11, .if_icmp .eq 8, 3, 0, 0, 0), (14, .iload_n 0, 1, 0, 0, 0), (15, .iconst 5, 1, 0, 0, 0), (16, .if_icmp .ne 7, 3, 0, 0, 0), (19, .iconst 2, 1, 0, 0, 0), (20, .goto 4, 3, 0, 0, 0), (23, .iconst 1, 1, 0, 0, 0), (24, .ireturn, 1, 0, 0, 0)]
/-- TankDiversModel.chances(IZI)I -/
def q168 : List AE := [(0, .iload_n 1, 1, 0, 0, 0), (1, .iconst 0, 1, 0, 0, 0), (2, .aload_n 0, 1, 0, 0, 0), (3, .getfield 7, 3, 8, 0, 725), (6, .bipush 8, 2, 0, 0, 0), (8, .iaload, 1, 0, 0, 0), (9, .invokestatic 50, 3, 110, 0, 784), (12, .ifCond .eq 12, 3, 0, 0, 0), (15, .iload_n 3, 1, 0, 0, 0), (16, .iconst 0, 1, 0, 0, 0), (17, .iconst 1, 1, 0, 0, 0), (18, .invokestatic 50, 3, 110, 0, 784), (21, .ifCond .ne 5, 3, 0, 0, 0), (24, .iconst (-1), 1, 0, 0, 0), (25, .ireturn, 1, 0, 0, 0), (26, .aload_n 0, 1, 0, 0, 0), (27, .iload_n 2, 1, 0, 0, 0), (28, .invokevirtual 84, 3, 131, 0, 802), (31, .ifCond .le 6, 3, 0, 0, 0), (34, .bipush (-2), 2, 0, 0, 0), (36, .ireturn, 1, 0, 0, 0), (37, .aload_n 0, 1, 0, 0, 0), (38, .getfield 7, 3, 8, 0, 725), (41, .iconst 2, 1, 0, 0, 0), (42, .iaload, 1, 0, 0, 0), (43, .istore 4, 2, 0, 0, 0), (45, .iconst 0, 1, 0, 0, 0), (46, .istore 5, 2, 0, 0, 0), (48, .iconst 2, 1, 0, 0, 0), (49, .istore 6, 2, 0, 0, 0), (51, .iload 6, 2, 0, 0, 0), (53, .bipush 7, 2, 0, 0, 0), (55, .if_icmp .ge 80, 3, 0, 0, 0), (58, .aload_n 0, 1, 0, 0, 0), (59, .iload 4, 2, 0, 0, 0), (61, .aload_n 0, 1, 0, 0, 0), (62, .iload 4, 2, 0, 0, 0), (64, .iconst 0, 1, 0, 0, 0), (65, .invokevirtual 54, 3, 116, 0, 806), (68, .iload_n 2, 1, 0, 0, 0), (69, .ifCond .ne 14, 3, 0, 0, 0), (72, .aload_n 0, 1, 0, 0, 0), (73, .iload 4, 2, 0, 0, 0), (75, .iconst 1, 1, 0, 0, 0), (76, .invokevirtual 54, 3, 116, 0, 806), (79, .iconst 1, 1, 0, 0, 0), (80, .if_icmp .ne 7, 3, 0, 0, 0), (83, .iconst 1, 1, 0, 0, 0), (84, .goto 4, 3, 0, 0, 0), (87, .iconst 0, 1, 0, 0, 0), (88, .aload_n 0, 1, 0, 0, 0), (89, .iload 4, 2, 0, 0, 0), (91, .iload 6, 2, 0, 0, 0), (93, .invokevirtual 91, 3, 133, 0, 814), (96, .invokevirtual 94, 3, 132, 0, 818), (99, .iload_n 1, 1, 0, 0, 0), (100, .if_icmp .ne 7, 3, 0, 0, 0), (103, .iconst 1, 1, 0, 0, 0), (104, .goto 4, 3, 0, 0, 0), (107, .iconst 0, 1, 0, 0, 0), (108, .istore 7, 2, 0, 0, 0), (110, .iload 5, 2, 0, 0, 0), (112, .iload 7, 2, 0, 0, 0), (114, .ifCond .eq 11, 3, 0, 0, 0), (117, .iload 6, 2, 0, 0, 0), (119, .invokestatic 202, 3, 167, 0, 991), (122, .goto 4, 3, 0, 0, 0), (125, .iconst 0, 1, 0, 0, 0), (126, .iadd, 1, 0, 0, 0), (127, .istore 5, 2, 0, 0, 0), (129, .iinc 6 1, 3, 0, 0, 0), (132, .goto (-81), 3, 0, 0, 0), (135, .iload 5, 2, 0, 0, 0), (137, .ireturn, 1, 0, 0, 0)]
/-- TankDiversModel.homeward(I)I -/
def q169 : List AE := [(0, .iload_n 1, 1, 0, 0, 0), (1, .iconst 1, 1, 0, 0, 0), (2, .bipush 6, 2, 0, 0, 0), (4, .invokestatic 50, 3, 110, 0, 784), (7, .ifCond .ne 5, 3, 0, 0, 0), (10, .iconst (-1), 1, 0, 0, 0), (11, .ireturn, 1, 0, 0, 0), (12, .aload_n 0, 1, 0, 0, 0), (13, .getfield 7, 3, 8, 0, 725), (16, .iconst 2, 1, 0, 0, 0), (17, .iaload, 1, 0, 0, 0), (18, .istore_n 2, 1, 0, 0, 0), (19, .aload_n 0, 1, 0, 0, 0), (20, .getfield 7, 3, 8, 0, 725), (23, .iconst 3, 1, 0, 0, 0), (24, .iaload, 1, 0, 0, 0), (25, .ifCond .ne 12, 3, 0, 0, 0), (28, .aload_n 0, 1, 0, 0, 0), (29, .iload_n 2, 1, 0, 0, 0), (30, .iconst 0, 1, 0, 0, 0), (31, .invokevirtual 54, 3, 116, 0, 806), (34, .ifCond .ne 6, 3, 0, 0, 0), (37, .bipush (-2), 2, 0, 0, 0), (39, .ireturn, 1, 0, 0, 0), (40, .iconst 0, 1, 0, 0, 0), (41, .istore_n 3, 1, 0, 0, 0), (42, .iload_n 3, 1, 0, 0, 0), (43, .bipush 17, 2, 0, 0, 0), (45, .if_icmp .ge 30, 3, 0, 0, 0), (48, .aload_n 0, 1, 0, 0, 0), (49, .getfield 25, 3, 8, 16, 741), (52, .iload_n 3, 1, 0, 0, 0), (53, .iload_n 3, 1, 0, 0, 0), (54, .aload_n 0, 1, 0, 0, 0), (55, .iload_n 2, 1, 0, 0, 0), (56, .iconst 0, 1, 0, 0, 0), (57, .invokevirtual 54, 3, 116, 0, 806), (60, .if_icmp .ne 7, 3, 0, 0, 0), (63, .iconst 1, 1, 0, 0, 0), (64, .goto 4, 3, 0, 0, 0), (67, .iconst 0, 1, 0, 0, 0), (68, .iastore, 1, 0, 0, 0), (69, .iinc 3 1, 3, 0, 0, 0), (72, .goto (-30), 3, 0, 0, 0), (75, .iconst 0, 1, 0, 0, 0), (76, .istore_n 3, 1, 0, 0, 0), (77, .iload_n 3, 1, 0, 0, 0), (78, .iload_n 1, 1, 0, 0, 0), (79, .if_icmp .ge 156, 3, 0, 0, 0), (82, .aload_n 0, 1, 0, 0, 0), (83, .getfield 28, 3, 8, 17, 742), (86, .iconst 0, 1, 0, 0, 0), (87, .bipush 9, 2, 0, 0, 0), (89, .aload_n 0, 1, 0, 0, 0), (90, .getfield 25, 3, 8, 16, 741), (93, .iconst 0, 1, 0, 0, 0), (94, .iaload, 1, 0, 0, 0), (95, .imul, 1, 0, 0, 0), (96, .iastore, 1, 0, 0, 0), (97, .iconst 1, 1, 0, 0, 0), (98, .istore 4, 2, 0, 0, 0), (100, .iload 4, 2, 0, 0, 0), (102, .bipush 17, 2, 0, 0, 0), (104, .if_icmp .ge 17, 3, 0, 0, 0), (107, .aload_n 0, 1, 0, 0, 0), (108, .getfield 28, 3, 8, 17, 742), (111, .iload 4, 2, 0, 0, 0), (113, .iconst 0, 1, 0, 0, 0), (114, .iastore, 1, 0, 0, 0), (115, .iinc 4 1, 3, 0, 0, 0), (118, .goto (-18), 3, 0, 0, 0), (121, .iconst 1, 1, 0, 0, 0), (122, .istore 4, 2, 0, 0, 0), (124, .iload 4, 2, 0, 0, 0), (126, .bipush 17, 2, 0, 0, 0), (128, .if_icmp .ge 71, 3, 0, 0, 0), (131, .iconst 2, 1, 0, 0, 0), (132, .istore 5, 2, 0, 0, 0), (134, .iload 5, 2, 0, 0, 0), (136, .bipush 7, 2, 0, 0, 0), (138, .if_icmp .ge 55, 3, 0, 0, 0), (141, .aload_n 0, 1, 0, 0, 0), (142, .getfield 25, 3, 8, 16, 741), (145, .iload 4, 2, 0, 0, 0), (147, .iaload, 1, 0, 0, 0), (148, .ifCond .le 45, 3, 0, 0, 0), (151, .aload_n 0, 1, 0, 0, 0), (152, .getfield 28, 3, 8, 17, 742), (155, .aload_n 0, 1, 0, 0, 0), (156, .iload_n 2, 1, 0, 0, 0), (157, .iload 4, 2, 0, 0, 0), (159, .iconst 1, 1, 0, 0, 0), (160, .aload_n 0, 1, 0, 0, 0), (161, .iload_n 2, 1, 0, 0, 0), (162, .iload 5, 2, 0, 0, 0), (164, .invokevirtual 91, 3, 133, 0, 814), (167, .invokevirtual 94, 3, 132, 0, 818), (170, .dup2, 1, 0, 0, 0), (171, .iaload, 1, 0, 0, 0), (172, .aload_n 0, 1, 0, 0, 0), (173, .getfield 25, 3, 8, 16, 741), (176, .iload 4, 2, 0, 0, 0), (178, .iaload, 1, 0, 0, 0), (179, .iload 5, 2, 0, 0, 0), (181, .invokestatic 202, 3, 167, 0, 991), (184, .imul, 1, 0, 0, 0), (185, .iadd, 1, 0, 0, 0), (186, .iastore, 1, 0, 0, 0), (187, .iinc 5 1, 3, 0, 0, 0), (190, .goto (-56), 3, 0, 0, 0), (193, .iinc 4 1, 3, 0, 0, 0), (196, .goto (-72), 3, 0, 0, 0), (199, .iconst 0, 1, 0, 0, 0), (200, .istore 4, 2, 0, 0, 0), (202, .iload 4, 2, 0, 0, 0), (204, .bipush 17, 2, 0, 0, 0), (206, .if_icmp .ge 23, 3, 0, 0, 0), (209, .aload_n 0, 1, 0, 0, 0), (210, .getfield 25, 3, 8, 16, 741), (213, .iload 4, 2, 0, 0, 0), (215, .aload_n 0, 1, 0, 0, 0), (216, .getfield 28, 3, 8, 17, 742), (219, .iload 4, 2, 0, 0, 0), (221, .iaload, 1, 0, 0, 0), (222, .iastore, 1, 0, 0, 0), (223, .iinc 4 1, 3, 0, 0, 0), (226, .goto (-24), 3, 0, 0, 0), (229, .iinc 3 1, 3, 0, 0, 0), (232, .goto (-155), 3, 0, 0, 0), (235, .aload_n 0, 1, 0, 0, 0), (236, .getfield 25, 3, 8, 16, 741), (239, .iconst 0, 1, 0, 0, 0), (240, .iaload, 1, 0, 0, 0), (241, .ireturn, 1, 0, 0, 0)]
/-- TankDiversModel.used()I -/
def q170 : List AE := [(0, .iconst 0, 1, 0, 0, 0), (1, .istore_n 1, 1, 0, 0, 0), (2, .iconst 0, 1, 0, 0, 0), (3, .istore_n 2, 1, 0, 0, 0), (4, .iload_n 2, 1, 0, 0, 0), (5, .aload_n 0, 1, 0, 0, 0), (6, .getfield 7, 3, 8, 0, 725), (9, .iconst 0, 1, 0, 0, 0), (10, .iaload, 1, 0, 0, 0), (11, .if_icmp .ge 32, 3, 0, 0, 0), (14, .iload_n 1, 1, 0, 0, 0), (15, .aload_n 0, 1, 0, 0, 0), (16, .iload_n 2, 1, 0, 0, 0), (17, .iconst 2, 1, 0, 0, 0), (18, .invokevirtual 54, 3, 116, 0, 806), (21, .iconst 1, 1, 0, 0, 0), (22, .if_icmp .ne 7, 3, 0, 0, 0), (25, .iconst 0, 1, 0, 0, 0), (26, .goto 9, 3, 0, 0, 0), (29, .aload_n 0, 1, 0, 0, 0), (30, .iload_n 2, 1, 0, 0, 0), (31, .iconst 3, 1, 0, 0, 0), (32, .invokevirtual 54, 3, 116, 0, 806), (35, .iadd, 1, 0, 0, 0), (36, .istore_n 1, 1, 0, 0, 0), (37, .iinc 2 1, 3, 0, 0, 0), (40, .goto (-36), 3, 0, 0, 0), (43, .iload_n 1, 1, 0, 0, 0), (44, .ireturn, 1, 0, 0, 0)]
/-- TankDiversModel.brought()D -/
def q171 : List AE := [(0, .aload_n 0, 1, 0, 0, 0), (1, .invokevirtual 193, 3, 124, 0, 971), (4, .aload_n 0, 1, 0, 0, 0), (5, .invokevirtual 196, 3, 125, 0, 975), (8, .iadd, 1, 0, 0, 0), (9, .aload_n 0, 1, 0, 0, 0), (10, .invokevirtual 199, 3, 126, 0, 979), (13, .iadd, 1, 0, 0, 0), (14, .istore_n 1, 1, 0, 0, 0), (15, .iload_n 1, 1, 0, 0, 0), (16, .ifCond .ne 7, 3, 0, 0, 0), (19, .dconst 0, 1, 0, 0, 0), (20, .goto 11, 3, 0, 0, 0), (23, .aload_n 0, 1, 0, 0, 0), (24, .invokevirtual 199, 3, 126, 0, 979), (27, .i2d, 1, 0, 0, 0), (28, .iload_n 1, 1, 0, 0, 0), (29, .i2d, 1, 0, 0, 0), (30, .ddiv, 1, 0, 0, 0), (31, .dreturn, 1, 0, 0, 0)]
/-- TankDiversModel.undo()I -/
def q172 : List AE := [(0, .aload_n 0, 1, 0, 0, 0), (1, .getfield 35, 3, 8, 2, 727), (4, .ifCond .ne 6, 3, 0, 0, 0), (7, .bipush (-2), 2, 0, 0, 0), (9, .ireturn, 1, 0, 0, 0), (10, .aload_n 0, 1, 0, 0, 0), (11, .dup, 1, 0, 0, 0), (12, .getfield 35, 3, 8, 2, 727), (15, .iconst 1, 1, 0, 0, 0), (16, .isub, 1, 0, 0, 0), (17, .putfield 35, 3, 8, 2, 727), (20, .aload_n 0, 1, 0, 0, 0), (21, .getfield 13, 3, 8, 1, 726), (24, .bipush 77, 2, 0, 0, 0), (26, .aload_n 0, 1, 0, 0, 0), (27, .getfield 35, 3, 8, 2, 727), (30, .imul, 1, 0, 0, 0), (31, .aload_n 0, 1, 0, 0, 0), (32, .getfield 7, 3, 8, 0, 725), (35, .iconst 0, 1, 0, 0, 0), (36, .invokestatic 39, 3, 111, 0, 791), (39, .aload_n 0, 1, 0, 0, 0), (40, .getfield 35, 3, 8, 2, 727), (43, .ireturn, 1, 0, 0, 0)]
/-- TankDiversModel.save()I -/
def q173 : List AE := [(0, .aload_n 0, 1, 0, 0, 0), (1, .getfield 7, 3, 8, 0, 725), (4, .iconst 0, 1, 0, 0, 0), (5, .aload_n 0, 1, 0, 0, 0), (6, .getfield 16, 3, 8, 3, 728), (9, .iconst 0, 1, 0, 0, 0), (10, .invokestatic 39, 3, 111, 0, 791), (13, .aload_n 0, 1, 0, 0, 0), (14, .iconst 1, 1, 0, 0, 0), (15, .putfield 205, 3, 8, 4, 729), (18, .aload_n 0, 1, 0, 0, 0), (19, .getfield 7, 3, 8, 0, 725), (22, .iconst 1, 1, 0, 0, 0), (23, .iaload, 1, 0, 0, 0), (24, .ireturn, 1, 0, 0, 0)]
/-- TankDiversModel.restore()I -/
def q174 : List AE := [(0, .aload_n 0, 1, 0, 0, 0), (1, .getfield 205, 3, 8, 4, 729), (4, .ifCond .ne 6, 3, 0, 0, 0), (7, .bipush (-2), 2, 0, 0, 0), (9, .ireturn, 1, 0, 0, 0), (10, .aload_n 0, 1, 0, 0, 0), (11, .invokevirtual 130, 3, 112, 0, 787), (14, .aload_n 0, 1, 0, 0, 0), (15, .getfield 16, 3, 8, 3, 728), (18, .iconst 0, 1, 0, 0, 0), (19, .aload_n 0, 1, 0, 0, 0), (20, .getfield 7, 3, 8, 0, 725), (23, .iconst 0, 1, 0, 0, 0), (24, .invokestatic 39, 3, 111, 0, 791), (27, .aload_n 0, 1, 0, 0, 0), (28, .getfield 7, 3, 8, 0, 725), (31, .iconst 1, 1, 0, 0, 0), (32, .iaload, 1, 0, 0, 0), (33, .ireturn, 1, 0, 0, 0)]
def codes : List (List AE) := [q0, q1, q2, q3, q4, q5, q6, q7, q8, q9, q10, q11, q12, q13, q14, q15, q16, q17, q18, q19, q20, q21, q22, q23, q24, q25, q26, q27, q28, q29, q30, q31, q32, q33, q34, q35, q36, q37, q38, q39, q40, q41, q42, q43, q44, q45, q46, q47, q48, q49, q50, q51, q52, q53, q54, q55, q56, q57, q58, q59, q60, q61, q62, q63, q64, q65, q66, q67, q68, q69, q70, q71, q72, q73, q74, q75, q76, q77, q78, q79, q80, q81, q82, q83, q84, q85, q86, q87, q88, q89, q90, q91, q92, q93, q94, q95, q96, q97, q98, q99, q100, q101, q102, q103, q104, q105, q106, q107, q108, q109, q110, q111, q112, q113, q114, q115, q116, q117, q118, q119, q120, q121, q122, q123, q124, q125, q126, q127, q128, q129, q130, q131, q132, q133, q134, q135, q136, q137, q138, q139, q140, q141, q142, q143, q144, q145, q146, q147, q148, q149, q150, q151, q152, q153, q154, q155, q156, q157, q158, q159, q160, q161, q162, q163, q164, q165, q166, q167, q168, q169, q170, q171, q172, q173, q174]
end
section
/-! ===== AN ABSTRACT MACHINE: values, objects, a heap as a list; one step; runs with fuel ===== -/
/-- a value: a whole number, a reference (by its place in the heap) or null, a double -/
abbrev AV : Type := Int ⊕ (Option Nat ⊕ UInt64)
/-- an object: its kind (the class's place in vwCl; 100: a row of ints; 101: a row of references) and its cells -/
abbrev AO : Type := Nat × List AV
abbrev AH : Type := List AO
abbrev I (z : Int) : AV := Sum.inl z
abbrev Rf (i : Nat) : AV := Sum.inr (Sum.inl (some i))
abbrev Nu : AV := Sum.inr (Sum.inl none)
abbrev Db (x : UInt64) : AV := Sum.inr (Sum.inr x)
def i32 (z : Int) : Int32 := Int32.ofInt z
def inr (z : Int) : Prop := -2147483648 ≤ z ∧ z ≤ 2147483647
def inrB (z : Int) : Bool := decide (-2147483648 ≤ z) && decide (z ≤ 2147483647)
theorem inrB_iff {z : Int} : inrB z = true ↔ inr z := by simp [inrB, inr]
def w2 (f : Int32 → Int32 → Int32) (x y : Int) : Int := (f (i32 x) (i32 y)).toInt
def cmpB (c : ClassFile.Cond) (x y : Int) : Bool := match c with
  | .eq => decide (x = y) | .ne => decide (x ≠ y) | .lt => decide (x < y) | .ge => decide (y ≤ x) | .gt => decide (y < x) | .le => decide (x ≤ y)
def tgN (pc : Nat) (off : Int) : Nat := ((pc : Int) + off).toNat
def tgB (pc : Nat) (off : Int) : Bool := decide (0 ≤ (pc : Int) + off)
abbrev ASt : Type := Nat × List AV × List AV × AH
def stI (ls : List AV) (i : Nat) (pc : Nat) (st : List AV) (h : AH) : Option ASt := match ls[i]? with
  | some (.inl z) => some (pc, ls, I z :: st, h) | _ => none
def stA (ls : List AV) (i : Nat) (pc : Nat) (st : List AV) (h : AH) : Option ASt := match ls[i]? with
  | some (.inr (.inl r)) => some (pc, ls, .inr (.inl r) :: st, h) | _ => none
def ssI (ls : List AV) (i : Nat) (pc : Nat) (st : List AV) (h : AH) : Option ASt := match st with
  | .inl z :: st => if i < ls.length then some (pc, ls.set i (I z), st, h) else none | _ => none
def ssA (ls : List AV) (i : Nat) (pc : Nat) (st : List AV) (h : AH) : Option ASt := match st with
  | .inr (.inl r) :: st => if i < ls.length then some (pc, ls.set i (.inr (.inl r)), st, h) else none | _ => none
def sbin (f : Int32 → Int32 → Int32) (pc : Nat) (ls st : List AV) (h : AH) : Option ASt := match st with
  | .inl y :: .inl x :: st => some (pc, ls, I (w2 f x y) :: st, h) | _ => none
def sdiv (f : Int32 → Int32 → Int32) (pc : Nat) (ls st : List AV) (h : AH) : Option ASt := match st with
  | .inl y :: .inl x :: st => if y ≠ 0 then some (pc, ls, I (w2 f x y) :: st, h) else none | _ => none
/-- a field's type takes a value -/
def fitV (ty : FieldType) (v : AV) : Bool := match ty, v with
  | .int, .inl _ => true
  | .boolean, .inl z => decide (z = 0) || decide (z = 1)
  | .object _, .inr (.inl _) => true
  | .array _, .inr (.inl _) => true
  | _, _ => false
def dfV (ty : FieldType) : AV := match ty with
  | .object _ => Nu | .array _ => Nu | _ => I 0
def tysL : List (Nat → FieldType) := [tyX0, tyX1, tyX2, tyX3, tyX4, tyX5, tyX7, tyX8, tyX9]
def tyC (ci : Nat) : Nat → FieldType := tysL.getD ci (fun _ => .int)
def nC (ci : Nat) : Nat := match vwCl[ci]? with | some q => q.2.2 | none => 0
def finC (ci k : Nat) : Bool := match vwCl[ci]? with | some q => (q.2.1 k).2.2.2 | none => false
/-- one step of what is no call and no return; b: whether the method is a constructor -/
def ast (ini : Bool) (e : AE) (ls st : List AV) (h : AH) : Option ASt :=
  let pc := e.1
  let a := e.2.2.2.1
  let b := e.2.2.2.2.1
  match e.2.1 with
  | .iconst n => if inrB n then some (pc + 1, ls, I n :: st, h) else none
  | .bipush n => if inrB n && decide ((Int8.ofInt n).toInt32 = i32 n) then some (pc + 2, ls, I n :: st, h) else none
  | .sipush n => if inrB n && decide ((Int16.ofInt n).toInt32 = i32 n) then some (pc + 3, ls, I n :: st, h) else none
  | .aconst_null => some (pc + 1, ls, Nu :: st, h)
  | .iload_n k => stI ls k.val (pc + 1) st h
  | .iload i => stI ls i (pc + 2) st h
  | .aload_n k => stA ls k.val (pc + 1) st h
  | .aload i => stA ls i (pc + 2) st h
  | .istore_n k => ssI ls k.val (pc + 1) st h
  | .istore i => ssI ls i (pc + 2) st h
  | .astore_n k => ssA ls k.val (pc + 1) st h
  | .iinc i n => match ls[i]? with
    | some (.inl z) => some (pc + 3, ls.set i (I (w2 (· + ·) z n)), st, h) | _ => none
  | .iadd => sbin (· + ·) (pc + 1) ls st h
  | .isub => sbin (· - ·) (pc + 1) ls st h
  | .imul => sbin (· * ·) (pc + 1) ls st h
  | .iand => sbin (· &&& ·) (pc + 1) ls st h
  | .ior => sbin (· ||| ·) (pc + 1) ls st h
  | .ishl => sbin (fun x y => x <<< (y &&& 31)) (pc + 1) ls st h
  | .ishr => sbin (fun x y => x >>> (y &&& 31)) (pc + 1) ls st h
  | .idiv => sdiv (· / ·) (pc + 1) ls st h
  | .irem => sdiv (fun x y => x - x / y * y) (pc + 1) ls st h
  | .ineg => match st with
    | .inl x :: st => some (pc + 1, ls, I (w2 (fun x _ => -x) x 0) :: st, h) | _ => none
  | .dup => match st with
    | .inr (.inr _) :: _ => none
    | v :: st => some (pc + 1, ls, v :: v :: st, h) | _ => none
  | .pop => match st with
    | .inr (.inr _) :: _ => none
    | _ :: st => some (pc + 1, ls, st, h) | _ => none
  | .dup2 => match st with
    | .inr (.inr _) :: _ => none
    | _ :: .inr (.inr _) :: _ => none
    | v :: u :: st => some (pc + 1, ls, v :: u :: v :: u :: st, h) | _ => none
  | .ifCond c off => match st with
    | .inl x :: st => if tgB pc off then some (if cmpB c x 0 then tgN pc off else pc + 3, ls, st, h) else none | _ => none
  | .if_icmp c off => match st with
    | .inl y :: .inl x :: st => if tgB pc off then some (if cmpB c x y then tgN pc off else pc + 3, ls, st, h) else none | _ => none
  | .ifnull off => match st with
    | .inr (.inl r) :: st => if tgB pc off then some (match r with | none => tgN pc off | some _ => pc + 3, ls, st, h) else none | _ => none
  | .ifnonnull off => match st with
    | .inr (.inl r) :: st => if tgB pc off then some (match r with | none => pc + 3 | some _ => tgN pc off, ls, st, h) else none | _ => none
  | .goto off => if tgB pc off then some (tgN pc off, ls, st, h) else none
  | .tableswitch d lo hi offs => match st with
    | .inl x :: st =>
      if x < lo ∨ hi < x then (if tgB pc d then some (tgN pc d, ls, st, h) else none)
      else match offs[(x - lo).toNat]? with
        | some off => if tgB pc off then some (tgN pc off, ls, st, h) else none
        | none => none
    | _ => none
  | .getfield _ => match st with
    | .inr (.inl (some i)) :: st => match h[i]? with
      | some (c, fs) => if c = a then (match fs[b]? with | some v => some (pc + 3, ls, v :: st, h) | none => none) else none
      | none => none
    | _ => none
  | .putfield _ => match st with
    | v :: .inr (.inl (some i)) :: st => match h[i]? with
      | some (c, fs) => if c = a ∧ b < fs.length ∧ fitV (tyC a b) v = true ∧ (finC a b = true → ini = true) then some (pc + 3, ls, st, h.set i (c, fs.set b v)) else none
      | none => none
    | _ => none
  | .iaload => match st with
    | .inl z :: .inr (.inl (some i)) :: st => match h[i]? with
      | some (c, fs) => if c = 100 ∧ 0 ≤ z then (match fs[z.toNat]? with | some (.inl x) => some (pc + 1, ls, I x :: st, h) | _ => none) else none
      | none => none
    | _ => none
  | .iastore => match st with
    | .inl x :: .inl z :: .inr (.inl (some i)) :: st => match h[i]? with
      | some (c, fs) => if c = 100 ∧ 0 ≤ z ∧ z.toNat < fs.length then some (pc + 1, ls, st, h.set i (c, fs.set z.toNat (I x))) else none
      | none => none
    | _ => none
  | .aaload => match st with
    | .inl z :: .inr (.inl (some i)) :: st => match h[i]? with
      | some (c, fs) => if c = 101 ∧ 0 ≤ z then (match fs[z.toNat]? with | some (.inr (.inl r)) => some (pc + 1, ls, .inr (.inl r) :: st, h) | _ => none) else none
      | none => none
    | _ => none
  | .aastore => match st with
    | .inr (.inl (some v)) :: .inl z :: .inr (.inl (some i)) :: st => match h[i]?, h[v]? with
      | some (c, fs), some (c2, _) => if c = 101 ∧ c2 = 1 ∧ 0 ≤ z ∧ z.toNat < fs.length then some (pc + 1, ls, st, h.set i (c, fs.set z.toNat (Rf v))) else none
      | _, _ => none
    | _ => none
  | .arraylength => match st with
    | .inr (.inl (some i)) :: st => match h[i]? with
      | some (c, fs) => if (c = 100 ∨ c = 101) ∧ fs.length ≤ 1000000 then some (pc + 1, ls, I (fs.length : Int) :: st, h) else none
      | none => none
    | _ => none
  | .dconst d => if d = 0 then some (pc + 1, ls, Db FP.dconst0 :: st, h) else none
  | .i2d => match st with
    | .inl x :: st => some (pc + 1, ls, Db (FP.i2d (i32 x)) :: st, h) | _ => none
  | .ddiv => match st with
    | .inr (.inr y) :: .inr (.inr x) :: st => if (FP.ddiv x y) &&& 0x7fffffffffffffff ≤ 0x7ff0000000000000 then some (pc + 1, ls, Db (FP.ddiv x y) :: st, h) else none
    | _ => none
  | .new _ => if ini then some (pc + 3, ls, Rf h.length :: st, h ++ [(a, (List.range (nC a)).map fun k => dfV (tyC a k))]) else none
  | .newarray t => match st with
    | .inl n :: st => if ini = true ∧ t = .int ∧ 0 ≤ n ∧ n ≤ 1000000 then some (pc + 2, ls, Rf h.length :: st, h ++ [(100, List.replicate n.toNat (I 0))]) else none
    | _ => none
  | .anewarray _ => match st with
    | .inl n :: st => if ini = true ∧ a = 1 ∧ 0 ≤ n ∧ n ≤ 1000000 then some (pc + 3, ls, Rf h.length :: st, h ++ [(101, List.replicate n.toNat Nu)]) else none
    | _ => none
  | _ => none
def cd (k pc : Nat) : Option AE := (codes.getD k []).find? (fun e => e.1 == pc)
def maxl (k : Nat) : Nat := mLs.getD k 0
def nar (k : Nat) : Nat := mNs.getD k 0
def ownR (k : Nat) : String := oNs.getD (mOs.getD k 0) ""
def yM (k : Nat) : MethodName := mYs.getD k ⟨"", "", ""⟩
def bM (k : Nat) : ByteArray := mBs.getD k code
def rM (k : Nat) : Option FieldType := mRs.getD k none
def dpM (k : Nat) : Nat := mDs.getD k 0
def lcM (k : Nat) : Nat := mWs.getD k 0
def stM (k : Nat) : Bool := mSs.getD k false
def isI (k : Nat) : Bool := (yM k).name == "<init>"
/-- the locals with which a method begins: the arguments, then unset places -/
def loc0 (k : Nat) (as : List AV) : List AV := as ++ List.replicate (maxl k - as.length) (Db 0)
/-- what a call wants: place in the frames and the locals' words, few values left on the stack -/
def callOk (k k' : Nat) (rest : List AV) : Bool := decide (dpM k' + 1 ≤ dpM k) && decide (8 + (maxl k' + 11) + lcM k' ≤ lcM k) && decide (rest.length ≤ 4) && decide (nar k' ≤ maxl k') && decide (k' < 175)
def clsOk (h : AH) (k' : Nat) (v : Option AV) : Bool := match v with
  | some (.inr (.inl (some i))) => match h[i]? with
    | some (c, _) => match vwCl[c]? with | some q => decide (q.1 = (yM k').cls) | none => false
    | none => false
  | _ => false
def noDb (as : List AV) : Bool := as.all fun v => match v with | .inr (.inr _) => false | _ => true
/-- a call's arguments taken off the stack (the first one first), and what is left -/
def popA (n : Nat) (st : List AV) : Option (List AV × List AV) := if n ≤ st.length then some ((st.take n).reverse, st.drop n) else none
def retOk (k : Nat) (st : List AV) (i : Instr) : Option (Option AV) := match i, st, rM k with
  | .return_, [], none => some none
  | .ireturn, [.inl z], some .int => some (some (I z))
  | .ireturn, [.inl z], some .boolean => if z = 0 ∨ z = 1 then some (some (I z)) else none
  | .areturn, [.inr (.inl r)], some (.object _) => some (some (.inr (.inl r)))
  | .dreturn, [.inr (.inr x)], some .double => some (some (Db x))
  | _, _, _ => none
/-- Math.abs, max, min of ints -/
def mathB (a : Nat) (st : List AV) : Option (AV × List AV) := match st with
  | .inl y :: st => if a = 900 then some (I (if 0 ≤ y then y else w2 (· - ·) 0 y), st) else match st with
    | .inl x :: st => if a = 901 then some (I (if x < y then y else x), st) else if a = 902 then some (I (if y < x then y else x), st) else none
    | _ => none
  | _ => none
/-- runs with fuel -/
def arun : Nat → Nat → Nat → List AV → List AV → AH → Option (Option AV × AH)
  | 0, _, _, _, _, _ => none
  | n + 1, k, pc, ls, st, h => match cd k pc with
    | none => none
    | some e =>
      match ast (isI k) e ls st h with
      | some (pc', ls', st', h') => arun n k pc' ls' st' h'
      | none => match e.2.1 with
        | .invokevirtual _ => match popA (nar e.2.2.2.1) st with
          | some (as, rest) => if callOk k e.2.2.2.1 rest && clsOk h e.2.2.2.1 as[0]? && noDb as && !(stM e.2.2.2.1) && !(isI e.2.2.2.1) then
              match arun n e.2.2.2.1 0 (loc0 e.2.2.2.1 as) [] h with
              | some (r, h') => if h'.length = h.length then arun n k (pc + 3) ls (r.toList ++ rest) h' else none
              | none => none
            else none
          | none => none
        | .invokestatic _ => if 900 ≤ e.2.2.2.1 then (match mathB e.2.2.2.1 st with
          | some (v, rest) => if rest.length ≤ 4 ∧ 1 ≤ dpM k ∧ 21 ≤ lcM k then arun n k (pc + 3) ls (v :: rest) h else none
          | none => none) else
          match popA (nar e.2.2.2.1) st with
          | some (as, rest) => if callOk k e.2.2.2.1 rest && noDb as && stM e.2.2.2.1 then
              match arun n e.2.2.2.1 0 (loc0 e.2.2.2.1 as) [] h with
              | some (r, h') => if h'.length = h.length then arun n k (pc + 3) ls (r.toList ++ rest) h' else none
              | none => none
            else none
          | none => none
        | .invokespecial _ => if e.2.2.2.1 = 999 then
            match st with
            | .inr (.inl (some _)) :: rest => if rest.length ≤ 4 ∧ 1 ≤ dpM k ∧ 20 ≤ lcM k then arun n k (pc + 3) ls rest h else none
            | _ => none
          else match popA (nar e.2.2.2.1) st with
          | some (as, rest) => if callOk k e.2.2.2.1 rest && clsOk h e.2.2.2.1 as[0]? && noDb as && !(stM e.2.2.2.1) && isI e.2.2.2.1 && isI k then
              match arun n e.2.2.2.1 0 (loc0 e.2.2.2.1 as) [] h with
              | some (r, h') => if r.isNone then arun n k (pc + 3) ls rest h' else none
              | none => none
            else none
          | none => none
        | i => match retOk k st i with
          | some r => some (r, h)
          | none => none
end
section
/-! ===== CHECKS by computing: the tables are what the machine's words and bytes say ===== -/
def lenI : Instr → Nat
  | .bipush _ => 2 | .sipush _ => 3 | .iload _ => 2 | .aload _ => 2 | .istore _ => 2 | .iinc _ _ => 3
  | .ifCond _ _ => 3 | .if_icmp _ _ => 3 | .ifnull _ => 3 | .ifnonnull _ => 3 | .goto _ => 3
  | .getfield _ => 3 | .putfield _ => 3 | .new _ => 3 | .anewarray _ => 3 | .newarray _ => 2
  | .invokevirtual _ => 3 | .invokestatic _ => 3 | .invokespecial _ => 3
  | _ => 1
def oN (own : Nat) : String := oNs.getD own ""
def isW (p : Nat) (w : Cond) : Bool := decide (lw_tbl[p]? = some w)
theorem isW_mem {p : Nat} {w : Cond} (h : isW p w = true) : w ∈ lw_tbl := List.mem_of_getElem? (of_decide_eq_true h)
def chkL (e : AE) : Bool := match e.2.1 with
  | .tableswitch _ _ _ _ => true
  | i => e.2.2.1 == lenI i
def chkF (own idx a b p : Nat) : Bool := match vwCl[a]? with
  | some (_, T, N) => decide (b < N) && (isW p (.fieldLink (oN own) idx (T b).1 (T b).2.1 (T b).2.2.1) || isW p (.fieldLinkNest (oN own) idx (T b).1 (T b).2.1 (T b).2.2.1 "TankDivers")) && (!(T b).2.2.2 || (decide ((T b).1 = oN own) && isW p (.fieldLink (oN own) idx (T b).1 (T b).2.1 (T b).2.2.1)))
  | none => false
def chkG (own idx a b p : Nat) : Bool := match vwCl[a]? with
  | some (_, T, N) => decide (b < N) && (isW p (.fieldLink (oN own) idx (T b).1 (T b).2.1 (T b).2.2.1) || isW p (.fieldLinkNest (oN own) idx (T b).1 (T b).2.1 (T b).2.2.1 "TankDivers"))
  | none => false
def chkO (own : Nat) (e : AE) : Bool :=
  let a := e.2.2.2.1
  let b := e.2.2.2.2.1
  let p := e.2.2.2.2.2
  match e.2.1 with
  | .getfield idx => chkG own idx a b p
  | .putfield idx => chkF own idx a b p
  | .invokevirtual idx => isW p (.methodLink (oN own) idx (yM a))
  | .invokestatic idx => if a = 900 then isW p (.methodLink (oN own) idx Lib.Math.abs.name) else if a = 901 then isW p (.methodLink (oN own) idx Lib.Math.max.name) else if a = 902 then isW p (.methodLink (oN own) idx Lib.Math.min.name) else isW p (.methodLink (oN own) idx (yM a))
  | .invokespecial idx => if a = 999 then isW p (.methodLink (oN own) idx objectInit) else if b = 1 then isW p (.methodLinkNest (oN own) idx (yM a) "TankDivers") else isW p (.methodLink (oN own) idx (yM a))
  | .new idx => match vwCl[a]? with
    | some (C, _, _) => isW p (.classLink (oN own) idx C)
    | none => false
  | .anewarray idx => isW p (.classLink (oN own) idx RX1)
  | _ => true
def okL (k : Nat) : Bool := (codes.getD k []).all (fun e => chkL e && chkO (mOs.getD k 0) e)
def okD (k : Nat) : Bool := (codes.getD k []).all (fun e => decide (decode (bM k) e.1 = .ok (e.2.1, e.2.2.1)))
set_option maxRecDepth 100000 in
theorem okD_0 : okD 0 = true := by decide +kernel
set_option maxRecDepth 100000 in
theorem okD_1 : okD 1 = true := by decide +kernel
set_option maxRecDepth 100000 in
theorem okD_2 : okD 2 = true := by decide +kernel
set_option maxRecDepth 100000 in
theorem okD_3 : okD 3 = true := by decide +kernel
set_option maxRecDepth 100000 in
theorem okD_4 : okD 4 = true := by decide +kernel
set_option maxRecDepth 100000 in
theorem okD_5 : okD 5 = true := by decide +kernel
set_option maxRecDepth 100000 in
theorem okD_6 : okD 6 = true := by decide +kernel
set_option maxRecDepth 100000 in
theorem okD_7 : okD 7 = true := by decide +kernel
set_option maxRecDepth 100000 in
theorem okD_8 : okD 8 = true := by decide +kernel
set_option maxRecDepth 100000 in
theorem okD_9 : okD 9 = true := by decide +kernel
set_option maxRecDepth 100000 in
theorem okD_10 : okD 10 = true := by decide +kernel
set_option maxRecDepth 100000 in
theorem okD_11 : okD 11 = true := by decide +kernel
set_option maxRecDepth 100000 in
theorem okD_12 : okD 12 = true := by decide +kernel
set_option maxRecDepth 100000 in
theorem okD_13 : okD 13 = true := by decide +kernel
set_option maxRecDepth 100000 in
theorem okD_14 : okD 14 = true := by decide +kernel
set_option maxRecDepth 100000 in
theorem okD_15 : okD 15 = true := by decide +kernel
set_option maxRecDepth 100000 in
theorem okD_16 : okD 16 = true := by decide +kernel
set_option maxRecDepth 100000 in
theorem okD_17 : okD 17 = true := by decide +kernel
set_option maxRecDepth 100000 in
theorem okD_18 : okD 18 = true := by decide +kernel
set_option maxRecDepth 100000 in
theorem okD_19 : okD 19 = true := by decide +kernel
set_option maxRecDepth 100000 in
theorem okD_20 : okD 20 = true := by decide +kernel
set_option maxRecDepth 100000 in
theorem okD_21 : okD 21 = true := by decide +kernel
set_option maxRecDepth 100000 in
theorem okD_22 : okD 22 = true := by decide +kernel
set_option maxRecDepth 100000 in
theorem okD_23 : okD 23 = true := by decide +kernel
set_option maxRecDepth 100000 in
theorem okD_24 : okD 24 = true := by decide +kernel
set_option maxRecDepth 100000 in
theorem okD_25 : okD 25 = true := by decide +kernel
set_option maxRecDepth 100000 in
theorem okD_26 : okD 26 = true := by decide +kernel
set_option maxRecDepth 100000 in
theorem okD_27 : okD 27 = true := by decide +kernel
set_option maxRecDepth 100000 in
theorem okD_28 : okD 28 = true := by decide +kernel
set_option maxRecDepth 100000 in
theorem okD_29 : okD 29 = true := by decide +kernel
set_option maxRecDepth 100000 in
theorem okD_30 : okD 30 = true := by decide +kernel
set_option maxRecDepth 100000 in
theorem okD_31 : okD 31 = true := by decide +kernel
set_option maxRecDepth 100000 in
theorem okD_32 : okD 32 = true := by decide +kernel
set_option maxRecDepth 100000 in
theorem okD_33 : okD 33 = true := by decide +kernel
set_option maxRecDepth 100000 in
theorem okD_34 : okD 34 = true := by decide +kernel
set_option maxRecDepth 100000 in
theorem okD_35 : okD 35 = true := by decide +kernel
set_option maxRecDepth 100000 in
theorem okD_36 : okD 36 = true := by decide +kernel
set_option maxRecDepth 100000 in
theorem okD_37 : okD 37 = true := by decide +kernel
set_option maxRecDepth 100000 in
theorem okD_38 : okD 38 = true := by decide +kernel
set_option maxRecDepth 100000 in
theorem okD_39 : okD 39 = true := by decide +kernel
set_option maxRecDepth 100000 in
theorem okD_40 : okD 40 = true := by decide +kernel
set_option maxRecDepth 100000 in
theorem okD_41 : okD 41 = true := by decide +kernel
set_option maxRecDepth 100000 in
theorem okD_42 : okD 42 = true := by decide +kernel
set_option maxRecDepth 100000 in
theorem okD_43 : okD 43 = true := by decide +kernel
set_option maxRecDepth 100000 in
theorem okD_44 : okD 44 = true := by decide +kernel
set_option maxRecDepth 100000 in
theorem okD_45 : okD 45 = true := by decide +kernel
set_option maxRecDepth 100000 in
theorem okD_46 : okD 46 = true := by decide +kernel
set_option maxRecDepth 100000 in
theorem okD_47 : okD 47 = true := by decide +kernel
set_option maxRecDepth 100000 in
theorem okD_48 : okD 48 = true := by decide +kernel
set_option maxRecDepth 100000 in
theorem okD_49 : okD 49 = true := by decide +kernel
set_option maxRecDepth 100000 in
theorem okD_50 : okD 50 = true := by decide +kernel
set_option maxRecDepth 100000 in
theorem okD_51 : okD 51 = true := by decide +kernel
set_option maxRecDepth 100000 in
theorem okD_52 : okD 52 = true := by decide +kernel
set_option maxRecDepth 100000 in
theorem okD_53 : okD 53 = true := by decide +kernel
set_option maxRecDepth 100000 in
theorem okD_54 : okD 54 = true := by decide +kernel
set_option maxRecDepth 100000 in
theorem okD_55 : okD 55 = true := by decide +kernel
set_option maxRecDepth 100000 in
theorem okD_56 : okD 56 = true := by decide +kernel
set_option maxRecDepth 100000 in
theorem okD_57 : okD 57 = true := by decide +kernel
set_option maxRecDepth 100000 in
theorem okD_58 : okD 58 = true := by decide +kernel
set_option maxRecDepth 100000 in
theorem okD_59 : okD 59 = true := by decide +kernel
set_option maxRecDepth 100000 in
theorem okD_60 : okD 60 = true := by decide +kernel
set_option maxRecDepth 100000 in
theorem okD_61 : okD 61 = true := by decide +kernel
set_option maxRecDepth 100000 in
theorem okD_62 : okD 62 = true := by decide +kernel
set_option maxRecDepth 100000 in
theorem okD_63 : okD 63 = true := by decide +kernel
set_option maxRecDepth 100000 in
theorem okD_64 : okD 64 = true := by decide +kernel
set_option maxRecDepth 100000 in
theorem okD_65 : okD 65 = true := by decide +kernel
set_option maxRecDepth 100000 in
theorem okD_66 : okD 66 = true := by decide +kernel
set_option maxRecDepth 100000 in
theorem okD_67 : okD 67 = true := by decide +kernel
set_option maxRecDepth 100000 in
theorem okD_68 : okD 68 = true := by decide +kernel
set_option maxRecDepth 100000 in
theorem okD_69 : okD 69 = true := by decide +kernel
set_option maxRecDepth 100000 in
theorem okD_70 : okD 70 = true := by decide +kernel
set_option maxRecDepth 100000 in
theorem okD_71 : okD 71 = true := by decide +kernel
set_option maxRecDepth 100000 in
theorem okD_72 : okD 72 = true := by decide +kernel
set_option maxRecDepth 100000 in
theorem okD_73 : okD 73 = true := by decide +kernel
set_option maxRecDepth 100000 in
theorem okD_74 : okD 74 = true := by decide +kernel
set_option maxRecDepth 100000 in
theorem okD_75 : okD 75 = true := by decide +kernel
set_option maxRecDepth 100000 in
theorem okD_76 : okD 76 = true := by decide +kernel
set_option maxRecDepth 100000 in
theorem okD_77 : okD 77 = true := by decide +kernel
set_option maxRecDepth 100000 in
theorem okD_78 : okD 78 = true := by decide +kernel
set_option maxRecDepth 100000 in
theorem okD_79 : okD 79 = true := by decide +kernel
set_option maxRecDepth 100000 in
theorem okD_80 : okD 80 = true := by decide +kernel
set_option maxRecDepth 100000 in
theorem okD_81 : okD 81 = true := by decide +kernel
set_option maxRecDepth 100000 in
theorem okD_82 : okD 82 = true := by decide +kernel
set_option maxRecDepth 100000 in
theorem okD_83 : okD 83 = true := by decide +kernel
set_option maxRecDepth 100000 in
theorem okD_84 : okD 84 = true := by decide +kernel
set_option maxRecDepth 100000 in
theorem okD_85 : okD 85 = true := by decide +kernel
set_option maxRecDepth 100000 in
theorem okD_86 : okD 86 = true := by decide +kernel
set_option maxRecDepth 100000 in
theorem okD_87 : okD 87 = true := by decide +kernel
set_option maxRecDepth 100000 in
theorem okD_88 : okD 88 = true := by decide +kernel
set_option maxRecDepth 100000 in
theorem okD_89 : okD 89 = true := by decide +kernel
set_option maxRecDepth 100000 in
theorem okD_90 : okD 90 = true := by decide +kernel
set_option maxRecDepth 100000 in
theorem okD_91 : okD 91 = true := by decide +kernel
set_option maxRecDepth 100000 in
theorem okD_92 : okD 92 = true := by decide +kernel
set_option maxRecDepth 100000 in
theorem okD_93 : okD 93 = true := by decide +kernel
set_option maxRecDepth 100000 in
theorem okD_94 : okD 94 = true := by decide +kernel
set_option maxRecDepth 100000 in
theorem okD_95 : okD 95 = true := by decide +kernel
set_option maxRecDepth 100000 in
theorem okD_96 : okD 96 = true := by decide +kernel
set_option maxRecDepth 100000 in
theorem okD_97 : okD 97 = true := by decide +kernel
set_option maxRecDepth 100000 in
theorem okD_98 : okD 98 = true := by decide +kernel
set_option maxRecDepth 100000 in
theorem okD_99 : okD 99 = true := by decide +kernel
set_option maxRecDepth 100000 in
theorem okD_100 : okD 100 = true := by decide +kernel
set_option maxRecDepth 100000 in
theorem okD_101 : okD 101 = true := by decide +kernel
set_option maxRecDepth 100000 in
theorem okD_102 : okD 102 = true := by decide +kernel
set_option maxRecDepth 100000 in
theorem okD_103 : okD 103 = true := by decide +kernel
set_option maxRecDepth 100000 in
theorem okD_104 : okD 104 = true := by decide +kernel
set_option maxRecDepth 100000 in
theorem okD_105 : okD 105 = true := by decide +kernel
set_option maxRecDepth 100000 in
theorem okD_106 : okD 106 = true := by decide +kernel
set_option maxRecDepth 100000 in
theorem okD_107 : okD 107 = true := by decide +kernel
set_option maxRecDepth 100000 in
theorem okD_108 : okD 108 = true := by decide +kernel
set_option maxRecDepth 100000 in
theorem okD_109 : okD 109 = true := by decide +kernel
set_option maxRecDepth 100000 in
theorem okD_110 : okD 110 = true := by decide +kernel
set_option maxRecDepth 100000 in
theorem okD_111 : okD 111 = true := by decide +kernel
set_option maxRecDepth 100000 in
theorem okD_112 : okD 112 = true := by decide +kernel
set_option maxRecDepth 100000 in
theorem okD_113 : okD 113 = true := by decide +kernel
set_option maxRecDepth 100000 in
theorem okD_114 : okD 114 = true := by decide +kernel
set_option maxRecDepth 100000 in
theorem okD_115 : okD 115 = true := by decide +kernel
set_option maxRecDepth 100000 in
theorem okD_116 : okD 116 = true := by decide +kernel
set_option maxRecDepth 100000 in
theorem okD_117 : okD 117 = true := by decide +kernel
set_option maxRecDepth 100000 in
theorem okD_118 : okD 118 = true := by decide +kernel
set_option maxRecDepth 100000 in
theorem okD_119 : okD 119 = true := by decide +kernel
set_option maxRecDepth 100000 in
theorem okD_120 : okD 120 = true := by decide +kernel
set_option maxRecDepth 100000 in
theorem okD_121 : okD 121 = true := by decide +kernel
set_option maxRecDepth 100000 in
theorem okD_122 : okD 122 = true := by decide +kernel
set_option maxRecDepth 100000 in
theorem okD_123 : okD 123 = true := by decide +kernel
set_option maxRecDepth 100000 in
theorem okD_124 : okD 124 = true := by decide +kernel
set_option maxRecDepth 100000 in
theorem okD_125 : okD 125 = true := by decide +kernel
set_option maxRecDepth 100000 in
theorem okD_126 : okD 126 = true := by decide +kernel
set_option maxRecDepth 100000 in
theorem okD_127 : okD 127 = true := by decide +kernel
set_option maxRecDepth 100000 in
theorem okD_128 : okD 128 = true := by decide +kernel
set_option maxRecDepth 100000 in
theorem okD_129 : okD 129 = true := by decide +kernel
set_option maxRecDepth 100000 in
theorem okD_130 : okD 130 = true := by decide +kernel
set_option maxRecDepth 100000 in
theorem okD_131 : okD 131 = true := by decide +kernel
set_option maxRecDepth 100000 in
theorem okD_132 : okD 132 = true := by decide +kernel
set_option maxRecDepth 100000 in
theorem okD_133 : okD 133 = true := by decide +kernel
set_option maxRecDepth 100000 in
theorem okD_134 : okD 134 = true := by decide +kernel
set_option maxRecDepth 100000 in
theorem okD_135 : okD 135 = true := by decide +kernel
set_option maxRecDepth 100000 in
theorem okD_136 : okD 136 = true := by decide +kernel
set_option maxRecDepth 100000 in
theorem okD_137 : okD 137 = true := by decide +kernel
set_option maxRecDepth 100000 in
theorem okD_138 : okD 138 = true := by decide +kernel
set_option maxRecDepth 100000 in
theorem okD_139 : okD 139 = true := by decide +kernel
set_option maxRecDepth 100000 in
theorem okD_140 : okD 140 = true := by decide +kernel
set_option maxRecDepth 100000 in
theorem okD_141 : okD 141 = true := by decide +kernel
set_option maxRecDepth 100000 in
theorem okD_142 : okD 142 = true := by decide +kernel
set_option maxRecDepth 100000 in
theorem okD_143 : okD 143 = true := by decide +kernel
set_option maxRecDepth 100000 in
theorem okD_144 : okD 144 = true := by decide +kernel
set_option maxRecDepth 100000 in
theorem okD_145 : okD 145 = true := by decide +kernel
set_option maxRecDepth 100000 in
theorem okD_146 : okD 146 = true := by decide +kernel
set_option maxRecDepth 100000 in
theorem okD_147 : okD 147 = true := by decide +kernel
set_option maxRecDepth 100000 in
theorem okD_148 : okD 148 = true := by decide +kernel
set_option maxRecDepth 100000 in
theorem okD_149 : okD 149 = true := by decide +kernel
set_option maxRecDepth 100000 in
theorem okD_150 : okD 150 = true := by decide +kernel
set_option maxRecDepth 100000 in
theorem okD_151 : okD 151 = true := by decide +kernel
set_option maxRecDepth 100000 in
theorem okD_152 : okD 152 = true := by decide +kernel
set_option maxRecDepth 100000 in
theorem okD_153 : okD 153 = true := by decide +kernel
set_option maxRecDepth 100000 in
theorem okD_154 : okD 154 = true := by decide +kernel
set_option maxRecDepth 100000 in
theorem okD_155 : okD 155 = true := by decide +kernel
set_option maxRecDepth 100000 in
theorem okD_156 : okD 156 = true := by decide +kernel
set_option maxRecDepth 100000 in
theorem okD_157 : okD 157 = true := by decide +kernel
set_option maxRecDepth 100000 in
theorem okD_158 : okD 158 = true := by decide +kernel
set_option maxRecDepth 100000 in
theorem okD_159 : okD 159 = true := by decide +kernel
set_option maxRecDepth 100000 in
theorem okD_160 : okD 160 = true := by decide +kernel
set_option maxRecDepth 100000 in
theorem okD_161 : okD 161 = true := by decide +kernel
set_option maxRecDepth 100000 in
theorem okD_162 : okD 162 = true := by decide +kernel
set_option maxRecDepth 100000 in
theorem okD_163 : okD 163 = true := by decide +kernel
set_option maxRecDepth 100000 in
theorem okD_164 : okD 164 = true := by decide +kernel
set_option maxRecDepth 100000 in
theorem okD_165 : okD 165 = true := by decide +kernel
set_option maxRecDepth 100000 in
theorem okD_166 : okD 166 = true := by decide +kernel
set_option maxRecDepth 100000 in
theorem okD_167 : okD 167 = true := by decide +kernel
set_option maxRecDepth 100000 in
theorem okD_168 : okD 168 = true := by decide +kernel
set_option maxRecDepth 100000 in
theorem okD_169 : okD 169 = true := by decide +kernel
set_option maxRecDepth 100000 in
theorem okD_170 : okD 170 = true := by decide +kernel
set_option maxRecDepth 100000 in
theorem okD_171 : okD 171 = true := by decide +kernel
set_option maxRecDepth 100000 in
theorem okD_172 : okD 172 = true := by decide +kernel
set_option maxRecDepth 100000 in
theorem okD_173 : okD 173 = true := by decide +kernel
set_option maxRecDepth 100000 in
theorem okD_174 : okD 174 = true := by decide +kernel
theorem okD_all : ∀ k, k < 175 → okD k = true
  | 0, _ => okD_0
  | 1, _ => okD_1
  | 2, _ => okD_2
  | 3, _ => okD_3
  | 4, _ => okD_4
  | 5, _ => okD_5
  | 6, _ => okD_6
  | 7, _ => okD_7
  | 8, _ => okD_8
  | 9, _ => okD_9
  | 10, _ => okD_10
  | 11, _ => okD_11
  | 12, _ => okD_12
  | 13, _ => okD_13
  | 14, _ => okD_14
  | 15, _ => okD_15
  | 16, _ => okD_16
  | 17, _ => okD_17
  | 18, _ => okD_18
  | 19, _ => okD_19
  | 20, _ => okD_20
  | 21, _ => okD_21
  | 22, _ => okD_22
  | 23, _ => okD_23
  | 24, _ => okD_24
  | 25, _ => okD_25
  | 26, _ => okD_26
  | 27, _ => okD_27
  | 28, _ => okD_28
  | 29, _ => okD_29
  | 30, _ => okD_30
  | 31, _ => okD_31
  | 32, _ => okD_32
  | 33, _ => okD_33
  | 34, _ => okD_34
  | 35, _ => okD_35
  | 36, _ => okD_36
  | 37, _ => okD_37
  | 38, _ => okD_38
  | 39, _ => okD_39
  | 40, _ => okD_40
  | 41, _ => okD_41
  | 42, _ => okD_42
  | 43, _ => okD_43
  | 44, _ => okD_44
  | 45, _ => okD_45
  | 46, _ => okD_46
  | 47, _ => okD_47
  | 48, _ => okD_48
  | 49, _ => okD_49
  | 50, _ => okD_50
  | 51, _ => okD_51
  | 52, _ => okD_52
  | 53, _ => okD_53
  | 54, _ => okD_54
  | 55, _ => okD_55
  | 56, _ => okD_56
  | 57, _ => okD_57
  | 58, _ => okD_58
  | 59, _ => okD_59
  | 60, _ => okD_60
  | 61, _ => okD_61
  | 62, _ => okD_62
  | 63, _ => okD_63
  | 64, _ => okD_64
  | 65, _ => okD_65
  | 66, _ => okD_66
  | 67, _ => okD_67
  | 68, _ => okD_68
  | 69, _ => okD_69
  | 70, _ => okD_70
  | 71, _ => okD_71
  | 72, _ => okD_72
  | 73, _ => okD_73
  | 74, _ => okD_74
  | 75, _ => okD_75
  | 76, _ => okD_76
  | 77, _ => okD_77
  | 78, _ => okD_78
  | 79, _ => okD_79
  | 80, _ => okD_80
  | 81, _ => okD_81
  | 82, _ => okD_82
  | 83, _ => okD_83
  | 84, _ => okD_84
  | 85, _ => okD_85
  | 86, _ => okD_86
  | 87, _ => okD_87
  | 88, _ => okD_88
  | 89, _ => okD_89
  | 90, _ => okD_90
  | 91, _ => okD_91
  | 92, _ => okD_92
  | 93, _ => okD_93
  | 94, _ => okD_94
  | 95, _ => okD_95
  | 96, _ => okD_96
  | 97, _ => okD_97
  | 98, _ => okD_98
  | 99, _ => okD_99
  | 100, _ => okD_100
  | 101, _ => okD_101
  | 102, _ => okD_102
  | 103, _ => okD_103
  | 104, _ => okD_104
  | 105, _ => okD_105
  | 106, _ => okD_106
  | 107, _ => okD_107
  | 108, _ => okD_108
  | 109, _ => okD_109
  | 110, _ => okD_110
  | 111, _ => okD_111
  | 112, _ => okD_112
  | 113, _ => okD_113
  | 114, _ => okD_114
  | 115, _ => okD_115
  | 116, _ => okD_116
  | 117, _ => okD_117
  | 118, _ => okD_118
  | 119, _ => okD_119
  | 120, _ => okD_120
  | 121, _ => okD_121
  | 122, _ => okD_122
  | 123, _ => okD_123
  | 124, _ => okD_124
  | 125, _ => okD_125
  | 126, _ => okD_126
  | 127, _ => okD_127
  | 128, _ => okD_128
  | 129, _ => okD_129
  | 130, _ => okD_130
  | 131, _ => okD_131
  | 132, _ => okD_132
  | 133, _ => okD_133
  | 134, _ => okD_134
  | 135, _ => okD_135
  | 136, _ => okD_136
  | 137, _ => okD_137
  | 138, _ => okD_138
  | 139, _ => okD_139
  | 140, _ => okD_140
  | 141, _ => okD_141
  | 142, _ => okD_142
  | 143, _ => okD_143
  | 144, _ => okD_144
  | 145, _ => okD_145
  | 146, _ => okD_146
  | 147, _ => okD_147
  | 148, _ => okD_148
  | 149, _ => okD_149
  | 150, _ => okD_150
  | 151, _ => okD_151
  | 152, _ => okD_152
  | 153, _ => okD_153
  | 154, _ => okD_154
  | 155, _ => okD_155
  | 156, _ => okD_156
  | 157, _ => okD_157
  | 158, _ => okD_158
  | 159, _ => okD_159
  | 160, _ => okD_160
  | 161, _ => okD_161
  | 162, _ => okD_162
  | 163, _ => okD_163
  | 164, _ => okD_164
  | 165, _ => okD_165
  | 166, _ => okD_166
  | 167, _ => okD_167
  | 168, _ => okD_168
  | 169, _ => okD_169
  | 170, _ => okD_170
  | 171, _ => okD_171
  | 172, _ => okD_172
  | 173, _ => okD_173
  | 174, _ => okD_174
  | k + 175, h => absurd h (by omega)
end
section
def okM (k : Nat) : Bool :=
  let y := yM k
  let q := mPs.getD k (0, 0, 0, 0)
  isW q.1 (.code y (bM k) (maxl k) (rM k)) && (if stM k then isW q.2.1 (.static y) else isW q.2.1 (.instanceMethod y)) &&
  ((stM k || isI k) || isW q.2.2.1 (.selects y.cls y y)) && isW q.2.2.2 (.initialized y.cls) && plainName y.cls &&
  decide (y.cls ≠ "java/lang/invoke/MethodHandle") && decide (y.cls ≠ "java/lang/invoke/VarHandle") && decide ((parseMethodDescriptor y.desc).map (fun d => d.parameters.length) = some (nar k - (if stM k then 0 else 1))) &&
  decide (oN (mOs.getD k 0) = y.cls)
set_option maxRecDepth 100000 in
theorem okL_0 : okL 0 = true := by decide +kernel
set_option maxRecDepth 100000 in
theorem okM_0 : okM 0 = true := by decide +kernel
set_option maxRecDepth 100000 in
theorem okL_1 : okL 1 = true := by decide +kernel
set_option maxRecDepth 100000 in
theorem okM_1 : okM 1 = true := by decide +kernel
set_option maxRecDepth 100000 in
theorem okL_2 : okL 2 = true := by decide +kernel
set_option maxRecDepth 100000 in
theorem okM_2 : okM 2 = true := by decide +kernel
set_option maxRecDepth 100000 in
theorem okL_3 : okL 3 = true := by decide +kernel
set_option maxRecDepth 100000 in
theorem okM_3 : okM 3 = true := by decide +kernel
set_option maxRecDepth 100000 in
theorem okL_4 : okL 4 = true := by decide +kernel
set_option maxRecDepth 100000 in
theorem okM_4 : okM 4 = true := by decide +kernel
set_option maxRecDepth 100000 in
theorem okL_5 : okL 5 = true := by decide +kernel
set_option maxRecDepth 100000 in
theorem okM_5 : okM 5 = true := by decide +kernel
set_option maxRecDepth 100000 in
theorem okL_6 : okL 6 = true := by decide +kernel
set_option maxRecDepth 100000 in
theorem okM_6 : okM 6 = true := by decide +kernel
set_option maxRecDepth 100000 in
theorem okL_7 : okL 7 = true := by decide +kernel
set_option maxRecDepth 100000 in
theorem okM_7 : okM 7 = true := by decide +kernel
set_option maxRecDepth 100000 in
theorem okL_8 : okL 8 = true := by decide +kernel
set_option maxRecDepth 100000 in
theorem okM_8 : okM 8 = true := by decide +kernel
set_option maxRecDepth 100000 in
theorem okL_9 : okL 9 = true := by decide +kernel
set_option maxRecDepth 100000 in
theorem okM_9 : okM 9 = true := by decide +kernel
set_option maxRecDepth 100000 in
theorem okL_10 : okL 10 = true := by decide +kernel
set_option maxRecDepth 100000 in
theorem okM_10 : okM 10 = true := by decide +kernel
set_option maxRecDepth 100000 in
theorem okL_11 : okL 11 = true := by decide +kernel
set_option maxRecDepth 100000 in
theorem okM_11 : okM 11 = true := by decide +kernel
set_option maxRecDepth 100000 in
theorem okL_12 : okL 12 = true := by decide +kernel
set_option maxRecDepth 100000 in
theorem okM_12 : okM 12 = true := by decide +kernel
set_option maxRecDepth 100000 in
theorem okL_13 : okL 13 = true := by decide +kernel
set_option maxRecDepth 100000 in
theorem okM_13 : okM 13 = true := by decide +kernel
set_option maxRecDepth 100000 in
theorem okL_14 : okL 14 = true := by decide +kernel
set_option maxRecDepth 100000 in
theorem okM_14 : okM 14 = true := by decide +kernel
set_option maxRecDepth 100000 in
theorem okL_15 : okL 15 = true := by decide +kernel
set_option maxRecDepth 100000 in
theorem okM_15 : okM 15 = true := by decide +kernel
set_option maxRecDepth 100000 in
theorem okL_16 : okL 16 = true := by decide +kernel
set_option maxRecDepth 100000 in
theorem okM_16 : okM 16 = true := by decide +kernel
set_option maxRecDepth 100000 in
theorem okL_17 : okL 17 = true := by decide +kernel
set_option maxRecDepth 100000 in
theorem okM_17 : okM 17 = true := by decide +kernel
set_option maxRecDepth 100000 in
theorem okL_18 : okL 18 = true := by decide +kernel
set_option maxRecDepth 100000 in
theorem okM_18 : okM 18 = true := by decide +kernel
set_option maxRecDepth 100000 in
theorem okL_19 : okL 19 = true := by decide +kernel
set_option maxRecDepth 100000 in
theorem okM_19 : okM 19 = true := by decide +kernel
set_option maxRecDepth 100000 in
theorem okL_20 : okL 20 = true := by decide +kernel
set_option maxRecDepth 100000 in
theorem okM_20 : okM 20 = true := by decide +kernel
set_option maxRecDepth 100000 in
theorem okL_21 : okL 21 = true := by decide +kernel
set_option maxRecDepth 100000 in
theorem okM_21 : okM 21 = true := by decide +kernel
set_option maxRecDepth 100000 in
theorem okL_22 : okL 22 = true := by decide +kernel
set_option maxRecDepth 100000 in
theorem okM_22 : okM 22 = true := by decide +kernel
set_option maxRecDepth 100000 in
theorem okL_23 : okL 23 = true := by decide +kernel
set_option maxRecDepth 100000 in
theorem okM_23 : okM 23 = true := by decide +kernel
set_option maxRecDepth 100000 in
theorem okL_24 : okL 24 = true := by decide +kernel
set_option maxRecDepth 100000 in
theorem okM_24 : okM 24 = true := by decide +kernel
set_option maxRecDepth 100000 in
theorem okL_25 : okL 25 = true := by decide +kernel
set_option maxRecDepth 100000 in
theorem okM_25 : okM 25 = true := by decide +kernel
set_option maxRecDepth 100000 in
theorem okL_26 : okL 26 = true := by decide +kernel
set_option maxRecDepth 100000 in
theorem okM_26 : okM 26 = true := by decide +kernel
set_option maxRecDepth 100000 in
theorem okL_27 : okL 27 = true := by decide +kernel
set_option maxRecDepth 100000 in
theorem okM_27 : okM 27 = true := by decide +kernel
set_option maxRecDepth 100000 in
theorem okL_28 : okL 28 = true := by decide +kernel
set_option maxRecDepth 100000 in
theorem okM_28 : okM 28 = true := by decide +kernel
set_option maxRecDepth 100000 in
theorem okL_29 : okL 29 = true := by decide +kernel
set_option maxRecDepth 100000 in
theorem okM_29 : okM 29 = true := by decide +kernel
set_option maxRecDepth 100000 in
theorem okL_30 : okL 30 = true := by decide +kernel
set_option maxRecDepth 100000 in
theorem okM_30 : okM 30 = true := by decide +kernel
set_option maxRecDepth 100000 in
theorem okL_31 : okL 31 = true := by decide +kernel
set_option maxRecDepth 100000 in
theorem okM_31 : okM 31 = true := by decide +kernel
set_option maxRecDepth 100000 in
theorem okL_32 : okL 32 = true := by decide +kernel
set_option maxRecDepth 100000 in
theorem okM_32 : okM 32 = true := by decide +kernel
set_option maxRecDepth 100000 in
theorem okL_33 : okL 33 = true := by decide +kernel
set_option maxRecDepth 100000 in
theorem okM_33 : okM 33 = true := by decide +kernel
set_option maxRecDepth 100000 in
theorem okL_34 : okL 34 = true := by decide +kernel
set_option maxRecDepth 100000 in
theorem okM_34 : okM 34 = true := by decide +kernel
set_option maxRecDepth 100000 in
theorem okL_35 : okL 35 = true := by decide +kernel
set_option maxRecDepth 100000 in
theorem okM_35 : okM 35 = true := by decide +kernel
set_option maxRecDepth 100000 in
theorem okL_36 : okL 36 = true := by decide +kernel
set_option maxRecDepth 100000 in
theorem okM_36 : okM 36 = true := by decide +kernel
set_option maxRecDepth 100000 in
theorem okL_37 : okL 37 = true := by decide +kernel
set_option maxRecDepth 100000 in
theorem okM_37 : okM 37 = true := by decide +kernel
set_option maxRecDepth 100000 in
theorem okL_38 : okL 38 = true := by decide +kernel
set_option maxRecDepth 100000 in
theorem okM_38 : okM 38 = true := by decide +kernel
set_option maxRecDepth 100000 in
theorem okL_39 : okL 39 = true := by decide +kernel
set_option maxRecDepth 100000 in
theorem okM_39 : okM 39 = true := by decide +kernel
set_option maxRecDepth 100000 in
theorem okL_40 : okL 40 = true := by decide +kernel
set_option maxRecDepth 100000 in
theorem okM_40 : okM 40 = true := by decide +kernel
set_option maxRecDepth 100000 in
theorem okL_41 : okL 41 = true := by decide +kernel
set_option maxRecDepth 100000 in
theorem okM_41 : okM 41 = true := by decide +kernel
set_option maxRecDepth 100000 in
theorem okL_42 : okL 42 = true := by decide +kernel
set_option maxRecDepth 100000 in
theorem okM_42 : okM 42 = true := by decide +kernel
set_option maxRecDepth 100000 in
theorem okL_43 : okL 43 = true := by decide +kernel
set_option maxRecDepth 100000 in
theorem okM_43 : okM 43 = true := by decide +kernel
set_option maxRecDepth 100000 in
theorem okL_44 : okL 44 = true := by decide +kernel
set_option maxRecDepth 100000 in
theorem okM_44 : okM 44 = true := by decide +kernel
set_option maxRecDepth 100000 in
theorem okL_45 : okL 45 = true := by decide +kernel
set_option maxRecDepth 100000 in
theorem okM_45 : okM 45 = true := by decide +kernel
set_option maxRecDepth 100000 in
theorem okL_46 : okL 46 = true := by decide +kernel
set_option maxRecDepth 100000 in
theorem okM_46 : okM 46 = true := by decide +kernel
set_option maxRecDepth 100000 in
theorem okL_47 : okL 47 = true := by decide +kernel
set_option maxRecDepth 100000 in
theorem okM_47 : okM 47 = true := by decide +kernel
set_option maxRecDepth 100000 in
theorem okL_48 : okL 48 = true := by decide +kernel
set_option maxRecDepth 100000 in
theorem okM_48 : okM 48 = true := by decide +kernel
set_option maxRecDepth 100000 in
theorem okL_49 : okL 49 = true := by decide +kernel
set_option maxRecDepth 100000 in
theorem okM_49 : okM 49 = true := by decide +kernel
set_option maxRecDepth 100000 in
theorem okL_50 : okL 50 = true := by decide +kernel
set_option maxRecDepth 100000 in
theorem okM_50 : okM 50 = true := by decide +kernel
set_option maxRecDepth 100000 in
theorem okL_51 : okL 51 = true := by decide +kernel
set_option maxRecDepth 100000 in
theorem okM_51 : okM 51 = true := by decide +kernel
set_option maxRecDepth 100000 in
theorem okL_52 : okL 52 = true := by decide +kernel
set_option maxRecDepth 100000 in
theorem okM_52 : okM 52 = true := by decide +kernel
set_option maxRecDepth 100000 in
theorem okL_53 : okL 53 = true := by decide +kernel
set_option maxRecDepth 100000 in
theorem okM_53 : okM 53 = true := by decide +kernel
set_option maxRecDepth 100000 in
theorem okL_54 : okL 54 = true := by decide +kernel
set_option maxRecDepth 100000 in
theorem okM_54 : okM 54 = true := by decide +kernel
set_option maxRecDepth 100000 in
theorem okL_55 : okL 55 = true := by decide +kernel
set_option maxRecDepth 100000 in
theorem okM_55 : okM 55 = true := by decide +kernel
set_option maxRecDepth 100000 in
theorem okL_56 : okL 56 = true := by decide +kernel
set_option maxRecDepth 100000 in
theorem okM_56 : okM 56 = true := by decide +kernel
set_option maxRecDepth 100000 in
theorem okL_57 : okL 57 = true := by decide +kernel
set_option maxRecDepth 100000 in
theorem okM_57 : okM 57 = true := by decide +kernel
set_option maxRecDepth 100000 in
theorem okL_58 : okL 58 = true := by decide +kernel
set_option maxRecDepth 100000 in
theorem okM_58 : okM 58 = true := by decide +kernel
set_option maxRecDepth 100000 in
theorem okL_59 : okL 59 = true := by decide +kernel
set_option maxRecDepth 100000 in
theorem okM_59 : okM 59 = true := by decide +kernel
set_option maxRecDepth 100000 in
theorem okL_60 : okL 60 = true := by decide +kernel
set_option maxRecDepth 100000 in
theorem okM_60 : okM 60 = true := by decide +kernel
set_option maxRecDepth 100000 in
theorem okL_61 : okL 61 = true := by decide +kernel
set_option maxRecDepth 100000 in
theorem okM_61 : okM 61 = true := by decide +kernel
set_option maxRecDepth 100000 in
theorem okL_62 : okL 62 = true := by decide +kernel
set_option maxRecDepth 100000 in
theorem okM_62 : okM 62 = true := by decide +kernel
set_option maxRecDepth 100000 in
theorem okL_63 : okL 63 = true := by decide +kernel
set_option maxRecDepth 100000 in
theorem okM_63 : okM 63 = true := by decide +kernel
set_option maxRecDepth 100000 in
theorem okL_64 : okL 64 = true := by decide +kernel
set_option maxRecDepth 100000 in
theorem okM_64 : okM 64 = true := by decide +kernel
set_option maxRecDepth 100000 in
theorem okL_65 : okL 65 = true := by decide +kernel
set_option maxRecDepth 100000 in
theorem okM_65 : okM 65 = true := by decide +kernel
set_option maxRecDepth 100000 in
theorem okL_66 : okL 66 = true := by decide +kernel
set_option maxRecDepth 100000 in
theorem okM_66 : okM 66 = true := by decide +kernel
set_option maxRecDepth 100000 in
theorem okL_67 : okL 67 = true := by decide +kernel
set_option maxRecDepth 100000 in
theorem okM_67 : okM 67 = true := by decide +kernel
set_option maxRecDepth 100000 in
theorem okL_68 : okL 68 = true := by decide +kernel
set_option maxRecDepth 100000 in
theorem okM_68 : okM 68 = true := by decide +kernel
set_option maxRecDepth 100000 in
theorem okL_69 : okL 69 = true := by decide +kernel
set_option maxRecDepth 100000 in
theorem okM_69 : okM 69 = true := by decide +kernel
set_option maxRecDepth 100000 in
theorem okL_70 : okL 70 = true := by decide +kernel
set_option maxRecDepth 100000 in
theorem okM_70 : okM 70 = true := by decide +kernel
set_option maxRecDepth 100000 in
theorem okL_71 : okL 71 = true := by decide +kernel
set_option maxRecDepth 100000 in
theorem okM_71 : okM 71 = true := by decide +kernel
set_option maxRecDepth 100000 in
theorem okL_72 : okL 72 = true := by decide +kernel
set_option maxRecDepth 100000 in
theorem okM_72 : okM 72 = true := by decide +kernel
set_option maxRecDepth 100000 in
theorem okL_73 : okL 73 = true := by decide +kernel
set_option maxRecDepth 100000 in
theorem okM_73 : okM 73 = true := by decide +kernel
set_option maxRecDepth 100000 in
theorem okL_74 : okL 74 = true := by decide +kernel
set_option maxRecDepth 100000 in
theorem okM_74 : okM 74 = true := by decide +kernel
set_option maxRecDepth 100000 in
theorem okL_75 : okL 75 = true := by decide +kernel
set_option maxRecDepth 100000 in
theorem okM_75 : okM 75 = true := by decide +kernel
set_option maxRecDepth 100000 in
theorem okL_76 : okL 76 = true := by decide +kernel
set_option maxRecDepth 100000 in
theorem okM_76 : okM 76 = true := by decide +kernel
set_option maxRecDepth 100000 in
theorem okL_77 : okL 77 = true := by decide +kernel
set_option maxRecDepth 100000 in
theorem okM_77 : okM 77 = true := by decide +kernel
set_option maxRecDepth 100000 in
theorem okL_78 : okL 78 = true := by decide +kernel
set_option maxRecDepth 100000 in
theorem okM_78 : okM 78 = true := by decide +kernel
set_option maxRecDepth 100000 in
theorem okL_79 : okL 79 = true := by decide +kernel
set_option maxRecDepth 100000 in
theorem okM_79 : okM 79 = true := by decide +kernel
set_option maxRecDepth 100000 in
theorem okL_80 : okL 80 = true := by decide +kernel
set_option maxRecDepth 100000 in
theorem okM_80 : okM 80 = true := by decide +kernel
set_option maxRecDepth 100000 in
theorem okL_81 : okL 81 = true := by decide +kernel
set_option maxRecDepth 100000 in
theorem okM_81 : okM 81 = true := by decide +kernel
set_option maxRecDepth 100000 in
theorem okL_82 : okL 82 = true := by decide +kernel
set_option maxRecDepth 100000 in
theorem okM_82 : okM 82 = true := by decide +kernel
set_option maxRecDepth 100000 in
theorem okL_83 : okL 83 = true := by decide +kernel
set_option maxRecDepth 100000 in
theorem okM_83 : okM 83 = true := by decide +kernel
set_option maxRecDepth 100000 in
theorem okL_84 : okL 84 = true := by decide +kernel
set_option maxRecDepth 100000 in
theorem okM_84 : okM 84 = true := by decide +kernel
set_option maxRecDepth 100000 in
theorem okL_85 : okL 85 = true := by decide +kernel
set_option maxRecDepth 100000 in
theorem okM_85 : okM 85 = true := by decide +kernel
set_option maxRecDepth 100000 in
theorem okL_86 : okL 86 = true := by decide +kernel
set_option maxRecDepth 100000 in
theorem okM_86 : okM 86 = true := by decide +kernel
set_option maxRecDepth 100000 in
theorem okL_87 : okL 87 = true := by decide +kernel
set_option maxRecDepth 100000 in
theorem okM_87 : okM 87 = true := by decide +kernel
set_option maxRecDepth 100000 in
theorem okL_88 : okL 88 = true := by decide +kernel
set_option maxRecDepth 100000 in
theorem okM_88 : okM 88 = true := by decide +kernel
set_option maxRecDepth 100000 in
theorem okL_89 : okL 89 = true := by decide +kernel
set_option maxRecDepth 100000 in
theorem okM_89 : okM 89 = true := by decide +kernel
set_option maxRecDepth 100000 in
theorem okL_90 : okL 90 = true := by decide +kernel
set_option maxRecDepth 100000 in
theorem okM_90 : okM 90 = true := by decide +kernel
set_option maxRecDepth 100000 in
theorem okL_91 : okL 91 = true := by decide +kernel
set_option maxRecDepth 100000 in
theorem okM_91 : okM 91 = true := by decide +kernel
set_option maxRecDepth 100000 in
theorem okL_92 : okL 92 = true := by decide +kernel
set_option maxRecDepth 100000 in
theorem okM_92 : okM 92 = true := by decide +kernel
set_option maxRecDepth 100000 in
theorem okL_93 : okL 93 = true := by decide +kernel
set_option maxRecDepth 100000 in
theorem okM_93 : okM 93 = true := by decide +kernel
set_option maxRecDepth 100000 in
theorem okL_94 : okL 94 = true := by decide +kernel
set_option maxRecDepth 100000 in
theorem okM_94 : okM 94 = true := by decide +kernel
set_option maxRecDepth 100000 in
theorem okL_95 : okL 95 = true := by decide +kernel
set_option maxRecDepth 100000 in
theorem okM_95 : okM 95 = true := by decide +kernel
set_option maxRecDepth 100000 in
theorem okL_96 : okL 96 = true := by decide +kernel
set_option maxRecDepth 100000 in
theorem okM_96 : okM 96 = true := by decide +kernel
set_option maxRecDepth 100000 in
theorem okL_97 : okL 97 = true := by decide +kernel
set_option maxRecDepth 100000 in
theorem okM_97 : okM 97 = true := by decide +kernel
set_option maxRecDepth 100000 in
theorem okL_98 : okL 98 = true := by decide +kernel
set_option maxRecDepth 100000 in
theorem okM_98 : okM 98 = true := by decide +kernel
set_option maxRecDepth 100000 in
theorem okL_99 : okL 99 = true := by decide +kernel
set_option maxRecDepth 100000 in
theorem okM_99 : okM 99 = true := by decide +kernel
set_option maxRecDepth 100000 in
theorem okL_100 : okL 100 = true := by decide +kernel
set_option maxRecDepth 100000 in
theorem okM_100 : okM 100 = true := by decide +kernel
set_option maxRecDepth 100000 in
theorem okL_101 : okL 101 = true := by decide +kernel
set_option maxRecDepth 100000 in
theorem okM_101 : okM 101 = true := by decide +kernel
set_option maxRecDepth 100000 in
theorem okL_102 : okL 102 = true := by decide +kernel
set_option maxRecDepth 100000 in
theorem okM_102 : okM 102 = true := by decide +kernel
set_option maxRecDepth 100000 in
theorem okL_103 : okL 103 = true := by decide +kernel
set_option maxRecDepth 100000 in
theorem okM_103 : okM 103 = true := by decide +kernel
set_option maxRecDepth 100000 in
theorem okL_104 : okL 104 = true := by decide +kernel
set_option maxRecDepth 100000 in
theorem okM_104 : okM 104 = true := by decide +kernel
set_option maxRecDepth 100000 in
theorem okL_105 : okL 105 = true := by decide +kernel
set_option maxRecDepth 100000 in
theorem okM_105 : okM 105 = true := by decide +kernel
set_option maxRecDepth 100000 in
theorem okL_106 : okL 106 = true := by decide +kernel
set_option maxRecDepth 100000 in
theorem okM_106 : okM 106 = true := by decide +kernel
set_option maxRecDepth 100000 in
theorem okL_107 : okL 107 = true := by decide +kernel
set_option maxRecDepth 100000 in
theorem okM_107 : okM 107 = true := by decide +kernel
set_option maxRecDepth 100000 in
theorem okL_108 : okL 108 = true := by decide +kernel
set_option maxRecDepth 100000 in
theorem okM_108 : okM 108 = true := by decide +kernel
set_option maxRecDepth 100000 in
theorem okL_109 : okL 109 = true := by decide +kernel
set_option maxRecDepth 100000 in
theorem okM_109 : okM 109 = true := by decide +kernel
set_option maxRecDepth 100000 in
theorem okL_110 : okL 110 = true := by decide +kernel
set_option maxRecDepth 100000 in
theorem okM_110 : okM 110 = true := by decide +kernel
set_option maxRecDepth 100000 in
theorem okL_111 : okL 111 = true := by decide +kernel
set_option maxRecDepth 100000 in
theorem okM_111 : okM 111 = true := by decide +kernel
set_option maxRecDepth 100000 in
theorem okL_112 : okL 112 = true := by decide +kernel
set_option maxRecDepth 100000 in
theorem okM_112 : okM 112 = true := by decide +kernel
set_option maxRecDepth 100000 in
theorem okL_113 : okL 113 = true := by decide +kernel
set_option maxRecDepth 100000 in
theorem okM_113 : okM 113 = true := by decide +kernel
set_option maxRecDepth 100000 in
theorem okL_114 : okL 114 = true := by decide +kernel
set_option maxRecDepth 100000 in
theorem okM_114 : okM 114 = true := by decide +kernel
set_option maxRecDepth 100000 in
theorem okL_115 : okL 115 = true := by decide +kernel
set_option maxRecDepth 100000 in
theorem okM_115 : okM 115 = true := by decide +kernel
set_option maxRecDepth 100000 in
theorem okL_116 : okL 116 = true := by decide +kernel
set_option maxRecDepth 100000 in
theorem okM_116 : okM 116 = true := by decide +kernel
set_option maxRecDepth 100000 in
theorem okL_117 : okL 117 = true := by decide +kernel
set_option maxRecDepth 100000 in
theorem okM_117 : okM 117 = true := by decide +kernel
set_option maxRecDepth 100000 in
theorem okL_118 : okL 118 = true := by decide +kernel
set_option maxRecDepth 100000 in
theorem okM_118 : okM 118 = true := by decide +kernel
set_option maxRecDepth 100000 in
theorem okL_119 : okL 119 = true := by decide +kernel
set_option maxRecDepth 100000 in
theorem okM_119 : okM 119 = true := by decide +kernel
set_option maxRecDepth 100000 in
theorem okL_120 : okL 120 = true := by decide +kernel
set_option maxRecDepth 100000 in
theorem okM_120 : okM 120 = true := by decide +kernel
set_option maxRecDepth 100000 in
theorem okL_121 : okL 121 = true := by decide +kernel
set_option maxRecDepth 100000 in
theorem okM_121 : okM 121 = true := by decide +kernel
set_option maxRecDepth 100000 in
theorem okL_122 : okL 122 = true := by decide +kernel
set_option maxRecDepth 100000 in
theorem okM_122 : okM 122 = true := by decide +kernel
set_option maxRecDepth 100000 in
theorem okL_123 : okL 123 = true := by decide +kernel
set_option maxRecDepth 100000 in
theorem okM_123 : okM 123 = true := by decide +kernel
set_option maxRecDepth 100000 in
theorem okL_124 : okL 124 = true := by decide +kernel
set_option maxRecDepth 100000 in
theorem okM_124 : okM 124 = true := by decide +kernel
set_option maxRecDepth 100000 in
theorem okL_125 : okL 125 = true := by decide +kernel
set_option maxRecDepth 100000 in
theorem okM_125 : okM 125 = true := by decide +kernel
set_option maxRecDepth 100000 in
theorem okL_126 : okL 126 = true := by decide +kernel
set_option maxRecDepth 100000 in
theorem okM_126 : okM 126 = true := by decide +kernel
set_option maxRecDepth 100000 in
theorem okL_127 : okL 127 = true := by decide +kernel
set_option maxRecDepth 100000 in
theorem okM_127 : okM 127 = true := by decide +kernel
set_option maxRecDepth 100000 in
theorem okL_128 : okL 128 = true := by decide +kernel
set_option maxRecDepth 100000 in
theorem okM_128 : okM 128 = true := by decide +kernel
set_option maxRecDepth 100000 in
theorem okL_129 : okL 129 = true := by decide +kernel
set_option maxRecDepth 100000 in
theorem okM_129 : okM 129 = true := by decide +kernel
set_option maxRecDepth 100000 in
theorem okL_130 : okL 130 = true := by decide +kernel
set_option maxRecDepth 100000 in
theorem okM_130 : okM 130 = true := by decide +kernel
set_option maxRecDepth 100000 in
theorem okL_131 : okL 131 = true := by decide +kernel
set_option maxRecDepth 100000 in
theorem okM_131 : okM 131 = true := by decide +kernel
set_option maxRecDepth 100000 in
theorem okL_132 : okL 132 = true := by decide +kernel
set_option maxRecDepth 100000 in
theorem okM_132 : okM 132 = true := by decide +kernel
set_option maxRecDepth 100000 in
theorem okL_133 : okL 133 = true := by decide +kernel
set_option maxRecDepth 100000 in
theorem okM_133 : okM 133 = true := by decide +kernel
set_option maxRecDepth 100000 in
theorem okL_134 : okL 134 = true := by decide +kernel
set_option maxRecDepth 100000 in
theorem okM_134 : okM 134 = true := by decide +kernel
set_option maxRecDepth 100000 in
theorem okL_135 : okL 135 = true := by decide +kernel
set_option maxRecDepth 100000 in
theorem okM_135 : okM 135 = true := by decide +kernel
set_option maxRecDepth 100000 in
theorem okL_136 : okL 136 = true := by decide +kernel
set_option maxRecDepth 100000 in
theorem okM_136 : okM 136 = true := by decide +kernel
set_option maxRecDepth 100000 in
theorem okL_137 : okL 137 = true := by decide +kernel
set_option maxRecDepth 100000 in
theorem okM_137 : okM 137 = true := by decide +kernel
set_option maxRecDepth 100000 in
theorem okL_138 : okL 138 = true := by decide +kernel
set_option maxRecDepth 100000 in
theorem okM_138 : okM 138 = true := by decide +kernel
set_option maxRecDepth 100000 in
theorem okL_139 : okL 139 = true := by decide +kernel
set_option maxRecDepth 100000 in
theorem okM_139 : okM 139 = true := by decide +kernel
set_option maxRecDepth 100000 in
theorem okL_140 : okL 140 = true := by decide +kernel
set_option maxRecDepth 100000 in
theorem okM_140 : okM 140 = true := by decide +kernel
set_option maxRecDepth 100000 in
theorem okL_141 : okL 141 = true := by decide +kernel
set_option maxRecDepth 100000 in
theorem okM_141 : okM 141 = true := by decide +kernel
set_option maxRecDepth 100000 in
theorem okL_142 : okL 142 = true := by decide +kernel
set_option maxRecDepth 100000 in
theorem okM_142 : okM 142 = true := by decide +kernel
set_option maxRecDepth 100000 in
theorem okL_143 : okL 143 = true := by decide +kernel
set_option maxRecDepth 100000 in
theorem okM_143 : okM 143 = true := by decide +kernel
set_option maxRecDepth 100000 in
theorem okL_144 : okL 144 = true := by decide +kernel
set_option maxRecDepth 100000 in
theorem okM_144 : okM 144 = true := by decide +kernel
set_option maxRecDepth 100000 in
theorem okL_145 : okL 145 = true := by decide +kernel
set_option maxRecDepth 100000 in
theorem okM_145 : okM 145 = true := by decide +kernel
set_option maxRecDepth 100000 in
theorem okL_146 : okL 146 = true := by decide +kernel
set_option maxRecDepth 100000 in
theorem okM_146 : okM 146 = true := by decide +kernel
set_option maxRecDepth 100000 in
theorem okL_147 : okL 147 = true := by decide +kernel
set_option maxRecDepth 100000 in
theorem okM_147 : okM 147 = true := by decide +kernel
set_option maxRecDepth 100000 in
theorem okL_148 : okL 148 = true := by decide +kernel
set_option maxRecDepth 100000 in
theorem okM_148 : okM 148 = true := by decide +kernel
set_option maxRecDepth 100000 in
theorem okL_149 : okL 149 = true := by decide +kernel
set_option maxRecDepth 100000 in
theorem okM_149 : okM 149 = true := by decide +kernel
set_option maxRecDepth 100000 in
theorem okL_150 : okL 150 = true := by decide +kernel
set_option maxRecDepth 100000 in
theorem okM_150 : okM 150 = true := by decide +kernel
set_option maxRecDepth 100000 in
theorem okL_151 : okL 151 = true := by decide +kernel
set_option maxRecDepth 100000 in
theorem okM_151 : okM 151 = true := by decide +kernel
set_option maxRecDepth 100000 in
theorem okL_152 : okL 152 = true := by decide +kernel
set_option maxRecDepth 100000 in
theorem okM_152 : okM 152 = true := by decide +kernel
set_option maxRecDepth 100000 in
theorem okL_153 : okL 153 = true := by decide +kernel
set_option maxRecDepth 100000 in
theorem okM_153 : okM 153 = true := by decide +kernel
set_option maxRecDepth 100000 in
theorem okL_154 : okL 154 = true := by decide +kernel
set_option maxRecDepth 100000 in
theorem okM_154 : okM 154 = true := by decide +kernel
set_option maxRecDepth 100000 in
theorem okL_155 : okL 155 = true := by decide +kernel
set_option maxRecDepth 100000 in
theorem okM_155 : okM 155 = true := by decide +kernel
set_option maxRecDepth 100000 in
theorem okL_156 : okL 156 = true := by decide +kernel
set_option maxRecDepth 100000 in
theorem okM_156 : okM 156 = true := by decide +kernel
set_option maxRecDepth 100000 in
theorem okL_157 : okL 157 = true := by decide +kernel
set_option maxRecDepth 100000 in
theorem okM_157 : okM 157 = true := by decide +kernel
set_option maxRecDepth 100000 in
theorem okL_158 : okL 158 = true := by decide +kernel
set_option maxRecDepth 100000 in
theorem okM_158 : okM 158 = true := by decide +kernel
set_option maxRecDepth 100000 in
theorem okL_159 : okL 159 = true := by decide +kernel
set_option maxRecDepth 100000 in
theorem okM_159 : okM 159 = true := by decide +kernel
set_option maxRecDepth 100000 in
theorem okL_160 : okL 160 = true := by decide +kernel
set_option maxRecDepth 100000 in
theorem okM_160 : okM 160 = true := by decide +kernel
set_option maxRecDepth 100000 in
theorem okL_161 : okL 161 = true := by decide +kernel
set_option maxRecDepth 100000 in
theorem okM_161 : okM 161 = true := by decide +kernel
set_option maxRecDepth 100000 in
theorem okL_162 : okL 162 = true := by decide +kernel
set_option maxRecDepth 100000 in
theorem okM_162 : okM 162 = true := by decide +kernel
set_option maxRecDepth 100000 in
theorem okL_163 : okL 163 = true := by decide +kernel
set_option maxRecDepth 100000 in
theorem okM_163 : okM 163 = true := by decide +kernel
set_option maxRecDepth 100000 in
theorem okL_164 : okL 164 = true := by decide +kernel
set_option maxRecDepth 100000 in
theorem okM_164 : okM 164 = true := by decide +kernel
set_option maxRecDepth 100000 in
theorem okL_165 : okL 165 = true := by decide +kernel
set_option maxRecDepth 100000 in
theorem okM_165 : okM 165 = true := by decide +kernel
set_option maxRecDepth 100000 in
theorem okL_166 : okL 166 = true := by decide +kernel
set_option maxRecDepth 100000 in
theorem okM_166 : okM 166 = true := by decide +kernel
set_option maxRecDepth 100000 in
theorem okL_167 : okL 167 = true := by decide +kernel
set_option maxRecDepth 100000 in
theorem okM_167 : okM 167 = true := by decide +kernel
set_option maxRecDepth 100000 in
theorem okL_168 : okL 168 = true := by decide +kernel
set_option maxRecDepth 100000 in
theorem okM_168 : okM 168 = true := by decide +kernel
set_option maxRecDepth 100000 in
theorem okL_169 : okL 169 = true := by decide +kernel
set_option maxRecDepth 100000 in
theorem okM_169 : okM 169 = true := by decide +kernel
set_option maxRecDepth 100000 in
theorem okL_170 : okL 170 = true := by decide +kernel
set_option maxRecDepth 100000 in
theorem okM_170 : okM 170 = true := by decide +kernel
set_option maxRecDepth 100000 in
theorem okL_171 : okL 171 = true := by decide +kernel
set_option maxRecDepth 100000 in
theorem okM_171 : okM 171 = true := by decide +kernel
set_option maxRecDepth 100000 in
theorem okL_172 : okL 172 = true := by decide +kernel
set_option maxRecDepth 100000 in
theorem okM_172 : okM 172 = true := by decide +kernel
set_option maxRecDepth 100000 in
theorem okL_173 : okL 173 = true := by decide +kernel
set_option maxRecDepth 100000 in
theorem okM_173 : okM 173 = true := by decide +kernel
set_option maxRecDepth 100000 in
theorem okL_174 : okL 174 = true := by decide +kernel
set_option maxRecDepth 100000 in
theorem okM_174 : okM 174 = true := by decide +kernel
theorem okL_all : ∀ k, k < 175 → okL k = true
  | 0, _ => okL_0
  | 1, _ => okL_1
  | 2, _ => okL_2
  | 3, _ => okL_3
  | 4, _ => okL_4
  | 5, _ => okL_5
  | 6, _ => okL_6
  | 7, _ => okL_7
  | 8, _ => okL_8
  | 9, _ => okL_9
  | 10, _ => okL_10
  | 11, _ => okL_11
  | 12, _ => okL_12
  | 13, _ => okL_13
  | 14, _ => okL_14
  | 15, _ => okL_15
  | 16, _ => okL_16
  | 17, _ => okL_17
  | 18, _ => okL_18
  | 19, _ => okL_19
  | 20, _ => okL_20
  | 21, _ => okL_21
  | 22, _ => okL_22
  | 23, _ => okL_23
  | 24, _ => okL_24
  | 25, _ => okL_25
  | 26, _ => okL_26
  | 27, _ => okL_27
  | 28, _ => okL_28
  | 29, _ => okL_29
  | 30, _ => okL_30
  | 31, _ => okL_31
  | 32, _ => okL_32
  | 33, _ => okL_33
  | 34, _ => okL_34
  | 35, _ => okL_35
  | 36, _ => okL_36
  | 37, _ => okL_37
  | 38, _ => okL_38
  | 39, _ => okL_39
  | 40, _ => okL_40
  | 41, _ => okL_41
  | 42, _ => okL_42
  | 43, _ => okL_43
  | 44, _ => okL_44
  | 45, _ => okL_45
  | 46, _ => okL_46
  | 47, _ => okL_47
  | 48, _ => okL_48
  | 49, _ => okL_49
  | 50, _ => okL_50
  | 51, _ => okL_51
  | 52, _ => okL_52
  | 53, _ => okL_53
  | 54, _ => okL_54
  | 55, _ => okL_55
  | 56, _ => okL_56
  | 57, _ => okL_57
  | 58, _ => okL_58
  | 59, _ => okL_59
  | 60, _ => okL_60
  | 61, _ => okL_61
  | 62, _ => okL_62
  | 63, _ => okL_63
  | 64, _ => okL_64
  | 65, _ => okL_65
  | 66, _ => okL_66
  | 67, _ => okL_67
  | 68, _ => okL_68
  | 69, _ => okL_69
  | 70, _ => okL_70
  | 71, _ => okL_71
  | 72, _ => okL_72
  | 73, _ => okL_73
  | 74, _ => okL_74
  | 75, _ => okL_75
  | 76, _ => okL_76
  | 77, _ => okL_77
  | 78, _ => okL_78
  | 79, _ => okL_79
  | 80, _ => okL_80
  | 81, _ => okL_81
  | 82, _ => okL_82
  | 83, _ => okL_83
  | 84, _ => okL_84
  | 85, _ => okL_85
  | 86, _ => okL_86
  | 87, _ => okL_87
  | 88, _ => okL_88
  | 89, _ => okL_89
  | 90, _ => okL_90
  | 91, _ => okL_91
  | 92, _ => okL_92
  | 93, _ => okL_93
  | 94, _ => okL_94
  | 95, _ => okL_95
  | 96, _ => okL_96
  | 97, _ => okL_97
  | 98, _ => okL_98
  | 99, _ => okL_99
  | 100, _ => okL_100
  | 101, _ => okL_101
  | 102, _ => okL_102
  | 103, _ => okL_103
  | 104, _ => okL_104
  | 105, _ => okL_105
  | 106, _ => okL_106
  | 107, _ => okL_107
  | 108, _ => okL_108
  | 109, _ => okL_109
  | 110, _ => okL_110
  | 111, _ => okL_111
  | 112, _ => okL_112
  | 113, _ => okL_113
  | 114, _ => okL_114
  | 115, _ => okL_115
  | 116, _ => okL_116
  | 117, _ => okL_117
  | 118, _ => okL_118
  | 119, _ => okL_119
  | 120, _ => okL_120
  | 121, _ => okL_121
  | 122, _ => okL_122
  | 123, _ => okL_123
  | 124, _ => okL_124
  | 125, _ => okL_125
  | 126, _ => okL_126
  | 127, _ => okL_127
  | 128, _ => okL_128
  | 129, _ => okL_129
  | 130, _ => okL_130
  | 131, _ => okL_131
  | 132, _ => okL_132
  | 133, _ => okL_133
  | 134, _ => okL_134
  | 135, _ => okL_135
  | 136, _ => okL_136
  | 137, _ => okL_137
  | 138, _ => okL_138
  | 139, _ => okL_139
  | 140, _ => okL_140
  | 141, _ => okL_141
  | 142, _ => okL_142
  | 143, _ => okL_143
  | 144, _ => okL_144
  | 145, _ => okL_145
  | 146, _ => okL_146
  | 147, _ => okL_147
  | 148, _ => okL_148
  | 149, _ => okL_149
  | 150, _ => okL_150
  | 151, _ => okL_151
  | 152, _ => okL_152
  | 153, _ => okL_153
  | 154, _ => okL_154
  | 155, _ => okL_155
  | 156, _ => okL_156
  | 157, _ => okL_157
  | 158, _ => okL_158
  | 159, _ => okL_159
  | 160, _ => okL_160
  | 161, _ => okL_161
  | 162, _ => okL_162
  | 163, _ => okL_163
  | 164, _ => okL_164
  | 165, _ => okL_165
  | 166, _ => okL_166
  | 167, _ => okL_167
  | 168, _ => okL_168
  | 169, _ => okL_169
  | 170, _ => okL_170
  | 171, _ => okL_171
  | 172, _ => okL_172
  | 173, _ => okL_173
  | 174, _ => okL_174
  | k + 175, h => absurd h (by omega)
theorem okM_all : ∀ k, k < 175 → okM k = true
  | 0, _ => okM_0
  | 1, _ => okM_1
  | 2, _ => okM_2
  | 3, _ => okM_3
  | 4, _ => okM_4
  | 5, _ => okM_5
  | 6, _ => okM_6
  | 7, _ => okM_7
  | 8, _ => okM_8
  | 9, _ => okM_9
  | 10, _ => okM_10
  | 11, _ => okM_11
  | 12, _ => okM_12
  | 13, _ => okM_13
  | 14, _ => okM_14
  | 15, _ => okM_15
  | 16, _ => okM_16
  | 17, _ => okM_17
  | 18, _ => okM_18
  | 19, _ => okM_19
  | 20, _ => okM_20
  | 21, _ => okM_21
  | 22, _ => okM_22
  | 23, _ => okM_23
  | 24, _ => okM_24
  | 25, _ => okM_25
  | 26, _ => okM_26
  | 27, _ => okM_27
  | 28, _ => okM_28
  | 29, _ => okM_29
  | 30, _ => okM_30
  | 31, _ => okM_31
  | 32, _ => okM_32
  | 33, _ => okM_33
  | 34, _ => okM_34
  | 35, _ => okM_35
  | 36, _ => okM_36
  | 37, _ => okM_37
  | 38, _ => okM_38
  | 39, _ => okM_39
  | 40, _ => okM_40
  | 41, _ => okM_41
  | 42, _ => okM_42
  | 43, _ => okM_43
  | 44, _ => okM_44
  | 45, _ => okM_45
  | 46, _ => okM_46
  | 47, _ => okM_47
  | 48, _ => okM_48
  | 49, _ => okM_49
  | 50, _ => okM_50
  | 51, _ => okM_51
  | 52, _ => okM_52
  | 53, _ => okM_53
  | 54, _ => okM_54
  | 55, _ => okM_55
  | 56, _ => okM_56
  | 57, _ => okM_57
  | 58, _ => okM_58
  | 59, _ => okM_59
  | 60, _ => okM_60
  | 61, _ => okM_61
  | 62, _ => okM_62
  | 63, _ => okM_63
  | 64, _ => okM_64
  | 65, _ => okM_65
  | 66, _ => okM_66
  | 67, _ => okM_67
  | 68, _ => okM_68
  | 69, _ => okM_69
  | 70, _ => okM_70
  | 71, _ => okM_71
  | 72, _ => okM_72
  | 73, _ => okM_73
  | 74, _ => okM_74
  | 75, _ => okM_75
  | 76, _ => okM_76
  | 77, _ => okM_77
  | 78, _ => okM_78
  | 79, _ => okM_79
  | 80, _ => okM_80
  | 81, _ => okM_81
  | 82, _ => okM_82
  | 83, _ => okM_83
  | 84, _ => okM_84
  | 85, _ => okM_85
  | 86, _ => okM_86
  | 87, _ => okM_87
  | 88, _ => okM_88
  | 89, _ => okM_89
  | 90, _ => okM_90
  | 91, _ => okM_91
  | 92, _ => okM_92
  | 93, _ => okM_93
  | 94, _ => okM_94
  | 95, _ => okM_95
  | 96, _ => okM_96
  | 97, _ => okM_97
  | 98, _ => okM_98
  | 99, _ => okM_99
  | 100, _ => okM_100
  | 101, _ => okM_101
  | 102, _ => okM_102
  | 103, _ => okM_103
  | 104, _ => okM_104
  | 105, _ => okM_105
  | 106, _ => okM_106
  | 107, _ => okM_107
  | 108, _ => okM_108
  | 109, _ => okM_109
  | 110, _ => okM_110
  | 111, _ => okM_111
  | 112, _ => okM_112
  | 113, _ => okM_113
  | 114, _ => okM_114
  | 115, _ => okM_115
  | 116, _ => okM_116
  | 117, _ => okM_117
  | 118, _ => okM_118
  | 119, _ => okM_119
  | 120, _ => okM_120
  | 121, _ => okM_121
  | 122, _ => okM_122
  | 123, _ => okM_123
  | 124, _ => okM_124
  | 125, _ => okM_125
  | 126, _ => okM_126
  | 127, _ => okM_127
  | 128, _ => okM_128
  | 129, _ => okM_129
  | 130, _ => okM_130
  | 131, _ => okM_131
  | 132, _ => okM_132
  | 133, _ => okM_133
  | 134, _ => okM_134
  | 135, _ => okM_135
  | 136, _ => okM_136
  | 137, _ => okM_137
  | 138, _ => okM_138
  | 139, _ => okM_139
  | 140, _ => okM_140
  | 141, _ => okM_141
  | 142, _ => okM_142
  | 143, _ => okM_143
  | 144, _ => okM_144
  | 145, _ => okM_145
  | 146, _ => okM_146
  | 147, _ => okM_147
  | 148, _ => okM_148
  | 149, _ => okM_149
  | 150, _ => okM_150
  | 151, _ => okM_151
  | 152, _ => okM_152
  | 153, _ => okM_153
  | 154, _ => okM_154
  | 155, _ => okM_155
  | 156, _ => okM_156
  | 157, _ => okM_157
  | 158, _ => okM_158
  | 159, _ => okM_159
  | 160, _ => okM_160
  | 161, _ => okM_161
  | 162, _ => okM_162
  | 163, _ => okM_163
  | 164, _ => okM_164
  | 165, _ => okM_165
  | 166, _ => okM_166
  | 167, _ => okM_167
  | 168, _ => okM_168
  | 169, _ => okM_169
  | 170, _ => okM_170
  | 171, _ => okM_171
  | 172, _ => okM_172
  | 173, _ => okM_173
  | 174, _ => okM_174
  | k + 175, h => absurd h (by omega)
def okC (ci : Nat) : Bool := match vwCl[ci]? with
  | some (C, T, N) => (u_ws C T N).all (fun w => decide (w ∈ lw_tbl) && goodWord w) && decide ((Cond.instantiable C N) ∈ lw_tbl) && decide ((Cond.initialized C) ∈ lw_tbl)
  | none => false
set_option maxRecDepth 100000 in
theorem okC_all : ∀ ci, ci < 9 → okC ci = true := by decide +kernel
set_option maxRecDepth 100000 in
theorem w_over : Cond.arrayOver (.object RX1) ∈ lw_tbl := by decide +kernel
set_option maxRecDepth 100000 in
theorem w_arr : Cond.arrayClass .int ∈ lw_tbl := by decide +kernel
set_option maxRecDepth 100000 in
theorem w_math : (Cond.static Lib.Math.abs.name ∈ lw_tbl ∧ Cond.static Lib.Math.max.name ∈ lw_tbl ∧ Cond.static Lib.Math.min.name ∈ lw_tbl) ∧ Cond.initialized "java/lang/Math" ∈ lw_tbl ∧ (Cond.code Lib.Math.abs.name Lib.Math.abs.code 1 (some .int) ∈ lw_tbl ∧ Cond.code Lib.Math.max.name Lib.Math.max.code 2 (some .int) ∈ lw_tbl ∧ Cond.code Lib.Math.min.name Lib.Math.min.code 2 (some .int) ∈ lw_tbl) := by decide +kernel
set_option maxRecDepth 100000 in
theorem w_obj : Cond.instanceMethod objectInit ∈ lw_tbl ∧ Cond.code objectInit ⟨#[0xb1]⟩ 1 none ∈ lw_tbl := by decide +kernel
end
section
/-! ===== what the abstract machine's heap is in the machine ===== -/
theorem i32_toInt {z : Int} (h : inr z) : (i32 z).toInt = z := Int32.toInt_ofInt_of_le (by have := h.1; omega) (by have := h.2; omega)
theorem i32_of (x : Int32) : i32 x.toInt = x := Int32.ofInt_toInt x
theorem inr_toInt (x : Int32) : inr x.toInt := ⟨by have := x.le_toInt; omega, by have := x.toInt_lt; omega⟩
theorem i32_clamp {z : Int} (h : inr z) : (i32 z).toNatClampNeg = z.toNat := Int32.toNatClampNeg_ofInt_of_le (by have := h.1; omega) (by have := h.2; omega)
theorem i32_lt {x y : Int} (hx : inr x) (hy : inr y) : i32 x < i32 y ↔ x < y := by rw [Int32.lt_iff_toInt_lt, i32_toInt hx, i32_toInt hy]
theorem i32_le {x y : Int} (hx : inr x) (hy : inr y) : i32 x ≤ i32 y ↔ x ≤ y := by rw [Int32.le_iff_toInt_le, i32_toInt hx, i32_toInt hy]
theorem i32_eq {x y : Int} (hx : inr x) (hy : inr y) : i32 x = i32 y ↔ x = y := by rw [← Int32.toInt_inj, i32_toInt hx, i32_toInt hy]
theorem i32_0 : i32 0 = 0 := by decide
theorem inr_0 : inr 0 := ⟨by decide, by decide⟩
theorem i32_w2 (f : Int32 → Int32 → Int32) (x y : Int) : i32 (w2 f x y) = f (i32 x) (i32 y) := i32_of _
theorem inr_w2 (f : Int32 → Int32 → Int32) (x y : Int) : inr (w2 f x y) := inr_toInt _
def adr (as : List Nat) (i : Nat) : Nat := as.getD i 0
def cv (as : List Nat) (v : AV) : Value := match v with
  | .inl z => .int (i32 z)
  | .inr (.inl none) => .null
  | .inr (.inl (some i)) => .ref (adr as i)
  | .inr (.inr x) => .double x
def fI (fs : List AV) : Nat → Int32 := fun k => match fs[k]? with | some (.inl z) => i32 z | _ => 0
def fR (as : List Nat) (fs : List AV) : Nat → Option Nat := fun k => match fs[k]? with | some (.inr (.inl (some i))) => some (adr as i) | _ => none
def cellE (cI cG : ClassId) (as : List Nat) (o : AO) : va_E :=
  if o.1 = 100 then .inl (cI, o.2.length, .inl (fI o.2))
  else if o.1 = 101 then .inl (cG, o.2.length, .inr (.inr (.inr (.inr (fR as o.2)))))
  else .inr (o.1, o.2.map (cv as))
def wsO (cI cG : ClassId) (as : List Nat) (h : AH) : va_W := List.zipWith (fun a o => (a, cellE cI cG as o)) as h
/-- in range: whole numbers of 32 bits, references into the heap -/
def wv (n : Nat) (v : AV) : Prop := match v with
  | .inl z => inr z
  | .inr (.inl (some i)) => i < n
  | _ => True
def wl (n : Nat) (l : List AV) : Prop := ∀ v ∈ l, wv n v
def wh (h : AH) : Prop := ∀ o ∈ h, wl h.length o.2
theorem wv_mono {n m : Nat} (h : n ≤ m) {v : AV} (hv : wv n v) : wv m v := by
  rcases v with z | r | x
  · exact hv
  · cases r with
    | none => trivial
    | some i => exact Nat.lt_of_lt_of_le hv h
  · trivial
theorem wl_mono {n m : Nat} (h : n ≤ m) {l : List AV} (hv : wl n l) : wl m l := fun v q => wv_mono h (hv v q)
theorem wl_cons {n : Nat} {v : AV} {l : List AV} : wl n (v :: l) ↔ wv n v ∧ wl n l := by simp [wl]
theorem wl_nil {n : Nat} : wl n [] := fun _ h => by cases h
theorem wl_set {n : Nat} {l : List AV} {i : Nat} {v : AV} (hl : wl n l) (hv : wv n v) : wl n (l.set i v) := by
  intro x hx
  rcases List.mem_or_eq_of_mem_set hx with h | h
  · exact hl x h
  · rw [h]; exact hv
theorem wl_get {n : Nat} {l : List AV} {i : Nat} {v : AV} (hl : wl n l) (h : l[i]? = some v) : wv n v := hl v (List.mem_of_getElem? h)
theorem wl_app {n : Nat} {a b : List AV} : wl n (a ++ b) ↔ wl n a ∧ wl n b := by
  constructor
  · intro h; exact ⟨fun v hv => h v (List.mem_append_left _ hv), fun v hv => h v (List.mem_append_right _ hv)⟩
  · intro h v hv
    rcases List.mem_append.mp hv with q | q
    · exact h.1 v q
    · exact h.2 v q
theorem wh_get {h : AH} {i : Nat} {o : AO} (hw : wh h) (hi : h[i]? = some o) : wl h.length o.2 := hw o (List.mem_of_getElem? hi)
theorem wh_set {h : AH} {i : Nat} {o : AO} (hw : wh h) (ho : wl h.length o.2) : wh (h.set i o) := by
  intro x hx
  rw [List.length_set]
  rcases List.mem_or_eq_of_mem_set hx with q | q
  · exact hw x q
  · rw [q]; exact ho
theorem wh_push {h : AH} {o : AO} (hw : wh h) (ho : wl (h.length + 1) o.2) : wh (h ++ [o]) := by
  intro x hx
  rw [List.length_append]
  rcases List.mem_append.mp hx with q | q
  · exact wl_mono (Nat.le_add_right _ _) (hw x q)
  · rw [List.mem_singleton.mp q]; exact ho
theorem adr_app {as q : List Nat} {i : Nat} (h : i < as.length) : adr (as ++ q) i = adr as i := by
  simp [adr, List.getD_eq_getElem?_getD, List.getElem?_append_left h]
theorem cv_app {as q : List Nat} {v : AV} (h : wv as.length v) : cv (as ++ q) v = cv as v := by
  rcases v with z | r | x
  · rfl
  · cases r with
    | none => rfl
    | some i => simp only [cv]; rw [adr_app h]
  · rfl
theorem cvl_app {as q : List Nat} {l : List AV} (h : wl as.length l) : l.map (cv (as ++ q)) = l.map (cv as) := List.map_congr_left fun v hv => cv_app (h v hv)
theorem fR_app {as q : List Nat} {l : List AV} (h : wl as.length l) : fR (as ++ q) l = fR as l := by
  funext k
  unfold fR
  cases hk : l[k]? with
  | none => rfl
  | some v =>
    have := wl_get h hk
    rcases v with z | r | x
    · rfl
    · cases r with
      | none => rfl
      | some i => simp only []; rw [adr_app this]
    · rfl
theorem cellE_app {cI cG : ClassId} {as q : List Nat} {o : AO} (h : wl as.length o.2) : cellE cI cG (as ++ q) o = cellE cI cG as o := by
  unfold cellE
  rw [cvl_app h, fR_app h]
theorem wsO_len {cI cG : ClassId} {as : List Nat} {h : AH} (hl : as.length = h.length) : (wsO cI cG as h).length = h.length := by simp [wsO, hl]
theorem wsO_get {cI cG : ClassId} {as : List Nat} {h : AH} {i : Nat} {o : AO} (hl : as.length = h.length) (hi : h[i]? = some o) : (wsO cI cG as h)[i]? = some (adr as i, cellE cI cG as o) := by
  have h1 : i < h.length := (List.getElem?_eq_some_iff.mp hi).1
  have h2 : i < as.length := by omega
  simp [wsO, List.getElem?_zipWith, hi, adr, List.getD_eq_getElem?_getD, List.getElem?_eq_getElem h2]
theorem wsO_set {cI cG : ClassId} {as : List Nat} {h : AH} {i : Nat} {o : AO} (hl : as.length = h.length) : (wsO cI cG as h).set i (adr as i, cellE cI cG as o) = wsO cI cG as (h.set i o) := by
  apply List.ext_getElem?
  intro j
  by_cases hj : j < h.length
  · have h2 : j < as.length := by omega
    by_cases hij : i = j
    · subst hij
      rw [List.getElem?_set_self (by rw [wsO_len hl]; exact hj)]
      rw [wsO_get (by rw [List.length_set]; exact hl) (List.getElem?_set_self hj)]
    · rw [List.getElem?_set_ne hij]
      simp [wsO, List.getElem?_zipWith, List.getElem?_set_ne hij]
  · rw [List.getElem?_eq_none (by rw [List.length_set, wsO_len hl]; omega), List.getElem?_eq_none (by rw [wsO_len (by rw [List.length_set]; exact hl), List.length_set]; omega)]
theorem wsO_app {cI cG : ClassId} {as q : List Nat} {h : AH} (hl : as.length = h.length) (hw : wh h) : List.zipWith (fun a o => (a, cellE cI cG (as ++ q) o)) as h = wsO cI cG as h := by
  unfold wsO
  apply List.ext_getElem?
  intro j
  simp only [List.getElem?_zipWith]
  cases ha : as[j]? with
  | none => rfl
  | some a =>
    cases hj : h[j]? with
    | none => rfl
    | some o => simp only []; rw [cellE_app (by rw [hl]; exact wh_get hw hj)]
theorem wsO_push {cI cG : ClassId} {as : List Nat} {h : AH} {q : Nat} {o : AO} (hl : as.length = h.length) (hw : wh h) : wsO cI cG (as ++ [q]) (h ++ [o]) = wsO cI cG as h ++ [(q, cellE cI cG (as ++ [q]) o)] := by
  rw [← wsO_app (q := [q]) hl hw]
  show List.zipWith _ (as ++ [q]) (h ++ [o]) = _
  rw [List.zipWith_append hl]
  rfl
/-! the locals -/
def lvl (as : List Nat) : Nat → List AV → List (Nat × Value)
  | _, [] => []
  | i, .inr (.inr _) :: l => lvl as (i + 1) l
  | i, .inl z :: l => (i, cv as (.inl z)) :: lvl as (i + 1) l
  | i, .inr (.inl r) :: l => (i, cv as (.inr (.inl r))) :: lvl as (i + 1) l
def isDb (v : AV) : Bool := match v with | .inr (.inr _) => true | _ => false
theorem lvl_mem {as : List Nat} {l : List AV} : ∀ {i : Nat} {q : Nat × Value}, q ∈ lvl as i l ↔ ∃ (j : Nat) (v : AV), l[j]? = some v ∧ isDb v = false ∧ q = (i + j, cv as v) := by
  induction l with
  | nil => intro i q; simp [lvl]
  | cons v l ih =>
    intro i q
    have key : (∃ (j : Nat) (w : AV), (v :: l)[j]? = some w ∧ isDb w = false ∧ q = (i + j, cv as w)) ↔ ((isDb v = false ∧ q = (i, cv as v)) ∨ ∃ (j : Nat) (w : AV), l[j]? = some w ∧ isDb w = false ∧ q = (i + 1 + j, cv as w)) := by
      constructor
      · rintro ⟨j, w, h1, h2, h3⟩
        cases j with
        | zero => simp only [List.getElem?_cons_zero, Option.some.injEq] at h1; subst h1; exact Or.inl ⟨h2, h3⟩
        | succ j => simp only [List.getElem?_cons_succ] at h1; exact Or.inr ⟨j, w, h1, h2, by rw [h3]; congr 1; omega⟩
      · rintro (⟨h2, h3⟩ | ⟨j, w, h1, h2, h3⟩)
        · exact ⟨0, v, rfl, h2, h3⟩
        · exact ⟨j + 1, w, by simpa using h1, h2, by rw [h3]; congr 1; omega⟩
    rw [key]
    rcases v with z | r | x
    · simp only [lvl, List.mem_cons, ih, isDb, true_and]
    · simp only [lvl, List.mem_cons, ih, isDb, true_and]
    · simp [lvl, ih, isDb]
theorem lvl_at {as : List Nat} {l : List AV} {ls : Array Slot} {nL i : Nat} {v : AV} (h : lv_has ls nL (lvl as 0 l)) (hi : l[i]? = some v) (hd : isDb v = false) : ls[i]? = some (.val (cv as v)) :=
  h.2.2 (i, cv as v) (lvl_mem.mpr ⟨i, v, hi, hd, by rw [Nat.zero_add]⟩)
theorem cv_cat1 {as : List Nat} {v : AV} (hd : isDb v = false) : (cv as v).category = 1 := by
  rcases v with z | r | x
  · rfl
  · cases r <;> rfl
  · cases hd
theorem lvl_set {as : List Nat} {l : List AV} {ls : Array Slot} {nL i : Nat} {v : AV} (h : lv_has ls nL ((i, cv as v) :: (lvl as 0 l).filter (fun q => !(q.1 == i) && !(q.1 + 1 == i && q.2.category == 2)))) : lv_has ls nL (lvl as 0 (l.set i v)) := by
  refine ⟨h.1, h.2.1, fun q hq => h.2.2 q ?_⟩
  obtain ⟨j, w, h1, h2, h3⟩ := lvl_mem.mp hq
  rw [Nat.zero_add] at h3
  subst h3
  by_cases hij : i = j
  · subst hij
    have hlt : i < l.length := by
      have := (List.getElem?_eq_some_iff.mp h1).1
      rwa [List.length_set] at this
    rw [List.getElem?_set_self hlt] at h1
    cases h1
    exact List.mem_cons_self
  · rw [List.getElem?_set_ne hij] at h1
    refine List.mem_cons_of_mem _ (List.mem_filter.mpr ⟨lvl_mem.mpr ⟨j, w, h1, h2, by rw [Nat.zero_add]⟩, ?_⟩)
    have hji : (j == i) = false := by simp [Ne.symm hij]
    simp [hji, cv_cat1 h2]
theorem lvl_app {as q : List Nat} {l : List AV} (h : wl as.length l) : ∀ i, lvl (as ++ q) i l = lvl as i l := by
  induction l with
  | nil => intro i; rfl
  | cons v l ih =>
    intro i
    have h1 := wl_cons.mp h
    rcases v with z | r | x
    · simp only [lvl]; rw [ih h1.2]; rfl
    · simp only [lvl]; rw [ih h1.2, cv_app h1.1]
    · simp only [lvl]; rw [ih h1.2]
theorem lvl_db {as : List Nat} (n : Nat) : ∀ i, lvl as i (List.replicate n (Db 0)) = [] := by
  induction n with
  | zero => intro i; rfl
  | succ n ih => intro i; rw [List.replicate_succ]; simp only [lvl]; exact ih _
theorem lvl_append {as : List Nat} {a b : List AV} : ∀ i, lvl as i (a ++ b) = lvl as i a ++ lvl as (i + a.length) b := by
  induction a with
  | nil => intro i; rfl
  | cons v l ih =>
    intro i
    rcases v with z | r | x
    · simp only [lvl, List.cons_append, List.length_cons]; rw [ih, show i + (l.length + 1) = i + 1 + l.length by omega]
    · simp only [lvl, List.cons_append, List.length_cons]; rw [ih, show i + (l.length + 1) = i + 1 + l.length by omega]
    · simp only [lvl, List.cons_append, List.length_cons]; rw [ih, show i + (l.length + 1) = i + 1 + l.length by omega]
theorem noDb_cons {v : AV} {l : List AV} : noDb (v :: l) = true ↔ isDb v = false ∧ noDb l = true := by
  rcases v with z | r | x <;> simp [noDb, isDb]
theorem lv_args_eq {as : List Nat} {av : List AV} (hd : noDb av = true) : ∀ i, lv_args i (av.map (cv as)) = lvl as i av := by
  induction av with
  | nil => intro i; rfl
  | cons v l ih =>
    intro i
    have h1 := noDb_cons.mp hd
    have hc : ¬ (cv as v).category = 2 := by rw [cv_cat1 h1.1]; decide
    show (i, cv as v) :: lv_args (if (cv as v).category = 2 then i + 2 else i + 1) (l.map (cv as)) = _
    rw [if_neg hc, ih h1.2]
    rcases v with z | r | x
    · rfl
    · rfl
    · cases h1.1
theorem lg_sl_len {as : List Nat} {av : List AV} (hd : noDb av = true) : (lg_sl (av.map (cv as))).length = av.length := by
  induction av with
  | nil => rfl
  | cons v l ih =>
    have h1 := noDb_cons.mp hd
    have hc : ¬ (cv as v).category = 2 := by rw [cv_cat1 h1.1]; decide
    have := ih h1.2
    simp only [lg_sl, List.map_cons, List.flatMap_cons, if_neg hc, List.length_append, List.length_cons, List.length_nil] at this ⊢
    omega
/-- the cells' slots in all -/
def slO (o : AO) : Nat := if o.1 = 100 ∨ o.1 = 101 then o.2.length else nC o.1
def slN (h : AH) : Nat := (h.map slO).sum
theorem slN_push (h : AH) (o : AO) : slN (h ++ [o]) = slN h + slO o := by simp [slN]
theorem slN_set {h : AH} {i : Nat} {c : Nat} {fs fs' : List AV} (hi : h[i]? = some (c, fs)) (hl : fs'.length = fs.length) : slN (h.set i (c, fs')) = slN h := by
  unfold slN
  congr 1
  apply List.ext_getElem?
  intro j
  by_cases hij : i = j
  · subst hij
    have hlt : i < h.length := (List.getElem?_eq_some_iff.mp hi).1
    rw [List.getElem?_map, List.getElem?_map, List.getElem?_set_self hlt, hi]
    simp [slO, hl]
  · rw [List.getElem?_map, List.getElem?_map, List.getElem?_set_ne hij]
end
section
/-! ===== the abstract machine's steps are the machine's ===== -/
def lwG : List Cond := lw_tbl.filter goodWord
theorem lwG_in {w : Cond} (h : w ∈ lw_tbl) (g : goodWord w = true) : w ∈ lwG := List.mem_filter.mpr ⟨h, g⟩
theorem lwG_good : GoodIn lwG lwG := fun w h => ⟨h, good_of_word (List.mem_filter.mp h).2⟩
def isN (w : Cond) : Bool := match w with | .fieldLinkNest _ _ _ _ _ _ => true | .methodLinkNest _ _ _ _ => true | _ => false
def lwN : List Cond := lw_tbl.filter isN
theorem lwN_in {w : Cond} (h : w ∈ lw_tbl) (g : isN w = true) : w ∈ lwN := List.mem_filter.mpr ⟨h, g⟩
def nestOk (U : State) : Prop := ∀ w ∈ lwN, va_Nw w U
theorem nestOk.warm {s U : State} (hW : s.WarmedH U.vm) (h : nestOk s) : nestOk U := by
  intro w hw
  have h1 := h w hw
  have h2 := (List.mem_filter.mp hw).2
  unfold isN at h2
  split at h2
  · exact va_Nw.warmF hW h1
  · exact va_Nw.warmM hW h1
  · cases h2
theorem nestOk.same {u U : State} (hv : u.vm = U.vm) (h : nestOk u) : nestOk U := by
  intro w hw
  have h1 := h w hw
  have h2 := (List.mem_filter.mp hw).2
  unfold isN at h2
  split at h2
  · exact va_Nw.same rfl hv h1
  · exact va_Nw.same rfl hv h1
  · cases h2
abbrev tyG (cI cG : ClassId) : List (ClassId × FieldType) := [(cI, .int), (cG, .object RX1)]
def Ctx (p : Program) (s : State) (m : MethodId) (args : Array Value) (meth : Method) (c : Code) (D : va_G) (cI cG : ClassId) (k : Nat) : Prop :=
  p.tables.exec = Jvm.exec ∧ c.code = bM k ∧ c.maxLocals = maxl k ∧ s.vm.findClass (oN (mOs.getD k 0)) = some m.cls ∧ (∀ w ∈ lwG, w.before args s = true) ∧ va_K D vwCl (tyG cI cG) s ∧ va_AO RX1 s ∧ meth.locks = false ∧ meth.sig.returnType = rM k ∧ (isI k = true → meth.name = "<init>") ∧ nestOk s
def Wg (p : Program) (l : Launch) (e : Env) (R : Room) (s : State) (m : MethodId) (args : Array Value) (below : List Frame) (meth : Method) (c : Code) (D : va_G) (cI cG : ClassId) (A : Nat → Prop) (Q : State → Prop) (nL : Nat) (as : List Nat) (cells slots pc : Nat) (ls st : List AV) (h : AH) : Prop :=
  ∀ (H : Heap) (locs : List Loc) (lsA : Array Slot), va_P D vwCl (wsO cI cG as h) H → va_D A (wsO cI cG as h) → va_S A s.heap H locs → lv_has lsA nL (lvl as 0 ls) → W p l e R s m args below meth c H locs cells slots Q (F0 m pc lsA (st.map (cv as)))
theorem tgN_ok {pc : Nat} {off : Int} (h : tgB pc off = true) : (pc : Int) + off = ((tgN pc off : Nat) : Int) := by
  have h1 : 0 ≤ (pc : Int) + off := of_decide_eq_true h
  exact (Int.toNat_of_nonneg h1).symm
section Steps
variable {p : Program} {l : Launch} {e : Env} {R : Room} {s : State} {m : MethodId} {args : Array Value} {below : List Frame} {meth : Method} {c : Code} {D : va_G} {cI cG : ClassId} {A : Nat → Prop} {Q : State → Prop} {k nL cells slots pc : Nat} {as : List Nat} {ls st : List AV} {h : AH}
theorem g_iconst (C : Ctx p s m args meth c D cI cG k) {n : Int} (hd : decode (bM k) pc = .ok (.iconst n, 1)) (kk : Wg p l e R s m args below meth c D cI cG A Q nL as cells slots (pc + 1) ls (I n :: st) h) : Wg p l e R s m args below meth c D cI cG A Q nL as cells slots pc ls st h :=
  fun H locs lsA hP hD hS hl => lv_iconst (v := i32 n) C.1 C.2.1 hd rfl (kk H locs lsA hP hD hS hl)
theorem g_bipush (C : Ctx p s m args meth c D cI cG k) {n : Int} (hd : decode (bM k) pc = .ok (.bipush n, 2)) (hn : (Int8.ofInt n).toInt32 = i32 n) (kk : Wg p l e R s m args below meth c D cI cG A Q nL as cells slots (pc + 2) ls (I n :: st) h) : Wg p l e R s m args below meth c D cI cG A Q nL as cells slots pc ls st h :=
  fun H locs lsA hP hD hS hl => lv_bipush (v := i32 n) C.1 C.2.1 hd hn (kk H locs lsA hP hD hS hl)
theorem g_sipush (C : Ctx p s m args meth c D cI cG k) {n : Int} (hd : decode (bM k) pc = .ok (.sipush n, 3)) (hn : (Int16.ofInt n).toInt32 = i32 n) (kk : Wg p l e R s m args below meth c D cI cG A Q nL as cells slots (pc + 3) ls (I n :: st) h) : Wg p l e R s m args below meth c D cI cG A Q nL as cells slots pc ls st h :=
  fun H locs lsA hP hD hS hl => lv_sipush (v := i32 n) C.1 C.2.1 hd hn (kk H locs lsA hP hD hS hl)
theorem g_null (C : Ctx p s m args meth c D cI cG k) (hd : decode (bM k) pc = .ok (.aconst_null, 1)) (kk : Wg p l e R s m args below meth c D cI cG A Q nL as cells slots (pc + 1) ls (Nu :: st) h) : Wg p l e R s m args below meth c D cI cG A Q nL as cells slots pc ls st h :=
  fun H locs lsA hP hD hS hl => lv_null C.1 C.2.1 hd (kk H locs lsA hP hD hS hl)
theorem g_iload_n (C : Ctx p s m args meth c D cI cG k) {i : Fin 4} {z : Int} (hd : decode (bM k) pc = .ok (.iload_n i, 1)) (hi : ls[i.val]? = some (I z)) (kk : Wg p l e R s m args below meth c D cI cG A Q nL as cells slots (pc + 1) ls (I z :: st) h) : Wg p l e R s m args below meth c D cI cG A Q nL as cells slots pc ls st h :=
  fun H locs lsA hP hD hS hl => lv_iload_n (x := i32 z) C.1 C.2.1 hd rfl (lvl_at hl hi rfl) (kk H locs lsA hP hD hS hl)
theorem g_iload (C : Ctx p s m args meth c D cI cG k) {i : Nat} {z : Int} (hd : decode (bM k) pc = .ok (.iload i, 2)) (hi : ls[i]? = some (I z)) (kk : Wg p l e R s m args below meth c D cI cG A Q nL as cells slots (pc + 2) ls (I z :: st) h) : Wg p l e R s m args below meth c D cI cG A Q nL as cells slots pc ls st h :=
  fun H locs lsA hP hD hS hl => lv_iload (x := i32 z) C.1 C.2.1 hd (lvl_at hl hi rfl) (kk H locs lsA hP hD hS hl)
theorem g_aload_n (C : Ctx p s m args meth c D cI cG k) {i : Fin 4} {r : Option Nat} (hd : decode (bM k) pc = .ok (.aload_n i, 1)) (hi : ls[i.val]? = some (.inr (.inl r))) (kk : Wg p l e R s m args below meth c D cI cG A Q nL as cells slots (pc + 1) ls (.inr (.inl r) :: st) h) : Wg p l e R s m args below meth c D cI cG A Q nL as cells slots pc ls st h := by
  intro H locs lsA hP hD hS hl
  have h1 := lvl_at hl hi rfl
  have h2 := kk H locs lsA hP hD hS hl
  cases r with
  | none => exact lv_aload_nN C.1 C.2.1 hd rfl h1 h2
  | some x => exact lv_aload_n C.1 C.2.1 hd rfl h1 h2
theorem g_aload (C : Ctx p s m args meth c D cI cG k) {i : Nat} {r : Option Nat} (hd : decode (bM k) pc = .ok (.aload i, 2)) (hi : ls[i]? = some (.inr (.inl r))) (kk : Wg p l e R s m args below meth c D cI cG A Q nL as cells slots (pc + 2) ls (.inr (.inl r) :: st) h) : Wg p l e R s m args below meth c D cI cG A Q nL as cells slots pc ls st h := by
  intro H locs lsA hP hD hS hl
  have h1 := lvl_at hl hi rfl
  have h2 := kk H locs lsA hP hD hS hl
  cases r with
  | none => exact lv_aloadN C.1 C.2.1 hd h1 h2
  | some x => exact lv_aload C.1 C.2.1 hd h1 h2
theorem g_istore_n (C : Ctx p s m args meth c D cI cG k) {i : Fin 4} {z : Int} (hd : decode (bM k) pc = .ok (.istore_n i, 1)) (hi : i.val < nL) (kk : Wg p l e R s m args below meth c D cI cG A Q nL as cells slots (pc + 1) (ls.set i.val (I z)) st h) : Wg p l e R s m args below meth c D cI cG A Q nL as cells slots pc ls (I z :: st) h :=
  fun H locs lsA hP hD hS hl => lv_istore_n (x := i32 z) C.1 C.2.1 hd rfl hl hi rfl (fun ls' hl' => kk H locs ls' hP hD hS (lvl_set (v := I z) hl'))
theorem g_istore (C : Ctx p s m args meth c D cI cG k) {i : Nat} {z : Int} (hd : decode (bM k) pc = .ok (.istore i, 2)) (hi : i < nL) (kk : Wg p l e R s m args below meth c D cI cG A Q nL as cells slots (pc + 2) (ls.set i (I z)) st h) : Wg p l e R s m args below meth c D cI cG A Q nL as cells slots pc ls (I z :: st) h :=
  fun H locs lsA hP hD hS hl => lv_istore (x := i32 z) C.1 C.2.1 hd hl hi rfl (fun ls' hl' => kk H locs ls' hP hD hS (lvl_set (v := I z) hl'))
theorem g_astore_n (C : Ctx p s m args meth c D cI cG k) {i : Fin 4} {r : Option Nat} (hd : decode (bM k) pc = .ok (.astore_n i, 1)) (hi : i.val < nL) (kk : Wg p l e R s m args below meth c D cI cG A Q nL as cells slots (pc + 1) (ls.set i.val (.inr (.inl r))) st h) : Wg p l e R s m args below meth c D cI cG A Q nL as cells slots pc ls (.inr (.inl r) :: st) h := by
  intro H locs lsA hP hD hS hl
  cases r with
  | none => exact lv_astore_nN C.1 C.2.1 hd rfl hl hi rfl (fun ls' hl' => kk H locs ls' hP hD hS (lvl_set (v := Nu) hl'))
  | some x => exact lv_astore_n C.1 C.2.1 hd rfl hl hi rfl (fun ls' hl' => kk H locs ls' hP hD hS (lvl_set (v := Rf x) hl'))
theorem g_iinc (C : Ctx p s m args meth c D cI cG k) {i : Nat} {n z : Int} (hd : decode (bM k) pc = .ok (.iinc i n, 3)) (hi : ls[i]? = some (I z)) (hn : i < nL) (kk : Wg p l e R s m args below meth c D cI cG A Q nL as cells slots (pc + 3) (ls.set i (I (w2 (· + ·) z n))) st h) : Wg p l e R s m args below meth c D cI cG A Q nL as cells slots pc ls st h := by
  intro H locs lsA hP hD hS hl
  obtain ⟨q, hq⟩ := List.getElem?_of_mem (lvl_mem.mpr ⟨i, I z, hi, rfl, by rw [Nat.zero_add]⟩ : (i, cv as (I z)) ∈ lvl as 0 ls)
  exact lv_iinc (k := q) (x := i32 z) (v := i32 (w2 (· + ·) z n)) C.1 C.2.1 hd hl hq (by rw [i32_w2]; rfl) hn rfl (fun ls' hl' => kk H locs ls' hP hD hS (lvl_set (v := I (w2 (· + ·) z n)) hl'))
theorem Wg_i {f : Int32 → Int32 → Int32} {x y : Int} (kk : Wg p l e R s m args below meth c D cI cG A Q nL as cells slots pc ls (I (w2 f x y) :: st) h) {H : Heap} {locs : List Loc} {lsA : Array Slot} (hP : va_P D vwCl (wsO cI cG as h) H) (hD : va_D A (wsO cI cG as h)) (hS : va_S A s.heap H locs) (hl : lv_has lsA nL (lvl as 0 ls)) : W p l e R s m args below meth c H locs cells slots Q (F0 m pc lsA (.int (f (i32 x) (i32 y)) :: st.map (cv as))) := by
  have h2 := kk H locs lsA hP hD hS hl
  simp only [List.map_cons, cv, i32_w2] at h2
  exact h2
theorem g_iadd (C : Ctx p s m args meth c D cI cG k) {x y : Int} (hd : decode (bM k) pc = .ok (.iadd, 1)) (kk : Wg p l e R s m args below meth c D cI cG A Q nL as cells slots (pc + 1) ls (I (w2 (· + ·) x y) :: st) h) : Wg p l e R s m args below meth c D cI cG A Q nL as cells slots pc ls (I y :: I x :: st) h :=
  fun _ _ _ hP hD hS hl => lv_iadd C.1 C.2.1 hd (Wg_i kk hP hD hS hl)
theorem g_isub (C : Ctx p s m args meth c D cI cG k) {x y : Int} (hd : decode (bM k) pc = .ok (.isub, 1)) (kk : Wg p l e R s m args below meth c D cI cG A Q nL as cells slots (pc + 1) ls (I (w2 (· - ·) x y) :: st) h) : Wg p l e R s m args below meth c D cI cG A Q nL as cells slots pc ls (I y :: I x :: st) h :=
  fun _ _ _ hP hD hS hl => lv_isub C.1 C.2.1 hd (Wg_i kk hP hD hS hl)
theorem g_imul (C : Ctx p s m args meth c D cI cG k) {x y : Int} (hd : decode (bM k) pc = .ok (.imul, 1)) (kk : Wg p l e R s m args below meth c D cI cG A Q nL as cells slots (pc + 1) ls (I (w2 (· * ·) x y) :: st) h) : Wg p l e R s m args below meth c D cI cG A Q nL as cells slots pc ls (I y :: I x :: st) h :=
  fun _ _ _ hP hD hS hl => lv_imul C.1 C.2.1 hd (Wg_i kk hP hD hS hl)
theorem g_iand (C : Ctx p s m args meth c D cI cG k) {x y : Int} (hd : decode (bM k) pc = .ok (.iand, 1)) (kk : Wg p l e R s m args below meth c D cI cG A Q nL as cells slots (pc + 1) ls (I (w2 (· &&& ·) x y) :: st) h) : Wg p l e R s m args below meth c D cI cG A Q nL as cells slots pc ls (I y :: I x :: st) h :=
  fun _ _ _ hP hD hS hl => lv_iand C.1 C.2.1 hd (Wg_i kk hP hD hS hl)
theorem g_ior (C : Ctx p s m args meth c D cI cG k) {x y : Int} (hd : decode (bM k) pc = .ok (.ior, 1)) (kk : Wg p l e R s m args below meth c D cI cG A Q nL as cells slots (pc + 1) ls (I (w2 (· ||| ·) x y) :: st) h) : Wg p l e R s m args below meth c D cI cG A Q nL as cells slots pc ls (I y :: I x :: st) h :=
  fun _ _ _ hP hD hS hl => lv_ior C.1 C.2.1 hd (Wg_i kk hP hD hS hl)
theorem g_ishl (C : Ctx p s m args meth c D cI cG k) {x y : Int} (hd : decode (bM k) pc = .ok (.ishl, 1)) (kk : Wg p l e R s m args below meth c D cI cG A Q nL as cells slots (pc + 1) ls (I (w2 (fun x y => x <<< (y &&& 31)) x y) :: st) h) : Wg p l e R s m args below meth c D cI cG A Q nL as cells slots pc ls (I y :: I x :: st) h :=
  fun _ _ _ hP hD hS hl => lv_ishl C.1 C.2.1 hd (Wg_i kk hP hD hS hl)
theorem g_ishr (C : Ctx p s m args meth c D cI cG k) {x y : Int} (hd : decode (bM k) pc = .ok (.ishr, 1)) (kk : Wg p l e R s m args below meth c D cI cG A Q nL as cells slots (pc + 1) ls (I (w2 (fun x y => x >>> (y &&& 31)) x y) :: st) h) : Wg p l e R s m args below meth c D cI cG A Q nL as cells slots pc ls (I y :: I x :: st) h :=
  fun _ _ _ hP hD hS hl => lv_ishr C.1 C.2.1 hd (Wg_i kk hP hD hS hl)
theorem g_idiv (C : Ctx p s m args meth c D cI cG k) {x y : Int} (hd : decode (bM k) pc = .ok (.idiv, 1)) (hy : inr y) (h0 : y ≠ 0) (kk : Wg p l e R s m args below meth c D cI cG A Q nL as cells slots (pc + 1) ls (I (w2 (· / ·) x y) :: st) h) : Wg p l e R s m args below meth c D cI cG A Q nL as cells slots pc ls (I y :: I x :: st) h :=
  fun _ _ _ hP hD hS hl => lv_idiv C.1 C.2.1 hd (fun q => h0 ((i32_eq hy inr_0).mp (by rw [q, i32_0]))) (Wg_i kk hP hD hS hl)
theorem g_irem (C : Ctx p s m args meth c D cI cG k) {x y : Int} (hd : decode (bM k) pc = .ok (.irem, 1)) (hy : inr y) (h0 : y ≠ 0) (kk : Wg p l e R s m args below meth c D cI cG A Q nL as cells slots (pc + 1) ls (I (w2 (fun x y => x - x / y * y) x y) :: st) h) : Wg p l e R s m args below meth c D cI cG A Q nL as cells slots pc ls (I y :: I x :: st) h :=
  fun _ _ _ hP hD hS hl => lv_irem C.1 C.2.1 hd (fun q => h0 ((i32_eq hy inr_0).mp (by rw [q, i32_0]))) (Wg_i kk hP hD hS hl)
theorem g_ineg (C : Ctx p s m args meth c D cI cG k) {x : Int} (hd : decode (bM k) pc = .ok (.ineg, 1)) (kk : Wg p l e R s m args below meth c D cI cG A Q nL as cells slots (pc + 1) ls (I (w2 (fun x _ => -x) x 0) :: st) h) : Wg p l e R s m args below meth c D cI cG A Q nL as cells slots pc ls (I x :: st) h :=
  fun _ _ _ hP hD hS hl => lv_ineg C.1 C.2.1 hd (Wg_i kk hP hD hS hl)
theorem g_dup (C : Ctx p s m args meth c D cI cG k) {v : AV} (hd : decode (bM k) pc = .ok (.dup, 1)) (hv : isDb v = false) (kk : Wg p l e R s m args below meth c D cI cG A Q nL as cells slots (pc + 1) ls (v :: v :: st) h) : Wg p l e R s m args below meth c D cI cG A Q nL as cells slots pc ls (v :: st) h :=
  fun _ _ _ hP hD hS hl => lv_dup C.1 C.2.1 hd (cv_cat1 hv) (kk _ _ _ hP hD hS hl)
theorem g_pop (C : Ctx p s m args meth c D cI cG k) {v : AV} (hd : decode (bM k) pc = .ok (.pop, 1)) (hv : isDb v = false) (kk : Wg p l e R s m args below meth c D cI cG A Q nL as cells slots (pc + 1) ls st h) : Wg p l e R s m args below meth c D cI cG A Q nL as cells slots pc ls (v :: st) h :=
  fun _ _ _ hP hD hS hl => lv_pop C.1 C.2.1 hd (cv_cat1 hv) (kk _ _ _ hP hD hS hl)
theorem g_dup2 (C : Ctx p s m args meth c D cI cG k) {v u : AV} (hd : decode (bM k) pc = .ok (.dup2, 1)) (hv : isDb v = false) (hu : isDb u = false) (kk : Wg p l e R s m args below meth c D cI cG A Q nL as cells slots (pc + 1) ls (v :: u :: v :: u :: st) h) : Wg p l e R s m args below meth c D cI cG A Q nL as cells slots pc ls (v :: u :: st) h :=
  fun _ _ _ hP hD hS hl => lv_dup2_11 C.1 C.2.1 hd (cv_cat1 hv) (cv_cat1 hu) (kk _ _ _ hP hD hS hl)
theorem W_if {H : Heap} {locs : List Loc} {ls : Array Slot} {st : List Value} {t f : Nat} {b : Bool} (hk : W p l e R s m args below meth c H locs cells slots Q (F0 m (if b then t else f) ls st)) : (b = true → W p l e R s m args below meth c H locs cells slots Q (F0 m t ls st)) ∧ (b = false → W p l e R s m args below meth c H locs cells slots Q (F0 m f ls st)) := by
  constructor
  · intro q; subst q; exact hk
  · intro q; subst q; exact hk
theorem g_icmp (C : Ctx p s m args meth c D cI cG k) {x y : Int} {cn : ClassFile.Cond} {off : Int} (hd : decode (bM k) pc = .ok (.if_icmp cn off, 3)) (ht : tgB pc off = true) (hx : inr x) (hy : inr y) (kk : Wg p l e R s m args below meth c D cI cG A Q nL as cells slots (if cmpB cn x y then tgN pc off else pc + 3) ls st h) : Wg p l e R s m args below meth c D cI cG A Q nL as cells slots pc ls (I y :: I x :: st) h := by
  intro H locs lsA hP hD hS hl
  obtain ⟨k1, k2⟩ := W_if (kk H locs lsA hP hD hS hl)
  cases cn with
  | eq => exact lv_icmp_eq C.1 C.2.1 hd (tgN_ok ht) (fun q => k1 (decide_eq_true ((i32_eq hx hy).mp q))) (fun q => k2 (decide_eq_false (fun w => q ((i32_eq hx hy).mpr w))))
  | ne => exact lv_icmp_ne C.1 C.2.1 hd (tgN_ok ht) (fun q => k1 (decide_eq_true (fun w => q ((i32_eq hx hy).mpr w)))) (fun q => k2 (decide_eq_false (fun w => w ((i32_eq hx hy).mp q))))
  | lt => exact lv_icmp_lt C.1 C.2.1 hd (tgN_ok ht) (fun q => k1 (decide_eq_true ((i32_lt hx hy).mp q))) (fun q => k2 (decide_eq_false (fun w => q ((i32_lt hx hy).mpr w))))
  | ge => exact lv_icmp_ge C.1 C.2.1 hd (tgN_ok ht) (fun q => k1 (decide_eq_true ((i32_le hy hx).mp q))) (fun q => k2 (decide_eq_false (fun w => q ((i32_le hy hx).mpr w))))
  | gt => exact lv_icmp_gt C.1 C.2.1 hd (tgN_ok ht) (fun q => k1 (decide_eq_true ((i32_lt hy hx).mp q))) (fun q => k2 (decide_eq_false (fun w => q ((i32_lt hy hx).mpr w))))
  | le => exact lv_icmp_le C.1 C.2.1 hd (tgN_ok ht) (fun q => k1 (decide_eq_true ((i32_le hx hy).mp q))) (fun q => k2 (decide_eq_false (fun w => q ((i32_le hx hy).mpr w))))
theorem g_if (C : Ctx p s m args meth c D cI cG k) {x : Int} {cn : ClassFile.Cond} {off : Int} (hd : decode (bM k) pc = .ok (.ifCond cn off, 3)) (ht : tgB pc off = true) (hx : inr x) (kk : Wg p l e R s m args below meth c D cI cG A Q nL as cells slots (if cmpB cn x 0 then tgN pc off else pc + 3) ls st h) : Wg p l e R s m args below meth c D cI cG A Q nL as cells slots pc ls (I x :: st) h := by
  intro H locs lsA hP hD hS hl
  obtain ⟨k1, k2⟩ := W_if (kk H locs lsA hP hD hS hl)
  have e0 : (0 : Int32) = i32 0 := i32_0.symm
  have hy := inr_0
  cases cn with
  | eq => exact lv_if_eq C.1 C.2.1 hd (tgN_ok ht) (fun q => k1 (decide_eq_true ((i32_eq hx hy).mp (q.trans e0)))) (fun q => k2 (decide_eq_false (fun w => q (((i32_eq hx hy).mpr w).trans i32_0))))
  | ne => exact lv_if_ne C.1 C.2.1 hd (tgN_ok ht) (fun q => k1 (decide_eq_true (fun w => q (((i32_eq hx hy).mpr w).trans i32_0)))) (fun q => k2 (decide_eq_false (fun w => w ((i32_eq hx hy).mp (q.trans e0)))))
  | lt => exact lv_if_lt C.1 C.2.1 hd (tgN_ok ht) (fun q => k1 (decide_eq_true ((i32_lt hx hy).mp (by rw [i32_0]; exact q)))) (fun q => k2 (decide_eq_false (fun w => q (by have := (i32_lt hx hy).mpr w; rwa [i32_0] at this))))
  | ge => exact lv_if_ge C.1 C.2.1 hd (tgN_ok ht) (fun q => k1 (decide_eq_true ((i32_le hy hx).mp (by rw [i32_0]; exact q)))) (fun q => k2 (decide_eq_false (fun w => q (by have := (i32_le hy hx).mpr w; rwa [i32_0] at this))))
  | gt => exact lv_if_gt C.1 C.2.1 hd (tgN_ok ht) (fun q => k1 (decide_eq_true ((i32_lt hy hx).mp (by rw [i32_0]; exact q)))) (fun q => k2 (decide_eq_false (fun w => q (by have := (i32_lt hy hx).mpr w; rwa [i32_0] at this))))
  | le => exact lv_if_le C.1 C.2.1 hd (tgN_ok ht) (fun q => k1 (decide_eq_true ((i32_le hx hy).mp (by rw [i32_0]; exact q)))) (fun q => k2 (decide_eq_false (fun w => q (by have := (i32_le hx hy).mpr w; rwa [i32_0] at this))))
theorem g_ifnull (C : Ctx p s m args meth c D cI cG k) {r : Option Nat} {off : Int} (hd : decode (bM k) pc = .ok (.ifnull off, 3)) (ht : tgB pc off = true) (kk : Wg p l e R s m args below meth c D cI cG A Q nL as cells slots (match r with | none => tgN pc off | some _ => pc + 3) ls st h) : Wg p l e R s m args below meth c D cI cG A Q nL as cells slots pc ls (.inr (.inl r) :: st) h := by
  intro H locs lsA hP hD hS hl
  have h2 := kk H locs lsA hP hD hS hl
  cases r with
  | none => exact lv_ifnullN C.1 C.2.1 hd (tgN_ok ht) h2
  | some x => exact lv_ifnull C.1 C.2.1 hd h2
theorem g_ifnonnull (C : Ctx p s m args meth c D cI cG k) {r : Option Nat} {off : Int} (hd : decode (bM k) pc = .ok (.ifnonnull off, 3)) (ht : tgB pc off = true) (kk : Wg p l e R s m args below meth c D cI cG A Q nL as cells slots (match r with | none => pc + 3 | some _ => tgN pc off) ls st h) : Wg p l e R s m args below meth c D cI cG A Q nL as cells slots pc ls (.inr (.inl r) :: st) h := by
  intro H locs lsA hP hD hS hl
  have h2 := kk H locs lsA hP hD hS hl
  cases r with
  | none => exact lv_ifnonnullN C.1 C.2.1 hd h2
  | some x => exact lv_ifnonnull C.1 C.2.1 hd (tgN_ok ht) h2
theorem g_goto (C : Ctx p s m args meth c D cI cG k) {off : Int} (hd : decode (bM k) pc = .ok (.goto off, 3)) (ht : tgB pc off = true) (kk : Wg p l e R s m args below meth c D cI cG A Q nL as cells slots (tgN pc off) ls st h) : Wg p l e R s m args below meth c D cI cG A Q nL as cells slots pc ls st h :=
  fun _ _ _ hP hD hS hl => lv_goto C.1 C.2.1 hd (tgN_ok ht) (kk _ _ _ hP hD hS hl)
theorem g_tabOut (C : Ctx p s m args meth c D cI cG k) {d lo hi : Int} {offs : Array Int} {len : Nat} {x : Int} (hd : decode (bM k) pc = .ok (.tableswitch d lo hi offs, len)) (hx : inr x) (hq : x < lo ∨ hi < x) (ht : tgB pc d = true) (kk : Wg p l e R s m args below meth c D cI cG A Q nL as cells slots (tgN pc d) ls st h) : Wg p l e R s m args below meth c D cI cG A Q nL as cells slots pc ls (I x :: st) h :=
  fun _ _ _ hP hD hS hl => lv_tableOut (x := i32 x) C.1 C.2.1 hd (by rw [i32_toInt hx]; exact hq) (tgN_ok ht) (kk _ _ _ hP hD hS hl)
theorem g_tabIn (C : Ctx p s m args meth c D cI cG k) {d lo hi off : Int} {offs : Array Int} {len : Nat} {x : Int} (hd : decode (bM k) pc = .ok (.tableswitch d lo hi offs, len)) (hx : inr x) (hq : ¬ (x < lo ∨ hi < x)) (ho : offs[(x - lo).toNat]? = some off) (ht : tgB pc off = true) (kk : Wg p l e R s m args below meth c D cI cG A Q nL as cells slots (tgN pc off) ls st h) : Wg p l e R s m args below meth c D cI cG A Q nL as cells slots pc ls (I x :: st) h :=
  fun _ _ _ hP hD hS hl => lv_tableIn (x := i32 x) C.1 C.2.1 hd (by rw [i32_toInt hx]; exact fun w => hq (Or.inl w)) (by rw [i32_toInt hx]; exact fun w => hq (Or.inr w)) (by rw [i32_toInt hx]; exact ho) (tgN_ok ht) (kk _ _ _ hP hD hS hl)
theorem g_dconst (C : Ctx p s m args meth c D cI cG k) (hd : decode (bM k) pc = .ok (.dconst 0, 1)) (kk : Wg p l e R s m args below meth c D cI cG A Q nL as cells slots (pc + 1) ls (Db FP.dconst0 :: st) h) : Wg p l e R s m args below meth c D cI cG A Q nL as cells slots pc ls st h :=
  fun _ _ _ hP hD hS hl => lv_dconst0 C.1 C.2.1 hd (kk _ _ _ hP hD hS hl)
theorem g_i2d (C : Ctx p s m args meth c D cI cG k) {x : Int} (hd : decode (bM k) pc = .ok (.i2d, 1)) (kk : Wg p l e R s m args below meth c D cI cG A Q nL as cells slots (pc + 1) ls (Db (FP.i2d (i32 x)) :: st) h) : Wg p l e R s m args below meth c D cI cG A Q nL as cells slots pc ls (I x :: st) h :=
  fun _ _ _ hP hD hS hl => lv_i2d C.1 C.2.1 hd (kk _ _ _ hP hD hS hl)
theorem g_ddiv (C : Ctx p s m args meth c D cI cG k) {x y : UInt64} (hd : decode (bM k) pc = .ok (.ddiv, 1)) (hn : (FP.ddiv x y) &&& 0x7fffffffffffffff ≤ 0x7ff0000000000000) (kk : Wg p l e R s m args below meth c D cI cG A Q nL as cells slots (pc + 1) ls (Db (FP.ddiv x y) :: st) h) : Wg p l e R s m args below meth c D cI cG A Q nL as cells slots pc ls (Db y :: Db x :: st) h :=
  fun _ _ _ hP hD hS hl => lv_ddiv C.1 C.2.1 hd hn (kk _ _ _ hP hD hS hl)
end Steps
end
section
/-! ===== the steps that look at the heap ===== -/
theorem vw_lt {a : Nat} {q : vw_C} (h : vwCl[a]? = some q) : a < 9 := (List.getElem?_eq_some_iff.mp h).1
theorem chkG_spec {own idx a b p : Nat} (h : chkG own idx a b p = true) : ∃ (Cn : String) (T : u_T) (N : Nat), vwCl[a]? = some (Cn, T, N) ∧ b < N ∧ (Cond.fieldLink (oN own) idx (T b).1 (T b).2.1 (T b).2.2.1 ∈ lwG ∨ Cond.fieldLinkNest (oN own) idx (T b).1 (T b).2.1 (T b).2.2.1 "TankDivers" ∈ lwN) := by
  unfold chkG at h
  split at h
  · rename_i Cn T N hq
    simp only [Bool.and_eq_true, Bool.or_eq_true, decide_eq_true_eq] at h
    refine ⟨Cn, T, N, hq, h.1, ?_⟩
    rcases h.2 with w | w
    · exact Or.inl (lwG_in (isW_mem w) rfl)
    · exact Or.inr (lwN_in (isW_mem w) rfl)
  · cases h
theorem chkF_spec {own idx a b p : Nat} (h : chkF own idx a b p = true) : ∃ (Cn : String) (T : u_T) (N : Nat), vwCl[a]? = some (Cn, T, N) ∧ b < N ∧ (Cond.fieldLink (oN own) idx (T b).1 (T b).2.1 (T b).2.2.1 ∈ lwG ∨ Cond.fieldLinkNest (oN own) idx (T b).1 (T b).2.1 (T b).2.2.1 "TankDivers" ∈ lwN) ∧ ((T b).2.2.2 = true → (T b).1 = oN own ∧ Cond.fieldLink (oN own) idx (T b).1 (T b).2.1 (T b).2.2.1 ∈ lwG) := by
  unfold chkF at h
  split at h
  · rename_i Cn T N hq
    simp only [Bool.and_eq_true, Bool.or_eq_true, decide_eq_true_eq, Bool.not_eq_true'] at h
    refine ⟨Cn, T, N, hq, h.1.1, ?_, ?_⟩
    · rcases h.1.2 with w | w
      · exact Or.inl (lwG_in (isW_mem w) rfl)
      · exact Or.inr (lwN_in (isW_mem w) rfl)
    · intro hf
      rcases h.2 with w | w
      · rw [hf] at w; cases w
      · exact ⟨w.1, lwG_in (isW_mem w.2) rfl⟩
  · cases h
theorem okC_spec {a : Nat} {Cn : String} {T : u_T} {N : Nat} (h : vwCl[a]? = some (Cn, T, N)) : (∀ w ∈ u_ws Cn T N, w ∈ lwG) ∧ Cond.instantiable Cn N ∈ lwG ∧ Cond.initialized Cn ∈ lwG := by
  have h1 := okC_all a (vw_lt h)
  unfold okC at h1
  rw [h] at h1
  simp only [Bool.and_eq_true, List.all_eq_true, decide_eq_true_eq] at h1
  exact ⟨fun w hw => lwG_in (h1.1.1 w hw).1 (h1.1.1 w hw).2, lwG_in h1.1.2 rfl, lwG_in h1.2 rfl⟩
def smT (ty : FieldType) : Bool := match ty with | .int => true | .boolean => true | .object _ => true | .array _ => true | _ => false
def okTB (ci : Nat) : Bool := match vwCl[ci]? with
  | some (_, T, N) => decide (∀ k, k < N → parseFieldDescriptor (T k).2.2.1 = some (tyC ci k)) && decide (∀ a, a < N → ∀ b, b < N → a ≠ b → (T a).2.1 ≠ (T b).2.1) && decide (∀ k, k < N → smT (tyC ci k) = true)
  | none => false
set_option maxRecDepth 100000 in
theorem okTB_all : ∀ ci, ci < 9 → okTB ci = true := by decide +kernel
theorem okT_spec {a : Nat} {Cn : String} {T : u_T} {N : Nat} (h : vwCl[a]? = some (Cn, T, N)) : (∀ k, k < N → parseFieldDescriptor (T k).2.2.1 = some (tyC a k)) ∧ (∀ i, i < N → ∀ j, j < N → i ≠ j → (T i).2.1 ≠ (T j).2.1) ∧ ∀ k, k < N → smT (tyC a k) = true := by
  have h1 := okTB_all a (vw_lt h)
  unfold okTB at h1
  rw [h] at h1
  simp only [Bool.and_eq_true, decide_eq_true_eq] at h1
  exact ⟨h1.1.1, h1.1.2, h1.2⟩
theorem fit_spec {as : List Nat} {ty : FieldType} {v : AV} (h : fitV ty v = true) : narrow ty (cv as v) = cv as v ∧ fits ty (cv as v) = true := by
  unfold fitV at h
  split at h
  · exact ⟨rfl, rfl⟩
  · rename_i z
    simp only [Bool.or_eq_true, decide_eq_true_eq] at h
    rcases h with h | h
    · subst h; exact ⟨rfl, rfl⟩
    · subst h; exact ⟨rfl, rfl⟩
  · rename_i r
    cases r <;> exact ⟨rfl, rfl⟩
  · rename_i r
    cases r <;> exact ⟨rfl, rfl⟩
  · cases h
theorem df_spec {as : List Nat} {ty : FieldType} (h : smT ty = true) : defaultValue ty = cv as (dfV ty) := by
  cases ty <;> first | rfl | cases h
theorem cellE_obj {cI cG : ClassId} {as : List Nat} {a : Nat} {fs : List AV} (h : a < 9) : cellE cI cG as (a, fs) = .inr (a, fs.map (cv as)) := by
  unfold cellE
  rw [if_neg (by simp only []; omega), if_neg (by simp only []; omega)]
theorem cellE_int {cI cG : ClassId} {as : List Nat} {fs : List AV} : cellE cI cG as (100, fs) = .inl (cI, fs.length, .inl (fI fs)) := rfl
theorem cellE_ref {cI cG : ClassId} {as : List Nat} {fs : List AV} : cellE cI cG as (101, fs) = .inl (cG, fs.length, .inr (.inr (.inr (.inr (fR as fs))))) := rfl
theorem fI_set {fs : List AV} {n : Nat} {x : Int} (h : n < fs.length) : upd (fI fs) n (i32 x) = fI (fs.set n (I x)) := by
  funext j
  unfold upd fI
  by_cases hj : j = n
  · subst hj; simp [h]
  · rw [if_neg hj, List.getElem?_set_ne (Ne.symm hj)]
theorem fR_set {as : List Nat} {fs : List AV} {n v : Nat} (h : n < fs.length) : va_up (fR as fs) n (some (adr as v)) = fR as (fs.set n (Rf v)) := by
  funext j
  unfold va_up fR
  by_cases hj : j = n
  · subst hj; simp [h]
  · rw [if_neg hj, List.getElem?_set_ne (Ne.symm hj)]
theorem vp_in_i32 {z : Int} {n : Nat} (hz : inr z) (h0 : 0 ≤ z) (hn : z.toNat < n) : vp_in (i32 z) n := by
  unfold vp_in
  rw [i32_clamp hz]
  rintro (h | h)
  · have := (i32_lt hz inr_0).mp (by rw [i32_0]; exact h)
    omega
  · omega
section StepsH
variable {p : Program} {l : Launch} {e : Env} {R : Room} {s : State} {m : MethodId} {args : Array Value} {below : List Frame} {meth : Method} {c : Code} {D : va_G} {cI cG : ClassId} {A : Nat → Prop} {Q : State → Prop} {k nL cells slots pc : Nat} {as : List Nat} {ls st : List AV} {h : AH}
theorem g_getf (C : Ctx p s m args meth c D cI cG k) {idx a b pl i : Nat} {fs : List AV} {v : AV} (hd : decode (bM k) pc = .ok (.getfield idx, 3)) (hl : as.length = h.length) (hc : chkG (mOs.getD k 0) idx a b pl = true) (hi : h[i]? = some (a, fs)) (hv : fs[b]? = some v) (kk : Wg p l e R s m args below meth c D cI cG A Q nL as cells slots (pc + 3) ls (v :: st) h) : Wg p l e R s m args below meth c D cI cG A Q nL as cells slots pc ls (Rf i :: st) h := by
  intro H locs lsA hP hD hS hlv
  obtain ⟨hx, hb, hml, hown, hts, hK, hAO, hlk, hrt, hin, hN⟩ := C
  obtain ⟨Cn, T, N, hq, hbN, hw⟩ := chkG_spec hc
  have he := wsO_get (cI := cI) (cG := cG) hl hi
  rw [cellE_obj (vw_lt hq)] at he
  rcases hw with hw | hw
  · exact va_get hx hb hts (okC_spec hq).1 hown hK hP i he hq b hbN (hts _ hw) (fun _ h9 => h9) (v := cv as v) (by rw [List.getElem?_map, hv]; rfl) hd (kk H locs lsA hP hD hS hlv)
  · exact va_getN hx hb hts (okC_spec hq).1 hown hK hP i he hq b hbN (va_Nw.use rfl (hN _ hw)) (fun _ h9 => h9) (v := cv as v) (by rw [List.getElem?_map, hv]; rfl) hd (kk H locs lsA hP hD hS hlv)
theorem finC_eq {a b : Nat} {Cn : String} {T : u_T} {N : Nat} (hq : vwCl[a]? = some (Cn, T, N)) : finC a b = (T b).2.2.2 := by
  unfold finC
  rw [hq]
theorem g_putf (C : Ctx p s m args meth c D cI cG k) {idx a b pl i : Nat} {fs : List AV} {v : AV} (hd : decode (bM k) pc = .ok (.putfield idx, 3)) (hl : as.length = h.length) (hc : chkF (mOs.getD k 0) idx a b pl = true) (hi : h[i]? = some (a, fs)) (hb9 : b < fs.length) (hf : fitV (tyC a b) v = true) (hfin : finC a b = true → isI k = true) (kk : Wg p l e R s m args below meth c D cI cG A Q nL as cells slots (pc + 3) ls st (h.set i (a, fs.set b v))) : Wg p l e R s m args below meth c D cI cG A Q nL as cells slots pc ls (v :: Rf i :: st) h := by
  intro H locs lsA hP hD hS hlv
  obtain ⟨hx, hb, hml, hown, hts, hK, hAO, hlk, hrt, hin, hN⟩ := C
  obtain ⟨Cn, T, N, hq, hbN, hw, hfw⟩ := chkF_spec hc
  obtain ⟨t1, t2, t3⟩ := okT_spec hq
  have he := wsO_get (cI := cI) (cG := cG) hl hi
  rw [cellE_obj (vw_lt hq)] at he
  have hset : (wsO cI cG as h).set i (adr as i, .inr (a, (fs.map (cv as)).set b (cv as v))) = wsO cI cG as (h.set i (a, fs.set b v)) := by
    rw [← wsO_set hl, cellE_obj (vw_lt hq), List.map_set]
  have kk' : ∀ (H1 : Heap) (locs1 : List Loc), va_P D vwCl ((wsO cI cG as h).set i (adr as i, .inr (a, (fs.map (cv as)).set b (cv as v)))) H1 → va_D A ((wsO cI cG as h).set i (adr as i, .inr (a, (fs.map (cv as)).set b (cv as v)))) → va_S A s.heap H1 locs1 → W p l e R s m args below meth c H1 locs1 cells slots Q (F0 m (pc + 3) lsA (st.map (cv as))) := by
    rw [hset]
    exact fun H1 locs1 hP hD hS => kk H1 locs1 lsA hP hD hS hlv
  have hfit := fit_spec (as := as) hf
  have hbl : b < (fs.map (cv as)).length := by rw [List.length_map]; exact hb9
  cases hfn : (T b).2.2.2 with
  | false =>
    rcases hw with hw | hw
    · exact va_put hx hb hts (okC_spec hq).1 (tyC a) t1 t2 hown hK hP hD hS i he hq b hbN (hts _ hw) (fun _ h9 => h9) hfn (t1 b hbN) hfit.1 hfit.2 hbl hd kk'
    · exact va_putN hx hb hts (okC_spec hq).1 (tyC a) t1 t2 hown hK hP hD hS i he hq b hbN (va_Nw.use rfl (hN _ hw)) (fun _ h9 => h9) hfn (t1 b hbN) hfit.1 hfit.2 hbl hd kk'
  | true =>
    obtain ⟨h1, h2⟩ := hfw hfn
    exact va_putF hx hb hts (okC_spec hq).1 (tyC a) t1 t2 hown hK hP hD hS i he hq b hbN (hts _ h2) (fun _ h9 => h9) hfn (hin (hfin (by rw [finC_eq hq]; exact hfn))) h1 (t1 b hbN) hfit.1 hfit.2 hbl hd kk'
theorem g_iald (C : Ctx p s m args meth c D cI cG k) {i : Nat} {z x : Int} {fs : List AV} (hd : decode (bM k) pc = .ok (.iaload, 1)) (hl : as.length = h.length) (hz : inr z) (h0 : 0 ≤ z) (hi : h[i]? = some (100, fs)) (hv : fs[z.toNat]? = some (I x)) (kk : Wg p l e R s m args below meth c D cI cG A Q nL as cells slots (pc + 1) ls (I x :: st) h) : Wg p l e R s m args below meth c D cI cG A Q nL as cells slots pc ls (I z :: Rf i :: st) h := by
  intro H locs lsA hP hD hS hlv
  obtain ⟨hx, hb, hml, hown, hts, hK, hAO, hlk, hrt, hin, hN⟩ := C
  have he := wsO_get (cI := cI) (cG := cG) hl hi
  rw [cellE_int] at he
  have hlt : z.toNat < fs.length := (List.getElem?_eq_some_iff.mp hv).1
  refine va_iald hx hb hK hP i 0 he rfl (vp_in_i32 hz h0 hlt) hd ?_
  have h2 := kk H locs lsA hP hD hS hlv
  have h3 : fI fs (i32 z).toNatClampNeg = i32 x := by rw [i32_clamp hz]; unfold fI; rw [hv]
  rw [h3]
  exact h2
theorem g_iast (C : Ctx p s m args meth c D cI cG k) {i : Nat} {z x : Int} {fs : List AV} (hd : decode (bM k) pc = .ok (.iastore, 1)) (hl : as.length = h.length) (hz : inr z) (h0 : 0 ≤ z) (hi : h[i]? = some (100, fs)) (hlt : z.toNat < fs.length) (kk : Wg p l e R s m args below meth c D cI cG A Q nL as cells slots (pc + 1) ls st (h.set i (100, fs.set z.toNat (I x)))) : Wg p l e R s m args below meth c D cI cG A Q nL as cells slots pc ls (I x :: I z :: Rf i :: st) h := by
  intro H locs lsA hP hD hS hlv
  obtain ⟨hx, hb, hml, hown, hts, hK, hAO, hlk, hrt, hin, hN⟩ := C
  have he := wsO_get (cI := cI) (cG := cG) hl hi
  rw [cellE_int] at he
  refine va_iast hx hb hK hP hD hS i 0 he rfl (vp_in_i32 hz h0 hlt) hd ?_
  have hset : (wsO cI cG as h).set i (adr as i, .inl (cI, fs.length, .inl (upd (fI fs) (i32 z).toNatClampNeg (i32 x)))) = wsO cI cG as (h.set i (100, fs.set z.toNat (I x))) := by
    rw [← wsO_set hl, cellE_int, i32_clamp hz, fI_set hlt, List.length_set]
  rw [hset]
  exact fun H1 locs1 hP hD hS => kk H1 locs1 lsA hP hD hS hlv
theorem cv_rf {as : List Nat} {r : Option Nat} : cv as (.inr (.inl r)) = va_rf (r.map (adr as)) := by cases r <;> rfl
theorem g_aald (C : Ctx p s m args meth c D cI cG k) {i : Nat} {z : Int} {r : Option Nat} {fs : List AV} (hd : decode (bM k) pc = .ok (.aaload, 1)) (hl : as.length = h.length) (hz : inr z) (h0 : 0 ≤ z) (hi : h[i]? = some (101, fs)) (hv : fs[z.toNat]? = some (.inr (.inl r))) (kk : Wg p l e R s m args below meth c D cI cG A Q nL as cells slots (pc + 1) ls (.inr (.inl r) :: st) h) : Wg p l e R s m args below meth c D cI cG A Q nL as cells slots pc ls (I z :: Rf i :: st) h := by
  intro H locs lsA hP hD hS hlv
  obtain ⟨hx, hb, hml, hown, hts, hK, hAO, hlk, hrt, hin, hN⟩ := C
  have he := wsO_get (cI := cI) (cG := cG) hl hi
  rw [cellE_ref] at he
  have hlt : z.toNat < fs.length := (List.getElem?_eq_some_iff.mp hv).1
  refine va_aldq (C := RX1) hx hb hK hP i 1 he rfl (vp_in_i32 hz h0 hlt) hd ?_
  have h2 := kk H locs lsA hP hD hS hlv
  have h3 : fR as fs (i32 z).toNatClampNeg = r.map (adr as) := by
    rw [i32_clamp hz]; unfold fR; rw [hv]
    cases r <;> rfl
  rw [h3, ← cv_rf]
  exact h2
theorem g_aast (C : Ctx p s m args meth c D cI cG k) {i v : Nat} {z : Int} {fs vs : List AV} (hd : decode (bM k) pc = .ok (.aastore, 1)) (hl : as.length = h.length) (hz : inr z) (h0 : 0 ≤ z) (hi : h[i]? = some (101, fs)) (hv : h[v]? = some (1, vs)) (hlt : z.toNat < fs.length) (kk : Wg p l e R s m args below meth c D cI cG A Q nL as cells slots (pc + 1) ls st (h.set i (101, fs.set z.toNat (Rf v)))) : Wg p l e R s m args below meth c D cI cG A Q nL as cells slots pc ls (Rf v :: I z :: Rf i :: st) h := by
  intro H locs lsA hP hD hS hlv
  obtain ⟨hx, hb, hml, hown, hts, hK, hAO, hlk, hrt, hin, hN⟩ := C
  have he := wsO_get (cI := cI) (cG := cG) hl hi
  rw [cellE_ref] at he
  have he2 := wsO_get (cI := cI) (cG := cG) hl hv
  rw [cellE_obj (by decide)] at he2
  refine va_astq (r := (RX1, TX1, 10)) hx hb hK hP hD hS i 1 v 1 he rfl he2 rfl (vp_in_i32 hz h0 hlt) hd ?_
  have hset : (wsO cI cG as h).set i (adr as i, .inl (cG, fs.length, .inr (.inr (.inr (.inr (va_up (fR as fs) (i32 z).toNatClampNeg (some (adr as v)))))))) = wsO cI cG as (h.set i (101, fs.set z.toNat (Rf v))) := by
    rw [← wsO_set hl, cellE_ref, i32_clamp hz, fR_set hlt, List.length_set]
  rw [hset]
  exact fun H1 locs1 hP hD hS => kk H1 locs1 lsA hP hD hS hlv
theorem g_alen (C : Ctx p s m args meth c D cI cG k) {i a : Nat} {fs : List AV} (hd : decode (bM k) pc = .ok (.arraylength, 1)) (hl : as.length = h.length) (ha : a = 100 ∨ a = 101) (hi : h[i]? = some (a, fs)) (kk : Wg p l e R s m args below meth c D cI cG A Q nL as cells slots (pc + 1) ls (I (fs.length : Int) :: st) h) : Wg p l e R s m args below meth c D cI cG A Q nL as cells slots pc ls (Rf i :: st) h := by
  intro H locs lsA hP hD hS hlv
  obtain ⟨hx, hb, hml, hown, hts, hK, hAO, hlk, hrt, hin, hN⟩ := C
  have he := wsO_get (cI := cI) (cG := cG) hl hi
  have h2 := kk H locs lsA hP hD hS hlv
  have h3 : Int32.ofNat fs.length = i32 (fs.length : Int) := Int32.ofInt_eq_ofNat.symm
  rcases ha with rfl | rfl
  · rw [cellE_int] at he
    exact va_alen (ty := .int) hx hb hK hP i 0 he rfl h3 hd h2
  · rw [cellE_ref] at he
    exact va_alen (ty := .object RX1) hx hb hK hP i 1 he rfl h3 hd h2
end StepsH
end
section
/-! ===== making objects, calls, returns ===== -/
def dflO (a : Nat) : List AV := (List.range (nC a)).map fun k => dfV (tyC a k)
theorem dfV_wv (n : Nat) (ty : FieldType) : wv n (dfV ty) := by
  unfold dfV
  split
  · trivial
  · trivial
  · exact inr_0
theorem dflO_wl (n a : Nat) : wl n (dflO a) := by
  intro v hv
  obtain ⟨k, -, rfl⟩ := List.mem_map.mp hv
  exact dfV_wv n _
theorem nC_eq {a : Nat} {Cn : String} {T : u_T} {N : Nat} (h : vwCl[a]? = some (Cn, T, N)) : nC a = N := by
  unfold nC
  rw [h]
theorem adr_last {as : List Nat} {q n : Nat} (h : as.length = n) : adr (as ++ [q]) n = q := by
  subst h
  simp [adr, List.getD_eq_getElem?_getD]
theorem okL_spec {k : Nat} (hk : k < 175) {e : AE} (he : e ∈ codes.getD k []) : chkL e = true ∧ chkO (mOs.getD k 0) e = true := by
  have h := List.all_eq_true.mp (okL_all k hk) e he
  simpa only [Bool.and_eq_true] using h
theorem okD_spec {k : Nat} (hk : k < 175) {e : AE} (he : e ∈ codes.getD k []) : decode (bM k) e.1 = .ok (e.2.1, e.2.2.1) :=
  of_decide_eq_true (List.all_eq_true.mp (okD_all k hk) e he)
theorem cd_mem {k pc : Nat} {e : AE} (h : cd k pc = some e) : e ∈ codes.getD k [] ∧ e.1 = pc := by
  refine ⟨List.mem_of_find?_eq_some h, ?_⟩
  have := List.find?_some h
  simpa using this
theorem okM_spec {k : Nat} (hk : k < 175) : Cond.code (yM k) (bM k) (maxl k) (rM k) ∈ lwG ∧ (if stM k then Cond.static (yM k) ∈ lwG else Cond.instanceMethod (yM k) ∈ lwG) ∧ (stM k = false → isI k = false → Cond.selects (yM k).cls (yM k) (yM k) ∈ lwG) ∧ Cond.initialized (yM k).cls ∈ lwG ∧ plainName (yM k).cls = true ∧ ((yM k).cls ≠ "java/lang/invoke/MethodHandle" ∧ (yM k).cls ≠ "java/lang/invoke/VarHandle") ∧ (parseMethodDescriptor (yM k).desc).map (fun d => d.parameters.length) = some (nar k - (if stM k then 0 else 1)) ∧ oN (mOs.getD k 0) = (yM k).cls := by
  have h := okM_all k hk
  unfold okM at h
  simp only [Bool.and_eq_true, decide_eq_true_eq] at h
  obtain ⟨⟨⟨⟨⟨⟨⟨⟨h1, h2⟩, h3⟩, h4⟩, h5⟩, h6⟩, h7⟩, h8⟩, h9⟩ := h
  refine ⟨lwG_in (isW_mem h1) rfl, ?_, ?_, lwG_in (isW_mem h4) rfl, h5, ⟨h6, h7⟩, h8, h9⟩
  · by_cases q : stM k = true
    · rw [if_pos q] at h2 ⊢
      exact lwG_in (isW_mem h2) rfl
    · rw [if_neg q] at h2 ⊢
      exact lwG_in (isW_mem h2) rfl
  · intro q1 q2
    rw [q1, q2] at h3
    simp only [Bool.or_self, Bool.false_or] at h3
    exact lwG_in (isW_mem h3) rfl
/-- a world behind a call -/
def Qcn (D : va_G) (cI cG : ClassId) (as : List Nat) (h' : AH) (r : Option AV) (A : Nat → Prop) : Array Value → State → Outcome → State → Prop := fun _ st oc t =>
  (∃ as' : List Nat, as <+: as' ∧ oc = .returned (r.map (cv as')) ∧ as'.length = h'.length ∧ va_P D vwCl (wsO cI cG as' h') t.heap ∧ va_D A (wsO cI cG as' h')) ∧ va_F A st t
def Pcn (D : va_G) (cI cG : ClassId) (as : List Nat) (av : List AV) (h : AH) (sz : Nat) : Array Value → State → Prop :=
  va_Pc (av.map (cv as)) (fun U => U.heap.size = sz ∧ va_P D vwCl (wsO cI cG as h) U.heap ∧ va_K D vwCl (tyG cI cG) U ∧ va_AO RX1 U ∧ nestOk U ∧ va_D (fun _ => True) (wsO cI cG as h))
def wsM (k : Nat) : List Cond := Cond.code (yM k) (bM k) (maxl k) (rM k) :: lwG
def rmM (k : Nat) (h h' : AH) : Room := { frames := dpM k, cells := h'.length - h.length, slots := slN h' - slN h, locals := lcM k }
/-- a method's contract, for one run of the abstract machine -/
def Cok (l : Launch) (D : va_G) (cI cG : ClassId) (k : Nat) (as : List Nat) (av : List AV) (h : AH) (r : Option AV) (h' : AH) : Prop := ∀ sz : Nat,
  Met l (yM k) (wsM k) (rmM k h h') (Pcn D cI cG as av h sz) (Qcn D cI cG as h' r (va_A (wsO cI cG as h) sz)) (h'.length - h.length) (slN h' - slN h) (va_A (wsO cI cG as h) sz)
theorem lwG_goodM {k : Nat} (hk : k < 175) : GoodIn lwG (wsM k) := fun w hw => by
  rcases List.mem_cons.mp hw with q | q
  · rw [q]; exact lwG_good _ (okM_spec hk).1
  · exact lwG_good _ q
theorem free_all {A0 : Nat → Prop} {ws : va_W} {H0 H : Heap} {locs : List Loc} (hD : va_D A0 ws) (hS : va_S A0 H0 H locs) (hA : ∀ q, H0.size ≤ q → A0 q) : ∀ q, va_A ws H.size q → A0 q := by
  intro q h
  rcases h with ⟨k, e, h⟩ | h
  · exact hD.2 k (q, e) h
  · exact hA q (Nat.le_trans hS.1 h)
theorem popA_spec {n : Nat} {st av rest : List AV} (h : popA n st = some (av, rest)) : st = av.reverse ++ rest ∧ av.length = n := by
  unfold popA at h
  split at h
  · cases h
    rename_i hn
    refine ⟨by rw [List.reverse_reverse, List.take_append_drop], by simp [hn]⟩
  · cases h
section Calls
variable {p : Program} {l : Launch} {e : Env} {R : Room} {s : State} {m : MethodId} {args : Array Value} {below : List Frame} {meth : Method} {c : Code} {D : va_G} {cI cG : ClassId} {A : Nat → Prop} {Q : State → Prop} {k nL cells slots pc : Nat} {as : List Nat} {ls st : List AV} {h : AH}
theorem g_new (C : Ctx p s m args meth c D cI cG k) {idx a pl : Nat} (hl : as.length = h.length) (hw : wh h) (hwl : wl h.length ls) (hws : wl h.length st) (hd : decode (bM k) pc = .ok (.new idx, 3)) (hc : chkO (mOs.getD k 0) (pc, .new idx, 3, a, 0, pl) = true) (hA : ∀ q, s.heap.size ≤ q → A q) (hcells : cells + 1 ≤ R.cells) (hslots : slots + nC a ≤ R.slots)
    (kk : ∀ q : Nat, Wg p l e R s m args below meth c D cI cG A Q nL (as ++ [q]) (cells + 1) (slots + nC a) (pc + 3) ls (Rf h.length :: st) (h ++ [(a, dflO a)])) : Wg p l e R s m args below meth c D cI cG A Q nL as cells slots pc ls st h := by
  intro H locs lsA hP hD hS hlv
  obtain ⟨hx, hb, hml, hown, hts, hK, hAO, hlk, hrt, hin, hN⟩ := C
  unfold chkO at hc
  simp only [] at hc
  split at hc
  · rename_i Cn T N hq
    obtain ⟨o1, o2, o3⟩ := okC_spec hq
    obtain ⟨t1, t2, t3⟩ := okT_spec hq
    have hn := nC_eq hq
    refine va_new (ci := a) (fs := (dflO a).map (cv as)) hx hb hts o1 (tyC a) t1 hown (hts _ (lwG_in (isW_mem hc) rfl)) (hts _ o2) (hts _ o3) hK hP hD hS hA hq ?_ hcells (by rw [← hn]; exact hslots) hd ?_
    · intro j hj
      rw [df_spec (as := as) (t3 j hj)]
      simp only [vp_V, dflO, List.getD_eq_getElem?_getD, List.getElem?_map, hn, List.getElem?_range hj, Option.map_some, Option.getD_some]
    · intro q H1 hP hD hS
      have e1 : wsO cI cG as h ++ [(q, .inr (a, (dflO a).map (cv as)))] = wsO cI cG (as ++ [q]) (h ++ [(a, dflO a)]) := by
        rw [wsO_push hl hw, cellE_obj (vw_lt hq), cvl_app (dflO_wl _ _)]
      rw [e1] at hP hD
      have h2 := kk q H1 locs lsA hP hD hS (by rw [lvl_app (by rw [hl]; exact hwl)]; exact hlv)
      rw [List.map_cons, cvl_app (by rw [hl]; exact hws)] at h2
      rw [hn] at h2
      have h3 : cv (as ++ [q]) (Rf h.length) = .ref q := by
        show Value.ref (adr (as ++ [q]) h.length) = _
        rw [adr_last hl]
      rw [h3] at h2
      exact h2
  · cases hc
theorem fI_rep (n : Nat) : fI (List.replicate n (I 0)) = fun _ => 0 := by
  funext k
  unfold fI
  by_cases hk : k < n
  · simp [hk, i32_0]
  · simp [hk]
theorem fR_rep {as : List Nat} (n : Nat) : fR as (List.replicate n Nu) = fun _ => none := by
  funext k
  unfold fR
  by_cases hk : k < n
  · simp [hk]
  · simp [hk]
theorem g_newa (C : Ctx p s m args meth c D cI cG k) {n : Int} (hl : as.length = h.length) (hw : wh h) (hwl : wl h.length ls) (hws : wl h.length st) (hd : decode (bM k) pc = .ok (.newarray .int, 2)) (h0 : 0 ≤ n) (h1 : n ≤ 1000000) (hA : ∀ q, s.heap.size ≤ q → A q) (hcells : cells + 1 ≤ R.cells) (hslots : slots + n.toNat ≤ R.slots)
    (kk : ∀ q : Nat, Wg p l e R s m args below meth c D cI cG A Q nL (as ++ [q]) (cells + 1) (slots + n.toNat) (pc + 2) ls (Rf h.length :: st) (h ++ [(100, List.replicate n.toNat (I 0))])) : Wg p l e R s m args below meth c D cI cG A Q nL as cells slots pc ls (I n :: st) h := by
  intro H locs lsA hP hD hS hlv
  obtain ⟨hx, hb, hml, hown, hts, hK, hAO, hlk, hrt, hin, hN⟩ := C
  have hn : inr n := ⟨by omega, by omega⟩
  refine va_newa (atype := .int) (ty := .int) (N' := n.toNat) (a0 := (n.toNat, .inl (fun _ => 0))) (n := i32 n) hx hb (hts _ (lwG_in w_arr rfl)) rfl hK hP hD hS hA (fun cA => rfl) ?_ (i32_clamp hn) ?_ hcells hslots hd ?_
  · intro q
    have := (i32_lt hn inr_0).mp (by rw [i32_0]; exact q)
    omega
  · show n.toNat * 4 ≤ 536870912
    omega
  · intro q cA H1 hK2 hP hD hS
    have e0 : cA = cI := by
      have a1 := (hK2.2 2 (cA, .int) rfl).2
      have a2 := (hK.2 0 (cI, .int) rfl).2
      exact Option.some.inj (a1.symm.trans a2)
    subst e0
    have e1 : wsO cA cG as h ++ [(q, .inl (cA, n.toNat, .inl (fun _ => 0)))] = wsO cA cG (as ++ [q]) (h ++ [(100, List.replicate n.toNat (I 0))]) := by
      rw [wsO_push hl hw, cellE_int, fI_rep, List.length_replicate]
    rw [e1] at hP hD
    have h2 := kk q H1 locs lsA hP hD hS (by rw [lvl_app (by rw [hl]; exact hwl)]; exact hlv)
    rw [List.map_cons, cvl_app (by rw [hl]; exact hws)] at h2
    have h3 : cv (as ++ [q]) (Rf h.length) = .ref q := by
      show Value.ref (adr (as ++ [q]) h.length) = _
      rw [adr_last hl]
    rw [h3] at h2
    exact h2
theorem g_anew (C : Ctx p s m args meth c D cI cG k) {n : Int} {idx : Nat} (hl : as.length = h.length) (hw : wh h) (hwl : wl h.length ls) (hws : wl h.length st) (hd : decode (bM k) pc = .ok (.anewarray idx, 3)) (hc : Cond.classLink (oN (mOs.getD k 0)) idx RX1 ∈ lwG) (h0 : 0 ≤ n) (h1 : n ≤ 1000000) (hA : ∀ q, s.heap.size ≤ q → A q) (hcells : cells + 1 ≤ R.cells) (hslots : slots + n.toNat ≤ R.slots)
    (kk : ∀ q : Nat, Wg p l e R s m args below meth c D cI cG A Q nL (as ++ [q]) (cells + 1) (slots + n.toNat) (pc + 3) ls (Rf h.length :: st) (h ++ [(101, List.replicate n.toNat Nu)])) : Wg p l e R s m args below meth c D cI cG A Q nL as cells slots pc ls (I n :: st) h := by
  intro H locs lsA hP hD hS hlv
  obtain ⟨hx, hb, hml, hown, hts, hK, hAO, hlk, hrt, hin, hN⟩ := C
  have hn : inr n := ⟨by omega, by omega⟩
  refine va_newq (C := RX1) (N' := n.toNat) (n := i32 n) hx hb hown (hts _ hc) hAO hK hP hD hS hA ?_ (i32_clamp hn) (by omega) hcells hslots hd ?_
  · intro q
    have := (i32_lt hn inr_0).mp (by rw [i32_0]; exact q)
    omega
  · intro q cA H1 hK2 hP hD hS
    have e0 : cA = cG := by
      obtain ⟨_, _, _, _, _, a1⟩ := (hK2.2 2 (cA, .object RX1) rfl).2
      obtain ⟨_, _, _, _, _, a2⟩ := (hK.2 1 (cG, .object RX1) rfl).2
      exact Option.some.inj (a1.symm.trans a2)
    subst e0
    have e1 : wsO cI cA as h ++ [(q, .inl (cA, n.toNat, .inr (.inr (.inr (.inr (fun _ => none))))))] = wsO cI cA (as ++ [q]) (h ++ [(101, List.replicate n.toNat Nu)]) := by
      rw [wsO_push hl hw, cellE_ref, fR_rep, List.length_replicate]
    rw [e1] at hP hD
    have h2 := kk q H1 locs lsA hP hD hS (by rw [lvl_app (by rw [hl]; exact hwl)]; exact hlv)
    rw [List.map_cons, cvl_app (by rw [hl]; exact hws)] at h2
    have h3 : cv (as ++ [q]) (Rf h.length) = .ref q := by
      show Value.ref (adr (as ++ [q]) h.length) = _
      rw [adr_last hl]
    rw [h3] at h2
    exact h2
theorem W_call {H : Heap} {locs : List Loc} {lsA : Array Slot} {r : Option AV} {h' : AH} {A1 : Nat → Prop} {av : Array Value} {mc ms : Nat} {rest st0 : List Value} (hr : va_Run p l e R s m args below meth c H locs cells slots mc ms (F0 m pc lsA st0) rest (Qcn D cI cG as h' r A1 av) A1) (hS : va_S A s.heap H locs) (hA1 : ∀ q, A1 q → A q)
    (kk : ∀ (as' : List Nat) (H1 : Heap) (locs1 : List Loc), as <+: as' → as'.length = h'.length → va_P D vwCl (wsO cI cG as' h') H1 → va_D A (wsO cI cG as' h') → va_S A s.heap H1 locs1 → W p l e R s m args below meth c H1 locs1 (cells + mc) (slots + ms) Q (F0 m (pc + 3) lsA ((r.map (cv as')).toList ++ rest))) : W p l e R s m args below meth c H locs cells slots Q (F0 m pc lsA st0) := by
  intro T hT X
  obtain ⟨v, st₀, t, T', L, h0, X', hL, e1, e2, ⟨⟨as', g1, hv, g2, g3, g4⟩, hz, hk⟩, st⟩ := hr T hT X
  cases hv
  rw [h0] at hz hk
  obtain ⟨t2, a1, b1⟩ := kk as' T'.heap (locs ++ L) g1 g2 (by rw [e1]; exact g3) (g4.weaken (fun _ _ _ h => hA1 _ h))
    ⟨Nat.le_trans hS.1 (by rw [e1]; exact hz), fun q h1 h2 => by rw [e1, hk q (Nat.lt_of_lt_of_le h1 hS.1) (fun z => h2 (hA1 q z))]; exact hS.2.1 q h1 h2, fun q hq => by
      rcases List.mem_append.mp hq with h | h
      · exact hS.2.2 q h
      · exact hA1 _ (hL q h)⟩ T' rfl X'
  exact ⟨t2, st t2 a1, b1⟩
theorem blind {av : List AV} {sz : Nat} : FrameBlind (Pcn D cI cG as av h sz) := by
  intro a U g mk q
  obtain ⟨q0, q1, qP, qK, qO, qN, qD⟩ := q
  exact ⟨q0, q1, qP, va_K.moved (u := U) (U := U.calling g mk a) (Vm.Alike.refl U.vm) qK, va_AO.moved (u := U) (U := U.calling g mk a) (Vm.Alike.refl U.vm) qO, nestOk.same (u := U) (U := U.calling g mk a) rfl qN, qD⟩
theorem pre_of (C : Ctx p s m args meth c D cI cG k) {H : Heap} {av : List AV} (hP : va_P D vwCl (wsO cI cG as h) H) (hD : va_D A (wsO cI cG as h)) : ∀ U : State, U.heap = H → s.WarmedH U.vm → Pcn D cI cG as av h H.size (av.map (cv as)).toArray U := by
  obtain ⟨hx, hb, hml, hown, hts, hK, hAO, hlk, hrt, hin, hN⟩ := C
  intro U hU hW
  exact ⟨rfl, by rw [hU], by rw [hU]; exact hP, va_K.moved hW.alike hK, va_AO.moved hW.alike hAO, nestOk.warm hW hN, hD.weaken (fun _ _ _ _ => trivial)⟩
theorem rest_room {ls : Array Slot} {rest : List AV} {stk : List Value} (h4 : rest.length ≤ 4) : 2 * (F0 m pc ls stk).monitorRoom + ((rest.map (cv as)).map fun v => v.category).sum ≤ 8 := by
  refine lv_room ?_
  have h : ∀ l : List AV, ((l.map (cv as)).map fun v => v.category).sum ≤ 2 * l.length := by
    intro l
    induction l with
    | nil => exact Nat.le_refl _
    | cons v l ih =>
      have hc : (cv as v).category ≤ 2 := by rcases lv_cat (cv as v) with q | q <;> omega
      simp only [List.map_cons, List.sum_cons, List.length_cons]
      omega
  have := h rest
  omega
theorem callOk_spec {k k' : Nat} {rest : List AV} (h : callOk k k' rest = true) : dpM k' + 1 ≤ dpM k ∧ 8 + (maxl k' + 11) + lcM k' ≤ lcM k ∧ rest.length ≤ 4 ∧ nar k' ≤ maxl k' ∧ k' < 175 := by
  unfold callOk at h
  simp only [Bool.and_eq_true, decide_eq_true_eq] at h
  exact ⟨h.1.1.1.1, h.1.1.1.2, h.1.1.2, h.1.2, h.2⟩
theorem behind_call (hwl : wl as.length ls) {rest : List AV} (hwr : wl as.length rest) {r : Option AV} {h' : AH} {lsA : Array Slot} {mc ms : Nat} (hlv : lv_has lsA nL (lvl as 0 ls))
    (kk : ∀ as' : List Nat, as <+: as' → as'.length = h'.length → Wg p l e R s m args below meth c D cI cG A Q nL as' (cells + mc) (slots + ms) (pc + 3) ls (r.toList ++ rest) h') :
    ∀ (as' : List Nat) (H1 : Heap) (locs1 : List Loc), as <+: as' → as'.length = h'.length → va_P D vwCl (wsO cI cG as' h') H1 → va_D A (wsO cI cG as' h') → va_S A s.heap H1 locs1 → W p l e R s m args below meth c H1 locs1 (cells + mc) (slots + ms) Q (F0 m (pc + 3) lsA ((r.map (cv as')).toList ++ rest.map (cv as))) := by
  intro as' H1 locs1 g1 g2 hP1 hD1 hS1
  have h2 := kk as' g1 g2 H1 locs1 lsA hP1 hD1 hS1
  obtain ⟨q, rfl⟩ := g1
  have h3 := h2 (by rw [lvl_app hwl]; exact hlv)
  rw [List.map_append, cvl_app hwr] at h3
  have e1 : r.toList.map (cv (as ++ q)) = (r.map (cv (as ++ q))).toList := by cases r <;> rfl
  rw [e1] at h3
  exact h3
theorem clsOk_spec {h : AH} {k' : Nat} {av : List AV} (hc : clsOk h k' av[0]? = true) : ∃ (i : Nat) (av' : List AV) (ci : Nat) (fs : List AV) (q : vw_C), av = Rf i :: av' ∧ h[i]? = some (ci, fs) ∧ vwCl[ci]? = some q ∧ q.1 = (yM k').cls := by
  unfold clsOk at hc
  split at hc
  · rename_i i hi
    split at hc
    · rename_i ci fs hh
      split at hc
      · rename_i q hq
        cases av with
        | nil => cases hi
        | cons v av' =>
          simp only [List.getElem?_cons_zero, Option.some.injEq] at hi
          subst hi
          exact ⟨i, av', ci, fs, q, rfl, hh, hq, of_decide_eq_true hc⟩
      · cases hc
    · cases hc
  · cases hc
theorem g_callV (C : Ctx p s m args meth c D cI cG k) {idx k' : Nat} {av rest : List AV} {r : Option AV} {h' : AH} (hM : Cok l D cI cG k' as av h r h') (hd : decode (bM k) pc = .ok (.invokevirtual idx, 3)) (hlink : Cond.methodLink (oN (mOs.getD k 0)) idx (yM k') ∈ lwG) (hok : callOk k k' rest = true) (hcls : clsOk h k' av[0]? = true) (hst : popA (nar k') st = some (av, rest)) (hsta : stM k' = false) (hini : isI k' = false) (hl : as.length = h.length) (hwl : wl h.length ls) (hws : wl h.length st) (hA : ∀ q, s.heap.size ≤ q → A q) (hR : dpM k ≤ R.frames ∧ lcM k ≤ R.locals) (hcells : cells + (h'.length - h.length) ≤ R.cells) (hslots : slots + (slN h' - slN h) ≤ R.slots) (hnL : nL = maxl k)
    (kk : ∀ as' : List Nat, as <+: as' → as'.length = h'.length → Wg p l e R s m args below meth c D cI cG A Q nL as' (cells + (h'.length - h.length)) (slots + (slN h' - slN h)) (pc + 3) ls (r.toList ++ rest) h') : Wg p l e R s m args below meth c D cI cG A Q nL as cells slots pc ls st h := by
  intro H locs lsA hP hD hS hlv
  have hpre := pre_of (av := av) C hP hD
  obtain ⟨hx, hb, hml, hown, hts, hK, hAO, hlk, hrt, hin, hN⟩ := C
  obtain ⟨o1, o2, o3, o4, o5⟩ := callOk_spec hok
  obtain ⟨m1, m2, m3, m4, m5, m6, m7, m8⟩ := okM_spec o5
  obtain ⟨e1, e2⟩ := popA_spec hst
  obtain ⟨i, av', ci, fs, q, rfl, c1, c2, c3⟩ := clsOk_spec hcls
  rw [hsta] at m2 m7
  have he := wsO_get (cI := cI) (cG := cG) hl c1
  rw [cellE_obj (vw_lt c2)] at he
  have hrest : wl h.length rest := (wl_app.mp (by rw [← e1]; exact hws)).2
  rw [e1]
  rw [List.map_append]
  refine W_call (A1 := va_A (wsO cI cG as h) H.size) (rest := rest.map (cv as)) (va_runV (y := yM k') (C := (yM k').cls) (As := av'.map (cv as)) (b := adr as i) (nL := nL) (n := nar k' - 1) ⟨hx, hb, by rw [hml, hnL], hown, hts⟩ (hM H.size) (cwV (nar k' - 1) hts ?_ rfl rfl rfl ⟨rfl, m6.1, m6.2, m7⟩ ⟨Nat.le_trans o1 hR.1, Nat.le_trans o2 hR.2⟩) ⟨blind, ?_, hpre⟩ rfl ?_ hlv.1 ?_ (rest_room o3) hd ⟨hcells, hslots⟩) hS (free_all hD hS hA) (behind_call (by rw [hl]; exact hwl) (by rw [hl]; exact hrest) hlv kk)
  · intro w hw
    unfold wsV at hw
    rcases List.mem_append.mp hw with q | q
    · simp only [List.mem_cons, List.not_mem_nil, or_false] at q
      rcases q with rfl | rfl | rfl | rfl
      · exact lwG_good _ hlink
      · exact lwG_good _ m2
      · exact lwG_good _ (m3 hsta hini)
      · exact lwG_good _ m4
    · exact lwG_goodM o5 _ q
  · have := va_recv hK hP c2 he
    rw [c3] at this
    exact this
  · rw [List.length_map]
    simp only [List.length_cons] at e2
    omega
  · rw [List.reverse_cons, List.map_append, List.map_reverse, List.append_assoc]
    rfl
theorem g_callS (C : Ctx p s m args meth c D cI cG k) {idx k' : Nat} {av rest : List AV} {r : Option AV} {h' : AH} (hM : Cok l D cI cG k' as av h r h') (hd : decode (bM k) pc = .ok (.invokestatic idx, 3)) (hlink : Cond.methodLink (oN (mOs.getD k 0)) idx (yM k') ∈ lwG) (hok : callOk k k' rest = true) (hst : popA (nar k') st = some (av, rest)) (hsta : stM k' = true) (hl : as.length = h.length) (hwl : wl h.length ls) (hws : wl h.length st) (hA : ∀ q, s.heap.size ≤ q → A q) (hR : dpM k ≤ R.frames ∧ lcM k ≤ R.locals) (hcells : cells + (h'.length - h.length) ≤ R.cells) (hslots : slots + (slN h' - slN h) ≤ R.slots) (hnL : nL = maxl k)
    (kk : ∀ as' : List Nat, as <+: as' → as'.length = h'.length → Wg p l e R s m args below meth c D cI cG A Q nL as' (cells + (h'.length - h.length)) (slots + (slN h' - slN h)) (pc + 3) ls (r.toList ++ rest) h') : Wg p l e R s m args below meth c D cI cG A Q nL as cells slots pc ls st h := by
  intro H locs lsA hP hD hS hlv
  have hpre := pre_of (av := av) C hP hD
  obtain ⟨hx, hb, hml, hown, hts, hK, hAO, hlk, hrt, hin, hN⟩ := C
  obtain ⟨o1, o2, o3, o4, o5⟩ := callOk_spec hok
  obtain ⟨m1, m2, m3, m4, m5, m6, m7, m8⟩ := okM_spec o5
  obtain ⟨e1, e2⟩ := popA_spec hst
  rw [hsta] at m2 m7
  have hrest : wl h.length rest := (wl_app.mp (by rw [← e1]; exact hws)).2
  rw [e1]
  rw [List.map_append]
  refine W_call (A1 := va_A (wsO cI cG as h) H.size) (rest := rest.map (cv as)) (va_runS (y := yM k') (As := av.map (cv as)) (nL := nL) (n := nar k') ⟨hx, hb, by rw [hml, hnL], hown, hts⟩ (hM H.size) (va_cwS (nar k') hts ?_ rfl rfl rfl ⟨m6.1, m6.2, m7⟩ ⟨Nat.le_trans o1 hR.1, Nat.le_trans o2 hR.2⟩) ⟨blind, hpre⟩ rfl ?_ hlv.1 ?_ (rest_room o3) hd ⟨hcells, hslots⟩) hS (free_all hD hS hA) (behind_call (by rw [hl]; exact hwl) (by rw [hl]; exact hrest) hlv kk)
  · intro w hw
    unfold va_wsS at hw
    rcases List.mem_append.mp hw with q | q
    · simp only [List.mem_cons, List.not_mem_nil, or_false] at q
      rcases q with rfl | rfl | rfl
      · exact lwG_good _ hlink
      · exact lwG_good _ m2
      · exact lwG_good _ m4
    · exact lwG_goodM o5 _ q
  · rw [List.length_map]
    exact e2
  · rw [List.map_reverse]
theorem g_callI (C : Ctx p s m args meth c D cI cG k) {idx k' : Nat} {av rest : List AV} {h' : AH} (hM : Cok l D cI cG k' as av h none h') (hd : decode (bM k) pc = .ok (.invokespecial idx, 3)) (hlink : Cond.methodLink (oN (mOs.getD k 0)) idx (yM k') ∈ lwG ∨ Cond.methodLinkNest (oN (mOs.getD k 0)) idx (yM k') "TankDivers" ∈ lwN) (hok : callOk k k' rest = true) (hcls : clsOk h k' av[0]? = true) (hst : popA (nar k') st = some (av, rest)) (hsta : stM k' = false) (hini : isI k' = true) (hrn : rM k' = none) (hl : as.length = h.length) (hwl : wl h.length ls) (hws : wl h.length st) (hA : ∀ q, s.heap.size ≤ q → A q) (hR : dpM k ≤ R.frames ∧ lcM k ≤ R.locals) (hcells : cells + (h'.length - h.length) ≤ R.cells) (hslots : slots + (slN h' - slN h) ≤ R.slots) (hnL : nL = maxl k)
    (kk : ∀ as' : List Nat, as <+: as' → as'.length = h'.length → Wg p l e R s m args below meth c D cI cG A Q nL as' (cells + (h'.length - h.length)) (slots + (slN h' - slN h)) (pc + 3) ls rest h') : Wg p l e R s m args below meth c D cI cG A Q nL as cells slots pc ls st h := by
  intro H locs lsA hP hD hS hlv
  have hpre := pre_of (av := av) C hP hD
  obtain ⟨hx, hb, hml, hown, hts, hK, hAO, hlk, hrt, hin, hN⟩ := C
  obtain ⟨o1, o2, o3, o4, o5⟩ := callOk_spec hok
  obtain ⟨m1, m2, m3, m4, m5, m6, m7, m8⟩ := okM_spec o5
  obtain ⟨e1, e2⟩ := popA_spec hst
  obtain ⟨i, av', ci, fs, q, rfl, c1, c2, c3⟩ := clsOk_spec hcls
  rw [hsta] at m2 m7
  have hrest : wl h.length rest := (wl_app.mp (by rw [← e1]; exact hws)).2
  have hyn : (yM k').name = "<init>" := by simpa [isI] using hini
  have hM1 := hM H.size
  have hws0 : wsM k' = Cond.code (yM k') (bM k') (maxl k') none :: lwG := by unfold wsM; rw [hrn]
  rw [e1]
  rw [List.map_append]
  have hlen : (av'.map (cv as)).length = nar k' - 1 := by
    rw [List.length_map]
    simp only [List.length_cons] at e2
    omega
  have hstk : (Rf i :: av').reverse.map (cv as) ++ rest.map (cv as) = (av'.map (cv as)).reverse ++ .ref (adr as i) :: rest.map (cv as) := by
    rw [List.reverse_cons, List.map_append, List.map_reverse, List.append_assoc]
    rfl
  rcases hlink with hlink | hlink
  · exact W_call (A1 := va_A (wsO cI cG as h) H.size) (rest := rest.map (cv as)) (va_runI (y := yM k') (As := av'.map (cv as)) (b := adr as i) (nL := nL) (n := nar k' - 1) ⟨hx, hb, by rw [hml, hnL], hown, hts⟩ hM1 (cwI (nar k' - 1) hts (lwG_goodM o5) hws0 rfl rfl (hts _ m4) (hts _ hlink) (hts _ m2) hyn ⟨m6.1, m6.2, m7⟩ ⟨Nat.le_trans o1 hR.1, Nat.le_trans o2 hR.2⟩) ⟨blind, hpre⟩ rfl hlen hlv.1 hstk (rest_room o3) hd ⟨hcells, hslots⟩) hS (free_all hD hS hA) (behind_call (r := none) (by rw [hl]; exact hwl) (by rw [hl]; exact hrest) hlv kk)
  · exact W_call (A1 := va_A (wsO cI cG as h) H.size) (rest := rest.map (cv as)) (va_runIN (y := yM k') (As := av'.map (cv as)) (b := adr as i) (nL := nL) (n := nar k' - 1) ⟨hx, hb, by rw [hml, hnL], hown, hts⟩ hM1 ⟨va_cnB (nar k' - 1) hts (lwG_goodM o5) hws0 rfl rfl (hN _ hlink) (hts _ m4) ⟨m6.1, m6.2, m7⟩ ⟨Nat.le_trans o1 hR.1, Nat.le_trans o2 hR.2⟩, hyn, hts _ m2⟩ ⟨blind, hpre⟩ rfl hlen hlv.1 hstk (rest_room o3) hd ⟨hcells, hslots⟩) hS (free_all hD hS hA) (behind_call (r := none) (by rw [hl]; exact hwl) (by rw [hl]; exact hrest) hlv kk)
theorem g_obj (C : Ctx p s m args meth c D cI cG k) {idx i : Nat} {rest : List AV} (hd : decode (bM k) pc = .ok (.invokespecial idx, 3)) (hlink : Cond.methodLink (oN (mOs.getD k 0)) idx objectInit ∈ lwG) (h4 : rest.length ≤ 4) (hR : 1 ≤ R.frames ∧ 20 ≤ R.locals) (hnL : nL = maxl k) (kk : Wg p l e R s m args below meth c D cI cG A Q nL as cells slots (pc + 3) ls rest h) : Wg p l e R s m args below meth c D cI cG A Q nL as cells slots pc ls (Rf i :: rest) h := by
  intro H locs lsA hP hD hS hlv
  obtain ⟨hx, hb, hml, hown, hts, hK, hAO, hlk, hrt, hin, hN⟩ := C
  have hr := rest_room (m := m) (pc := pc) (as := as) (ls := lsA) (rest := rest) (stk := []) h4
  refine W.objInit hx hb hown (hts _ hlink) (hts _ (lwG_in w_obj.1 rfl)) (hts _ (lwG_in w_obj.2 rfl)) rfl (by rw [hml, ← hnL]; exact hlv.1) rfl hd hR.1 ?_ (W.eq (g2 := F0 m (pc + 3) lsA (rest.map (cv as))) rfl (kk H locs lsA hP hD hS hlv))
  have := hR.2
  have e : (F0 m pc lsA ((Rf i :: rest).map (cv as))).monitorRoom = (F0 m pc lsA []).monitorRoom := rfl
  rw [e]
  omega
theorem g_math (C : Ctx p s m args meth c D cI cG k) {idx a b pl : Nat} {rest : List AV} {v : AV} (hd : decode (bM k) pc = .ok (.invokestatic idx, 3)) (hc : chkO (mOs.getD k 0) (pc, .invokestatic idx, 3, a, b, pl) = true) (hv : mathB a st = some (v, rest)) (hws : wl h.length st) (h4 : rest.length ≤ 4) (hR : 1 ≤ R.frames ∧ 21 ≤ R.locals) (hcl : cells ≤ R.cells) (hsl : slots ≤ R.slots) (hnL : nL = maxl k) (kk : Wg p l e R s m args below meth c D cI cG A Q nL as cells slots (pc + 3) ls (v :: rest) h) : Wg p l e R s m args below meth c D cI cG A Q nL as cells slots pc ls st h := by
  intro H locs lsA hP hD hS hlv
  obtain ⟨hx, hb, hml, hown, hts, hK, hAO, hlk, hrt, hin, hN⟩ := C
  obtain ⟨⟨s1, s2, s3⟩, s4, s5, s6, s7⟩ := w_math
  have hr := rest_room (m := m) (pc := pc) (as := as) (ls := lsA) (rest := rest) (stk := []) h4
  have hr2 : ((rest.map (cv as)).map fun v => v.category).sum + 13 ≤ R.locals := by
    have := hR.2
    have : (F0 m pc lsA []).monitorRoom = 0 := rfl
    omega
  have hml2 : c.maxLocals = lsA.size := by rw [hml, hlv.1, hnL]
  have kk1 := kk H locs lsA hP hD hS hlv
  unfold mathB at hv
  unfold chkO at hc
  simp only [] at hc
  split at hv
  · rename_i y st1
    have hy : inr y := (wl_cons.mp hws).1
    split at hv
    · rename_i ha
      rw [if_pos ha] at hc
      cases hv
      refine va_mabs (x := i32 y) hx hb hml2 hown (hts _ (lwG_in (isW_mem hc) rfl)) (hts _ (lwG_in s1 rfl)) (hts _ (lwG_in s4 rfl)) (hts _ (lwG_in s5 rfl)) hR.1 hr2 hcl hsl hd ?_
      have e0 : (if 0 ≤ i32 y then i32 y else 0 - i32 y) = i32 (if 0 ≤ y then y else w2 (· - ·) 0 y) := by
        have h1 := i32_le inr_0 hy
        rw [i32_0] at h1
        by_cases q : 0 ≤ y
        · rw [if_pos q, if_pos (h1.mpr q)]
        · rw [if_neg q, if_neg (fun w => q (h1.mp w)), i32_w2, i32_0]
      rw [e0]
      exact kk1
    · rename_i ha
      rw [if_neg ha] at hc
      split at hv
      · rename_i x st2
        have hx2 : inr x := (wl_cons.mp (wl_cons.mp hws).2).1
        split at hv
        · rename_i ha
          rw [if_pos ha] at hc
          cases hv
          refine va_mmax (x := i32 x) (y := i32 y) hx hb hml2 hown (hts _ (lwG_in (isW_mem hc) rfl)) (hts _ (lwG_in s2 rfl)) (hts _ (lwG_in s4 rfl)) (hts _ (lwG_in s6 rfl)) hR.1 hr2 hcl hsl hd ?_
          have e0 : (if i32 x < i32 y then i32 y else i32 x) = i32 (if x < y then y else x) := by
            by_cases q : x < y
            · rw [if_pos q, if_pos ((i32_lt hx2 hy).mpr q)]
            · rw [if_neg q, if_neg (fun w => q ((i32_lt hx2 hy).mp w))]
          rw [e0]
          exact kk1
        · rename_i ha
          rw [if_neg ha] at hc
          split at hv
          · rename_i ha
            rw [if_pos ha] at hc
            cases hv
            refine va_mmin (x := i32 x) (y := i32 y) hx hb hml2 hown (hts _ (lwG_in (isW_mem hc) rfl)) (hts _ (lwG_in s3 rfl)) (hts _ (lwG_in s4 rfl)) (hts _ (lwG_in s7 rfl)) hR.1 hr2 hcl hsl hd ?_
            have e0 : (if i32 y < i32 x then i32 y else i32 x) = i32 (if y < x then y else x) := by
              by_cases q : y < x
              · rw [if_pos q, if_pos ((i32_lt hy hx2).mpr q)]
              · rw [if_neg q, if_neg (fun w => q ((i32_lt hy hx2).mp w))]
            rw [e0]
            exact kk1
          · cases hv
      · cases hv
  · cases hv
theorem g_ret (C : Ctx p s m args meth c D cI cG k) {i : Instr} {r : Option AV} {as0 : List Nat} (hr : retOk k st i = some r) (hd : decode (bM k) pc = .ok (i, 1)) (has : as0 <+: as) (hl : as.length = h.length) : Wg p l e R s m args below meth c D cI cG A (MQ below (Qcn D cI cG as0 h r A) args s cells slots A) nL as cells slots pc ls st h := by
  intro H locs lsA hP hD hS hlv
  obtain ⟨hx, hb, hml, hown, hts, hK, hAO, hlk, hrt, hin, hN⟩ := C
  unfold retOk at hr
  split at hr
  · rename_i h1
    cases hr
    exact W.vret hx hb (hrt.trans h1) (fun t ht hW => ⟨⟨as, has, rfl, hl, by rw [ht]; exact hP, hD⟩, hS.F ht⟩) hS.2.2 hd
  · rename_i h1
    cases hr
    exact W.iret hx hb (hrt.trans h1) (fun t ht hW => ⟨⟨as, has, rfl, hl, by rw [ht]; exact hP, hD⟩, hS.F ht⟩) hS.2.2 hd
  · rename_i z h1
    split at hr
    · rename_i hz
      cases hr
      refine W.zret hx hb (hrt.trans h1) ?_ (fun t ht hW => ⟨⟨as, has, rfl, hl, by rw [ht]; exact hP, hD⟩, hS.F ht⟩) hS.2.2 hd
      rcases hz with rfl | rfl <;> rfl
    · cases hr
  · rename_i q n h1
    cases hr
    refine W.aret hx hb (hrt.trans h1) (Or.inl ⟨_, rfl⟩) ?_ (fun t ht hW => ⟨⟨as, has, rfl, hl, by rw [ht]; exact hP, hD⟩, hS.F ht⟩) hS.2.2 hd
    cases q with
    | none => exact Or.inl rfl
    | some x => exact Or.inr ⟨_, rfl⟩
  · rename_i h1
    cases hr
    exact W.dret hx hb (hrt.trans h1) (fun t ht hW => ⟨⟨as, has, rfl, hl, by rw [ht]; exact hP, hD⟩, hS.F ht⟩) hS.2.2 hd
  · cases hr
end Calls
end
section
/-! ===== one step, and whole runs, are the machine's ===== -/
theorem chkL_len {pc len a b p : Nat} {i : Instr} (h : chkL (pc, i, len, a, b, p) = true) (hi : ∀ d lo hi offs, i ≠ .tableswitch d lo hi offs) : len = lenI i := by
  unfold chkL at h
  simp only [] at h
  exact eq_of_beq h
/-- what a step keeps -/
def Kp (ls : List AV) (h : AH) (t : ASt) : Prop := t.2.1.length = ls.length ∧ wl t.2.2.2.length t.2.1 ∧ wl t.2.2.2.length t.2.2.1 ∧ wh t.2.2.2 ∧ h.length ≤ t.2.2.2.length ∧ slN h ≤ slN t.2.2.2
theorem Kp_same {ls ls' st' : List AV} {h : AH} {pc : Nat} (h1 : ls'.length = ls.length) (h2 : wl h.length ls') (h3 : wl h.length st') (h4 : wh h) : Kp ls h (pc, ls', st', h) := ⟨h1, h2, h3, h4, Nat.le_refl _, Nat.le_refl _⟩
theorem Kp_set {ls st' : List AV} {h : AH} {pc i c : Nat} {fs fs' : List AV} (h2 : wl h.length ls) (h3 : wl h.length st') (h4 : wh h) (hi : h[i]? = some (c, fs)) (hl : fs'.length = fs.length) (hf : wl h.length fs') : Kp ls h (pc, ls, st', h.set i (c, fs')) := by
  have e : (h.set i (c, fs')).length = h.length := List.length_set
  refine ⟨rfl, ?_, ?_, wh_set h4 hf, by rw [e]; exact Nat.le_refl _, by rw [slN_set hi hl]; exact Nat.le_refl _⟩
  · show wl (h.set i (c, fs')).length ls
    rw [e]; exact h2
  · show wl (h.set i (c, fs')).length st'
    rw [e]; exact h3
theorem Kp_push {ls st' : List AV} {h : AH} {pc : Nat} {o : AO} (h2 : wl h.length ls) (h3 : wl h.length st') (h4 : wh h) (ho : wl (h.length + 1) o.2) : Kp ls h (pc, ls, Rf h.length :: st', h ++ [o]) := by
  have e : (h ++ [o]).length = h.length + 1 := by simp
  refine ⟨rfl, ?_, ?_, wh_push h4 ho, by rw [e]; omega, by rw [slN_push]; omega⟩
  · show wl (h ++ [o]).length ls
    rw [e]; exact wl_mono (Nat.le_add_right _ _) h2
  · show wl (h ++ [o]).length (Rf h.length :: st')
    rw [e]; exact wl_cons.mpr ⟨Nat.lt_succ_self _, wl_mono (Nat.le_add_right _ _) h3⟩
theorem stI_spec {ls st : List AV} {i pc : Nat} {h : AH} {t : ASt} (hs : stI ls i pc st h = some t) : ∃ z, ls[i]? = some (I z) ∧ t = (pc, ls, I z :: st, h) := by
  unfold stI at hs
  split at hs
  · rename_i z hz; cases hs; exact ⟨z, hz, rfl⟩
  · cases hs
theorem stA_spec {ls st : List AV} {i pc : Nat} {h : AH} {t : ASt} (hs : stA ls i pc st h = some t) : ∃ r, ls[i]? = some (.inr (.inl r)) ∧ t = (pc, ls, .inr (.inl r) :: st, h) := by
  unfold stA at hs
  split at hs
  · rename_i z hz; cases hs; exact ⟨z, hz, rfl⟩
  · cases hs
theorem ssI_spec {ls st : List AV} {i pc : Nat} {h : AH} {t : ASt} (hs : ssI ls i pc st h = some t) : ∃ z st2, st = I z :: st2 ∧ i < ls.length ∧ t = (pc, ls.set i (I z), st2, h) := by
  unfold ssI at hs
  split at hs
  · rename_i z st2
    split at hs
    · rename_i hi; cases hs; exact ⟨z, st2, rfl, hi, rfl⟩
    · cases hs
  · cases hs
theorem ssA_spec {ls st : List AV} {i pc : Nat} {h : AH} {t : ASt} (hs : ssA ls i pc st h = some t) : ∃ r st2, st = .inr (.inl r) :: st2 ∧ i < ls.length ∧ t = (pc, ls.set i (.inr (.inl r)), st2, h) := by
  unfold ssA at hs
  split at hs
  · rename_i z st2
    split at hs
    · rename_i hi; cases hs; exact ⟨z, st2, rfl, hi, rfl⟩
    · cases hs
  · cases hs
theorem sbin_spec {f : Int32 → Int32 → Int32} {ls st : List AV} {pc : Nat} {h : AH} {t : ASt} (hs : sbin f pc ls st h = some t) : ∃ x y st2, st = I y :: I x :: st2 ∧ t = (pc, ls, I (w2 f x y) :: st2, h) := by
  unfold sbin at hs
  split at hs
  · rename_i y x st2; cases hs; exact ⟨x, y, st2, rfl, rfl⟩
  · cases hs
theorem sdiv_spec {f : Int32 → Int32 → Int32} {ls st : List AV} {pc : Nat} {h : AH} {t : ASt} (hs : sdiv f pc ls st h = some t) : ∃ x y st2, st = I y :: I x :: st2 ∧ y ≠ 0 ∧ t = (pc, ls, I (w2 f x y) :: st2, h) := by
  unfold sdiv at hs
  split at hs
  · rename_i y x st2
    split at hs
    · rename_i hy; cases hs; exact ⟨x, y, st2, rfl, hy, rfl⟩
    · cases hs
  · cases hs
theorem wl_c2 {n : Nat} {v u : AV} {l : List AV} (h : wl n (v :: u :: l)) : wv n v ∧ wv n u ∧ wl n l := ⟨(wl_cons.mp h).1, (wl_cons.mp (wl_cons.mp h).2).1, (wl_cons.mp (wl_cons.mp h).2).2⟩
theorem nat_inr {n : Nat} (h : n ≤ 1000000) : inr (n : Int) := ⟨by omega, by omega⟩
theorem ast_kp {ini : Bool} {ls st : List AV} {h : AH} {E : AE} {t : ASt} (hs : ast ini E ls st h = some t) (hw : wh h) (hwl : wl h.length ls) (hws : wl h.length st) : Kp ls h t := by
  have same : ∀ {pc' : Nat} {ls' st' : List AV}, t = (pc', ls', st', h) → ls'.length = ls.length → wl h.length ls' → wl h.length st' → Kp ls h t := by
    intro pc' ls' st' h5 h1 h2 h3
    subst h5
    exact Kp_same h1 h2 h3 hw
  have sett : ∀ {pc' i c0 : Nat} {st' fs fs' : List AV}, t = (pc', ls, st', h.set i (c0, fs')) → h[i]? = some (c0, fs) → fs'.length = fs.length → wl h.length fs' → wl h.length st' → Kp ls h t := by
    intro pc' i c0 st' fs fs' h5 h1 h2 h3 h3'
    subst h5
    exact Kp_set hwl h3' hw h1 h2 h3
  obtain ⟨pc, ins, len, a, b, pl⟩ := E
  unfold ast at hs
  simp only [] at hs
  split at hs
  · rename_i n
    split at hs
    · rename_i hn
      exact same (Option.some.inj hs).symm rfl hwl (wl_cons.mpr ⟨inrB_iff.mp hn, hws⟩)
    · cases hs
  · rename_i n
    split at hs
    · rename_i hn
      simp only [Bool.and_eq_true, decide_eq_true_eq] at hn
      exact same (Option.some.inj hs).symm rfl hwl (wl_cons.mpr ⟨inrB_iff.mp hn.1, hws⟩)
    · cases hs
  · rename_i n
    split at hs
    · rename_i hn
      simp only [Bool.and_eq_true, decide_eq_true_eq] at hn
      exact same (Option.some.inj hs).symm rfl hwl (wl_cons.mpr ⟨inrB_iff.mp hn.1, hws⟩)
    · cases hs
  · skip
    exact same (Option.some.inj hs).symm rfl hwl (wl_cons.mpr ⟨trivial, hws⟩)
  · skip
    obtain ⟨z, hz, ht⟩ := stI_spec hs
    exact same ht rfl hwl (wl_cons.mpr ⟨wl_get hwl hz, hws⟩)
  · skip
    obtain ⟨z, hz, ht⟩ := stI_spec hs
    exact same ht rfl hwl (wl_cons.mpr ⟨wl_get hwl hz, hws⟩)
  · skip
    obtain ⟨z, hz, ht⟩ := stA_spec hs
    exact same ht rfl hwl (wl_cons.mpr ⟨wl_get hwl hz, hws⟩)
  · skip
    obtain ⟨z, hz, ht⟩ := stA_spec hs
    exact same ht rfl hwl (wl_cons.mpr ⟨wl_get hwl hz, hws⟩)
  · skip
    obtain ⟨z, st2, rfl, hi, ht⟩ := ssI_spec hs
    exact same ht List.length_set (wl_set hwl (wl_cons.mp hws).1) (wl_cons.mp hws).2
  · skip
    obtain ⟨z, st2, rfl, hi, ht⟩ := ssI_spec hs
    exact same ht List.length_set (wl_set hwl (wl_cons.mp hws).1) (wl_cons.mp hws).2
  · skip
    obtain ⟨z, st2, rfl, hi, ht⟩ := ssA_spec hs
    exact same ht List.length_set (wl_set hwl (wl_cons.mp hws).1) (wl_cons.mp hws).2
  · rename_i i n
    split at hs
    · rename_i z hz
      exact same (Option.some.inj hs).symm List.length_set (wl_set hwl (inr_w2 _ _ _)) hws
    · cases hs
  · skip
    obtain ⟨x, y, st2, rfl, ht⟩ := sbin_spec hs
    exact same ht rfl hwl (wl_cons.mpr ⟨inr_w2 _ _ _, (wl_c2 hws).2.2⟩)
  · skip
    obtain ⟨x, y, st2, rfl, ht⟩ := sbin_spec hs
    exact same ht rfl hwl (wl_cons.mpr ⟨inr_w2 _ _ _, (wl_c2 hws).2.2⟩)
  · skip
    obtain ⟨x, y, st2, rfl, ht⟩ := sbin_spec hs
    exact same ht rfl hwl (wl_cons.mpr ⟨inr_w2 _ _ _, (wl_c2 hws).2.2⟩)
  · skip
    obtain ⟨x, y, st2, rfl, ht⟩ := sbin_spec hs
    exact same ht rfl hwl (wl_cons.mpr ⟨inr_w2 _ _ _, (wl_c2 hws).2.2⟩)
  · skip
    obtain ⟨x, y, st2, rfl, ht⟩ := sbin_spec hs
    exact same ht rfl hwl (wl_cons.mpr ⟨inr_w2 _ _ _, (wl_c2 hws).2.2⟩)
  · skip
    obtain ⟨x, y, st2, rfl, ht⟩ := sbin_spec hs
    exact same ht rfl hwl (wl_cons.mpr ⟨inr_w2 _ _ _, (wl_c2 hws).2.2⟩)
  · skip
    obtain ⟨x, y, st2, rfl, ht⟩ := sbin_spec hs
    exact same ht rfl hwl (wl_cons.mpr ⟨inr_w2 _ _ _, (wl_c2 hws).2.2⟩)
  · skip
    obtain ⟨x, y, st2, rfl, hy, ht⟩ := sdiv_spec hs
    exact same ht rfl hwl (wl_cons.mpr ⟨inr_w2 _ _ _, (wl_c2 hws).2.2⟩)
  · skip
    obtain ⟨x, y, st2, rfl, hy, ht⟩ := sdiv_spec hs
    exact same ht rfl hwl (wl_cons.mpr ⟨inr_w2 _ _ _, (wl_c2 hws).2.2⟩)
  · skip
    split at hs
    · exact same (Option.some.inj hs).symm rfl hwl (wl_cons.mpr ⟨inr_w2 _ _ _, (wl_cons.mp hws).2⟩)
    · cases hs
  · skip
    split at hs
    · cases hs
    · rename_i v st2 hv
      have hd : isDb v = false := by
        rcases v with z | r | x
        · rfl
        · rfl
        · exact absurd rfl (hv x)
      exact same (Option.some.inj hs).symm rfl hwl (wl_cons.mpr ⟨(wl_cons.mp hws).1, hws⟩)
    · cases hs
  · skip
    split at hs
    · cases hs
    · rename_i v st2 hv
      have hd : isDb v = false := by
        rcases v with z | r | x
        · rfl
        · rfl
        · exact absurd rfl (hv x)
      exact same (Option.some.inj hs).symm rfl hwl (wl_cons.mp hws).2
    · cases hs
  · skip
    split at hs
    · cases hs
    · cases hs
    · rename_i v u st2 hv hu
      have hd : isDb v = false := by
        rcases v with z | r | x
        · rfl
        · rfl
        · exact absurd rfl (hv x)
      have hd2 : isDb u = false := by
        rcases u with z | r | x
        · rfl
        · rfl
        · exact absurd rfl (hu x)
      exact same (Option.some.inj hs).symm rfl hwl (wl_cons.mpr ⟨(wl_c2 hws).1, wl_cons.mpr ⟨(wl_c2 hws).2.1, hws⟩⟩)
    · cases hs
  · skip
    split at hs
    · split at hs
      · rename_i ht
        exact same (Option.some.inj hs).symm rfl hwl (wl_cons.mp hws).2
      · cases hs
    · cases hs
  · skip
    split at hs
    · split at hs
      · rename_i ht
        exact same (Option.some.inj hs).symm rfl hwl (wl_c2 hws).2.2
      · cases hs
    · cases hs
  · skip
    split at hs
    · split at hs
      · rename_i ht
        exact same (Option.some.inj hs).symm rfl hwl (wl_cons.mp hws).2
      · cases hs
    · cases hs
  · skip
    split at hs
    · split at hs
      · rename_i ht
        exact same (Option.some.inj hs).symm rfl hwl (wl_cons.mp hws).2
      · cases hs
    · cases hs
  · skip
    split at hs
    · rename_i ht
      exact same (Option.some.inj hs).symm rfl hwl hws
    · cases hs
  · split at hs
    · split at hs
      · rename_i hq
        split at hs
        · rename_i ht
          exact same (Option.some.inj hs).symm rfl hwl (wl_cons.mp hws).2
        · cases hs
      · rename_i hq
        split at hs
        · rename_i off ho
          split at hs
          · rename_i ht
            exact same (Option.some.inj hs).symm rfl hwl (wl_cons.mp hws).2
          · cases hs
        · cases hs
    · cases hs
  · skip
    split at hs
    · split at hs
      · rename_i c0 fs hi
        split at hs
        · rename_i hc0
          subst hc0
          split at hs
          · rename_i v hv
            exact same (Option.some.inj hs).symm rfl hwl (wl_cons.mpr ⟨wl_get (wh_get hw hi) hv, (wl_cons.mp hws).2⟩)
          · cases hs
        · cases hs
      · cases hs
    · cases hs
  · skip
    split at hs
    · split at hs
      · rename_i c0 fs hi
        split at hs
        · rename_i hc0
          obtain ⟨hc0, hb, hf, hfin⟩ := hc0
          subst hc0
          exact sett (Option.some.inj hs).symm hi List.length_set (wl_set (wh_get hw hi) (wl_c2 hws).1) (wl_c2 hws).2.2
        · cases hs
      · cases hs
    · cases hs
  · skip
    split at hs
    · split at hs
      · rename_i c0 fs hi
        split at hs
        · rename_i hc0
          obtain ⟨hc0, hz⟩ := hc0
          subst hc0
          split at hs
          · rename_i x hv
            exact same (Option.some.inj hs).symm rfl hwl (wl_cons.mpr ⟨wl_get (wh_get hw hi) hv, (wl_c2 hws).2.2⟩)
          · cases hs
        · cases hs
      · cases hs
    · cases hs
  · skip
    split at hs
    · split at hs
      · rename_i c0 fs hi
        split at hs
        · rename_i hc0
          obtain ⟨hc0, hz, hlt⟩ := hc0
          subst hc0
          have h1 := wl_c2 hws
          exact sett (Option.some.inj hs).symm hi List.length_set (wl_set (wh_get hw hi) h1.1) (wl_cons.mp h1.2.2).2
        · cases hs
      · cases hs
    · cases hs
  · skip
    split at hs
    · split at hs
      · rename_i c0 fs hi
        split at hs
        · rename_i hc0
          obtain ⟨hc0, hz⟩ := hc0
          subst hc0
          split at hs
          · rename_i x hv
            exact same (Option.some.inj hs).symm rfl hwl (wl_cons.mpr ⟨wl_get (wh_get hw hi) hv, (wl_c2 hws).2.2⟩)
          · cases hs
        · cases hs
      · cases hs
    · cases hs
  · skip
    split at hs
    · split at hs
      · rename_i c0 fs c2 vs hi hv
        split at hs
        · rename_i hc0
          obtain ⟨hc0, hc2, hz, hlt⟩ := hc0
          subst hc0; subst hc2
          have h1 := wl_c2 hws
          exact sett (Option.some.inj hs).symm hi List.length_set (wl_set (wh_get hw hi) h1.1) (wl_cons.mp h1.2.2).2
        · cases hs
      · cases hs
    · cases hs
  · skip
    split at hs
    · split at hs
      · rename_i c0 fs hi
        split at hs
        · rename_i hc0
          exact same (Option.some.inj hs).symm rfl hwl (wl_cons.mpr ⟨nat_inr hc0.2, (wl_cons.mp hws).2⟩)
        · cases hs
      · cases hs
    · cases hs
  · skip
    split at hs
    · rename_i hd
      subst hd
      exact same (Option.some.inj hs).symm rfl hwl (wl_cons.mpr ⟨trivial, hws⟩)
    · cases hs
  · skip
    split at hs
    · exact same (Option.some.inj hs).symm rfl hwl (wl_cons.mpr ⟨trivial, (wl_cons.mp hws).2⟩)
    · cases hs
  · skip
    split at hs
    · split at hs
      · rename_i hn
        exact same (Option.some.inj hs).symm rfl hwl (wl_cons.mpr ⟨trivial, (wl_c2 hws).2.2⟩)
      · cases hs
    · cases hs
  · skip
    split at hs
    · cases hs
      exact Kp_push hwl hws hw (dflO_wl _ _)
    · cases hs
  · skip
    split at hs
    · rename_i n st2
      split at hs
      · rename_i hq
        obtain ⟨_, rfl, h0, h1⟩ := hq
        cases hs
        have hwf : wl (h.length + 1) (List.replicate n.toNat (I 0)) := fun v hv => by rw [List.eq_of_mem_replicate hv]; exact inr_0
        exact Kp_push (o := (100, List.replicate n.toNat (I 0))) hwl (wl_cons.mp hws).2 hw hwf
      · cases hs
    · cases hs
  · skip
    split at hs
    · rename_i n st2
      split at hs
      · rename_i hq
        obtain ⟨_, rfl, h0, h1⟩ := hq
        cases hs
        have hwf : wl (h.length + 1) (List.replicate n.toNat Nu) := fun v hv => by rw [List.eq_of_mem_replicate hv]; trivial
        exact Kp_push (o := (101, List.replicate n.toNat Nu)) hwl (wl_cons.mp hws).2 hw hwf
      · cases hs
    · cases hs
  · cases hs
section Sound
variable {p : Program} {l : Launch} {e : Env} {R : Room} {s : State} {m : MethodId} {args : Array Value} {below : List Frame} {meth : Method} {c : Code} {D : va_G} {cI cG : ClassId} {A : Nat → Prop} {Q : State → Prop} {k nL cells slots : Nat} {as : List Nat} {ls st : List AV} {h : AH}
/-- a step: it keeps what it must, and the machine goes with it -/
theorem ast_sound (C : Ctx p s m args meth c D cI cG k) {E : AE} {t : ASt} (hD0 : decode (bM k) E.1 = .ok (E.2.1, E.2.2.1)) (hL : chkL E = true) (hO : chkO (mOs.getD k 0) E = true) (hs : ast (isI k) E ls st h = some t) (hl : as.length = h.length) (hw : wh h) (hwl : wl h.length ls) (hws : wl h.length st) (hA : ∀ q, s.heap.size ≤ q → A q) (hnL : ls.length = nL) :
    Kp ls h t ∧ (cells + (t.2.2.2.length - h.length) ≤ R.cells → slots + (slN t.2.2.2 - slN h) ≤ R.slots →
      (∀ as' : List Nat, as <+: as' → as'.length = t.2.2.2.length → Wg p l e R s m args below meth c D cI cG A Q nL as' (cells + (t.2.2.2.length - h.length)) (slots + (slN t.2.2.2 - slN h)) t.1 t.2.1 t.2.2.1 t.2.2.2) → Wg p l e R s m args below meth c D cI cG A Q nL as cells slots E.1 ls st h) := by
  have same : ∀ {pc' : Nat} {ls' st' : List AV}, t = (pc', ls', st', h) → ls'.length = ls.length → wl h.length ls' → wl h.length st' → (Wg p l e R s m args below meth c D cI cG A Q nL as cells slots pc' ls' st' h → Wg p l e R s m args below meth c D cI cG A Q nL as cells slots E.1 ls st h) →
      Kp ls h t ∧ (cells + (t.2.2.2.length - h.length) ≤ R.cells → slots + (slN t.2.2.2 - slN h) ≤ R.slots → (∀ as' : List Nat, as <+: as' → as'.length = t.2.2.2.length → Wg p l e R s m args below meth c D cI cG A Q nL as' (cells + (t.2.2.2.length - h.length)) (slots + (slN t.2.2.2 - slN h)) t.1 t.2.1 t.2.2.1 t.2.2.2) → Wg p l e R s m args below meth c D cI cG A Q nL as cells slots E.1 ls st h) := by
    intro pc' ls' st' h5 h1 h2 h3 h4
    subst h5
    refine ⟨Kp_same h1 h2 h3 hw, fun _ _ kk => h4 ?_⟩
    have := kk as (List.prefix_refl _) hl
    simp only [Nat.sub_self, Nat.add_zero] at this
    exact this
  have sett : ∀ {pc' i c0 : Nat} {st' fs fs' : List AV}, t = (pc', ls, st', h.set i (c0, fs')) → h[i]? = some (c0, fs) → fs'.length = fs.length → wl h.length fs' → wl h.length st' → (Wg p l e R s m args below meth c D cI cG A Q nL as cells slots pc' ls st' (h.set i (c0, fs')) → Wg p l e R s m args below meth c D cI cG A Q nL as cells slots E.1 ls st h) →
      Kp ls h t ∧ (cells + (t.2.2.2.length - h.length) ≤ R.cells → slots + (slN t.2.2.2 - slN h) ≤ R.slots → (∀ as' : List Nat, as <+: as' → as'.length = t.2.2.2.length → Wg p l e R s m args below meth c D cI cG A Q nL as' (cells + (t.2.2.2.length - h.length)) (slots + (slN t.2.2.2 - slN h)) t.1 t.2.1 t.2.2.1 t.2.2.2) → Wg p l e R s m args below meth c D cI cG A Q nL as cells slots E.1 ls st h) := by
    intro pc' i c0 st' fs fs' h5 h1 h2 h3 h3' h4
    subst h5
    refine ⟨Kp_set hwl h3' hw h1 h2 h3, fun _ _ kk => h4 ?_⟩
    have := kk as (List.prefix_refl _) (by rw [hl]; exact List.length_set.symm)
    simp only [List.length_set, slN_set h1 h2, Nat.sub_self, Nat.add_zero] at this
    exact this
  obtain ⟨pc, ins, len, a, b, pl⟩ := E
  unfold ast at hs
  simp only [] at hs hD0
  split at hs
  · rename_i n
    have e := chkL_len hL (fun _ _ _ _ => by intro q; cases q); subst e
    split at hs
    · rename_i hn
      exact same (Option.some.inj hs).symm rfl hwl (wl_cons.mpr ⟨inrB_iff.mp hn, hws⟩) (g_iconst C hD0)
    · cases hs
  · rename_i n
    have e := chkL_len hL (fun _ _ _ _ => by intro q; cases q); subst e
    split at hs
    · rename_i hn
      simp only [Bool.and_eq_true, decide_eq_true_eq] at hn
      exact same (Option.some.inj hs).symm rfl hwl (wl_cons.mpr ⟨inrB_iff.mp hn.1, hws⟩) (g_bipush C hD0 hn.2)
    · cases hs
  · rename_i n
    have e := chkL_len hL (fun _ _ _ _ => by intro q; cases q); subst e
    split at hs
    · rename_i hn
      simp only [Bool.and_eq_true, decide_eq_true_eq] at hn
      exact same (Option.some.inj hs).symm rfl hwl (wl_cons.mpr ⟨inrB_iff.mp hn.1, hws⟩) (g_sipush C hD0 hn.2)
    · cases hs
  · have e := chkL_len hL (fun _ _ _ _ => by intro q; cases q); subst e
    exact same (Option.some.inj hs).symm rfl hwl (wl_cons.mpr ⟨trivial, hws⟩) (g_null C hD0)
  · have e := chkL_len hL (fun _ _ _ _ => by intro q; cases q); subst e
    obtain ⟨z, hz, ht⟩ := stI_spec hs
    exact same ht rfl hwl (wl_cons.mpr ⟨wl_get hwl hz, hws⟩) (g_iload_n C hD0 hz)
  · have e := chkL_len hL (fun _ _ _ _ => by intro q; cases q); subst e
    obtain ⟨z, hz, ht⟩ := stI_spec hs
    exact same ht rfl hwl (wl_cons.mpr ⟨wl_get hwl hz, hws⟩) (g_iload C hD0 hz)
  · have e := chkL_len hL (fun _ _ _ _ => by intro q; cases q); subst e
    obtain ⟨z, hz, ht⟩ := stA_spec hs
    exact same ht rfl hwl (wl_cons.mpr ⟨wl_get hwl hz, hws⟩) (g_aload_n C hD0 hz)
  · have e := chkL_len hL (fun _ _ _ _ => by intro q; cases q); subst e
    obtain ⟨z, hz, ht⟩ := stA_spec hs
    exact same ht rfl hwl (wl_cons.mpr ⟨wl_get hwl hz, hws⟩) (g_aload C hD0 hz)
  · have e := chkL_len hL (fun _ _ _ _ => by intro q; cases q); subst e
    obtain ⟨z, st2, rfl, hi, ht⟩ := ssI_spec hs
    exact same ht List.length_set (wl_set hwl (wl_cons.mp hws).1) (wl_cons.mp hws).2 (g_istore_n C hD0 (by rw [← hnL]; exact hi))
  · have e := chkL_len hL (fun _ _ _ _ => by intro q; cases q); subst e
    obtain ⟨z, st2, rfl, hi, ht⟩ := ssI_spec hs
    exact same ht List.length_set (wl_set hwl (wl_cons.mp hws).1) (wl_cons.mp hws).2 (g_istore C hD0 (by rw [← hnL]; exact hi))
  · have e := chkL_len hL (fun _ _ _ _ => by intro q; cases q); subst e
    obtain ⟨z, st2, rfl, hi, ht⟩ := ssA_spec hs
    exact same ht List.length_set (wl_set hwl (wl_cons.mp hws).1) (wl_cons.mp hws).2 (g_astore_n C hD0 (by rw [← hnL]; exact hi))
  · rename_i i n
    have e := chkL_len hL (fun _ _ _ _ => by intro q; cases q); subst e
    split at hs
    · rename_i z hz
      exact same (Option.some.inj hs).symm List.length_set (wl_set hwl (inr_w2 _ _ _)) hws (g_iinc C hD0 hz (by rw [← hnL]; exact (List.getElem?_eq_some_iff.mp hz).1))
    · cases hs
  · have e := chkL_len hL (fun _ _ _ _ => by intro q; cases q); subst e
    obtain ⟨x, y, st2, rfl, ht⟩ := sbin_spec hs
    exact same ht rfl hwl (wl_cons.mpr ⟨inr_w2 _ _ _, (wl_c2 hws).2.2⟩) (g_iadd C hD0)
  · have e := chkL_len hL (fun _ _ _ _ => by intro q; cases q); subst e
    obtain ⟨x, y, st2, rfl, ht⟩ := sbin_spec hs
    exact same ht rfl hwl (wl_cons.mpr ⟨inr_w2 _ _ _, (wl_c2 hws).2.2⟩) (g_isub C hD0)
  · have e := chkL_len hL (fun _ _ _ _ => by intro q; cases q); subst e
    obtain ⟨x, y, st2, rfl, ht⟩ := sbin_spec hs
    exact same ht rfl hwl (wl_cons.mpr ⟨inr_w2 _ _ _, (wl_c2 hws).2.2⟩) (g_imul C hD0)
  · have e := chkL_len hL (fun _ _ _ _ => by intro q; cases q); subst e
    obtain ⟨x, y, st2, rfl, ht⟩ := sbin_spec hs
    exact same ht rfl hwl (wl_cons.mpr ⟨inr_w2 _ _ _, (wl_c2 hws).2.2⟩) (g_iand C hD0)
  · have e := chkL_len hL (fun _ _ _ _ => by intro q; cases q); subst e
    obtain ⟨x, y, st2, rfl, ht⟩ := sbin_spec hs
    exact same ht rfl hwl (wl_cons.mpr ⟨inr_w2 _ _ _, (wl_c2 hws).2.2⟩) (g_ior C hD0)
  · have e := chkL_len hL (fun _ _ _ _ => by intro q; cases q); subst e
    obtain ⟨x, y, st2, rfl, ht⟩ := sbin_spec hs
    exact same ht rfl hwl (wl_cons.mpr ⟨inr_w2 _ _ _, (wl_c2 hws).2.2⟩) (g_ishl C hD0)
  · have e := chkL_len hL (fun _ _ _ _ => by intro q; cases q); subst e
    obtain ⟨x, y, st2, rfl, ht⟩ := sbin_spec hs
    exact same ht rfl hwl (wl_cons.mpr ⟨inr_w2 _ _ _, (wl_c2 hws).2.2⟩) (g_ishr C hD0)
  · have e := chkL_len hL (fun _ _ _ _ => by intro q; cases q); subst e
    obtain ⟨x, y, st2, rfl, hy, ht⟩ := sdiv_spec hs
    exact same ht rfl hwl (wl_cons.mpr ⟨inr_w2 _ _ _, (wl_c2 hws).2.2⟩) (g_idiv C hD0 (wl_c2 hws).1 hy)
  · have e := chkL_len hL (fun _ _ _ _ => by intro q; cases q); subst e
    obtain ⟨x, y, st2, rfl, hy, ht⟩ := sdiv_spec hs
    exact same ht rfl hwl (wl_cons.mpr ⟨inr_w2 _ _ _, (wl_c2 hws).2.2⟩) (g_irem C hD0 (wl_c2 hws).1 hy)
  · have e := chkL_len hL (fun _ _ _ _ => by intro q; cases q); subst e
    split at hs
    · exact same (Option.some.inj hs).symm rfl hwl (wl_cons.mpr ⟨inr_w2 _ _ _, (wl_cons.mp hws).2⟩) (g_ineg C hD0)
    · cases hs
  · have e := chkL_len hL (fun _ _ _ _ => by intro q; cases q); subst e
    split at hs
    · cases hs
    · rename_i v st2 hv
      have hd : isDb v = false := by
        rcases v with z | r | x
        · rfl
        · rfl
        · exact absurd rfl (hv x)
      exact same (Option.some.inj hs).symm rfl hwl (wl_cons.mpr ⟨(wl_cons.mp hws).1, hws⟩) (g_dup C hD0 hd)
    · cases hs
  · have e := chkL_len hL (fun _ _ _ _ => by intro q; cases q); subst e
    split at hs
    · cases hs
    · rename_i v st2 hv
      have hd : isDb v = false := by
        rcases v with z | r | x
        · rfl
        · rfl
        · exact absurd rfl (hv x)
      exact same (Option.some.inj hs).symm rfl hwl (wl_cons.mp hws).2 (g_pop C hD0 hd)
    · cases hs
  · have e := chkL_len hL (fun _ _ _ _ => by intro q; cases q); subst e
    split at hs
    · cases hs
    · cases hs
    · rename_i v u st2 hv hu
      have hd : isDb v = false := by
        rcases v with z | r | x
        · rfl
        · rfl
        · exact absurd rfl (hv x)
      have hd2 : isDb u = false := by
        rcases u with z | r | x
        · rfl
        · rfl
        · exact absurd rfl (hu x)
      exact same (Option.some.inj hs).symm rfl hwl (wl_cons.mpr ⟨(wl_c2 hws).1, wl_cons.mpr ⟨(wl_c2 hws).2.1, hws⟩⟩) (g_dup2 C hD0 hd hd2)
    · cases hs
  · have e := chkL_len hL (fun _ _ _ _ => by intro q; cases q); subst e
    split at hs
    · split at hs
      · rename_i ht
        exact same (Option.some.inj hs).symm rfl hwl (wl_cons.mp hws).2 (g_if C hD0 ht (wl_cons.mp hws).1)
      · cases hs
    · cases hs
  · have e := chkL_len hL (fun _ _ _ _ => by intro q; cases q); subst e
    split at hs
    · split at hs
      · rename_i ht
        exact same (Option.some.inj hs).symm rfl hwl (wl_c2 hws).2.2 (g_icmp C hD0 ht (wl_c2 hws).2.1 (wl_c2 hws).1)
      · cases hs
    · cases hs
  · have e := chkL_len hL (fun _ _ _ _ => by intro q; cases q); subst e
    split at hs
    · split at hs
      · rename_i ht
        exact same (Option.some.inj hs).symm rfl hwl (wl_cons.mp hws).2 (g_ifnull C hD0 ht)
      · cases hs
    · cases hs
  · have e := chkL_len hL (fun _ _ _ _ => by intro q; cases q); subst e
    split at hs
    · split at hs
      · rename_i ht
        exact same (Option.some.inj hs).symm rfl hwl (wl_cons.mp hws).2 (g_ifnonnull C hD0 ht)
      · cases hs
    · cases hs
  · have e := chkL_len hL (fun _ _ _ _ => by intro q; cases q); subst e
    split at hs
    · rename_i ht
      exact same (Option.some.inj hs).symm rfl hwl hws (g_goto C hD0 ht)
    · cases hs
  · split at hs
    · split at hs
      · rename_i hq
        split at hs
        · rename_i ht
          exact same (Option.some.inj hs).symm rfl hwl (wl_cons.mp hws).2 (g_tabOut C hD0 (wl_cons.mp hws).1 hq ht)
        · cases hs
      · rename_i hq
        split at hs
        · rename_i off ho
          split at hs
          · rename_i ht
            exact same (Option.some.inj hs).symm rfl hwl (wl_cons.mp hws).2 (g_tabIn C hD0 (wl_cons.mp hws).1 hq ho ht)
          · cases hs
        · cases hs
    · cases hs
  · have e := chkL_len hL (fun _ _ _ _ => by intro q; cases q); subst e
    split at hs
    · split at hs
      · rename_i c0 fs hi
        split at hs
        · rename_i hc0
          subst hc0
          split at hs
          · rename_i v hv
            exact same (Option.some.inj hs).symm rfl hwl (wl_cons.mpr ⟨wl_get (wh_get hw hi) hv, (wl_cons.mp hws).2⟩) (g_getf C hD0 hl hO hi hv)
          · cases hs
        · cases hs
      · cases hs
    · cases hs
  · have e := chkL_len hL (fun _ _ _ _ => by intro q; cases q); subst e
    split at hs
    · split at hs
      · rename_i c0 fs hi
        split at hs
        · rename_i hc0
          obtain ⟨hc0, hb, hf, hfin⟩ := hc0
          subst hc0
          exact sett (Option.some.inj hs).symm hi List.length_set (wl_set (wh_get hw hi) (wl_c2 hws).1) (wl_c2 hws).2.2 (g_putf C hD0 hl hO hi hb hf hfin)
        · cases hs
      · cases hs
    · cases hs
  · have e := chkL_len hL (fun _ _ _ _ => by intro q; cases q); subst e
    split at hs
    · split at hs
      · rename_i c0 fs hi
        split at hs
        · rename_i hc0
          obtain ⟨hc0, hz⟩ := hc0
          subst hc0
          split at hs
          · rename_i x hv
            exact same (Option.some.inj hs).symm rfl hwl (wl_cons.mpr ⟨wl_get (wh_get hw hi) hv, (wl_c2 hws).2.2⟩) (g_iald C hD0 hl (wl_c2 hws).1 hz hi hv)
          · cases hs
        · cases hs
      · cases hs
    · cases hs
  · have e := chkL_len hL (fun _ _ _ _ => by intro q; cases q); subst e
    split at hs
    · split at hs
      · rename_i c0 fs hi
        split at hs
        · rename_i hc0
          obtain ⟨hc0, hz, hlt⟩ := hc0
          subst hc0
          have h1 := wl_c2 hws
          exact sett (Option.some.inj hs).symm hi List.length_set (wl_set (wh_get hw hi) h1.1) (wl_cons.mp h1.2.2).2 (g_iast C hD0 hl h1.2.1 hz hi hlt)
        · cases hs
      · cases hs
    · cases hs
  · have e := chkL_len hL (fun _ _ _ _ => by intro q; cases q); subst e
    split at hs
    · split at hs
      · rename_i c0 fs hi
        split at hs
        · rename_i hc0
          obtain ⟨hc0, hz⟩ := hc0
          subst hc0
          split at hs
          · rename_i x hv
            exact same (Option.some.inj hs).symm rfl hwl (wl_cons.mpr ⟨wl_get (wh_get hw hi) hv, (wl_c2 hws).2.2⟩) (g_aald C hD0 hl (wl_c2 hws).1 hz hi hv)
          · cases hs
        · cases hs
      · cases hs
    · cases hs
  · have e := chkL_len hL (fun _ _ _ _ => by intro q; cases q); subst e
    split at hs
    · split at hs
      · rename_i c0 fs c2 vs hi hv
        split at hs
        · rename_i hc0
          obtain ⟨hc0, hc2, hz, hlt⟩ := hc0
          subst hc0; subst hc2
          have h1 := wl_c2 hws
          exact sett (Option.some.inj hs).symm hi List.length_set (wl_set (wh_get hw hi) h1.1) (wl_cons.mp h1.2.2).2 (g_aast C hD0 hl h1.2.1 hz hi hv hlt)
        · cases hs
      · cases hs
    · cases hs
  · have e := chkL_len hL (fun _ _ _ _ => by intro q; cases q); subst e
    split at hs
    · split at hs
      · rename_i c0 fs hi
        split at hs
        · rename_i hc0
          exact same (Option.some.inj hs).symm rfl hwl (wl_cons.mpr ⟨nat_inr hc0.2, (wl_cons.mp hws).2⟩) (g_alen C hD0 hl hc0.1 hi)
        · cases hs
      · cases hs
    · cases hs
  · have e := chkL_len hL (fun _ _ _ _ => by intro q; cases q); subst e
    split at hs
    · rename_i hd
      subst hd
      exact same (Option.some.inj hs).symm rfl hwl (wl_cons.mpr ⟨trivial, hws⟩) (g_dconst C hD0)
    · cases hs
  · have e := chkL_len hL (fun _ _ _ _ => by intro q; cases q); subst e
    split at hs
    · exact same (Option.some.inj hs).symm rfl hwl (wl_cons.mpr ⟨trivial, (wl_cons.mp hws).2⟩) (g_i2d C hD0)
    · cases hs
  · have e := chkL_len hL (fun _ _ _ _ => by intro q; cases q); subst e
    split at hs
    · split at hs
      · rename_i hn
        exact same (Option.some.inj hs).symm rfl hwl (wl_cons.mpr ⟨trivial, (wl_c2 hws).2.2⟩) (g_ddiv C hD0 hn)
      · cases hs
    · cases hs
  · have e := chkL_len hL (fun _ _ _ _ => by intro q; cases q); subst e
    split at hs
    · cases hs
      refine ⟨Kp_push hwl hws hw (dflO_wl _ _), fun hc2 hs2 kk => ?_⟩
      have ho : a < 9 := by
        unfold chkO at hO
        simp only [] at hO
        split at hO
        · rename_i hq; exact vw_lt hq
        · cases hO
      have e1 : (h ++ [(a, dflO a)]).length - h.length = 1 := by simp
      have e2 : slN (h ++ [(a, dflO a)]) - slN h = nC a := by
        rw [slN_push]
        show slN h + slO (a, dflO a) - slN h = nC a
        unfold slO
        rw [if_neg (by simp only []; omega)]
        exact Nat.add_sub_cancel_left _ _
      have hc3 : cells + ((h ++ [(a, dflO a)]).length - h.length) ≤ R.cells := hc2
      have hs3 : slots + (slN (h ++ [(a, dflO a)]) - slN h) ≤ R.slots := hs2
      rw [e1] at hc3
      rw [e2] at hs3
      refine g_new C hl hw hwl hws hD0 (by unfold chkO at hO ⊢; exact hO) hA hc3 hs3 (fun q => ?_)
      have h3 := kk (as ++ [q]) (List.prefix_append _ _) (by show (as ++ [q]).length = (h ++ [(a, dflO a)]).length; simp [hl])
      have h4 : Wg p l e R s m args below meth c D cI cG A Q nL (as ++ [q]) (cells + ((h ++ [(a, dflO a)]).length - h.length)) (slots + (slN (h ++ [(a, dflO a)]) - slN h)) (pc + 3) ls (Rf h.length :: st) (h ++ [(a, dflO a)]) := h3
      rw [e1, e2] at h4
      exact h4
    · cases hs
  · have e := chkL_len hL (fun _ _ _ _ => by intro q; cases q); subst e
    split at hs
    · rename_i n st2
      split at hs
      · rename_i hq
        obtain ⟨_, rfl, h0, h1⟩ := hq
        cases hs
        have hwf : wl (h.length + 1) (List.replicate n.toNat (I 0)) := fun v hv => by rw [List.eq_of_mem_replicate hv]; exact inr_0
        refine ⟨Kp_push (o := (100, List.replicate n.toNat (I 0))) hwl (wl_cons.mp hws).2 hw hwf, fun hc2 hs2 kk => ?_⟩
        have e1 : (h ++ [(100, List.replicate n.toNat (I 0))]).length - h.length = 1 := by simp
        have e2 : slN (h ++ [(100, List.replicate n.toNat (I 0))]) - slN h = n.toNat := by
          rw [slN_push]
          show slN h + slO (100, List.replicate n.toNat (I 0)) - slN h = n.toNat
          unfold slO
          rw [if_pos (Or.inl rfl), List.length_replicate]
          omega
        have hc3 : cells + ((h ++ [(100, List.replicate n.toNat (I 0))]).length - h.length) ≤ R.cells := hc2
        have hs3 : slots + (slN (h ++ [(100, List.replicate n.toNat (I 0))]) - slN h) ≤ R.slots := hs2
        rw [e1] at hc3
        rw [e2] at hs3
        refine g_newa C hl hw hwl (wl_cons.mp hws).2 hD0 h0 h1 hA hc3 hs3 (fun q => ?_)
        have h3 := kk (as ++ [q]) (List.prefix_append _ _) (by show (as ++ [q]).length = (h ++ [(100, List.replicate n.toNat (I 0))]).length; simp [hl])
        have h4 : Wg p l e R s m args below meth c D cI cG A Q nL (as ++ [q]) (cells + ((h ++ [(100, List.replicate n.toNat (I 0))]).length - h.length)) (slots + (slN (h ++ [(100, List.replicate n.toNat (I 0))]) - slN h)) (pc + 2) ls (Rf h.length :: st2) (h ++ [(100, List.replicate n.toNat (I 0))]) := h3
        rw [e1, e2] at h4
        exact h4
      · cases hs
    · cases hs
  · have e := chkL_len hL (fun _ _ _ _ => by intro q; cases q); subst e
    split at hs
    · rename_i n st2
      split at hs
      · rename_i hq
        obtain ⟨_, rfl, h0, h1⟩ := hq
        cases hs
        have hwf : wl (h.length + 1) (List.replicate n.toNat Nu) := fun v hv => by rw [List.eq_of_mem_replicate hv]; trivial
        refine ⟨Kp_push (o := (101, List.replicate n.toNat Nu)) hwl (wl_cons.mp hws).2 hw hwf, fun hc2 hs2 kk => ?_⟩
        have e1 : (h ++ [(101, List.replicate n.toNat Nu)]).length - h.length = 1 := by simp
        have e2 : slN (h ++ [(101, List.replicate n.toNat Nu)]) - slN h = n.toNat := by
          rw [slN_push]
          show slN h + slO (101, List.replicate n.toNat Nu) - slN h = n.toNat
          unfold slO
          rw [if_pos (Or.inr rfl), List.length_replicate]
          omega
        have hc3 : cells + ((h ++ [(101, List.replicate n.toNat Nu)]).length - h.length) ≤ R.cells := hc2
        have hs3 : slots + (slN (h ++ [(101, List.replicate n.toNat Nu)]) - slN h) ≤ R.slots := hs2
        rw [e1] at hc3
        rw [e2] at hs3
        refine g_anew C hl hw hwl (wl_cons.mp hws).2 hD0 (lwG_in (isW_mem hO) rfl) h0 h1 hA hc3 hs3 (fun q => ?_)
        have h3 := kk (as ++ [q]) (List.prefix_append _ _) (by show (as ++ [q]).length = (h ++ [(101, List.replicate n.toNat Nu)]).length; simp [hl])
        have h4 : Wg p l e R s m args below meth c D cI cG A Q nL (as ++ [q]) (cells + ((h ++ [(101, List.replicate n.toNat Nu)]).length - h.length)) (slots + (slN (h ++ [(101, List.replicate n.toNat Nu)]) - slN h)) (pc + 3) ls (Rf h.length :: st2) (h ++ [(101, List.replicate n.toNat Nu)]) := h3
        rw [e1, e2] at h4
        exact h4
      · cases hs
    · cases hs
  · cases hs
end Sound
end
section
/-! ===== WHOLE RUNS ===== -/
/-- what a run keeps: the heap in range, the answer in range, the heap grows alone -/
def KpR (h : AH) (r : Option AV) (h' : AH) : Prop := wh h' ∧ (∀ v, r = some v → wv h'.length v) ∧ h.length ≤ h'.length ∧ slN h ≤ slN h'
theorem retOk_wv {k : Nat} {st : List AV} {i : Instr} {r : Option AV} {n : Nat} (hr : retOk k st i = some r) (hws : wl n st) : ∀ v, r = some v → wv n v := by
  intro v hv
  subst hv
  unfold retOk at hr
  split at hr
  · cases hr
  · cases hr; exact (wl_cons.mp hws).1
  · split at hr
    · cases hr; exact (wl_cons.mp hws).1
    · cases hr
  · cases hr; exact (wl_cons.mp hws).1
  · cases hr; trivial
  · cases hr
theorem mathB_wl {a n : Nat} {st rest : List AV} {v : AV} (hv : mathB a st = some (v, rest)) (hws : wl n st) : wl n (v :: rest) := by
  unfold mathB at hv
  split at hv
  · rename_i y st1
    have hy : wv n (I y) := (wl_cons.mp hws).1
    have h1 := (wl_cons.mp hws).2
    split at hv
    · cases hv
      refine wl_cons.mpr ⟨?_, h1⟩
      show inr _
      split
      · exact hy
      · exact inr_w2 _ _ _
    · split at hv
      · rename_i x st2
        have hx : wv n (I x) := (wl_cons.mp h1).1
        split at hv
        · cases hv
          refine wl_cons.mpr ⟨?_, (wl_cons.mp h1).2⟩
          show inr _
          split
          · exact hy
          · exact hx
        · split at hv
          · cases hv
            refine wl_cons.mpr ⟨?_, (wl_cons.mp h1).2⟩
            show inr _
            split
            · exact hy
            · exact hx
          · cases hv
      · cases hv
  · cases hv
theorem loc0_wl {n k : Nat} {av : List AV} (h : wl n av) : wl n (loc0 k av) := wl_app.mpr ⟨h, fun v hv => by rw [List.eq_of_mem_replicate hv]; trivial⟩
theorem loc0_len {k : Nat} {av : List AV} (h : av.length ≤ maxl k) : (loc0 k av).length = maxl k := by
  unfold loc0
  simp
  omega
theorem isI_ret_all : ∀ k, k < 175 → isI k = true → rM k = none := by decide +kernel
theorem isI_ret {k : Nat} (h : k < 175) (hi : isI k = true) : rM k = none := isI_ret_all k h hi
theorem ret_len {k : Nat} {st : List AV} {i : Instr} {r : Option AV} (h : retOk k st i = some r) : lenI i = 1 := by
  unfold retOk at h
  split at h <;> first | rfl | cases h
section Runs
variable {l : Launch} {D : va_G} {cI cG : ClassId}
/-- a run from any point, as the machine's -/
def RunS (l : Launch) (D : va_G) (cI cG : ClassId) (n : Nat) : Prop := ∀ (k pc : Nat) (ls st : List AV) (h : AH) (r : Option AV) (h' : AH), arun n k pc ls st h = some (r, h') → k < 175 → wh h → wl h.length ls → wl h.length st → ls.length = maxl k →
  KpR h r h' ∧ ∀ (p : Program) (e : Env) (R : Room) (s : State) (m : MethodId) (args : Array Value) (below : List Frame) (meth : Method) (c : Code) (A : Nat → Prop) (as0 as : List Nat) (cells slots mc ms : Nat), Ctx p s m args meth c D cI cG k → as0 <+: as → as.length = h.length → (∀ q, s.heap.size ≤ q → A q) → dpM k ≤ R.frames → lcM k ≤ R.locals → cells + (h'.length - h.length) = mc → slots + (slN h' - slN h) = ms → mc ≤ R.cells → ms ≤ R.slots →
    Wg p l e R s m args below meth c D cI cG A (MQ below (Qcn D cI cG as0 h' r A) args s mc ms A) (maxl k) as cells slots pc ls st h
set_option maxHeartbeats 4000000 in
/-- the contract of a method, out of runs -/
theorem Cok_of {n k : Nat} {as : List Nat} {av : List AV} {h : AH} {r : Option AV} {h' : AH} (ih : RunS l D cI cG n) (hr : arun n k 0 (loc0 k av) [] h = some (r, h')) (hk : k < 175) (hw : wh h) (hav : wl h.length av) (hn : av.length = nar k) (hmx : nar k ≤ maxl k) (hdb : noDb av = true) (hl : as.length = h.length) : Cok l D cI cG k as av h r h' := by
  obtain ⟨m1, m2, m3, m4, m5, m6, m7, m8⟩ := okM_spec hk
  intro sz
  refine Met.ofW (cc := bM k) (maxL := maxl k) (ret := rM k) m5 rfl ?_
  intro p e s m args below meth c s₁ B hml hv
  obtain ⟨rfl, hsz, hP, hK, hAO, hN, hD0⟩ := hv
  have hts0 := atoms_spec (ws := wsM k) B.pre
  have hts : ∀ w ∈ lwG, w.before ((av.map (cv as)).toArray) s = true := fun w hw => hts0 w (List.mem_cons_of_mem _ hw)
  have hown : s.vm.findClass (oN (mOs.getD k 0)) = some m.cls := by rw [m8]; exact findClass_of_methodNamed B.named
  have C : Ctx p s m ((av.map (cv as)).toArray) meth c D cI cG k := ⟨B.exec, B.bytes, hml, hown, hts, hK, hAO, B.notSynchronized, B.returns, fun q => by
    have h1 : meth.name = (yM k).name := (name_of_methodNamed B.named B.method).1
    rw [h1]
    simpa [isI] using q, hN⟩
  subst hsz
  have hD := hD0.self (sz := s.heap.size)
  have hA : ∀ q : Nat, s.heap.size ≤ q → va_A (wsO cI cG as h) s.heap.size q := fun q h => Or.inr h
  have hS : va_S (va_A (wsO cI cG as h) s.heap.size) s.heap s.heap [] := va_S.rf
  have hlen : (lg_sl (av.map (cv as))).length ≤ maxl k := by rw [lg_sl_len hdb, hn]; exact hmx
  have hl0 := lv_entry (av.map (cv as)) (n := maxl k) hlen
  rw [lg_entry_eq]
  generalize (lg_sl (av.map (cv as)) ++ List.replicate (maxl k - (lg_sl (av.map (cv as))).length) Slot.unset).toArray = lsA at hl0 ⊢
  have hlv : lv_has lsA (maxl k) (lvl as 0 (loc0 k av)) := by
    unfold loc0
    rw [lvl_append, lvl_db, List.append_nil, ← lv_args_eq hdb]
    exact hl0
  have h1 := (ih k 0 (loc0 k av) [] h r h' hr hk hw (loc0_wl hav) wl_nil (loc0_len (by rw [hn]; exact hmx))).2 p e (headSpec (wsM k) (rmM k h h')).room s m ((av.map (cv as)).toArray) below meth c (va_A (wsO cI cG as h) s.heap.size) as as 0 0 (h'.length - h.length) (slN h' - slN h) C (List.prefix_refl _) hl hA (Nat.le_refl _) (Nat.le_refl _) (Nat.zero_add _) (Nat.zero_add _) (Nat.le_refl _) (Nat.le_refl _)
  exact h1 s.heap [] lsA hP hD hS hlv
set_option maxHeartbeats 8000000 in
theorem runs (n : Nat) : RunS l D cI cG n := by
  induction n with
  | zero =>
    intro k pc ls st h r h' hr
    exact absurd hr (by simp [arun])
  | succ n ih =>
    intro k pc ls st h r h' hr hk hw hwl hws hls
    unfold arun at hr
    split at hr
    · cases hr
    rename_i E hE
    obtain ⟨hmem, hpc⟩ := cd_mem hE
    subst hpc
    have hD0 := okD_spec hk hmem
    obtain ⟨hL, hO⟩ := okL_spec hk hmem
    split at hr
    · rename_i pc' ls' st' h1 hs
      obtain ⟨k1, k2, k3, k4, k5, k6⟩ := ast_kp hs hw hwl hws
      obtain ⟨⟨q1, q2, q3, q4⟩, q5⟩ := ih k pc' ls' st' h1 r h' hr hk k4 k2 k3 (k1.trans hls)
      refine ⟨⟨q1, q2, Nat.le_trans k5 q3, Nat.le_trans k6 q4⟩, ?_⟩
      intro p e R s m args below meth c A as0 as cells slots mc ms C has hl hA hRf hRl hmc hms hmc2 hms2
      have k5' : h.length ≤ h1.length := k5
      have k6' : slN h ≤ slN h1 := k6
      refine (ast_sound C hD0 hL hO hs hl hw hwl hws hA hls).2 (by show cells + (h1.length - h.length) ≤ R.cells; omega) (by show slots + (slN h1 - slN h) ≤ R.slots; omega) (fun as' g1 g2 => ?_)
      exact q5 p e R s m args below meth c A as0 as' _ _ mc ms C (has.trans g1) g2 hA hRf hRl (by show cells + (h1.length - h.length) + (h'.length - h1.length) = mc; omega) (by show slots + (slN h1 - slN h) + (slN h' - slN h1) = ms; omega) hmc2 hms2
    · split at hr
      · -- invokevirtual
        rename_i idx hins
        obtain ⟨pc, ins, len, a, b, pl⟩ := E
        simp only [] at hins hr hD0
        subst hins
        have e := chkL_len hL (fun _ _ _ _ => by intro q; cases q); subst e
        split at hr
        · rename_i av rest hst
          split at hr
          · rename_i hok
            simp only [Bool.and_eq_true, Bool.not_eq_true'] at hok
            obtain ⟨⟨⟨⟨ok1, ok2⟩, ok3⟩, ok4⟩, ok5⟩ := hok
            obtain ⟨c1, c2, c3, c4, c5⟩ := callOk_spec ok1
            obtain ⟨e1, e2⟩ := popA_spec hst
            have hsplit := wl_app.mp (by rw [← e1]; exact hws : wl h.length (av.reverse ++ rest))
            have hav : wl h.length av := fun v hv => hsplit.1 v (List.mem_reverse.mpr hv)
            split at hr
            · rename_i r1 h1 hcal
              split at hr
              · rename_i hlen
                obtain ⟨⟨w1, w2', w3, w4⟩, -⟩ := ih a 0 (loc0 a av) [] h r1 h1 hcal c5 hw (loc0_wl hav) wl_nil (loc0_len (by rw [e2]; exact c4))
                have hst2 : wl h1.length (r1.toList ++ rest) := wl_app.mpr ⟨fun v hv => w2' v (Option.mem_toList.mp hv), wl_mono w3 hsplit.2⟩
                obtain ⟨⟨q1, q2, q3, q4⟩, q5⟩ := ih k (pc + 3) ls (r1.toList ++ rest) h1 r h' hr hk w1 (wl_mono w3 hwl) hst2 hls
                refine ⟨⟨q1, q2, Nat.le_trans w3 q3, Nat.le_trans w4 q4⟩, ?_⟩
                intro p e R s m args below meth c A as0 as cells slots mc ms C has hl hA hRf hRl hmc hms hmc2 hms2
                refine g_callV C (Cok_of ih hcal c5 hw hav e2 c4 ok3 hl) hD0 (lwG_in (isW_mem hO) rfl) ok1 ok2 hst ok4 ok5 hl hwl hws hA ⟨hRf, hRl⟩ (by omega) (by omega) rfl (fun as' g1 g2 => ?_)
                exact q5 p e R s m args below meth c A as0 as' _ _ mc ms C (has.trans g1) g2 hA hRf hRl (by omega) (by omega) hmc2 hms2
              · cases hr
            · cases hr
          · cases hr
        · cases hr
      · -- invokestatic
        rename_i idx hins
        obtain ⟨pc, ins, len, a, b, pl⟩ := E
        simp only [] at hins hr hD0
        subst hins
        have e := chkL_len hL (fun _ _ _ _ => by intro q; cases q); subst e
        split at hr
        · split at hr
          · rename_i v rest hv
            split at hr
            · rename_i hok
              have hst2 := mathB_wl hv hws
              obtain ⟨⟨q1, q2, q3, q4⟩, q5⟩ := ih k (pc + 3) ls (v :: rest) h r h' hr hk hw hwl hst2 hls
              refine ⟨⟨q1, q2, q3, q4⟩, ?_⟩
              intro p e R s m args below meth c A as0 as cells slots mc ms C has hl hA hRf hRl hmc hms hmc2 hms2
              refine g_math C hD0 hO hv hws hok.1 ⟨Nat.le_trans hok.2.1 hRf, Nat.le_trans hok.2.2 hRl⟩ (by omega) (by omega) rfl ?_
              exact q5 p e R s m args below meth c A as0 as _ _ mc ms C has hl hA hRf hRl hmc hms hmc2 hms2
            · cases hr
          · cases hr
        · rename_i h900
          split at hr
          · rename_i av rest hst
            split at hr
            · rename_i hok
              simp only [Bool.and_eq_true] at hok
              obtain ⟨⟨ok1, ok3⟩, ok4⟩ := hok
              obtain ⟨c1, c2, c3, c4, c5⟩ := callOk_spec ok1
              obtain ⟨e1, e2⟩ := popA_spec hst
              have hsplit := wl_app.mp (by rw [← e1]; exact hws : wl h.length (av.reverse ++ rest))
              have hav : wl h.length av := fun v hv => hsplit.1 v (List.mem_reverse.mpr hv)
              split at hr
              · rename_i r1 h1 hcal
                split at hr
                · rename_i hlen
                  obtain ⟨⟨w1, w2', w3, w4⟩, -⟩ := ih a 0 (loc0 a av) [] h r1 h1 hcal c5 hw (loc0_wl hav) wl_nil (loc0_len (by rw [e2]; exact c4))
                  have hst2 : wl h1.length (r1.toList ++ rest) := wl_app.mpr ⟨fun v hv => w2' v (Option.mem_toList.mp hv), wl_mono w3 hsplit.2⟩
                  obtain ⟨⟨q1, q2, q3, q4⟩, q5⟩ := ih k (pc + 3) ls (r1.toList ++ rest) h1 r h' hr hk w1 (wl_mono w3 hwl) hst2 hls
                  refine ⟨⟨q1, q2, Nat.le_trans w3 q3, Nat.le_trans w4 q4⟩, ?_⟩
                  intro p e R s m args below meth c A as0 as cells slots mc ms C has hl hA hRf hRl hmc hms hmc2 hms2
                  have hO2 : isW pl (.methodLink (oN (mOs.getD k 0)) idx (yM a)) = true := by
                    unfold chkO at hO
                    simp only [] at hO
                    rw [if_neg (by omega), if_neg (by omega), if_neg (by omega)] at hO
                    exact hO
                  refine g_callS C (Cok_of ih hcal c5 hw hav e2 c4 ok3 hl) hD0 (lwG_in (isW_mem hO2) rfl) ok1 hst ok4 hl hwl hws hA ⟨hRf, hRl⟩ (by omega) (by omega) rfl (fun as' g1 g2 => ?_)
                  exact q5 p e R s m args below meth c A as0 as' _ _ mc ms C (has.trans g1) g2 hA hRf hRl (by omega) (by omega) hmc2 hms2
                · cases hr
              · cases hr
            · cases hr
          · cases hr
      · -- invokespecial
        rename_i idx hins
        obtain ⟨pc, ins, len, a, b, pl⟩ := E
        simp only [] at hins hr hD0
        subst hins
        have e := chkL_len hL (fun _ _ _ _ => by intro q; cases q); subst e
        split at hr
        · rename_i h999
          split at hr
          · rename_i i rest _
            split at hr
            · rename_i hok
              have hst2 := (wl_cons.mp hws).2
              obtain ⟨⟨q1, q2, q3, q4⟩, q5⟩ := ih k (pc + 3) ls rest h r h' hr hk hw hwl hst2 hls
              refine ⟨⟨q1, q2, q3, q4⟩, ?_⟩
              intro p e R s m args below meth c A as0 as cells slots mc ms C has hl hA hRf hRl hmc hms hmc2 hms2
              have hO2 : isW pl (.methodLink (oN (mOs.getD k 0)) idx objectInit) = true := by
                unfold chkO at hO
                simp only [] at hO
                rw [if_pos h999] at hO
                exact hO
              refine g_obj C hD0 (lwG_in (isW_mem hO2) rfl) hok.1 ⟨Nat.le_trans hok.2.1 hRf, Nat.le_trans hok.2.2 hRl⟩ rfl ?_
              exact q5 p e R s m args below meth c A as0 as _ _ mc ms C has hl hA hRf hRl hmc hms hmc2 hms2
            · cases hr
          · cases hr
        · rename_i h999
          split at hr
          · rename_i av rest hst
            split at hr
            · rename_i hok
              simp only [Bool.and_eq_true, Bool.not_eq_true'] at hok
              obtain ⟨⟨⟨⟨⟨ok1, ok2⟩, ok3⟩, ok4⟩, ok5⟩, ok6⟩ := hok
              obtain ⟨c1, c2, c3, c4, c5⟩ := callOk_spec ok1
              obtain ⟨e1, e2⟩ := popA_spec hst
              have hsplit := wl_app.mp (by rw [← e1]; exact hws : wl h.length (av.reverse ++ rest))
              have hav : wl h.length av := fun v hv => hsplit.1 v (List.mem_reverse.mpr hv)
              split at hr
              · rename_i r1 h1 hcal
                split at hr
                · rename_i hrn
                  cases r1 with
                  | some v => cases hrn
                  | none =>
                    obtain ⟨⟨w1, w2', w3, w4⟩, -⟩ := ih a 0 (loc0 a av) [] h none h1 hcal c5 hw (loc0_wl hav) wl_nil (loc0_len (by rw [e2]; exact c4))
                    obtain ⟨⟨q1, q2, q3, q4⟩, q5⟩ := ih k (pc + 3) ls rest h1 r h' hr hk w1 (wl_mono w3 hwl) (wl_mono w3 hsplit.2) hls
                    refine ⟨⟨q1, q2, Nat.le_trans w3 q3, Nat.le_trans w4 q4⟩, ?_⟩
                    intro p e R s m args below meth c A as0 as cells slots mc ms C has hl hA hRf hRl hmc hms hmc2 hms2
                    have hO2 : Cond.methodLink (oN (mOs.getD k 0)) idx (yM a) ∈ lwG ∨ Cond.methodLinkNest (oN (mOs.getD k 0)) idx (yM a) "TankDivers" ∈ lwN := by
                      unfold chkO at hO
                      simp only [] at hO
                      rw [if_neg h999] at hO
                      split at hO
                      · exact Or.inr (lwN_in (isW_mem hO) rfl)
                      · exact Or.inl (lwG_in (isW_mem hO) rfl)
                    refine g_callI C (Cok_of ih hcal c5 hw hav e2 c4 ok3 hl) hD0 hO2 ok1 ok2 hst ok4 ok5 (isI_ret c5 ok5) hl hwl hws hA ⟨hRf, hRl⟩ (by omega) (by omega) rfl (fun as' g1 g2 => ?_)
                    exact q5 p e R s m args below meth c A as0 as' _ _ mc ms C (has.trans g1) g2 hA hRf hRl (by omega) (by omega) hmc2 hms2
                · cases hr
              · cases hr
            · cases hr
          · cases hr
      · -- a return
        split at hr
        · rename_i r1 hret
          cases hr
          obtain ⟨pc, ins, len, a, b, pl⟩ := E
          simp only [] at hret hD0
          have hlen : len = 1 := by
            have hz : ∀ d lo hi offs, ins ≠ .tableswitch d lo hi offs := by
              intro d lo hi offs q
              subst q
              cases hret
            have e := chkL_len hL hz
            rw [e]
            exact ret_len hret
          subst hlen
          refine ⟨⟨hw, retOk_wv hret hws, Nat.le_refl _, Nat.le_refl _⟩, ?_⟩
          intro p e R s m args below meth c A as0 as cells slots mc ms C has hl hA hRf hRl hmc hms hmc2 hms2
          have e1 : cells = mc := by omega
          have e2 : slots = ms := by omega
          subst e1; subst e2
          exact g_ret C hret hD0 has hl
        · cases hr
end Runs
end
section
/-! ===== runs without fuel: a value, by equations ===== -/
abbrev AOne : Type := ASt ⊕ ((Nat × List AV × Bool × List AV) ⊕ Option AV)
/-- what one step asks: to go on, a call, an end -/
def aone (k pc : Nat) (ls st : List AV) (h : AH) : Option AOne := match cd k pc with
  | none => none
  | some e =>
    match ast (isI k) e ls st h with
    | some t => some (.inl t)
    | none => match e.2.1 with
      | .invokevirtual _ => match popA (nar e.2.2.2.1) st with
        | some (as, rest) => if callOk k e.2.2.2.1 rest && clsOk h e.2.2.2.1 as[0]? && noDb as && !(stM e.2.2.2.1) && !(isI e.2.2.2.1) then some (.inr (.inl (e.2.2.2.1, as, true, rest))) else none
        | none => none
      | .invokestatic _ => if 900 ≤ e.2.2.2.1 then (match mathB e.2.2.2.1 st with
          | some (v, rest) => if rest.length ≤ 4 ∧ 1 ≤ dpM k ∧ 21 ≤ lcM k then some (.inl (pc + 3, ls, v :: rest, h)) else none
          | none => none) else
        match popA (nar e.2.2.2.1) st with
        | some (as, rest) => if callOk k e.2.2.2.1 rest && noDb as && stM e.2.2.2.1 then some (.inr (.inl (e.2.2.2.1, as, true, rest))) else none
        | none => none
      | .invokespecial _ => if e.2.2.2.1 = 999 then
          match st with
          | .inr (.inl (some _)) :: rest => if rest.length ≤ 4 ∧ 1 ≤ dpM k ∧ 20 ≤ lcM k then some (.inl (pc + 3, ls, rest, h)) else none
          | _ => none
        else match popA (nar e.2.2.2.1) st with
        | some (as, rest) => if callOk k e.2.2.2.1 rest && clsOk h e.2.2.2.1 as[0]? && noDb as && !(stM e.2.2.2.1) && isI e.2.2.2.1 && isI k then some (.inr (.inl (e.2.2.2.1, as, false, rest))) else none
        | none => none
      | i => match retOk k st i with
        | some r => some (.inr (.inr r))
        | none => none
abbrev ARec : Type := Nat → Nat → List AV → List AV → AH → Option (Option AV × AH)
def aafter (f : ARec) (k pc : Nat) (ls : List AV) (h : AH) (o : Option AOne) : Option (Option AV × AH) := match o with
  | none => none
  | some (.inl t) => f k t.1 t.2.1 t.2.2.1 t.2.2.2
  | some (.inr (.inl (k', as, true, rest))) => match f k' 0 (loc0 k' as) [] h with
    | some (r, h') => if h'.length = h.length then f k (pc + 3) ls (r.toList ++ rest) h' else none
    | none => none
  | some (.inr (.inl (k', as, false, rest))) => match f k' 0 (loc0 k' as) [] h with
    | some (r, h') => if r.isNone then f k (pc + 3) ls rest h' else none
    | none => none
  | some (.inr (.inr r)) => some (r, h)
theorem arun_succ (n k pc : Nat) (ls st : List AV) (h : AH) : arun (n + 1) k pc ls st h = aafter (arun n) k pc ls h (aone k pc ls st h) := by
  conv => lhs; unfold arun
  unfold aone
  cases hE : cd k pc with
  | none => rfl
  | some e =>
    obtain ⟨pc0, ins, len, a, b, p⟩ := e
    simp only []
    cases hs : ast (isI k) (pc0, ins, len, a, b, p) ls st h with
    | some t => rfl
    | none =>
      simp only []
      cases ins
      case invokevirtual i =>
        simp only []
        cases popA (nar a) st with
        | none => rfl
        | some q =>
          obtain ⟨as, rest⟩ := q
          simp only []
          generalize (callOk k a rest && clsOk h a as[0]? && noDb as && !(stM a) && !(isI a)) = b0
          cases b0 <;> rfl
      case invokestatic i =>
        simp only []
        by_cases h9 : 900 ≤ a
        · rw [if_pos h9, if_pos h9]
          cases mathB a st with
          | none => rfl
          | some q =>
            obtain ⟨v, rest⟩ := q
            simp only []
            by_cases hc : rest.length ≤ 4 ∧ 1 ≤ dpM k ∧ 21 ≤ lcM k
            · rw [if_pos hc, if_pos hc]; rfl
            · rw [if_neg hc, if_neg hc]; rfl
        · rw [if_neg h9, if_neg h9]
          cases popA (nar a) st with
          | none => rfl
          | some q =>
            obtain ⟨as, rest⟩ := q
            simp only []
            generalize (callOk k a rest && noDb as && stM a) = b0
            cases b0 <;> rfl
      case invokespecial i =>
        simp only []
        by_cases h9 : a = 999
        · rw [if_pos h9, if_pos h9]
          clear hs
          rcases st with _ | ⟨v, rest⟩
          · rfl
          rcases v with z | r | x
          · rfl
          · cases r with
            | none => rfl
            | some i0 =>
              simp only []
              by_cases hc : rest.length ≤ 4 ∧ 1 ≤ dpM k ∧ 20 ≤ lcM k
              · rw [if_pos hc, if_pos hc]; rfl
              · rw [if_neg hc, if_neg hc]; rfl
          · rfl
        · rw [if_neg h9, if_neg h9]
          cases popA (nar a) st with
          | none => rfl
          | some q =>
            obtain ⟨as, rest⟩ := q
            simp only []
            generalize (callOk k a rest && clsOk h a as[0]? && noDb as && !(stM a) && isI a && isI k) = b0
            cases b0 <;> rfl
      all_goals (simp only []; generalize retOk k st _ = o0; cases o0 <;> rfl)
theorem aafter_mono {f g : ARec} (hfg : ∀ k pc ls st h x, f k pc ls st h = some x → g k pc ls st h = some x) {k pc : Nat} {ls : List AV} {h : AH} {o : Option AOne} {x : Option AV × AH} (hx : aafter f k pc ls h o = some x) : aafter g k pc ls h o = some x := by
  unfold aafter at hx ⊢
  split at hx
  · cases hx
  · exact hfg _ _ _ _ _ _ hx
  · split at hx
    · rename_i r h' hc
      rw [hfg _ _ _ _ _ _ hc]
      simp only []
      split at hx
      · rename_i hl
        rw [if_pos hl]
        exact hfg _ _ _ _ _ _ hx
      · cases hx
    · cases hx
  · split at hx
    · rename_i r h' hc
      rw [hfg _ _ _ _ _ _ hc]
      simp only []
      split at hx
      · rename_i hl
        rw [if_pos hl]
        exact hfg _ _ _ _ _ _ hx
      · cases hx
    · cases hx
  · exact hx
theorem arun_mono1 (n : Nat) : ∀ k pc ls st h x, arun n k pc ls st h = some x → arun (n + 1) k pc ls st h = some x := by
  induction n with
  | zero => intro k pc ls st h x hx; exact absurd hx (by simp [arun])
  | succ n ih =>
    intro k pc ls st h x hx
    rw [arun_succ] at hx ⊢
    exact aafter_mono ih hx
theorem arun_mono {n m : Nat} (hnm : n ≤ m) : ∀ k pc ls st h x, arun n k pc ls st h = some x → arun m k pc ls st h = some x := by
  induction hnm with
  | refl => intro _ _ _ _ _ _ h; exact h
  | step _ ih => intro k pc ls st h x hx; exact arun_mono1 _ _ _ _ _ _ _ (ih k pc ls st h x hx)
theorem arun_det {n m k pc : Nat} {ls st : List AV} {h : AH} {x y : Option AV × AH} (hx : arun n k pc ls st h = some x) (hy : arun m k pc ls st h = some y) : x = y := by
  have h1 := arun_mono (Nat.le_max_left n m) k pc ls st h x hx
  have h2 := arun_mono (Nat.le_max_right n m) k pc ls st h y hy
  exact Option.some.inj (h1.symm.trans h2)
noncomputable def evL : ARec := fun k pc ls st h => @dite _ (∃ x n, arun n k pc ls st h = some x) (Classical.propDecidable _) (fun hx => some hx.choose) (fun _ => none)
theorem evL_iff {k pc : Nat} {ls st : List AV} {h : AH} {x : Option AV × AH} : evL k pc ls st h = some x ↔ ∃ n, arun n k pc ls st h = some x := by
  unfold evL
  constructor
  · intro q
    split at q
    · rename_i hx
      have h1 := hx.choose_spec
      rw [Option.some.inj q] at h1
      exact h1
    · cases q
  · rintro ⟨n, hn⟩
    have hx : ∃ x n, arun n k pc ls st h = some x := ⟨x, n, hn⟩
    rw [dif_pos hx]
    obtain ⟨m, hm⟩ := hx.choose_spec
    rw [arun_det hm hn]
theorem evL_eq (k pc : Nat) (ls st : List AV) (h : AH) : evL k pc ls st h = aafter evL k pc ls h (aone k pc ls st h) := by
  apply Option.ext
  intro x
  constructor
  · intro hx
    obtain ⟨n, hn⟩ := evL_iff.mp hx
    cases n with
    | zero => exact absurd hn (by simp [arun])
    | succ n =>
      rw [arun_succ] at hn
      exact aafter_mono (fun k pc ls st h x q => evL_iff.mpr ⟨n, q⟩) hn
  · intro hx
    rw [evL_iff]
    suffices ∃ n, aafter (arun n) k pc ls h (aone k pc ls st h) = some x by
      obtain ⟨n, hn⟩ := this
      exact ⟨n + 1, by rw [arun_succ]; exact hn⟩
    generalize aone k pc ls st h = o at hx
    unfold aafter at hx
    split at hx
    · cases hx
    · exact evL_iff.mp hx
    · split at hx
      · rename_i r h' hc
        split at hx
        · rename_i hl
          obtain ⟨n1, q1⟩ := evL_iff.mp hc
          obtain ⟨n2, q2⟩ := evL_iff.mp hx
          refine ⟨max n1 n2, ?_⟩
          unfold aafter
          simp only [arun_mono (Nat.le_max_left n1 n2) _ _ _ _ _ _ q1, hl, if_true]
          exact arun_mono (Nat.le_max_right n1 n2) _ _ _ _ _ _ q2
        · cases hx
      · cases hx
    · split at hx
      · rename_i r h' hc
        split at hx
        · rename_i hl
          obtain ⟨n1, q1⟩ := evL_iff.mp hc
          obtain ⟨n2, q2⟩ := evL_iff.mp hx
          refine ⟨max n1 n2, ?_⟩
          unfold aafter
          simp only [arun_mono (Nat.le_max_left n1 n2) _ _ _ _ _ _ q1, hl, if_true]
          exact arun_mono (Nat.le_max_right n1 n2) _ _ _ _ _ _ q2
        · cases hx
      · cases hx
    · exact ⟨0, hx⟩
noncomputable def evM (k : Nat) (av : List AV) (h : AH) : Option (Option AV × AH) := evL k 0 (loc0 k av) [] h
/-- a step that goes on -/
theorem ev_go {k pc : Nat} {ls st : List AV} {h : AH} {e : AE} {pc' : Nat} {ls' st' : List AV} {h' : AH} (hc : cd k pc = some e) (hs : ast (isI k) e ls st h = some (pc', ls', st', h')) : evL k pc ls st h = evL k pc' ls' st' h' := by
  rw [evL_eq]
  unfold aone
  rw [hc]
  simp only [hs]
  rfl
end
section
/-! ===== the objects of a run: their kinds, lengths, and references (made by wip/whole/gen12.py) ===== -/
def NN : Nat := 157
def kdL : List Nat := [7, 1, 5, 6, 100, 0, 6, 100, 6, 100, 6, 100, 6, 100, 6, 100, 6, 100, 6, 100, 6, 100, 6, 100, 1, 5, 6, 100, 0, 6, 100, 6, 100, 6, 100, 6, 100, 6, 100, 6, 100, 6, 100, 6, 100, 6, 100, 2, 101, 1, 5, 6, 100, 0, 6, 100, 6, 100, 6, 100, 6, 100, 6, 100, 6, 100, 6, 100, 6, 100, 6, 100, 1, 5, 6, 100, 0, 6, 100, 6, 100, 6, 100, 6, 100, 6, 100, 6, 100, 6, 100, 6, 100, 6, 100, 1, 5, 6, 100, 0, 6, 100, 6, 100, 6, 100, 6, 100, 6, 100, 6, 100, 6, 100, 6, 100, 6, 100, 1, 5, 6, 100, 0, 6, 100, 6, 100, 6, 100, 6, 100, 6, 100, 6, 100, 6, 100, 6, 100, 6, 100, 4, 6, 100, 3, 6, 100, 6, 100, 8, 100, 100, 100, 100, 100, 100, 100]
def lnL : List Nat := [8, 10, 2, 1, 17, 9, 1, 4, 1, 4, 1, 4, 1, 4, 1, 24, 1, 4, 1, 4, 1, 4, 1, 16, 10, 2, 1, 17, 9, 1, 4, 1, 4, 1, 4, 1, 4, 1, 24, 1, 4, 1, 4, 1, 4, 1, 16, 2, 4, 10, 2, 1, 17, 9, 1, 4, 1, 4, 1, 4, 1, 4, 1, 24, 1, 4, 1, 4, 1, 4, 1, 16, 10, 2, 1, 17, 9, 1, 4, 1, 4, 1, 4, 1, 4, 1, 24, 1, 4, 1, 4, 1, 4, 1, 16, 10, 2, 1, 17, 9, 1, 4, 1, 4, 1, 4, 1, 4, 1, 24, 1, 4, 1, 4, 1, 4, 1, 16, 10, 2, 1, 17, 9, 1, 4, 1, 4, 1, 4, 1, 4, 1, 24, 1, 4, 1, 4, 1, 4, 1, 16, 2, 1, 60, 2, 1, 17, 1, 17, 18, 77, 308, 77, 60, 16, 17, 17]
def rfL : List (List (Option Nat)) := [[some 1, some 24, some 47, some 141, some 144, none, none, none], [some 2, some 5, some 22, none, none, none, none, none, none, none], [some 3, none], [some 4], [], [some 6, some 8, some 10, some 12, some 14, some 16, some 18, some 20, none], [some 7], [], [some 9], [], [some 11], [], [some 13], [], [some 15], [], [some 17], [], [some 19], [], [some 21], [], [some 23], [], [some 25, some 28, some 45, none, none, none, none, none, none, none], [some 26, none], [some 27], [], [some 29, some 31, some 33, some 35, some 37, some 39, some 41, some 43, none], [some 30], [], [some 32], [], [some 34], [], [some 36], [], [some 38], [], [some 40], [], [some 42], [], [some 44], [], [some 46], [], [some 48, none], [], [some 50, some 53, some 70, none, none, none, none, none, none, none], [some 51, none], [some 52], [], [some 54, some 56, some 58, some 60, some 62, some 64, some 66, some 68, none], [some 55], [], [some 57], [], [some 59], [], [some 61], [], [some 63], [], [some 65], [], [some 67], [], [some 69], [], [some 71], [], [some 73, some 76, some 93, none, none, none, none, none, none, none], [some 74, none], [some 75], [], [some 77, some 79, some 81, some 83, some 85, some 87, some 89, some 91, none], [some 78], [], [some 80], [], [some 82], [], [some 84], [], [some 86], [], [some 88], [], [some 90], [], [some 92], [], [some 94], [], [some 96, some 99, some 116, none, none, none, none, none, none, none], [some 97, none], [some 98], [], [some 100, some 102, some 104, some 106, some 108, some 110, some 112, some 114, none], [some 101], [], [some 103], [], [some 105], [], [some 107], [], [some 109], [], [some 111], [], [some 113], [], [some 115], [], [some 117], [], [some 119, some 122, some 139, none, none, none, none, none, none, none], [some 120, none], [some 121], [], [some 123, some 125, some 127, some 129, some 131, some 133, some 135, some 137, none], [some 124], [], [some 126], [], [some 128], [], [some 130], [], [some 132], [], [some 134], [], [some 136], [], [some 138], [], [some 140], [], [some 142, none], [some 143], [], [some 145, some 147], [some 146], [], [some 148], [], [some 150, some 151, none, some 152, none, some 153, none, none, none, some 154, none, none, none, none, none, none, some 155, some 156], [], [], [], [], [], [], []]
def kd (i : Nat) : Nat := kdL.getD i 999
def ln (i : Nat) : Nat := lnL.getD i 0
def RF (i j : Nat) : Option Nat := (rfL.getD i []).getD j none
def rfd (i j : Nat) : Nat := (RF i j).getD 0
abbrev Mem : Type := Nat → Nat → Int
abbrev PMem : Type := Nat → Nat
def vl (M : Mem) (P : PMem) (i j : Nat) : AV := match RF i j with
  | some r => Rf r
  | none => if kd i = 101 then Rf (P j) else I (M i j)
def obM (M : Mem) (P : PMem) (i : Nat) : AO := (kd i, (List.range (ln i)).map (vl M P i))
def Hp (M : Mem) (P : PMem) : AH := (List.range NN).map (obM M P)
def wr (M : Mem) (i j : Nat) (z : Int) : Mem := fun a b => if a = i ∧ b = j then z else M a b
def upP (P : PMem) (j v : Nat) : PMem := fun a => if a = j then v else P a
theorem Hp_len (M : Mem) (P : PMem) : (Hp M P).length = NN := by simp [Hp]
theorem kd_lt {i : Nat} (h : kd i ≠ 999) : i < NN := by
  refine Nat.lt_of_not_le fun q => h ?_
  unfold kd
  rw [List.getD_eq_getElem?_getD, List.getElem?_eq_none (by exact q)]
  rfl
theorem Hp_get {M : Mem} {P : PMem} {i : Nat} (h : i < NN) : (Hp M P)[i]? = some (obM M P i) := by
  simp [Hp, h]
theorem ob_get {M : Mem} {P : PMem} {i j : Nat} (h : j < ln i) : ((List.range (ln i)).map (vl M P i))[j]? = some (vl M P i j) := by
  simp [h]
def shpB (i : Nat) : Bool := if kd i < 9 then decide (ln i = nC (kd i)) && (List.range (ln i)).all (fun f => decide ((RF i f).isSome = !(match tyC (kd i) f with | .int => true | .boolean => true | _ => false))) else decide ((rfL.getD i []) = []) && decide (kd i = 100 ∨ (kd i = 101 ∧ i = 48))
theorem shpB_all : ∀ i, i < NN → shpB i = true := by decide +kernel
def isIn (ci f : Nat) : Bool := match tyC ci f with | .int => true | .boolean => true | _ => false
theorem shp_obj {i f : Nat} (h9 : kd i < 9) (hf : f < nC (kd i)) : f < ln i ∧ (RF i f).isSome = !(isIn (kd i) f) := by
  have h := shpB_all i (kd_lt (by omega))
  unfold shpB at h
  rw [if_pos h9] at h
  simp only [Bool.and_eq_true, decide_eq_true_eq, List.all_eq_true] at h
  have h1 : f < ln i := by rw [h.1]; exact hf
  exact ⟨h1, h.2 f (List.mem_range.mpr h1)⟩
theorem shp_arr {i : Nat} (h : kd i = 100) (j : Nat) : RF i j = none := by
  have h1 := shpB_all i (kd_lt (by omega))
  unfold shpB at h1
  rw [if_neg (by omega)] at h1
  simp only [Bool.and_eq_true, decide_eq_true_eq] at h1
  unfold RF
  rw [h1.1]
  rfl
theorem shp_ref {i : Nat} (h : kd i = 101) : i = 48 := by
  have h1 := shpB_all i (kd_lt (by omega))
  unfold shpB at h1
  rw [if_neg (by omega)] at h1
  simp only [Bool.and_eq_true, decide_eq_true_eq] at h1
  omega
theorem RF48 (j : Nat) : RF 48 j = none := rfl
theorem vl_int {M : Mem} {P : PMem} {i j : Nat} (h : kd i ≠ 101) (hr : RF i j = none) : vl M P i j = I (M i j) := by
  unfold vl
  rw [hr]
  simp only []
  rw [if_neg h]
theorem Hp_set {M : Mem} {P : PMem} {i j : Nat} {z : Int} (h : kd i ≠ 101) (hr : RF i j = none) : (Hp M P).set i (kd i, ((List.range (ln i)).map (vl M P i)).set j (I z)) = Hp (wr M i j z) P := by
  apply List.ext_getElem?
  intro a
  by_cases ha : a < NN
  · rw [Hp_get ha]
    by_cases hia : i = a
    · subst hia
      rw [List.getElem?_set_self (by rw [Hp_len]; exact ha)]
      unfold obM
      congr 2
      apply List.ext_getElem?
      intro b
      by_cases hb : b < ln i
      · by_cases hjb : j = b
        · subst hjb
          rw [List.getElem?_set_self (by simp [hb]), ob_get hb, vl_int h hr]
          simp [wr]
        · rw [List.getElem?_set_ne hjb, ob_get hb, ob_get hb]
          unfold vl
          cases RF i b with
          | some r => rfl
          | none =>
            simp only []
            rw [if_neg h, if_neg h]
            simp [wr, Ne.symm hjb]
      · rw [List.getElem?_eq_none (by simp; omega), List.getElem?_eq_none (by simp; omega)]
    · rw [List.getElem?_set_ne hia, Hp_get ha]
      unfold obM
      congr 2
      apply List.map_congr_left
      intro b _
      unfold vl
      cases RF a b with
      | some r => rfl
      | none =>
        simp only []
        split
        · rfl
        · simp [wr, Ne.symm hia]
  · rw [List.getElem?_eq_none (by rw [List.length_set, Hp_len]; omega), List.getElem?_eq_none (by rw [Hp_len]; omega)]
theorem Hp_setP {M : Mem} {P : PMem} {j v : Nat} : (Hp M P).set 48 (101, ((List.range (ln 48)).map (vl M P 48)).set j (Rf v)) = Hp M (upP P j v) := by
  apply List.ext_getElem?
  intro a
  by_cases ha : a < NN
  · rw [Hp_get ha]
    by_cases hia : 48 = a
    · subst hia
      rw [List.getElem?_set_self (by rw [Hp_len]; exact ha)]
      show some (101, _) = some (101, _)
      congr 2
      apply List.ext_getElem?
      intro b
      by_cases hb : b < ln 48
      · by_cases hjb : j = b
        · subst hjb
          rw [List.getElem?_set_self (by simp [hb]), ob_get hb]
          show some (Rf v) = some (Rf (upP P j v j))
          simp [upP]
        · rw [List.getElem?_set_ne hjb, ob_get hb, ob_get hb]
          show some (Rf (P b)) = some (Rf (upP P j v b))
          simp [upP, Ne.symm hjb]
      · rw [List.getElem?_eq_none (by simp; omega), List.getElem?_eq_none (by simp; omega)]
    · rw [List.getElem?_set_ne hia, Hp_get ha]
      unfold obM
      congr 2
      apply List.map_congr_left
      intro b _
      unfold vl
      cases RF a b with
      | some r => rfl
      | none =>
        simp only []
        split
        · rename_i hk
          exact absurd (shp_ref hk).symm hia
        · rfl
  · rw [List.getElem?_eq_none (by rw [List.length_set, Hp_len]; omega), List.getElem?_eq_none (by rw [Hp_len]; omega)]
/-! the arithmetic of 32 bits, by names -/
def ad (x y : Int) : Int := w2 (· + ·) x y
def sb (x y : Int) : Int := w2 (· - ·) x y
def ml (x y : Int) : Int := w2 (· * ·) x y
def an (x y : Int) : Int := w2 (· &&& ·) x y
def orr (x y : Int) : Int := w2 (· ||| ·) x y
def shl (x y : Int) : Int := w2 (fun x y => x <<< (y &&& 31)) x y
def shr (x y : Int) : Int := w2 (fun x y => x >>> (y &&& 31)) x y
def dv (x y : Int) : Int := w2 (· / ·) x y
def rm (x y : Int) : Int := w2 (fun x y => x - x / y * y) x y
/-! the steps over Hp M P -/
section Ev
variable {k pc idx p : Nat} {M : Mem} {P : PMem} {ls st : List AV}
def okIn (ci f : Nat) : Bool := decide (ci < 9) && decide (f < nC ci) && isIn ci f
def okRf (ci f : Nat) : Bool := decide (ci < 9) && decide (f < nC ci) && !(isIn ci f)
theorem e_getI {i ci f : Nat} (hc : cd k pc = some (pc, .getfield idx, 3, ci, f, p)) (ho : okIn ci f = true) (hk : kd i = ci) : evL k pc ls (Rf i :: st) (Hp M P) = evL k (pc + 3) ls (I (M i f) :: st) (Hp M P) := by
  subst hk
  unfold okIn at ho
  simp only [Bool.and_eq_true, decide_eq_true_eq] at ho
  obtain ⟨⟨h9, hf⟩, hi⟩ := ho
  obtain ⟨h1, h2⟩ := shp_obj h9 hf
  rw [hi] at h2
  have h3 : RF i f = none := by simpa using h2
  refine ev_go hc ?_
  unfold ast
  simp only [Hp_get (kd_lt (show kd i ≠ 999 by omega)), obM, if_true, ob_get h1, vl_int (show kd i ≠ 101 by omega) h3]
theorem e_getR {i ci f : Nat} (hc : cd k pc = some (pc, .getfield idx, 3, ci, f, p)) (ho : okRf ci f = true) (hk : kd i = ci) : evL k pc ls (Rf i :: st) (Hp M P) = evL k (pc + 3) ls (Rf (rfd i f) :: st) (Hp M P) := by
  subst hk
  unfold okRf at ho
  simp only [Bool.and_eq_true, decide_eq_true_eq, Bool.not_eq_true'] at ho
  obtain ⟨⟨h9, hf⟩, hi⟩ := ho
  obtain ⟨h1, h2⟩ := shp_obj h9 hf
  rw [hi] at h2
  obtain ⟨r, h3⟩ := Option.isSome_iff_exists.mp (show (RF i f).isSome = true from h2)
  refine ev_go hc ?_
  have h4 : vl M P i f = Rf (rfd i f) := by unfold vl rfd; rw [h3]; rfl
  unfold ast
  simp only [Hp_get (kd_lt (show kd i ≠ 999 by omega)), obM, if_true, ob_get h1, h4]
def okPt (k ci f : Nat) : Bool := decide (ci < 9) && decide (f < nC ci) && (match tyC ci f with | .int => true | _ => false) && !(finC ci f)
theorem e_putI {i ci f : Nat} {z : Int} (hc : cd k pc = some (pc, .putfield idx, 3, ci, f, p)) (ho : okPt k ci f = true) (hk : kd i = ci) : evL k pc ls (I z :: Rf i :: st) (Hp M P) = evL k (pc + 3) ls st (Hp (wr M i f z) P) := by
  subst hk
  unfold okPt at ho
  simp only [Bool.and_eq_true, decide_eq_true_eq, Bool.not_eq_true'] at ho
  obtain ⟨⟨⟨h9, hf⟩, hi⟩, hfin⟩ := ho
  have hty : tyC (kd i) f = .int := by split at hi <;> first | assumption | cases hi
  obtain ⟨h1, h2⟩ := shp_obj h9 hf
  have hin : isIn (kd i) f = true := by unfold isIn; rw [hty]
  rw [hin] at h2
  have h3 : RF i f = none := by simpa using h2
  refine ev_go hc ?_
  rw [← Hp_set (show kd i ≠ 101 by omega) h3]
  unfold ast
  simp only [Hp_get (kd_lt (show kd i ≠ 999 by omega)), obM]
  rw [if_pos ⟨trivial, by simp [h1], by rw [hty]; rfl, fun q => by rw [hfin] at q; cases q⟩]
def okPz (k ci f : Nat) : Bool := decide (ci < 9) && decide (f < nC ci) && (match tyC ci f with | .boolean => true | _ => false) && !(finC ci f)
theorem e_putZ {i ci f : Nat} {z : Int} (hc : cd k pc = some (pc, .putfield idx, 3, ci, f, p)) (ho : okPz k ci f = true) (hk : kd i = ci) (hz : z = 0 ∨ z = 1) : evL k pc ls (I z :: Rf i :: st) (Hp M P) = evL k (pc + 3) ls st (Hp (wr M i f z) P) := by
  subst hk
  unfold okPz at ho
  simp only [Bool.and_eq_true, decide_eq_true_eq, Bool.not_eq_true'] at ho
  obtain ⟨⟨⟨h9, hf⟩, hi⟩, hfin⟩ := ho
  have hty : tyC (kd i) f = .boolean := by split at hi <;> first | assumption | cases hi
  obtain ⟨h1, h2⟩ := shp_obj h9 hf
  have hin : isIn (kd i) f = true := by unfold isIn; rw [hty]
  rw [hin] at h2
  have h3 : RF i f = none := by simpa using h2
  refine ev_go hc ?_
  rw [← Hp_set (show kd i ≠ 101 by omega) h3]
  unfold ast
  simp only [Hp_get (kd_lt (show kd i ≠ 999 by omega)), obM]
  rw [if_pos ⟨trivial, by simp [h1], by rw [hty]; simpa [fitV] using hz, fun q => by rw [hfin] at q; cases q⟩]
theorem e_iald {i a b : Nat} {z : Int} (hc : cd k pc = some (pc, .iaload, 1, a, b, p)) (hk : kd i = 100) (h0 : 0 ≤ z) (hz : z.toNat < ln i) : evL k pc ls (I z :: Rf i :: st) (Hp M P) = evL k (pc + 1) ls (I (M i z.toNat) :: st) (Hp M P) := by
  refine ev_go hc ?_
  unfold ast
  simp only [Hp_get (kd_lt (show kd i ≠ 999 by omega)), obM, hk, h0, and_self, if_true, ob_get hz, vl_int (show kd i ≠ 101 by omega) (shp_arr hk _)]
theorem e_iast {i a b : Nat} {z x : Int} (hc : cd k pc = some (pc, .iastore, 1, a, b, p)) (hk : kd i = 100) (h0 : 0 ≤ z) (hz : z.toNat < ln i) : evL k pc ls (I x :: I z :: Rf i :: st) (Hp M P) = evL k (pc + 1) ls st (Hp (wr M i z.toNat x) P) := by
  refine ev_go hc ?_
  rw [← Hp_set (show kd i ≠ 101 by omega) (shp_arr hk _)]
  unfold ast
  simp only [Hp_get (kd_lt (show kd i ≠ 999 by omega)), obM]
  rw [if_pos ⟨hk, h0, by simp [hz]⟩, hk]
theorem e_aald {a b : Nat} {z : Int} (hc : cd k pc = some (pc, .aaload, 1, a, b, p)) (h0 : 0 ≤ z) (hz : z < 4) : evL k pc ls (I z :: Rf 48 :: st) (Hp M P) = evL k (pc + 1) ls (Rf (P z.toNat) :: st) (Hp M P) := by
  refine ev_go hc ?_
  have h1 : z.toNat < ln 48 := by show z.toNat < 4; omega
  have h2 : vl M P 48 z.toNat = Rf (P z.toNat) := rfl
  unfold ast
  simp only [Hp_get (show 48 < NN by decide), obM, show kd 48 = 101 from rfl, h0, and_self, if_true, ob_get h1, h2]
theorem e_aast {a b v : Nat} {z : Int} (hc : cd k pc = some (pc, .aastore, 1, a, b, p)) (hv : kd v = 1) (h0 : 0 ≤ z) (hz : z < 4) : evL k pc ls (Rf v :: I z :: Rf 48 :: st) (Hp M P) = evL k (pc + 1) ls st (Hp M (upP P z.toNat v)) := by
  refine ev_go hc ?_
  have h1 : z.toNat < ln 48 := by show z.toNat < 4; omega
  rw [← Hp_setP]
  unfold ast
  simp only [Hp_get (show 48 < NN by decide), Hp_get (kd_lt (show kd v ≠ 999 by omega)), obM, show kd 48 = 101 from rfl]
  rw [if_pos ⟨trivial, hv, h0, by simp [h1]⟩]
theorem e_alen {i a b : Nat} (hc : cd k pc = some (pc, .arraylength, 1, a, b, p)) (hk : kd i = 100 ∨ kd i = 101) (hl : ln i ≤ 1000000) : evL k pc ls (Rf i :: st) (Hp M P) = evL k (pc + 1) ls (I (ln i : Int) :: st) (Hp M P) := by
  refine ev_go hc ?_
  unfold ast
  simp only [Hp_get (kd_lt (show kd i ≠ 999 by omega)), obM, List.length_map, List.length_range]
  rw [if_pos ⟨hk, hl⟩]
/-- behind a call -/
def cont (o : Option (Option AV × AH)) (f : Option AV → AH → Option (Option AV × AH)) : Option (Option AV × AH) := match o with
  | some (r, h') => if h'.length = NN then f r h' else none
  | none => none
theorem cont_some {r : Option AV} {f : Option AV → AH → Option (Option AV × AH)} : cont (some (r, Hp M P)) f = f r (Hp M P) := by
  unfold cont
  simp only [Hp_len, if_true]
def rl (r : Option AV) (l : List AV) : List AV := r.toList ++ l
theorem rl_some {v : AV} {l : List AV} : rl (some v) l = v :: l := rfl
theorem rl_none {l : List AV} : rl none l = l := rfl
def cllS (k k' : Nat) : Bool := decide (dpM k' + 1 ≤ dpM k) && decide (8 + (maxl k' + 11) + lcM k' ≤ lcM k) && decide (nar k' ≤ maxl k') && decide (k' < 175)
def clsS (c k' : Nat) : Bool := decide (c < 9) && match vwCl[c]? with | some q => decide (q.1 = (yM k').cls) | none => false
theorem popA_app {av rest : List AV} {n : Nat} (hn : av.length = n) : popA n (av.reverse ++ rest) = some (av, rest) := by
  unfold popA
  rw [if_pos (by simp [hn]), List.take_left' (by simp [hn]), List.drop_left' (by simp [hn]), List.reverse_reverse]
theorem e_callV {k' b i c : Nat} {av' rest : List AV} (hc : cd k pc = some (pc, .invokevirtual idx, 3, k', b, p)) (hs : cllS k k' = true) (hst : stM k' = false) (hin : isI k' = false) (hcl : clsS c k' = true) (hn : av'.length + 1 = nar k') (hr : rest.length ≤ 4) (hdb : noDb av' = true) (hk : kd i = c) (hi : st = av'.reverse ++ (Rf i :: rest)) : evL k pc ls st (Hp M P) = cont (evM k' (Rf i :: av') (Hp M P)) (fun r h => evL k (pc + 3) ls (rl r rest) h) := by
  subst hi; subst hk
  unfold cllS at hs
  simp only [Bool.and_eq_true, decide_eq_true_eq] at hs
  obtain ⟨⟨⟨s1, s2⟩, s3⟩, s4⟩ := hs
  unfold clsS at hcl
  simp only [Bool.and_eq_true, decide_eq_true_eq] at hcl
  have e1 : av'.reverse ++ Rf i :: rest = (Rf i :: av').reverse ++ rest := by simp
  rw [e1, evL_eq]
  have e2 : aone k pc ls ((Rf i :: av').reverse ++ rest) (Hp M P) = some (.inr (.inl (k', Rf i :: av', true, rest))) := by
    unfold aone
    rw [hc]
    simp only []
    have h0 : ast (isI k) (pc, .invokevirtual idx, 3, k', b, p) ls ((Rf i :: av').reverse ++ rest) (Hp M P) = none := rfl
    rw [h0]
    simp only []
    rw [popA_app (by simpa using hn)]
    simp only []
    have h1 : clsOk (Hp M P) k' (Rf i :: av')[0]? = true := by
      unfold clsOk
      simp only [List.getElem?_cons_zero, Hp_get (kd_lt (show kd i ≠ 999 by omega)), obM]
      exact hcl.2
    have h2 : callOk k k' rest = true := by
      unfold callOk
      simp [s1, s2, s3, s4, hr]
    have h3 : noDb (Rf i :: av') = true := noDb_cons.mpr ⟨rfl, hdb⟩
    rw [h1, h2, h3, hst, hin]
    rfl
  rw [e2]
  unfold aafter cont evM rl
  simp only [Hp_len]
  generalize evL k' 0 (loc0 k' (Rf i :: av')) [] (Hp M P) = o
  cases o <;> rfl
theorem e_callS {k' b : Nat} {av rest : List AV} (hc : cd k pc = some (pc, .invokestatic idx, 3, k', b, p)) (hs : cllS k k' = true) (hst : stM k' = true) (hn : av.length = nar k') (hr : rest.length ≤ 4) (hdb : noDb av = true) (hi : st = av.reverse ++ rest) : evL k pc ls st (Hp M P) = cont (evM k' av (Hp M P)) (fun r h => evL k (pc + 3) ls (rl r rest) h) := by
  subst hi
  unfold cllS at hs
  simp only [Bool.and_eq_true, decide_eq_true_eq] at hs
  obtain ⟨⟨⟨s1, s2⟩, s3⟩, s4⟩ := hs
  rw [evL_eq]
  have e2 : aone k pc ls (av.reverse ++ rest) (Hp M P) = some (.inr (.inl (k', av, true, rest))) := by
    unfold aone
    rw [hc]
    simp only []
    have h0 : ast (isI k) (pc, .invokestatic idx, 3, k', b, p) ls (av.reverse ++ rest) (Hp M P) = none := rfl
    rw [h0]
    simp only []
    rw [if_neg (by omega), popA_app hn]
    simp only []
    have h2 : callOk k k' rest = true := by
      unfold callOk
      simp [s1, s2, s3, s4, hr]
    rw [h2, hdb, hst]
    rfl
  rw [e2]
  unfold aafter cont evM rl
  simp only [Hp_len]
  generalize evL k' 0 (loc0 k' av) [] (Hp M P) = o
  cases o <;> rfl
theorem e_math {a b : Nat} {h : AH} {v : AV} {rest : List AV} (hc : cd k pc = some (pc, .invokestatic idx, 3, a, b, p)) (h9 : 900 ≤ a) (hv : mathB a st = some (v, rest)) (hr : rest.length ≤ 4) (hk : 1 ≤ dpM k ∧ 21 ≤ lcM k) : evL k pc ls st h = evL k (pc + 3) ls (v :: rest) h := by
  rw [evL_eq]
  have e2 : aone k pc ls st h = some (.inl (pc + 3, ls, v :: rest, h)) := by
    unfold aone
    rw [hc]
    simp only []
    have h0 : ast (isI k) (pc, .invokestatic idx, 3, a, b, p) ls st h = none := rfl
    rw [h0]
    simp only []
    rw [if_pos h9, hv]
    simp only []
    rw [if_pos ⟨hr, hk⟩]
  rw [e2]
  rfl
theorem e_ret {i : Instr} {len a b : Nat} {h : AH} {r : Option AV} (hc : cd k pc = some (pc, i, len, a, b, p)) (hr : retOk k st i = some r) : evL k pc ls st h = some (r, h) := by
  rw [evL_eq]
  have e2 : aone k pc ls st h = some (.inr (.inr r)) := by
    unfold aone
    rw [hc]
    simp only []
    have h0 : ast (isI k) (pc, i, len, a, b, p) ls st h = none := by
      unfold retOk at hr
      split at hr <;> first | rfl | cases hr
    rw [h0]
    simp only []
    have hr0 := hr
    unfold retOk at hr
    split at hr <;> first | (simp only [hr0]; done) | cases hr
  rw [e2]
  rfl
theorem e_br {h : AH} {b : Bool} {t f : Nat} : evL k (if b = true then t else f) ls st h = if b = true then evL k t ls st h else evL k f ls st h := by cases b <;> rfl
end Ev
end
