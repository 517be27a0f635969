/-! ===== equations, on ===== -/
/-! 1: TankDivers$Crew.has(I)Z -/
theorem en1 {l0 l1 : AV} {h : AH} : evM 1 [l0, l1] h = evL 1 0 [l0, l1] [] h := rfl
theorem c1_0 : cd 1 0 = some (0, .iload_n 1, 1, 0, 0, 0) := rfl
theorem s1_0 {l0 : AV} {l1 : Int} {h : AH} : evL 1 0 [l0, I l1] [] h = evL 1 1 [l0, I l1] [I l1] h := ev_go c1_0 rfl
theorem c1_1 : cd 1 1 = some (1, .ifCond .lt 15, 3, 0, 0, 0) := rfl
theorem s1_1 {l0 l1 : AV} {s0 : Int} {h : AH} : evL 1 1 [l0, l1] [I s0] h = if s0 < 0 then evL 1 16 [l0, l1] [] h else evL 1 4 [l0, l1] [] h := e_if_lt c1_1 rfl rfl
theorem c1_4 : cd 1 4 = some (4, .iload_n 1, 1, 0, 0, 0) := rfl
theorem s1_4 {l0 : AV} {l1 : Int} {h : AH} : evL 1 4 [l0, I l1] [] h = evL 1 5 [l0, I l1] [I l1] h := ev_go c1_4 rfl
theorem c1_5 : cd 1 5 = some (5, .aload_n 0, 1, 0, 0, 0) := rfl
theorem s1_5 {l1 s0 : AV} {l0 : Option Nat} {h : AH} : evL 1 5 [.inr (.inl l0), l1] [s0] h = evL 1 6 [.inr (.inl l0), l1] [.inr (.inl l0), s0] h := ev_go c1_5 rfl
theorem c1_6 : cd 1 6 = some (6, .getfield 41, 3, 0, 8, 89) := rfl
theorem s1_6 {l0 l1 s1 : AV} {s0 : Nat} {M : Mem} {P : PMem} (hk : kd s0 = 0) : evL 1 6 [l0, l1] [Rf s0, s1] (Hp M P) = evL 1 9 [l0, l1] [I (M s0 8), s1] (Hp M P) := e_getI c1_6 rfl hk
theorem c1_9 : cd 1 9 = some (9, .if_icmp .ge 7, 3, 0, 0, 0) := rfl
theorem s1_9 {l0 l1 : AV} {s0 s1 : Int} {h : AH} : evL 1 9 [l0, l1] [I s0, I s1] h = if s0 ≤ s1 then evL 1 16 [l0, l1] [] h else evL 1 12 [l0, l1] [] h := e_icmp_ge c1_9 rfl rfl
theorem c1_12 : cd 1 12 = some (12, .iconst 1, 1, 0, 0, 0) := rfl
theorem s1_12 {l0 l1 : AV} {h : AH} : evL 1 12 [l0, l1] [] h = evL 1 13 [l0, l1] [I 1] h := ev_go c1_12 rfl
theorem c1_13 : cd 1 13 = some (13, .goto 4, 3, 0, 0, 0) := rfl
theorem s1_13 {l0 l1 s0 : AV} {h : AH} : evL 1 13 [l0, l1] [s0] h = evL 1 17 [l0, l1] [s0] h := ev_go c1_13 rfl
theorem c1_16 : cd 1 16 = some (16, .iconst 0, 1, 0, 0, 0) := rfl
theorem s1_16 {l0 l1 : AV} {h : AH} : evL 1 16 [l0, l1] [] h = evL 1 17 [l0, l1] [I 0] h := ev_go c1_16 rfl
theorem c1_17 : cd 1 17 = some (17, .ireturn, 1, 0, 0, 0) := rfl
theorem s1_17 {l0 l1 : AV} {s0 : Int} {h : AH} (hz : s0 = 0 ∨ s0 = 1) : evL 1 17 [l0, l1] [I s0] h = some (some (I s0), h) := e_ret c1_17 (if_pos hz)
/-! 2: TankDivers$Crew.muster(I)V -/
theorem en2 {l0 l1 : AV} {h : AH} : evM 2 [l0, l1] h = evL 2 0 [l0, l1] [] h := rfl
theorem c2_0 : cd 2 0 = some (0, .aload_n 0, 1, 0, 0, 0) := rfl
theorem s2_0 {l1 : AV} {l0 : Option Nat} {h : AH} : evL 2 0 [.inr (.inl l0), l1] [] h = evL 2 1 [.inr (.inl l0), l1] [.inr (.inl l0)] h := ev_go c2_0 rfl
theorem c2_1 : cd 2 1 = some (1, .iload_n 1, 1, 0, 0, 0) := rfl
theorem s2_1 {l0 s0 : AV} {l1 : Int} {h : AH} : evL 2 1 [l0, I l1] [s0] h = evL 2 2 [l0, I l1] [I l1, s0] h := ev_go c2_1 rfl
theorem c2_2 : cd 2 2 = some (2, .putfield 41, 3, 0, 8, 89) := rfl
theorem s2_2 {l0 l1 : AV} {s0 : Int} {s1 : Nat} {M : Mem} {P : PMem} (hk : kd s1 = 0) : evL 2 2 [l0, l1] [I s0, Rf s1] (Hp M P) = evL 2 5 [l0, l1] [] (Hp (wr M s1 8 s0) P) := e_putI c2_2 rfl hk
theorem c2_5 : cd 2 5 = some (5, .aload_n 0, 1, 0, 0, 0) := rfl
theorem s2_5 {l1 : AV} {l0 : Option Nat} {h : AH} : evL 2 5 [.inr (.inl l0), l1] [] h = evL 2 6 [.inr (.inl l0), l1] [.inr (.inl l0)] h := ev_go c2_5 rfl
theorem c2_6 : cd 2 6 = some (6, .getfield 32, 3, 0, 5, 85) := rfl
theorem s2_6 {l0 l1 : AV} {s0 : Nat} {M : Mem} {P : PMem} (hk : kd s0 = 0) : evL 2 6 [l0, l1] [Rf s0] (Hp M P) = evL 2 9 [l0, l1] [Rf (rfd s0 5)] (Hp M P) := e_getR c2_6 rfl hk
theorem c2_9 : cd 2 9 = some (9, .invokevirtual 45, 3, 84, 0, 225) := rfl
theorem s2_9 {l0 l1 : AV} {s0 : Nat} {M : Mem} {P : PMem} (hk : kd s0 = 6) : evL 2 9 [l0, l1] [Rf s0] (Hp M P) = cont (evM 84 [Rf s0] (Hp M P)) (fun r h => evL 2 12 [l0, l1] (rl r []) h) := e_callV (av' := []) (rest := []) (c := 6) c2_9 rfl rfl rfl rfl rfl rfl rfl hk rfl
theorem c2_12 : cd 2 12 = some (12, .aload_n 0, 1, 0, 0, 0) := rfl
theorem s2_12 {l1 : AV} {l0 : Option Nat} {h : AH} : evL 2 12 [.inr (.inl l0), l1] [] h = evL 2 13 [.inr (.inl l0), l1] [.inr (.inl l0)] h := ev_go c2_12 rfl
theorem c2_13 : cd 2 13 = some (13, .getfield 35, 3, 0, 6, 86) := rfl
theorem s2_13 {l0 l1 : AV} {s0 : Nat} {M : Mem} {P : PMem} (hk : kd s0 = 0) : evL 2 13 [l0, l1] [Rf s0] (Hp M P) = evL 2 16 [l0, l1] [Rf (rfd s0 6)] (Hp M P) := e_getR c2_13 rfl hk
theorem c2_16 : cd 2 16 = some (16, .invokevirtual 45, 3, 84, 0, 225) := rfl
theorem s2_16 {l0 l1 : AV} {s0 : Nat} {M : Mem} {P : PMem} (hk : kd s0 = 6) : evL 2 16 [l0, l1] [Rf s0] (Hp M P) = cont (evM 84 [Rf s0] (Hp M P)) (fun r h => evL 2 19 [l0, l1] (rl r []) h) := e_callV (av' := []) (rest := []) (c := 6) c2_16 rfl rfl rfl rfl rfl rfl rfl hk rfl
theorem c2_19 : cd 2 19 = some (19, .aload_n 0, 1, 0, 0, 0) := rfl
theorem s2_19 {l1 : AV} {l0 : Option Nat} {h : AH} : evL 2 19 [.inr (.inl l0), l1] [] h = evL 2 20 [.inr (.inl l0), l1] [.inr (.inl l0)] h := ev_go c2_19 rfl
theorem c2_20 : cd 2 20 = some (20, .getfield 38, 3, 0, 7, 88) := rfl
theorem s2_20 {l0 l1 : AV} {s0 : Nat} {M : Mem} {P : PMem} (hk : kd s0 = 0) : evL 2 20 [l0, l1] [Rf s0] (Hp M P) = evL 2 23 [l0, l1] [Rf (rfd s0 7)] (Hp M P) := e_getR c2_20 rfl hk
theorem c2_23 : cd 2 23 = some (23, .invokevirtual 45, 3, 84, 0, 225) := rfl
theorem s2_23 {l0 l1 : AV} {s0 : Nat} {M : Mem} {P : PMem} (hk : kd s0 = 6) : evL 2 23 [l0, l1] [Rf s0] (Hp M P) = cont (evM 84 [Rf s0] (Hp M P)) (fun r h => evL 2 26 [l0, l1] (rl r []) h) := e_callV (av' := []) (rest := []) (c := 6) c2_23 rfl rfl rfl rfl rfl rfl rfl hk rfl
theorem c2_26 : cd 2 26 = some (26, .aload_n 0, 1, 0, 0, 0) := rfl
theorem s2_26 {l1 : AV} {l0 : Option Nat} {h : AH} : evL 2 26 [.inr (.inl l0), l1] [] h = evL 2 27 [.inr (.inl l0), l1] [.inr (.inl l0)] h := ev_go c2_26 rfl
theorem c2_27 : cd 2 27 = some (27, .invokevirtual 48, 3, 3, 0, 229) := rfl
theorem s2_27 {l0 l1 : AV} {s0 : Nat} {M : Mem} {P : PMem} (hk : kd s0 = 0) : evL 2 27 [l0, l1] [Rf s0] (Hp M P) = cont (evM 3 [Rf s0] (Hp M P)) (fun r h => evL 2 30 [l0, l1] (rl r []) h) := e_callV (av' := []) (rest := []) (c := 0) c2_27 rfl rfl rfl rfl rfl rfl rfl hk rfl
theorem c2_30 : cd 2 30 = some (30, .return_, 1, 0, 0, 0) := rfl
theorem s2_30 {l0 l1 : AV} {h : AH} : evL 2 30 [l0, l1] [] h = some (none, h) := e_ret c2_30 rfl
/-! 3: TankDivers$Crew.toShip()V -/
theorem en3 {l0 : AV} {h : AH} : evM 3 [l0] h = evL 3 0 [l0] [] h := rfl
theorem c3_0 : cd 3 0 = some (0, .aload_n 0, 1, 0, 0, 0) := rfl
theorem s3_0 {l0 : Option Nat} {h : AH} : evL 3 0 [.inr (.inl l0)] [] h = evL 3 1 [.inr (.inl l0)] [.inr (.inl l0)] h := ev_go c3_0 rfl
theorem c3_1 : cd 3 1 = some (1, .getfield 14, 3, 0, 0, 75) := rfl
theorem s3_1 {l0 : AV} {s0 : Nat} {M : Mem} {P : PMem} (hk : kd s0 = 0) : evL 3 1 [l0] [Rf s0] (Hp M P) = evL 3 4 [l0] [Rf (rfd s0 0)] (Hp M P) := e_getR c3_1 rfl hk
theorem c3_4 : cd 3 4 = some (4, .invokevirtual 45, 3, 84, 0, 225) := rfl
theorem s3_4 {l0 : AV} {s0 : Nat} {M : Mem} {P : PMem} (hk : kd s0 = 6) : evL 3 4 [l0] [Rf s0] (Hp M P) = cont (evM 84 [Rf s0] (Hp M P)) (fun r h => evL 3 7 [l0] (rl r []) h) := e_callV (av' := []) (rest := []) (c := 6) c3_4 rfl rfl rfl rfl rfl rfl rfl hk rfl
theorem c3_7 : cd 3 7 = some (7, .aload_n 0, 1, 0, 0, 0) := rfl
theorem s3_7 {l0 : Option Nat} {h : AH} : evL 3 7 [.inr (.inl l0)] [] h = evL 3 8 [.inr (.inl l0)] [.inr (.inl l0)] h := ev_go c3_7 rfl
theorem c3_8 : cd 3 8 = some (8, .getfield 20, 3, 0, 1, 77) := rfl
theorem s3_8 {l0 : AV} {s0 : Nat} {M : Mem} {P : PMem} (hk : kd s0 = 0) : evL 3 8 [l0] [Rf s0] (Hp M P) = evL 3 11 [l0] [Rf (rfd s0 1)] (Hp M P) := e_getR c3_8 rfl hk
theorem c3_11 : cd 3 11 = some (11, .invokevirtual 45, 3, 84, 0, 225) := rfl
theorem s3_11 {l0 : AV} {s0 : Nat} {M : Mem} {P : PMem} (hk : kd s0 = 6) : evL 3 11 [l0] [Rf s0] (Hp M P) = cont (evM 84 [Rf s0] (Hp M P)) (fun r h => evL 3 14 [l0] (rl r []) h) := e_callV (av' := []) (rest := []) (c := 6) c3_11 rfl rfl rfl rfl rfl rfl rfl hk rfl
theorem c3_14 : cd 3 14 = some (14, .aload_n 0, 1, 0, 0, 0) := rfl
theorem s3_14 {l0 : Option Nat} {h : AH} : evL 3 14 [.inr (.inl l0)] [] h = evL 3 15 [.inr (.inl l0)] [.inr (.inl l0)] h := ev_go c3_14 rfl
theorem c3_15 : cd 3 15 = some (15, .getfield 23, 3, 0, 2, 79) := rfl
theorem s3_15 {l0 : AV} {s0 : Nat} {M : Mem} {P : PMem} (hk : kd s0 = 0) : evL 3 15 [l0] [Rf s0] (Hp M P) = evL 3 18 [l0] [Rf (rfd s0 2)] (Hp M P) := e_getR c3_15 rfl hk
theorem c3_18 : cd 3 18 = some (18, .invokevirtual 45, 3, 84, 0, 225) := rfl
theorem s3_18 {l0 : AV} {s0 : Nat} {M : Mem} {P : PMem} (hk : kd s0 = 6) : evL 3 18 [l0] [Rf s0] (Hp M P) = cont (evM 84 [Rf s0] (Hp M P)) (fun r h => evL 3 21 [l0] (rl r []) h) := e_callV (av' := []) (rest := []) (c := 6) c3_18 rfl rfl rfl rfl rfl rfl rfl hk rfl
theorem c3_21 : cd 3 21 = some (21, .aload_n 0, 1, 0, 0, 0) := rfl
theorem s3_21 {l0 : Option Nat} {h : AH} : evL 3 21 [.inr (.inl l0)] [] h = evL 3 22 [.inr (.inl l0)] [.inr (.inl l0)] h := ev_go c3_21 rfl
theorem c3_22 : cd 3 22 = some (22, .getfield 26, 3, 0, 3, 81) := rfl
theorem s3_22 {l0 : AV} {s0 : Nat} {M : Mem} {P : PMem} (hk : kd s0 = 0) : evL 3 22 [l0] [Rf s0] (Hp M P) = evL 3 25 [l0] [Rf (rfd s0 3)] (Hp M P) := e_getR c3_22 rfl hk
theorem c3_25 : cd 3 25 = some (25, .invokevirtual 45, 3, 84, 0, 225) := rfl
theorem s3_25 {l0 : AV} {s0 : Nat} {M : Mem} {P : PMem} (hk : kd s0 = 6) : evL 3 25 [l0] [Rf s0] (Hp M P) = cont (evM 84 [Rf s0] (Hp M P)) (fun r h => evL 3 28 [l0] (rl r []) h) := e_callV (av' := []) (rest := []) (c := 6) c3_25 rfl rfl rfl rfl rfl rfl rfl hk rfl
theorem c3_28 : cd 3 28 = some (28, .return_, 1, 0, 0, 0) := rfl
theorem s3_28 {l0 : AV} {h : AH} : evL 3 28 [l0] [] h = some (none, h) := e_ret c3_28 rfl
/-! 4: TankDivers$Crew.propertyOf(II)I -/
theorem en4 {l0 l1 l2 : AV} {h : AH} : evM 4 [l0, l1, l2] h = evL 4 0 [l0, l1, l2] [] h := rfl
theorem c4_0 : cd 4 0 = some (0, .iload_n 2, 1, 0, 0, 0) := rfl
theorem s4_0 {l0 l1 : AV} {l2 : Int} {h : AH} : evL 4 0 [l0, l1, I l2] [] h = evL 4 1 [l0, l1, I l2] [I l2] h := ev_go c4_0 rfl
theorem c4_1 : cd 4 1 = some (1, .tableswitch 126 0 8 #[51, 60, 69, 78, 87, 93, 99, 108, 117], 51, 0, 0, 0) := rfl
theorem s4_1_0 {l0 l1 l2 : AV} {h : AH} : evL 4 1 [l0, l1, l2] [I 0] h = evL 4 52 [l0, l1, l2] [] h := ev_go c4_1 rfl
theorem s4_1_1 {l0 l1 l2 : AV} {h : AH} : evL 4 1 [l0, l1, l2] [I 1] h = evL 4 61 [l0, l1, l2] [] h := ev_go c4_1 rfl
theorem s4_1_2 {l0 l1 l2 : AV} {h : AH} : evL 4 1 [l0, l1, l2] [I 2] h = evL 4 70 [l0, l1, l2] [] h := ev_go c4_1 rfl
theorem s4_1_3 {l0 l1 l2 : AV} {h : AH} : evL 4 1 [l0, l1, l2] [I 3] h = evL 4 79 [l0, l1, l2] [] h := ev_go c4_1 rfl
theorem s4_1_4 {l0 l1 l2 : AV} {h : AH} : evL 4 1 [l0, l1, l2] [I 4] h = evL 4 88 [l0, l1, l2] [] h := ev_go c4_1 rfl
theorem s4_1_5 {l0 l1 l2 : AV} {h : AH} : evL 4 1 [l0, l1, l2] [I 5] h = evL 4 94 [l0, l1, l2] [] h := ev_go c4_1 rfl
theorem s4_1_6 {l0 l1 l2 : AV} {h : AH} : evL 4 1 [l0, l1, l2] [I 6] h = evL 4 100 [l0, l1, l2] [] h := ev_go c4_1 rfl
theorem s4_1_7 {l0 l1 l2 : AV} {h : AH} : evL 4 1 [l0, l1, l2] [I 7] h = evL 4 109 [l0, l1, l2] [] h := ev_go c4_1 rfl
theorem s4_1_8 {l0 l1 l2 : AV} {h : AH} : evL 4 1 [l0, l1, l2] [I 8] h = evL 4 118 [l0, l1, l2] [] h := ev_go c4_1 rfl
theorem s4_1_d {l0 l1 l2 : AV} {h : AH} {s0 : Int} (hx : s0 < 0 ∨ 8 < s0) : evL 4 1 [l0, l1, l2] [I s0] h = evL 4 127 [l0, l1, l2] [] h := ev_go c4_1 (if_pos hx)
theorem c4_52 : cd 4 52 = some (52, .aload_n 0, 1, 0, 0, 0) := rfl
theorem s4_52 {l1 l2 : AV} {l0 : Option Nat} {h : AH} : evL 4 52 [.inr (.inl l0), l1, l2] [] h = evL 4 53 [.inr (.inl l0), l1, l2] [.inr (.inl l0)] h := ev_go c4_52 rfl
theorem c4_53 : cd 4 53 = some (53, .getfield 14, 3, 0, 0, 75) := rfl
theorem s4_53 {l0 l1 l2 : AV} {s0 : Nat} {M : Mem} {P : PMem} (hk : kd s0 = 0) : evL 4 53 [l0, l1, l2] [Rf s0] (Hp M P) = evL 4 56 [l0, l1, l2] [Rf (rfd s0 0)] (Hp M P) := e_getR c4_53 rfl hk
theorem c4_56 : cd 4 56 = some (56, .iload_n 1, 1, 0, 0, 0) := rfl
theorem s4_56 {l0 l2 s0 : AV} {l1 : Int} {h : AH} : evL 4 56 [l0, I l1, l2] [s0] h = evL 4 57 [l0, I l1, l2] [I l1, s0] h := ev_go c4_56 rfl
theorem c4_57 : cd 4 57 = some (57, .invokevirtual 51, 3, 80, 0, 292) := rfl
theorem s4_57 {l0 l1 l2 : AV} {s0 : Int} {s1 : Nat} {M : Mem} {P : PMem} (hk : kd s1 = 6) : evL 4 57 [l0, l1, l2] [I s0, Rf s1] (Hp M P) = cont (evM 80 [Rf s1, I s0] (Hp M P)) (fun r h => evL 4 60 [l0, l1, l2] (rl r []) h) := e_callV (av' := [I s0]) (rest := []) (c := 6) c4_57 rfl rfl rfl rfl rfl rfl rfl hk rfl
theorem c4_60 : cd 4 60 = some (60, .ireturn, 1, 0, 0, 0) := rfl
theorem s4_60 {l0 l1 l2 : AV} {s0 : Int} {h : AH} : evL 4 60 [l0, l1, l2] [I s0] h = some (some (I s0), h) := e_ret c4_60 rfl
theorem c4_61 : cd 4 61 = some (61, .aload_n 0, 1, 0, 0, 0) := rfl
theorem s4_61 {l1 l2 : AV} {l0 : Option Nat} {h : AH} : evL 4 61 [.inr (.inl l0), l1, l2] [] h = evL 4 62 [.inr (.inl l0), l1, l2] [.inr (.inl l0)] h := ev_go c4_61 rfl
theorem c4_62 : cd 4 62 = some (62, .getfield 20, 3, 0, 1, 77) := rfl
theorem s4_62 {l0 l1 l2 : AV} {s0 : Nat} {M : Mem} {P : PMem} (hk : kd s0 = 0) : evL 4 62 [l0, l1, l2] [Rf s0] (Hp M P) = evL 4 65 [l0, l1, l2] [Rf (rfd s0 1)] (Hp M P) := e_getR c4_62 rfl hk
theorem c4_65 : cd 4 65 = some (65, .iload_n 1, 1, 0, 0, 0) := rfl
theorem s4_65 {l0 l2 s0 : AV} {l1 : Int} {h : AH} : evL 4 65 [l0, I l1, l2] [s0] h = evL 4 66 [l0, I l1, l2] [I l1, s0] h := ev_go c4_65 rfl
theorem c4_66 : cd 4 66 = some (66, .invokevirtual 51, 3, 80, 0, 292) := rfl
theorem s4_66 {l0 l1 l2 : AV} {s0 : Int} {s1 : Nat} {M : Mem} {P : PMem} (hk : kd s1 = 6) : evL 4 66 [l0, l1, l2] [I s0, Rf s1] (Hp M P) = cont (evM 80 [Rf s1, I s0] (Hp M P)) (fun r h => evL 4 69 [l0, l1, l2] (rl r []) h) := e_callV (av' := [I s0]) (rest := []) (c := 6) c4_66 rfl rfl rfl rfl rfl rfl rfl hk rfl
theorem c4_69 : cd 4 69 = some (69, .ireturn, 1, 0, 0, 0) := rfl
theorem s4_69 {l0 l1 l2 : AV} {s0 : Int} {h : AH} : evL 4 69 [l0, l1, l2] [I s0] h = some (some (I s0), h) := e_ret c4_69 rfl
theorem c4_70 : cd 4 70 = some (70, .aload_n 0, 1, 0, 0, 0) := rfl
theorem s4_70 {l1 l2 : AV} {l0 : Option Nat} {h : AH} : evL 4 70 [.inr (.inl l0), l1, l2] [] h = evL 4 71 [.inr (.inl l0), l1, l2] [.inr (.inl l0)] h := ev_go c4_70 rfl
theorem c4_71 : cd 4 71 = some (71, .getfield 23, 3, 0, 2, 79) := rfl
theorem s4_71 {l0 l1 l2 : AV} {s0 : Nat} {M : Mem} {P : PMem} (hk : kd s0 = 0) : evL 4 71 [l0, l1, l2] [Rf s0] (Hp M P) = evL 4 74 [l0, l1, l2] [Rf (rfd s0 2)] (Hp M P) := e_getR c4_71 rfl hk
theorem c4_74 : cd 4 74 = some (74, .iload_n 1, 1, 0, 0, 0) := rfl
theorem s4_74 {l0 l2 s0 : AV} {l1 : Int} {h : AH} : evL 4 74 [l0, I l1, l2] [s0] h = evL 4 75 [l0, I l1, l2] [I l1, s0] h := ev_go c4_74 rfl
theorem c4_75 : cd 4 75 = some (75, .invokevirtual 51, 3, 80, 0, 292) := rfl
theorem s4_75 {l0 l1 l2 : AV} {s0 : Int} {s1 : Nat} {M : Mem} {P : PMem} (hk : kd s1 = 6) : evL 4 75 [l0, l1, l2] [I s0, Rf s1] (Hp M P) = cont (evM 80 [Rf s1, I s0] (Hp M P)) (fun r h => evL 4 78 [l0, l1, l2] (rl r []) h) := e_callV (av' := [I s0]) (rest := []) (c := 6) c4_75 rfl rfl rfl rfl rfl rfl rfl hk rfl
theorem c4_78 : cd 4 78 = some (78, .ireturn, 1, 0, 0, 0) := rfl
theorem s4_78 {l0 l1 l2 : AV} {s0 : Int} {h : AH} : evL 4 78 [l0, l1, l2] [I s0] h = some (some (I s0), h) := e_ret c4_78 rfl
theorem c4_79 : cd 4 79 = some (79, .aload_n 0, 1, 0, 0, 0) := rfl
theorem s4_79 {l1 l2 : AV} {l0 : Option Nat} {h : AH} : evL 4 79 [.inr (.inl l0), l1, l2] [] h = evL 4 80 [.inr (.inl l0), l1, l2] [.inr (.inl l0)] h := ev_go c4_79 rfl
theorem c4_80 : cd 4 80 = some (80, .getfield 26, 3, 0, 3, 81) := rfl
theorem s4_80 {l0 l1 l2 : AV} {s0 : Nat} {M : Mem} {P : PMem} (hk : kd s0 = 0) : evL 4 80 [l0, l1, l2] [Rf s0] (Hp M P) = evL 4 83 [l0, l1, l2] [Rf (rfd s0 3)] (Hp M P) := e_getR c4_80 rfl hk
theorem c4_83 : cd 4 83 = some (83, .iload_n 1, 1, 0, 0, 0) := rfl
theorem s4_83 {l0 l2 s0 : AV} {l1 : Int} {h : AH} : evL 4 83 [l0, I l1, l2] [s0] h = evL 4 84 [l0, I l1, l2] [I l1, s0] h := ev_go c4_83 rfl
theorem c4_84 : cd 4 84 = some (84, .invokevirtual 51, 3, 80, 0, 292) := rfl
theorem s4_84 {l0 l1 l2 : AV} {s0 : Int} {s1 : Nat} {M : Mem} {P : PMem} (hk : kd s1 = 6) : evL 4 84 [l0, l1, l2] [I s0, Rf s1] (Hp M P) = cont (evM 80 [Rf s1, I s0] (Hp M P)) (fun r h => evL 4 87 [l0, l1, l2] (rl r []) h) := e_callV (av' := [I s0]) (rest := []) (c := 6) c4_84 rfl rfl rfl rfl rfl rfl rfl hk rfl
theorem c4_87 : cd 4 87 = some (87, .ireturn, 1, 0, 0, 0) := rfl
theorem s4_87 {l0 l1 l2 : AV} {s0 : Int} {h : AH} : evL 4 87 [l0, l1, l2] [I s0] h = some (some (I s0), h) := e_ret c4_87 rfl
theorem c4_88 : cd 4 88 = some (88, .aload_n 0, 1, 0, 0, 0) := rfl
theorem s4_88 {l1 l2 : AV} {l0 : Option Nat} {h : AH} : evL 4 88 [.inr (.inl l0), l1, l2] [] h = evL 4 89 [.inr (.inl l0), l1, l2] [.inr (.inl l0)] h := ev_go c4_88 rfl
theorem c4_89 : cd 4 89 = some (89, .iload_n 1, 1, 0, 0, 0) := rfl
theorem s4_89 {l0 l2 s0 : AV} {l1 : Int} {h : AH} : evL 4 89 [l0, I l1, l2] [s0] h = evL 4 90 [l0, I l1, l2] [I l1, s0] h := ev_go c4_89 rfl
theorem c4_90 : cd 4 90 = some (90, .invokevirtual 55, 3, 9, 0, 318) := rfl
theorem s4_90 {l0 l1 l2 : AV} {s0 : Int} {s1 : Nat} {M : Mem} {P : PMem} (hk : kd s1 = 0) : evL 4 90 [l0, l1, l2] [I s0, Rf s1] (Hp M P) = cont (evM 9 [Rf s1, I s0] (Hp M P)) (fun r h => evL 4 93 [l0, l1, l2] (rl r []) h) := e_callV (av' := [I s0]) (rest := []) (c := 0) c4_90 rfl rfl rfl rfl rfl rfl rfl hk rfl
theorem c4_93 : cd 4 93 = some (93, .ireturn, 1, 0, 0, 0) := rfl
theorem s4_93 {l0 l1 l2 : AV} {s0 : Int} {h : AH} : evL 4 93 [l0, l1, l2] [I s0] h = some (some (I s0), h) := e_ret c4_93 rfl
theorem c4_94 : cd 4 94 = some (94, .aload_n 0, 1, 0, 0, 0) := rfl
theorem s4_94 {l1 l2 : AV} {l0 : Option Nat} {h : AH} : evL 4 94 [.inr (.inl l0), l1, l2] [] h = evL 4 95 [.inr (.inl l0), l1, l2] [.inr (.inl l0)] h := ev_go c4_94 rfl
theorem c4_95 : cd 4 95 = some (95, .iload_n 1, 1, 0, 0, 0) := rfl
theorem s4_95 {l0 l2 s0 : AV} {l1 : Int} {h : AH} : evL 4 95 [l0, I l1, l2] [s0] h = evL 4 96 [l0, I l1, l2] [I l1, s0] h := ev_go c4_95 rfl
theorem c4_96 : cd 4 96 = some (96, .invokevirtual 58, 3, 10, 0, 288) := rfl
theorem s4_96 {l0 l1 l2 : AV} {s0 : Int} {s1 : Nat} {M : Mem} {P : PMem} (hk : kd s1 = 0) : evL 4 96 [l0, l1, l2] [I s0, Rf s1] (Hp M P) = cont (evM 10 [Rf s1, I s0] (Hp M P)) (fun r h => evL 4 99 [l0, l1, l2] (rl r []) h) := e_callV (av' := [I s0]) (rest := []) (c := 0) c4_96 rfl rfl rfl rfl rfl rfl rfl hk rfl
theorem c4_99 : cd 4 99 = some (99, .ireturn, 1, 0, 0, 0) := rfl
theorem s4_99 {l0 l1 l2 : AV} {s0 : Int} {h : AH} : evL 4 99 [l0, l1, l2] [I s0] h = some (some (I s0), h) := e_ret c4_99 rfl
theorem c4_100 : cd 4 100 = some (100, .aload_n 0, 1, 0, 0, 0) := rfl
theorem s4_100 {l1 l2 : AV} {l0 : Option Nat} {h : AH} : evL 4 100 [.inr (.inl l0), l1, l2] [] h = evL 4 101 [.inr (.inl l0), l1, l2] [.inr (.inl l0)] h := ev_go c4_100 rfl
theorem c4_101 : cd 4 101 = some (101, .getfield 32, 3, 0, 5, 85) := rfl
theorem s4_101 {l0 l1 l2 : AV} {s0 : Nat} {M : Mem} {P : PMem} (hk : kd s0 = 0) : evL 4 101 [l0, l1, l2] [Rf s0] (Hp M P) = evL 4 104 [l0, l1, l2] [Rf (rfd s0 5)] (Hp M P) := e_getR c4_101 rfl hk
theorem c4_104 : cd 4 104 = some (104, .iload_n 1, 1, 0, 0, 0) := rfl
theorem s4_104 {l0 l2 s0 : AV} {l1 : Int} {h : AH} : evL 4 104 [l0, I l1, l2] [s0] h = evL 4 105 [l0, I l1, l2] [I l1, s0] h := ev_go c4_104 rfl
theorem c4_105 : cd 4 105 = some (105, .invokevirtual 51, 3, 80, 0, 292) := rfl
theorem s4_105 {l0 l1 l2 : AV} {s0 : Int} {s1 : Nat} {M : Mem} {P : PMem} (hk : kd s1 = 6) : evL 4 105 [l0, l1, l2] [I s0, Rf s1] (Hp M P) = cont (evM 80 [Rf s1, I s0] (Hp M P)) (fun r h => evL 4 108 [l0, l1, l2] (rl r []) h) := e_callV (av' := [I s0]) (rest := []) (c := 6) c4_105 rfl rfl rfl rfl rfl rfl rfl hk rfl
theorem c4_108 : cd 4 108 = some (108, .ireturn, 1, 0, 0, 0) := rfl
theorem s4_108 {l0 l1 l2 : AV} {s0 : Int} {h : AH} : evL 4 108 [l0, l1, l2] [I s0] h = some (some (I s0), h) := e_ret c4_108 rfl
theorem c4_109 : cd 4 109 = some (109, .aload_n 0, 1, 0, 0, 0) := rfl
theorem s4_109 {l1 l2 : AV} {l0 : Option Nat} {h : AH} : evL 4 109 [.inr (.inl l0), l1, l2] [] h = evL 4 110 [.inr (.inl l0), l1, l2] [.inr (.inl l0)] h := ev_go c4_109 rfl
theorem c4_110 : cd 4 110 = some (110, .getfield 35, 3, 0, 6, 86) := rfl
theorem s4_110 {l0 l1 l2 : AV} {s0 : Nat} {M : Mem} {P : PMem} (hk : kd s0 = 0) : evL 4 110 [l0, l1, l2] [Rf s0] (Hp M P) = evL 4 113 [l0, l1, l2] [Rf (rfd s0 6)] (Hp M P) := e_getR c4_110 rfl hk
theorem c4_113 : cd 4 113 = some (113, .iload_n 1, 1, 0, 0, 0) := rfl
theorem s4_113 {l0 l2 s0 : AV} {l1 : Int} {h : AH} : evL 4 113 [l0, I l1, l2] [s0] h = evL 4 114 [l0, I l1, l2] [I l1, s0] h := ev_go c4_113 rfl
theorem c4_114 : cd 4 114 = some (114, .invokevirtual 51, 3, 80, 0, 292) := rfl
theorem s4_114 {l0 l1 l2 : AV} {s0 : Int} {s1 : Nat} {M : Mem} {P : PMem} (hk : kd s1 = 6) : evL 4 114 [l0, l1, l2] [I s0, Rf s1] (Hp M P) = cont (evM 80 [Rf s1, I s0] (Hp M P)) (fun r h => evL 4 117 [l0, l1, l2] (rl r []) h) := e_callV (av' := [I s0]) (rest := []) (c := 6) c4_114 rfl rfl rfl rfl rfl rfl rfl hk rfl
theorem c4_117 : cd 4 117 = some (117, .ireturn, 1, 0, 0, 0) := rfl
theorem s4_117 {l0 l1 l2 : AV} {s0 : Int} {h : AH} : evL 4 117 [l0, l1, l2] [I s0] h = some (some (I s0), h) := e_ret c4_117 rfl
theorem c4_118 : cd 4 118 = some (118, .aload_n 0, 1, 0, 0, 0) := rfl
theorem s4_118 {l1 l2 : AV} {l0 : Option Nat} {h : AH} : evL 4 118 [.inr (.inl l0), l1, l2] [] h = evL 4 119 [.inr (.inl l0), l1, l2] [.inr (.inl l0)] h := ev_go c4_118 rfl
theorem c4_119 : cd 4 119 = some (119, .getfield 38, 3, 0, 7, 88) := rfl
theorem s4_119 {l0 l1 l2 : AV} {s0 : Nat} {M : Mem} {P : PMem} (hk : kd s0 = 0) : evL 4 119 [l0, l1, l2] [Rf s0] (Hp M P) = evL 4 122 [l0, l1, l2] [Rf (rfd s0 7)] (Hp M P) := e_getR c4_119 rfl hk
theorem c4_122 : cd 4 122 = some (122, .iload_n 1, 1, 0, 0, 0) := rfl
theorem s4_122 {l0 l2 s0 : AV} {l1 : Int} {h : AH} : evL 4 122 [l0, I l1, l2] [s0] h = evL 4 123 [l0, I l1, l2] [I l1, s0] h := ev_go c4_122 rfl
theorem c4_123 : cd 4 123 = some (123, .invokevirtual 51, 3, 80, 0, 292) := rfl
theorem s4_123 {l0 l1 l2 : AV} {s0 : Int} {s1 : Nat} {M : Mem} {P : PMem} (hk : kd s1 = 6) : evL 4 123 [l0, l1, l2] [I s0, Rf s1] (Hp M P) = cont (evM 80 [Rf s1, I s0] (Hp M P)) (fun r h => evL 4 126 [l0, l1, l2] (rl r []) h) := e_callV (av' := [I s0]) (rest := []) (c := 6) c4_123 rfl rfl rfl rfl rfl rfl rfl hk rfl
theorem c4_126 : cd 4 126 = some (126, .ireturn, 1, 0, 0, 0) := rfl
theorem s4_126 {l0 l1 l2 : AV} {s0 : Int} {h : AH} : evL 4 126 [l0, l1, l2] [I s0] h = some (some (I s0), h) := e_ret c4_126 rfl
theorem c4_127 : cd 4 127 = some (127, .iconst (-1), 1, 0, 0, 0) := rfl
theorem s4_127 {l0 l1 l2 : AV} {h : AH} : evL 4 127 [l0, l1, l2] [] h = evL 4 128 [l0, l1, l2] [I (-1)] h := ev_go c4_127 rfl
theorem c4_128 : cd 4 128 = some (128, .ireturn, 1, 0, 0, 0) := rfl
theorem s4_128 {l0 l1 l2 : AV} {s0 : Int} {h : AH} : evL 4 128 [l0, l1, l2] [I s0] h = some (some (I s0), h) := e_ret c4_128 rfl
/-! 5: TankDivers$Crew.cellOf(II)I -/
theorem en5 {l0 l1 : AV} {h : AH} : evM 5 [l0, l1] h = evL 5 0 [l0, l1] [] h := rfl
theorem c5_0 : cd 5 0 = some (0, .iload_n 0, 1, 0, 0, 0) := rfl
theorem s5_0 {l1 : AV} {l0 : Int} {h : AH} : evL 5 0 [I l0, l1] [] h = evL 5 1 [I l0, l1] [I l0] h := ev_go c5_0 rfl
theorem c5_1 : cd 5 1 = some (1, .bipush 6, 2, 0, 0, 0) := rfl
theorem s5_1 {l0 l1 s0 : AV} {h : AH} : evL 5 1 [l0, l1] [s0] h = evL 5 3 [l0, l1] [I 6, s0] h := ev_go c5_1 rfl
theorem c5_3 : cd 5 3 = some (3, .imul, 1, 0, 0, 0) := rfl
theorem s5_3 {l0 l1 : AV} {s0 s1 : Int} {h : AH} : evL 5 3 [l0, l1] [I s0, I s1] h = evL 5 4 [l0, l1] [I (ml s1 s0)] h := ev_go c5_3 rfl
theorem c5_4 : cd 5 4 = some (4, .iload_n 1, 1, 0, 0, 0) := rfl
theorem s5_4 {l0 s0 : AV} {l1 : Int} {h : AH} : evL 5 4 [l0, I l1] [s0] h = evL 5 5 [l0, I l1] [I l1, s0] h := ev_go c5_4 rfl
theorem c5_5 : cd 5 5 = some (5, .iadd, 1, 0, 0, 0) := rfl
theorem s5_5 {l0 l1 : AV} {s0 s1 : Int} {h : AH} : evL 5 5 [l0, l1] [I s0, I s1] h = evL 5 6 [l0, l1] [I (ad s1 s0)] h := ev_go c5_5 rfl
theorem c5_6 : cd 5 6 = some (6, .ireturn, 1, 0, 0, 0) := rfl
theorem s5_6 {l0 l1 : AV} {s0 : Int} {h : AH} : evL 5 6 [l0, l1] [I s0] h = some (some (I s0), h) := e_ret c5_6 rfl
/-! 6: TankDivers$Crew.pileOf(II)I -/
theorem en6 {l0 l1 l2 : AV} {h : AH} : evM 6 [l0, l1, l2] h = evL 6 0 [l0, l1, l2] [] h := rfl
theorem c6_0 : cd 6 0 = some (0, .aload_n 0, 1, 0, 0, 0) := rfl
theorem s6_0 {l1 l2 : AV} {l0 : Option Nat} {h : AH} : evL 6 0 [.inr (.inl l0), l1, l2] [] h = evL 6 1 [.inr (.inl l0), l1, l2] [.inr (.inl l0)] h := ev_go c6_0 rfl
theorem c6_1 : cd 6 1 = some (1, .getfield 29, 3, 0, 4, 84) := rfl
theorem s6_1 {l0 l1 l2 : AV} {s0 : Nat} {M : Mem} {P : PMem} (hk : kd s0 = 0) : evL 6 1 [l0, l1, l2] [Rf s0] (Hp M P) = evL 6 4 [l0, l1, l2] [Rf (rfd s0 4)] (Hp M P) := e_getR c6_1 rfl hk
theorem c6_4 : cd 6 4 = some (4, .iload_n 1, 1, 0, 0, 0) := rfl
theorem s6_4 {l0 l2 s0 : AV} {l1 : Int} {h : AH} : evL 6 4 [l0, I l1, l2] [s0] h = evL 6 5 [l0, I l1, l2] [I l1, s0] h := ev_go c6_4 rfl
theorem c6_5 : cd 6 5 = some (5, .iload_n 2, 1, 0, 0, 0) := rfl
theorem s6_5 {l0 l1 s0 s1 : AV} {l2 : Int} {h : AH} : evL 6 5 [l0, l1, I l2] [s0, s1] h = evL 6 6 [l0, l1, I l2] [I l2, s0, s1] h := ev_go c6_5 rfl
theorem c6_6 : cd 6 6 = some (6, .invokestatic 61, 3, 5, 0, 293) := rfl
theorem s6_6 {l0 l1 l2 s2 : AV} {s0 s1 : Int} {M : Mem} {P : PMem} : evL 6 6 [l0, l1, l2] [I s0, I s1, s2] (Hp M P) = cont (evM 5 [I s1, I s0] (Hp M P)) (fun r h => evL 6 9 [l0, l1, l2] (rl r [s2]) h) := e_callS (av := [I s1, I s0]) (rest := [s2]) c6_6 rfl rfl rfl rfl rfl rfl
theorem c6_9 : cd 6 9 = some (9, .invokevirtual 51, 3, 80, 0, 292) := rfl
theorem s6_9 {l0 l1 l2 : AV} {s0 : Int} {s1 : Nat} {M : Mem} {P : PMem} (hk : kd s1 = 6) : evL 6 9 [l0, l1, l2] [I s0, Rf s1] (Hp M P) = cont (evM 80 [Rf s1, I s0] (Hp M P)) (fun r h => evL 6 12 [l0, l1, l2] (rl r []) h) := e_callV (av' := [I s0]) (rest := []) (c := 6) c6_9 rfl rfl rfl rfl rfl rfl rfl hk rfl
theorem c6_12 : cd 6 12 = some (12, .ireturn, 1, 0, 0, 0) := rfl
theorem s6_12 {l0 l1 l2 : AV} {s0 : Int} {h : AH} : evL 6 12 [l0, l1, l2] [I s0] h = some (some (I s0), h) := e_ret c6_12 rfl
/-! 7: TankDivers$Crew.addPile(II)V -/
theorem en7 {l0 l1 l2 : AV} {h : AH} : evM 7 [l0, l1, l2] h = evL 7 0 [l0, l1, l2] [] h := rfl
theorem c7_0 : cd 7 0 = some (0, .aload_n 0, 1, 0, 0, 0) := rfl
theorem s7_0 {l1 l2 : AV} {l0 : Option Nat} {h : AH} : evL 7 0 [.inr (.inl l0), l1, l2] [] h = evL 7 1 [.inr (.inl l0), l1, l2] [.inr (.inl l0)] h := ev_go c7_0 rfl
theorem c7_1 : cd 7 1 = some (1, .getfield 29, 3, 0, 4, 84) := rfl
theorem s7_1 {l0 l1 l2 : AV} {s0 : Nat} {M : Mem} {P : PMem} (hk : kd s0 = 0) : evL 7 1 [l0, l1, l2] [Rf s0] (Hp M P) = evL 7 4 [l0, l1, l2] [Rf (rfd s0 4)] (Hp M P) := e_getR c7_1 rfl hk
theorem c7_4 : cd 7 4 = some (4, .iload_n 1, 1, 0, 0, 0) := rfl
theorem s7_4 {l0 l2 s0 : AV} {l1 : Int} {h : AH} : evL 7 4 [l0, I l1, l2] [s0] h = evL 7 5 [l0, I l1, l2] [I l1, s0] h := ev_go c7_4 rfl
theorem c7_5 : cd 7 5 = some (5, .aload_n 0, 1, 0, 0, 0) := rfl
theorem s7_5 {l1 l2 s0 s1 : AV} {l0 : Option Nat} {h : AH} : evL 7 5 [.inr (.inl l0), l1, l2] [s0, s1] h = evL 7 6 [.inr (.inl l0), l1, l2] [.inr (.inl l0), s0, s1] h := ev_go c7_5 rfl
theorem c7_6 : cd 7 6 = some (6, .getfield 26, 3, 0, 3, 81) := rfl
theorem s7_6 {l0 l1 l2 s1 s2 : AV} {s0 : Nat} {M : Mem} {P : PMem} (hk : kd s0 = 0) : evL 7 6 [l0, l1, l2] [Rf s0, s1, s2] (Hp M P) = evL 7 9 [l0, l1, l2] [Rf (rfd s0 3), s1, s2] (Hp M P) := e_getR c7_6 rfl hk
theorem c7_9 : cd 7 9 = some (9, .iload_n 1, 1, 0, 0, 0) := rfl
theorem s7_9 {l0 l2 s0 s1 s2 : AV} {l1 : Int} {h : AH} : evL 7 9 [l0, I l1, l2] [s0, s1, s2] h = evL 7 10 [l0, I l1, l2] [I l1, s0, s1, s2] h := ev_go c7_9 rfl
theorem c7_10 : cd 7 10 = some (10, .invokevirtual 51, 3, 80, 0, 292) := rfl
theorem s7_10 {l0 l1 l2 s2 s3 : AV} {s0 : Int} {s1 : Nat} {M : Mem} {P : PMem} (hk : kd s1 = 6) : evL 7 10 [l0, l1, l2] [I s0, Rf s1, s2, s3] (Hp M P) = cont (evM 80 [Rf s1, I s0] (Hp M P)) (fun r h => evL 7 13 [l0, l1, l2] (rl r [s2, s3]) h) := e_callV (av' := [I s0]) (rest := [s2, s3]) (c := 6) c7_10 rfl rfl rfl rfl rfl rfl rfl hk rfl
theorem c7_13 : cd 7 13 = some (13, .invokestatic 61, 3, 5, 0, 293) := rfl
theorem s7_13 {l0 l1 l2 s2 : AV} {s0 s1 : Int} {M : Mem} {P : PMem} : evL 7 13 [l0, l1, l2] [I s0, I s1, s2] (Hp M P) = cont (evM 5 [I s1, I s0] (Hp M P)) (fun r h => evL 7 16 [l0, l1, l2] (rl r [s2]) h) := e_callS (av := [I s1, I s0]) (rest := [s2]) c7_13 rfl rfl rfl rfl rfl rfl
theorem c7_16 : cd 7 16 = some (16, .iload_n 2, 1, 0, 0, 0) := rfl
theorem s7_16 {l0 l1 s0 s1 : AV} {l2 : Int} {h : AH} : evL 7 16 [l0, l1, I l2] [s0, s1] h = evL 7 17 [l0, l1, I l2] [I l2, s0, s1] h := ev_go c7_16 rfl
theorem c7_17 : cd 7 17 = some (17, .invokevirtual 65, 3, 81, 0, 579) := rfl
theorem s7_17 {l0 l1 l2 : AV} {s0 s1 : Int} {s2 : Nat} {M : Mem} {P : PMem} (hk : kd s2 = 6) : evL 7 17 [l0, l1, l2] [I s0, I s1, Rf s2] (Hp M P) = cont (evM 81 [Rf s2, I s1, I s0] (Hp M P)) (fun r h => evL 7 20 [l0, l1, l2] (rl r []) h) := e_callV (av' := [I s1, I s0]) (rest := []) (c := 6) c7_17 rfl rfl rfl rfl rfl rfl rfl hk rfl
theorem c7_20 : cd 7 20 = some (20, .aload_n 0, 1, 0, 0, 0) := rfl
theorem s7_20 {l1 l2 : AV} {l0 : Option Nat} {h : AH} : evL 7 20 [.inr (.inl l0), l1, l2] [] h = evL 7 21 [.inr (.inl l0), l1, l2] [.inr (.inl l0)] h := ev_go c7_20 rfl
theorem c7_21 : cd 7 21 = some (21, .getfield 26, 3, 0, 3, 81) := rfl
theorem s7_21 {l0 l1 l2 : AV} {s0 : Nat} {M : Mem} {P : PMem} (hk : kd s0 = 0) : evL 7 21 [l0, l1, l2] [Rf s0] (Hp M P) = evL 7 24 [l0, l1, l2] [Rf (rfd s0 3)] (Hp M P) := e_getR c7_21 rfl hk
theorem c7_24 : cd 7 24 = some (24, .iload_n 1, 1, 0, 0, 0) := rfl
theorem s7_24 {l0 l2 s0 : AV} {l1 : Int} {h : AH} : evL 7 24 [l0, I l1, l2] [s0] h = evL 7 25 [l0, I l1, l2] [I l1, s0] h := ev_go c7_24 rfl
theorem c7_25 : cd 7 25 = some (25, .iconst 1, 1, 0, 0, 0) := rfl
theorem s7_25 {l0 l1 l2 s0 s1 : AV} {h : AH} : evL 7 25 [l0, l1, l2] [s0, s1] h = evL 7 26 [l0, l1, l2] [I 1, s0, s1] h := ev_go c7_25 rfl
theorem c7_26 : cd 7 26 = some (26, .invokevirtual 69, 3, 82, 0, 580) := rfl
theorem s7_26 {l0 l1 l2 : AV} {s0 s1 : Int} {s2 : Nat} {M : Mem} {P : PMem} (hk : kd s2 = 6) : evL 7 26 [l0, l1, l2] [I s0, I s1, Rf s2] (Hp M P) = cont (evM 82 [Rf s2, I s1, I s0] (Hp M P)) (fun r h => evL 7 29 [l0, l1, l2] (rl r []) h) := e_callV (av' := [I s1, I s0]) (rest := []) (c := 6) c7_26 rfl rfl rfl rfl rfl rfl rfl hk rfl
theorem c7_29 : cd 7 29 = some (29, .return_, 1, 0, 0, 0) := rfl
theorem s7_29 {l0 l1 l2 : AV} {h : AH} : evL 7 29 [l0, l1, l2] [] h = some (none, h) := e_ret c7_29 rfl
/-! 8: TankDivers$Crew.removePile(II)I -/
theorem en8 {l0 l1 l2 : AV} {h : AH} : evM 8 [l0, l1, l2] h = evL 8 0 [l0, l1, l2, Db 0, Db 0, Db 0] [] h := rfl
theorem c8_0 : cd 8 0 = some (0, .aload_n 0, 1, 0, 0, 0) := rfl
theorem s8_0 {l1 l2 l3 l4 l5 : AV} {l0 : Option Nat} {h : AH} : evL 8 0 [.inr (.inl l0), l1, l2, l3, l4, l5] [] h = evL 8 1 [.inr (.inl l0), l1, l2, l3, l4, l5] [.inr (.inl l0)] h := ev_go c8_0 rfl
theorem c8_1 : cd 8 1 = some (1, .iload_n 1, 1, 0, 0, 0) := rfl
theorem s8_1 {l0 l2 l3 l4 l5 s0 : AV} {l1 : Int} {h : AH} : evL 8 1 [l0, I l1, l2, l3, l4, l5] [s0] h = evL 8 2 [l0, I l1, l2, l3, l4, l5] [I l1, s0] h := ev_go c8_1 rfl
theorem c8_2 : cd 8 2 = some (2, .iload_n 2, 1, 0, 0, 0) := rfl
theorem s8_2 {l0 l1 l3 l4 l5 s0 s1 : AV} {l2 : Int} {h : AH} : evL 8 2 [l0, l1, I l2, l3, l4, l5] [s0, s1] h = evL 8 3 [l0, l1, I l2, l3, l4, l5] [I l2, s0, s1] h := ev_go c8_2 rfl
theorem c8_3 : cd 8 3 = some (3, .invokevirtual 72, 3, 6, 0, 589) := rfl
theorem s8_3 {l0 l1 l2 l3 l4 l5 : AV} {s0 s1 : Int} {s2 : Nat} {M : Mem} {P : PMem} (hk : kd s2 = 0) : evL 8 3 [l0, l1, l2, l3, l4, l5] [I s0, I s1, Rf s2] (Hp M P) = cont (evM 6 [Rf s2, I s1, I s0] (Hp M P)) (fun r h => evL 8 6 [l0, l1, l2, l3, l4, l5] (rl r []) h) := e_callV (av' := [I s1, I s0]) (rest := []) (c := 0) c8_3 rfl rfl rfl rfl rfl rfl rfl hk rfl
theorem c8_6 : cd 8 6 = some (6, .istore_n 3, 1, 0, 0, 0) := rfl
theorem s8_6 {l0 l1 l2 l3 l4 l5 : AV} {s0 : Int} {h : AH} : evL 8 6 [l0, l1, l2, l3, l4, l5] [I s0] h = evL 8 7 [l0, l1, l2, I s0, l4, l5] [] h := ev_go c8_6 rfl
theorem c8_7 : cd 8 7 = some (7, .aload_n 0, 1, 0, 0, 0) := rfl
theorem s8_7 {l1 l2 l3 l4 l5 : AV} {l0 : Option Nat} {h : AH} : evL 8 7 [.inr (.inl l0), l1, l2, l3, l4, l5] [] h = evL 8 8 [.inr (.inl l0), l1, l2, l3, l4, l5] [.inr (.inl l0)] h := ev_go c8_7 rfl
theorem c8_8 : cd 8 8 = some (8, .getfield 26, 3, 0, 3, 81) := rfl
theorem s8_8 {l0 l1 l2 l3 l4 l5 : AV} {s0 : Nat} {M : Mem} {P : PMem} (hk : kd s0 = 0) : evL 8 8 [l0, l1, l2, l3, l4, l5] [Rf s0] (Hp M P) = evL 8 11 [l0, l1, l2, l3, l4, l5] [Rf (rfd s0 3)] (Hp M P) := e_getR c8_8 rfl hk
theorem c8_11 : cd 8 11 = some (11, .iload_n 1, 1, 0, 0, 0) := rfl
theorem s8_11 {l0 l2 l3 l4 l5 s0 : AV} {l1 : Int} {h : AH} : evL 8 11 [l0, I l1, l2, l3, l4, l5] [s0] h = evL 8 12 [l0, I l1, l2, l3, l4, l5] [I l1, s0] h := ev_go c8_11 rfl
theorem c8_12 : cd 8 12 = some (12, .invokevirtual 51, 3, 80, 0, 292) := rfl
theorem s8_12 {l0 l1 l2 l3 l4 l5 : AV} {s0 : Int} {s1 : Nat} {M : Mem} {P : PMem} (hk : kd s1 = 6) : evL 8 12 [l0, l1, l2, l3, l4, l5] [I s0, Rf s1] (Hp M P) = cont (evM 80 [Rf s1, I s0] (Hp M P)) (fun r h => evL 8 15 [l0, l1, l2, l3, l4, l5] (rl r []) h) := e_callV (av' := [I s0]) (rest := []) (c := 6) c8_12 rfl rfl rfl rfl rfl rfl rfl hk rfl
theorem c8_15 : cd 8 15 = some (15, .iconst 1, 1, 0, 0, 0) := rfl
theorem s8_15 {l0 l1 l2 l3 l4 l5 s0 : AV} {h : AH} : evL 8 15 [l0, l1, l2, l3, l4, l5] [s0] h = evL 8 16 [l0, l1, l2, l3, l4, l5] [I 1, s0] h := ev_go c8_15 rfl
theorem c8_16 : cd 8 16 = some (16, .isub, 1, 0, 0, 0) := rfl
theorem s8_16 {l0 l1 l2 l3 l4 l5 : AV} {s0 s1 : Int} {h : AH} : evL 8 16 [l0, l1, l2, l3, l4, l5] [I s0, I s1] h = evL 8 17 [l0, l1, l2, l3, l4, l5] [I (sb s1 s0)] h := ev_go c8_16 rfl
theorem c8_17 : cd 8 17 = some (17, .istore 4, 2, 0, 0, 0) := rfl
theorem s8_17 {l0 l1 l2 l3 l4 l5 : AV} {s0 : Int} {h : AH} : evL 8 17 [l0, l1, l2, l3, l4, l5] [I s0] h = evL 8 19 [l0, l1, l2, l3, I s0, l5] [] h := ev_go c8_17 rfl
theorem c8_19 : cd 8 19 = some (19, .iload_n 2, 1, 0, 0, 0) := rfl
theorem s8_19 {l0 l1 l3 l4 l5 : AV} {l2 : Int} {h : AH} : evL 8 19 [l0, l1, I l2, l3, l4, l5] [] h = evL 8 20 [l0, l1, I l2, l3, l4, l5] [I l2] h := ev_go c8_19 rfl
theorem c8_20 : cd 8 20 = some (20, .istore 5, 2, 0, 0, 0) := rfl
theorem s8_20 {l0 l1 l2 l3 l4 l5 : AV} {s0 : Int} {h : AH} : evL 8 20 [l0, l1, l2, l3, l4, l5] [I s0] h = evL 8 22 [l0, l1, l2, l3, l4, I s0] [] h := ev_go c8_20 rfl
theorem c8_22 : cd 8 22 = some (22, .iload 5, 2, 0, 0, 0) := rfl
theorem s8_22 {l0 l1 l2 l3 l4 : AV} {l5 : Int} {h : AH} : evL 8 22 [l0, l1, l2, l3, l4, I l5] [] h = evL 8 24 [l0, l1, l2, l3, l4, I l5] [I l5] h := ev_go c8_22 rfl
theorem c8_24 : cd 8 24 = some (24, .iload 4, 2, 0, 0, 0) := rfl
theorem s8_24 {l0 l1 l2 l3 l5 s0 : AV} {l4 : Int} {h : AH} : evL 8 24 [l0, l1, l2, l3, I l4, l5] [s0] h = evL 8 26 [l0, l1, l2, l3, I l4, l5] [I l4, s0] h := ev_go c8_24 rfl
theorem c8_26 : cd 8 26 = some (26, .if_icmp .ge 37, 3, 0, 0, 0) := rfl
theorem s8_26 {l0 l1 l2 l3 l4 l5 : AV} {s0 s1 : Int} {h : AH} : evL 8 26 [l0, l1, l2, l3, l4, l5] [I s0, I s1] h = if s0 ≤ s1 then evL 8 63 [l0, l1, l2, l3, l4, l5] [] h else evL 8 29 [l0, l1, l2, l3, l4, l5] [] h := e_icmp_ge c8_26 rfl rfl
theorem c8_29 : cd 8 29 = some (29, .aload_n 0, 1, 0, 0, 0) := rfl
theorem s8_29 {l1 l2 l3 l4 l5 : AV} {l0 : Option Nat} {h : AH} : evL 8 29 [.inr (.inl l0), l1, l2, l3, l4, l5] [] h = evL 8 30 [.inr (.inl l0), l1, l2, l3, l4, l5] [.inr (.inl l0)] h := ev_go c8_29 rfl
theorem c8_30 : cd 8 30 = some (30, .getfield 29, 3, 0, 4, 84) := rfl
theorem s8_30 {l0 l1 l2 l3 l4 l5 : AV} {s0 : Nat} {M : Mem} {P : PMem} (hk : kd s0 = 0) : evL 8 30 [l0, l1, l2, l3, l4, l5] [Rf s0] (Hp M P) = evL 8 33 [l0, l1, l2, l3, l4, l5] [Rf (rfd s0 4)] (Hp M P) := e_getR c8_30 rfl hk
theorem c8_33 : cd 8 33 = some (33, .iload_n 1, 1, 0, 0, 0) := rfl
theorem s8_33 {l0 l2 l3 l4 l5 s0 : AV} {l1 : Int} {h : AH} : evL 8 33 [l0, I l1, l2, l3, l4, l5] [s0] h = evL 8 34 [l0, I l1, l2, l3, l4, l5] [I l1, s0] h := ev_go c8_33 rfl
theorem c8_34 : cd 8 34 = some (34, .iload 5, 2, 0, 0, 0) := rfl
theorem s8_34 {l0 l1 l2 l3 l4 s0 s1 : AV} {l5 : Int} {h : AH} : evL 8 34 [l0, l1, l2, l3, l4, I l5] [s0, s1] h = evL 8 36 [l0, l1, l2, l3, l4, I l5] [I l5, s0, s1] h := ev_go c8_34 rfl
theorem c8_36 : cd 8 36 = some (36, .invokestatic 61, 3, 5, 0, 293) := rfl
theorem s8_36 {l0 l1 l2 l3 l4 l5 s2 : AV} {s0 s1 : Int} {M : Mem} {P : PMem} : evL 8 36 [l0, l1, l2, l3, l4, l5] [I s0, I s1, s2] (Hp M P) = cont (evM 5 [I s1, I s0] (Hp M P)) (fun r h => evL 8 39 [l0, l1, l2, l3, l4, l5] (rl r [s2]) h) := e_callS (av := [I s1, I s0]) (rest := [s2]) c8_36 rfl rfl rfl rfl rfl rfl
theorem c8_39 : cd 8 39 = some (39, .aload_n 0, 1, 0, 0, 0) := rfl
theorem s8_39 {l1 l2 l3 l4 l5 s0 s1 : AV} {l0 : Option Nat} {h : AH} : evL 8 39 [.inr (.inl l0), l1, l2, l3, l4, l5] [s0, s1] h = evL 8 40 [.inr (.inl l0), l1, l2, l3, l4, l5] [.inr (.inl l0), s0, s1] h := ev_go c8_39 rfl
theorem c8_40 : cd 8 40 = some (40, .getfield 29, 3, 0, 4, 84) := rfl
theorem s8_40 {l0 l1 l2 l3 l4 l5 s1 s2 : AV} {s0 : Nat} {M : Mem} {P : PMem} (hk : kd s0 = 0) : evL 8 40 [l0, l1, l2, l3, l4, l5] [Rf s0, s1, s2] (Hp M P) = evL 8 43 [l0, l1, l2, l3, l4, l5] [Rf (rfd s0 4), s1, s2] (Hp M P) := e_getR c8_40 rfl hk
theorem c8_43 : cd 8 43 = some (43, .iload_n 1, 1, 0, 0, 0) := rfl
theorem s8_43 {l0 l2 l3 l4 l5 s0 s1 s2 : AV} {l1 : Int} {h : AH} : evL 8 43 [l0, I l1, l2, l3, l4, l5] [s0, s1, s2] h = evL 8 44 [l0, I l1, l2, l3, l4, l5] [I l1, s0, s1, s2] h := ev_go c8_43 rfl
theorem c8_44 : cd 8 44 = some (44, .iload 5, 2, 0, 0, 0) := rfl
theorem s8_44 {l0 l1 l2 l3 l4 s0 s1 s2 s3 : AV} {l5 : Int} {h : AH} : evL 8 44 [l0, l1, l2, l3, l4, I l5] [s0, s1, s2, s3] h = evL 8 46 [l0, l1, l2, l3, l4, I l5] [I l5, s0, s1, s2, s3] h := ev_go c8_44 rfl
theorem c8_46 : cd 8 46 = some (46, .iconst 1, 1, 0, 0, 0) := rfl
theorem s8_46 {l0 l1 l2 l3 l4 l5 s0 s1 s2 s3 s4 : AV} {h : AH} : evL 8 46 [l0, l1, l2, l3, l4, l5] [s0, s1, s2, s3, s4] h = evL 8 47 [l0, l1, l2, l3, l4, l5] [I 1, s0, s1, s2, s3, s4] h := ev_go c8_46 rfl
theorem c8_47 : cd 8 47 = some (47, .iadd, 1, 0, 0, 0) := rfl
theorem s8_47 {l0 l1 l2 l3 l4 l5 s2 s3 s4 s5 : AV} {s0 s1 : Int} {h : AH} : evL 8 47 [l0, l1, l2, l3, l4, l5] [I s0, I s1, s2, s3, s4, s5] h = evL 8 48 [l0, l1, l2, l3, l4, l5] [I (ad s1 s0), s2, s3, s4, s5] h := ev_go c8_47 rfl
theorem c8_48 : cd 8 48 = some (48, .invokestatic 61, 3, 5, 0, 293) := rfl
theorem s8_48 {l0 l1 l2 l3 l4 l5 s2 s3 s4 : AV} {s0 s1 : Int} {M : Mem} {P : PMem} : evL 8 48 [l0, l1, l2, l3, l4, l5] [I s0, I s1, s2, s3, s4] (Hp M P) = cont (evM 5 [I s1, I s0] (Hp M P)) (fun r h => evL 8 51 [l0, l1, l2, l3, l4, l5] (rl r [s2, s3, s4]) h) := e_callS (av := [I s1, I s0]) (rest := [s2, s3, s4]) c8_48 rfl rfl rfl rfl rfl rfl
theorem c8_51 : cd 8 51 = some (51, .invokevirtual 51, 3, 80, 0, 292) := rfl
theorem s8_51 {l0 l1 l2 l3 l4 l5 s2 s3 : AV} {s0 : Int} {s1 : Nat} {M : Mem} {P : PMem} (hk : kd s1 = 6) : evL 8 51 [l0, l1, l2, l3, l4, l5] [I s0, Rf s1, s2, s3] (Hp M P) = cont (evM 80 [Rf s1, I s0] (Hp M P)) (fun r h => evL 8 54 [l0, l1, l2, l3, l4, l5] (rl r [s2, s3]) h) := e_callV (av' := [I s0]) (rest := [s2, s3]) (c := 6) c8_51 rfl rfl rfl rfl rfl rfl rfl hk rfl
theorem c8_54 : cd 8 54 = some (54, .invokevirtual 65, 3, 81, 0, 579) := rfl
theorem s8_54 {l0 l1 l2 l3 l4 l5 : AV} {s0 s1 : Int} {s2 : Nat} {M : Mem} {P : PMem} (hk : kd s2 = 6) : evL 8 54 [l0, l1, l2, l3, l4, l5] [I s0, I s1, Rf s2] (Hp M P) = cont (evM 81 [Rf s2, I s1, I s0] (Hp M P)) (fun r h => evL 8 57 [l0, l1, l2, l3, l4, l5] (rl r []) h) := e_callV (av' := [I s1, I s0]) (rest := []) (c := 6) c8_54 rfl rfl rfl rfl rfl rfl rfl hk rfl
theorem c8_57 : cd 8 57 = some (57, .iinc 5 1, 3, 0, 0, 0) := rfl
theorem s8_57 {l0 l1 l2 l3 l4 : AV} {l5 : Int} {h : AH} : evL 8 57 [l0, l1, l2, l3, l4, I l5] [] h = evL 8 60 [l0, l1, l2, l3, l4, I (ad l5 1)] [] h := ev_go c8_57 rfl
theorem c8_60 : cd 8 60 = some (60, .goto (-38), 3, 0, 0, 0) := rfl
theorem s8_60 {l0 l1 l2 l3 l4 l5 : AV} {h : AH} : evL 8 60 [l0, l1, l2, l3, l4, l5] [] h = evL 8 22 [l0, l1, l2, l3, l4, l5] [] h := ev_go c8_60 rfl
theorem c8_63 : cd 8 63 = some (63, .aload_n 0, 1, 0, 0, 0) := rfl
theorem s8_63 {l1 l2 l3 l4 l5 : AV} {l0 : Option Nat} {h : AH} : evL 8 63 [.inr (.inl l0), l1, l2, l3, l4, l5] [] h = evL 8 64 [.inr (.inl l0), l1, l2, l3, l4, l5] [.inr (.inl l0)] h := ev_go c8_63 rfl
theorem c8_64 : cd 8 64 = some (64, .getfield 26, 3, 0, 3, 81) := rfl
theorem s8_64 {l0 l1 l2 l3 l4 l5 : AV} {s0 : Nat} {M : Mem} {P : PMem} (hk : kd s0 = 0) : evL 8 64 [l0, l1, l2, l3, l4, l5] [Rf s0] (Hp M P) = evL 8 67 [l0, l1, l2, l3, l4, l5] [Rf (rfd s0 3)] (Hp M P) := e_getR c8_64 rfl hk
theorem c8_67 : cd 8 67 = some (67, .iload_n 1, 1, 0, 0, 0) := rfl
theorem s8_67 {l0 l2 l3 l4 l5 s0 : AV} {l1 : Int} {h : AH} : evL 8 67 [l0, I l1, l2, l3, l4, l5] [s0] h = evL 8 68 [l0, I l1, l2, l3, l4, l5] [I l1, s0] h := ev_go c8_67 rfl
theorem c8_68 : cd 8 68 = some (68, .iload 4, 2, 0, 0, 0) := rfl
theorem s8_68 {l0 l1 l2 l3 l5 s0 s1 : AV} {l4 : Int} {h : AH} : evL 8 68 [l0, l1, l2, l3, I l4, l5] [s0, s1] h = evL 8 70 [l0, l1, l2, l3, I l4, l5] [I l4, s0, s1] h := ev_go c8_68 rfl
theorem c8_70 : cd 8 70 = some (70, .invokevirtual 65, 3, 81, 0, 579) := rfl
theorem s8_70 {l0 l1 l2 l3 l4 l5 : AV} {s0 s1 : Int} {s2 : Nat} {M : Mem} {P : PMem} (hk : kd s2 = 6) : evL 8 70 [l0, l1, l2, l3, l4, l5] [I s0, I s1, Rf s2] (Hp M P) = cont (evM 81 [Rf s2, I s1, I s0] (Hp M P)) (fun r h => evL 8 73 [l0, l1, l2, l3, l4, l5] (rl r []) h) := e_callV (av' := [I s1, I s0]) (rest := []) (c := 6) c8_70 rfl rfl rfl rfl rfl rfl rfl hk rfl
theorem c8_73 : cd 8 73 = some (73, .iload_n 3, 1, 0, 0, 0) := rfl
theorem s8_73 {l0 l1 l2 l4 l5 : AV} {l3 : Int} {h : AH} : evL 8 73 [l0, l1, l2, I l3, l4, l5] [] h = evL 8 74 [l0, l1, l2, I l3, l4, l5] [I l3] h := ev_go c8_73 rfl
theorem c8_74 : cd 8 74 = some (74, .ireturn, 1, 0, 0, 0) := rfl
theorem s8_74 {l0 l1 l2 l3 l4 l5 : AV} {s0 : Int} {h : AH} : evL 8 74 [l0, l1, l2, l3, l4, l5] [I s0] h = some (some (I s0), h) := e_ret c8_74 rfl
/-! 9: TankDivers$Crew.treasuresHeldBy(I)I -/
theorem en9 {l0 l1 : AV} {h : AH} : evM 9 [l0, l1] h = evL 9 0 [l0, l1, Db 0, Db 0] [] h := rfl
theorem c9_0 : cd 9 0 = some (0, .iconst 0, 1, 0, 0, 0) := rfl
theorem s9_0 {l0 l1 l2 l3 : AV} {h : AH} : evL 9 0 [l0, l1, l2, l3] [] h = evL 9 1 [l0, l1, l2, l3] [I 0] h := ev_go c9_0 rfl
theorem c9_1 : cd 9 1 = some (1, .istore_n 2, 1, 0, 0, 0) := rfl
theorem s9_1 {l0 l1 l2 l3 : AV} {s0 : Int} {h : AH} : evL 9 1 [l0, l1, l2, l3] [I s0] h = evL 9 2 [l0, l1, I s0, l3] [] h := ev_go c9_1 rfl
theorem c9_2 : cd 9 2 = some (2, .iconst 0, 1, 0, 0, 0) := rfl
theorem s9_2 {l0 l1 l2 l3 : AV} {h : AH} : evL 9 2 [l0, l1, l2, l3] [] h = evL 9 3 [l0, l1, l2, l3] [I 0] h := ev_go c9_2 rfl
theorem c9_3 : cd 9 3 = some (3, .istore_n 3, 1, 0, 0, 0) := rfl
theorem s9_3 {l0 l1 l2 l3 : AV} {s0 : Int} {h : AH} : evL 9 3 [l0, l1, l2, l3] [I s0] h = evL 9 4 [l0, l1, l2, I s0] [] h := ev_go c9_3 rfl
theorem c9_4 : cd 9 4 = some (4, .iload_n 3, 1, 0, 0, 0) := rfl
theorem s9_4 {l0 l1 l2 : AV} {l3 : Int} {h : AH} : evL 9 4 [l0, l1, l2, I l3] [] h = evL 9 5 [l0, l1, l2, I l3] [I l3] h := ev_go c9_4 rfl
theorem c9_5 : cd 9 5 = some (5, .aload_n 0, 1, 0, 0, 0) := rfl
theorem s9_5 {l1 l2 l3 s0 : AV} {l0 : Option Nat} {h : AH} : evL 9 5 [.inr (.inl l0), l1, l2, l3] [s0] h = evL 9 6 [.inr (.inl l0), l1, l2, l3] [.inr (.inl l0), s0] h := ev_go c9_5 rfl
theorem c9_6 : cd 9 6 = some (6, .getfield 26, 3, 0, 3, 81) := rfl
theorem s9_6 {l0 l1 l2 l3 s1 : AV} {s0 : Nat} {M : Mem} {P : PMem} (hk : kd s0 = 0) : evL 9 6 [l0, l1, l2, l3] [Rf s0, s1] (Hp M P) = evL 9 9 [l0, l1, l2, l3] [Rf (rfd s0 3), s1] (Hp M P) := e_getR c9_6 rfl hk
theorem c9_9 : cd 9 9 = some (9, .iload_n 1, 1, 0, 0, 0) := rfl
theorem s9_9 {l0 l2 l3 s0 s1 : AV} {l1 : Int} {h : AH} : evL 9 9 [l0, I l1, l2, l3] [s0, s1] h = evL 9 10 [l0, I l1, l2, l3] [I l1, s0, s1] h := ev_go c9_9 rfl
theorem c9_10 : cd 9 10 = some (10, .invokevirtual 51, 3, 80, 0, 292) := rfl
theorem s9_10 {l0 l1 l2 l3 s2 : AV} {s0 : Int} {s1 : Nat} {M : Mem} {P : PMem} (hk : kd s1 = 6) : evL 9 10 [l0, l1, l2, l3] [I s0, Rf s1, s2] (Hp M P) = cont (evM 80 [Rf s1, I s0] (Hp M P)) (fun r h => evL 9 13 [l0, l1, l2, l3] (rl r [s2]) h) := e_callV (av' := [I s0]) (rest := [s2]) (c := 6) c9_10 rfl rfl rfl rfl rfl rfl rfl hk rfl
theorem c9_13 : cd 9 13 = some (13, .if_icmp .ge 27, 3, 0, 0, 0) := rfl
theorem s9_13 {l0 l1 l2 l3 : AV} {s0 s1 : Int} {h : AH} : evL 9 13 [l0, l1, l2, l3] [I s0, I s1] h = if s0 ≤ s1 then evL 9 40 [l0, l1, l2, l3] [] h else evL 9 16 [l0, l1, l2, l3] [] h := e_icmp_ge c9_13 rfl rfl
theorem c9_16 : cd 9 16 = some (16, .iload_n 2, 1, 0, 0, 0) := rfl
theorem s9_16 {l0 l1 l3 : AV} {l2 : Int} {h : AH} : evL 9 16 [l0, l1, I l2, l3] [] h = evL 9 17 [l0, l1, I l2, l3] [I l2] h := ev_go c9_16 rfl
theorem c9_17 : cd 9 17 = some (17, .aload_n 0, 1, 0, 0, 0) := rfl
theorem s9_17 {l1 l2 l3 s0 : AV} {l0 : Option Nat} {h : AH} : evL 9 17 [.inr (.inl l0), l1, l2, l3] [s0] h = evL 9 18 [.inr (.inl l0), l1, l2, l3] [.inr (.inl l0), s0] h := ev_go c9_17 rfl
theorem c9_18 : cd 9 18 = some (18, .getfield 29, 3, 0, 4, 84) := rfl
theorem s9_18 {l0 l1 l2 l3 s1 : AV} {s0 : Nat} {M : Mem} {P : PMem} (hk : kd s0 = 0) : evL 9 18 [l0, l1, l2, l3] [Rf s0, s1] (Hp M P) = evL 9 21 [l0, l1, l2, l3] [Rf (rfd s0 4), s1] (Hp M P) := e_getR c9_18 rfl hk
theorem c9_21 : cd 9 21 = some (21, .iload_n 1, 1, 0, 0, 0) := rfl
theorem s9_21 {l0 l2 l3 s0 s1 : AV} {l1 : Int} {h : AH} : evL 9 21 [l0, I l1, l2, l3] [s0, s1] h = evL 9 22 [l0, I l1, l2, l3] [I l1, s0, s1] h := ev_go c9_21 rfl
theorem c9_22 : cd 9 22 = some (22, .iload_n 3, 1, 0, 0, 0) := rfl
theorem s9_22 {l0 l1 l2 s0 s1 s2 : AV} {l3 : Int} {h : AH} : evL 9 22 [l0, l1, l2, I l3] [s0, s1, s2] h = evL 9 23 [l0, l1, l2, I l3] [I l3, s0, s1, s2] h := ev_go c9_22 rfl
theorem c9_23 : cd 9 23 = some (23, .invokestatic 61, 3, 5, 0, 293) := rfl
theorem s9_23 {l0 l1 l2 l3 s2 s3 : AV} {s0 s1 : Int} {M : Mem} {P : PMem} : evL 9 23 [l0, l1, l2, l3] [I s0, I s1, s2, s3] (Hp M P) = cont (evM 5 [I s1, I s0] (Hp M P)) (fun r h => evL 9 26 [l0, l1, l2, l3] (rl r [s2, s3]) h) := e_callS (av := [I s1, I s0]) (rest := [s2, s3]) c9_23 rfl rfl rfl rfl rfl rfl
theorem c9_26 : cd 9 26 = some (26, .invokevirtual 51, 3, 80, 0, 292) := rfl
theorem s9_26 {l0 l1 l2 l3 s2 : AV} {s0 : Int} {s1 : Nat} {M : Mem} {P : PMem} (hk : kd s1 = 6) : evL 9 26 [l0, l1, l2, l3] [I s0, Rf s1, s2] (Hp M P) = cont (evM 80 [Rf s1, I s0] (Hp M P)) (fun r h => evL 9 29 [l0, l1, l2, l3] (rl r [s2]) h) := e_callV (av' := [I s0]) (rest := [s2]) (c := 6) c9_26 rfl rfl rfl rfl rfl rfl rfl hk rfl
theorem c9_29 : cd 9 29 = some (29, .invokestatic 75, 3, 75, 0, 322) := rfl
theorem s9_29 {l0 l1 l2 l3 s1 : AV} {s0 : Int} {M : Mem} {P : PMem} : evL 9 29 [l0, l1, l2, l3] [I s0, s1] (Hp M P) = cont (evM 75 [I s0] (Hp M P)) (fun r h => evL 9 32 [l0, l1, l2, l3] (rl r [s1]) h) := e_callS (av := [I s0]) (rest := [s1]) c9_29 rfl rfl rfl rfl rfl rfl
theorem c9_32 : cd 9 32 = some (32, .iadd, 1, 0, 0, 0) := rfl
theorem s9_32 {l0 l1 l2 l3 : AV} {s0 s1 : Int} {h : AH} : evL 9 32 [l0, l1, l2, l3] [I s0, I s1] h = evL 9 33 [l0, l1, l2, l3] [I (ad s1 s0)] h := ev_go c9_32 rfl
theorem c9_33 : cd 9 33 = some (33, .istore_n 2, 1, 0, 0, 0) := rfl
theorem s9_33 {l0 l1 l2 l3 : AV} {s0 : Int} {h : AH} : evL 9 33 [l0, l1, l2, l3] [I s0] h = evL 9 34 [l0, l1, I s0, l3] [] h := ev_go c9_33 rfl
theorem c9_34 : cd 9 34 = some (34, .iinc 3 1, 3, 0, 0, 0) := rfl
theorem s9_34 {l0 l1 l2 : AV} {l3 : Int} {h : AH} : evL 9 34 [l0, l1, l2, I l3] [] h = evL 9 37 [l0, l1, l2, I (ad l3 1)] [] h := ev_go c9_34 rfl
theorem c9_37 : cd 9 37 = some (37, .goto (-33), 3, 0, 0, 0) := rfl
theorem s9_37 {l0 l1 l2 l3 : AV} {h : AH} : evL 9 37 [l0, l1, l2, l3] [] h = evL 9 4 [l0, l1, l2, l3] [] h := ev_go c9_37 rfl
theorem c9_40 : cd 9 40 = some (40, .iload_n 2, 1, 0, 0, 0) := rfl
theorem s9_40 {l0 l1 l3 : AV} {l2 : Int} {h : AH} : evL 9 40 [l0, l1, I l2, l3] [] h = evL 9 41 [l0, l1, I l2, l3] [I l2] h := ev_go c9_40 rfl
theorem c9_41 : cd 9 41 = some (41, .ireturn, 1, 0, 0, 0) := rfl
theorem s9_41 {l0 l1 l2 l3 : AV} {s0 : Int} {h : AH} : evL 9 41 [l0, l1, l2, l3] [I s0] h = some (some (I s0), h) := e_ret c9_41 rfl
/-! 10: TankDivers$Crew.valuesHeldBy(I)I -/
theorem en10 {l0 l1 : AV} {h : AH} : evM 10 [l0, l1] h = evL 10 0 [l0, l1, Db 0, Db 0] [] h := rfl
theorem c10_0 : cd 10 0 = some (0, .iconst 0, 1, 0, 0, 0) := rfl
theorem s10_0 {l0 l1 l2 l3 : AV} {h : AH} : evL 10 0 [l0, l1, l2, l3] [] h = evL 10 1 [l0, l1, l2, l3] [I 0] h := ev_go c10_0 rfl
theorem c10_1 : cd 10 1 = some (1, .istore_n 2, 1, 0, 0, 0) := rfl
theorem s10_1 {l0 l1 l2 l3 : AV} {s0 : Int} {h : AH} : evL 10 1 [l0, l1, l2, l3] [I s0] h = evL 10 2 [l0, l1, I s0, l3] [] h := ev_go c10_1 rfl
theorem c10_2 : cd 10 2 = some (2, .iconst 0, 1, 0, 0, 0) := rfl
theorem s10_2 {l0 l1 l2 l3 : AV} {h : AH} : evL 10 2 [l0, l1, l2, l3] [] h = evL 10 3 [l0, l1, l2, l3] [I 0] h := ev_go c10_2 rfl
theorem c10_3 : cd 10 3 = some (3, .istore_n 3, 1, 0, 0, 0) := rfl
theorem s10_3 {l0 l1 l2 l3 : AV} {s0 : Int} {h : AH} : evL 10 3 [l0, l1, l2, l3] [I s0] h = evL 10 4 [l0, l1, l2, I s0] [] h := ev_go c10_3 rfl
theorem c10_4 : cd 10 4 = some (4, .iload_n 3, 1, 0, 0, 0) := rfl
theorem s10_4 {l0 l1 l2 : AV} {l3 : Int} {h : AH} : evL 10 4 [l0, l1, l2, I l3] [] h = evL 10 5 [l0, l1, l2, I l3] [I l3] h := ev_go c10_4 rfl
theorem c10_5 : cd 10 5 = some (5, .aload_n 0, 1, 0, 0, 0) := rfl
theorem s10_5 {l1 l2 l3 s0 : AV} {l0 : Option Nat} {h : AH} : evL 10 5 [.inr (.inl l0), l1, l2, l3] [s0] h = evL 10 6 [.inr (.inl l0), l1, l2, l3] [.inr (.inl l0), s0] h := ev_go c10_5 rfl
theorem c10_6 : cd 10 6 = some (6, .getfield 26, 3, 0, 3, 81) := rfl
theorem s10_6 {l0 l1 l2 l3 s1 : AV} {s0 : Nat} {M : Mem} {P : PMem} (hk : kd s0 = 0) : evL 10 6 [l0, l1, l2, l3] [Rf s0, s1] (Hp M P) = evL 10 9 [l0, l1, l2, l3] [Rf (rfd s0 3), s1] (Hp M P) := e_getR c10_6 rfl hk
theorem c10_9 : cd 10 9 = some (9, .iload_n 1, 1, 0, 0, 0) := rfl
theorem s10_9 {l0 l2 l3 s0 s1 : AV} {l1 : Int} {h : AH} : evL 10 9 [l0, I l1, l2, l3] [s0, s1] h = evL 10 10 [l0, I l1, l2, l3] [I l1, s0, s1] h := ev_go c10_9 rfl
theorem c10_10 : cd 10 10 = some (10, .invokevirtual 51, 3, 80, 0, 292) := rfl
theorem s10_10 {l0 l1 l2 l3 s2 : AV} {s0 : Int} {s1 : Nat} {M : Mem} {P : PMem} (hk : kd s1 = 6) : evL 10 10 [l0, l1, l2, l3] [I s0, Rf s1, s2] (Hp M P) = cont (evM 80 [Rf s1, I s0] (Hp M P)) (fun r h => evL 10 13 [l0, l1, l2, l3] (rl r [s2]) h) := e_callV (av' := [I s0]) (rest := [s2]) (c := 6) c10_10 rfl rfl rfl rfl rfl rfl rfl hk rfl
theorem c10_13 : cd 10 13 = some (13, .if_icmp .ge 27, 3, 0, 0, 0) := rfl
theorem s10_13 {l0 l1 l2 l3 : AV} {s0 s1 : Int} {h : AH} : evL 10 13 [l0, l1, l2, l3] [I s0, I s1] h = if s0 ≤ s1 then evL 10 40 [l0, l1, l2, l3] [] h else evL 10 16 [l0, l1, l2, l3] [] h := e_icmp_ge c10_13 rfl rfl
theorem c10_16 : cd 10 16 = some (16, .iload_n 2, 1, 0, 0, 0) := rfl
theorem s10_16 {l0 l1 l3 : AV} {l2 : Int} {h : AH} : evL 10 16 [l0, l1, I l2, l3] [] h = evL 10 17 [l0, l1, I l2, l3] [I l2] h := ev_go c10_16 rfl
theorem c10_17 : cd 10 17 = some (17, .aload_n 0, 1, 0, 0, 0) := rfl
theorem s10_17 {l1 l2 l3 s0 : AV} {l0 : Option Nat} {h : AH} : evL 10 17 [.inr (.inl l0), l1, l2, l3] [s0] h = evL 10 18 [.inr (.inl l0), l1, l2, l3] [.inr (.inl l0), s0] h := ev_go c10_17 rfl
theorem c10_18 : cd 10 18 = some (18, .getfield 29, 3, 0, 4, 84) := rfl
theorem s10_18 {l0 l1 l2 l3 s1 : AV} {s0 : Nat} {M : Mem} {P : PMem} (hk : kd s0 = 0) : evL 10 18 [l0, l1, l2, l3] [Rf s0, s1] (Hp M P) = evL 10 21 [l0, l1, l2, l3] [Rf (rfd s0 4), s1] (Hp M P) := e_getR c10_18 rfl hk
theorem c10_21 : cd 10 21 = some (21, .iload_n 1, 1, 0, 0, 0) := rfl
theorem s10_21 {l0 l2 l3 s0 s1 : AV} {l1 : Int} {h : AH} : evL 10 21 [l0, I l1, l2, l3] [s0, s1] h = evL 10 22 [l0, I l1, l2, l3] [I l1, s0, s1] h := ev_go c10_21 rfl
theorem c10_22 : cd 10 22 = some (22, .iload_n 3, 1, 0, 0, 0) := rfl
theorem s10_22 {l0 l1 l2 s0 s1 s2 : AV} {l3 : Int} {h : AH} : evL 10 22 [l0, l1, l2, I l3] [s0, s1, s2] h = evL 10 23 [l0, l1, l2, I l3] [I l3, s0, s1, s2] h := ev_go c10_22 rfl
theorem c10_23 : cd 10 23 = some (23, .invokestatic 61, 3, 5, 0, 293) := rfl
theorem s10_23 {l0 l1 l2 l3 s2 s3 : AV} {s0 s1 : Int} {M : Mem} {P : PMem} : evL 10 23 [l0, l1, l2, l3] [I s0, I s1, s2, s3] (Hp M P) = cont (evM 5 [I s1, I s0] (Hp M P)) (fun r h => evL 10 26 [l0, l1, l2, l3] (rl r [s2, s3]) h) := e_callS (av := [I s1, I s0]) (rest := [s2, s3]) c10_23 rfl rfl rfl rfl rfl rfl
theorem c10_26 : cd 10 26 = some (26, .invokevirtual 51, 3, 80, 0, 292) := rfl
theorem s10_26 {l0 l1 l2 l3 s2 : AV} {s0 : Int} {s1 : Nat} {M : Mem} {P : PMem} (hk : kd s1 = 6) : evL 10 26 [l0, l1, l2, l3] [I s0, Rf s1, s2] (Hp M P) = cont (evM 80 [Rf s1, I s0] (Hp M P)) (fun r h => evL 10 29 [l0, l1, l2, l3] (rl r [s2]) h) := e_callV (av' := [I s0]) (rest := [s2]) (c := 6) c10_26 rfl rfl rfl rfl rfl rfl rfl hk rfl
theorem c10_29 : cd 10 29 = some (29, .invokestatic 80, 3, 77, 0, 296) := rfl
theorem s10_29 {l0 l1 l2 l3 s1 : AV} {s0 : Int} {M : Mem} {P : PMem} : evL 10 29 [l0, l1, l2, l3] [I s0, s1] (Hp M P) = cont (evM 77 [I s0] (Hp M P)) (fun r h => evL 10 32 [l0, l1, l2, l3] (rl r [s1]) h) := e_callS (av := [I s0]) (rest := [s1]) c10_29 rfl rfl rfl rfl rfl rfl
theorem c10_32 : cd 10 32 = some (32, .iadd, 1, 0, 0, 0) := rfl
theorem s10_32 {l0 l1 l2 l3 : AV} {s0 s1 : Int} {h : AH} : evL 10 32 [l0, l1, l2, l3] [I s0, I s1] h = evL 10 33 [l0, l1, l2, l3] [I (ad s1 s0)] h := ev_go c10_32 rfl
theorem c10_33 : cd 10 33 = some (33, .istore_n 2, 1, 0, 0, 0) := rfl
theorem s10_33 {l0 l1 l2 l3 : AV} {s0 : Int} {h : AH} : evL 10 33 [l0, l1, l2, l3] [I s0] h = evL 10 34 [l0, l1, I s0, l3] [] h := ev_go c10_33 rfl
theorem c10_34 : cd 10 34 = some (34, .iinc 3 1, 3, 0, 0, 0) := rfl
theorem s10_34 {l0 l1 l2 : AV} {l3 : Int} {h : AH} : evL 10 34 [l0, l1, l2, I l3] [] h = evL 10 37 [l0, l1, l2, I (ad l3 1)] [] h := ev_go c10_34 rfl
theorem c10_37 : cd 10 37 = some (37, .goto (-33), 3, 0, 0, 0) := rfl
theorem s10_37 {l0 l1 l2 l3 : AV} {h : AH} : evL 10 37 [l0, l1, l2, l3] [] h = evL 10 4 [l0, l1, l2, l3] [] h := ev_go c10_37 rfl
theorem c10_40 : cd 10 40 = some (40, .iload_n 2, 1, 0, 0, 0) := rfl
theorem s10_40 {l0 l1 l3 : AV} {l2 : Int} {h : AH} : evL 10 40 [l0, l1, I l2, l3] [] h = evL 10 41 [l0, l1, I l2, l3] [I l2] h := ev_go c10_40 rfl
theorem c10_41 : cd 10 41 = some (41, .ireturn, 1, 0, 0, 0) := rfl
theorem s10_41 {l0 l1 l2 l3 : AV} {s0 : Int} {h : AH} : evL 10 41 [l0, l1, l2, l3] [I s0] h = some (some (I s0), h) := e_ret c10_41 rfl
/-! 11: TankDivers$Crew.heldTreasures()I -/
theorem en11 {l0 : AV} {h : AH} : evM 11 [l0] h = evL 11 0 [l0, Db 0, Db 0] [] h := rfl
theorem c11_0 : cd 11 0 = some (0, .iconst 0, 1, 0, 0, 0) := rfl
theorem s11_0 {l0 l1 l2 : AV} {h : AH} : evL 11 0 [l0, l1, l2] [] h = evL 11 1 [l0, l1, l2] [I 0] h := ev_go c11_0 rfl
theorem c11_1 : cd 11 1 = some (1, .istore_n 1, 1, 0, 0, 0) := rfl
theorem s11_1 {l0 l1 l2 : AV} {s0 : Int} {h : AH} : evL 11 1 [l0, l1, l2] [I s0] h = evL 11 2 [l0, I s0, l2] [] h := ev_go c11_1 rfl
theorem c11_2 : cd 11 2 = some (2, .iconst 0, 1, 0, 0, 0) := rfl
theorem s11_2 {l0 l1 l2 : AV} {h : AH} : evL 11 2 [l0, l1, l2] [] h = evL 11 3 [l0, l1, l2] [I 0] h := ev_go c11_2 rfl
theorem c11_3 : cd 11 3 = some (3, .istore_n 2, 1, 0, 0, 0) := rfl
theorem s11_3 {l0 l1 l2 : AV} {s0 : Int} {h : AH} : evL 11 3 [l0, l1, l2] [I s0] h = evL 11 4 [l0, l1, I s0] [] h := ev_go c11_3 rfl
theorem c11_4 : cd 11 4 = some (4, .iload_n 2, 1, 0, 0, 0) := rfl
theorem s11_4 {l0 l1 : AV} {l2 : Int} {h : AH} : evL 11 4 [l0, l1, I l2] [] h = evL 11 5 [l0, l1, I l2] [I l2] h := ev_go c11_4 rfl
theorem c11_5 : cd 11 5 = some (5, .aload_n 0, 1, 0, 0, 0) := rfl
theorem s11_5 {l1 l2 s0 : AV} {l0 : Option Nat} {h : AH} : evL 11 5 [.inr (.inl l0), l1, l2] [s0] h = evL 11 6 [.inr (.inl l0), l1, l2] [.inr (.inl l0), s0] h := ev_go c11_5 rfl
theorem c11_6 : cd 11 6 = some (6, .getfield 41, 3, 0, 8, 89) := rfl
theorem s11_6 {l0 l1 l2 s1 : AV} {s0 : Nat} {M : Mem} {P : PMem} (hk : kd s0 = 0) : evL 11 6 [l0, l1, l2] [Rf s0, s1] (Hp M P) = evL 11 9 [l0, l1, l2] [I (M s0 8), s1] (Hp M P) := e_getI c11_6 rfl hk
theorem c11_9 : cd 11 9 = some (9, .if_icmp .ge 17, 3, 0, 0, 0) := rfl
theorem s11_9 {l0 l1 l2 : AV} {s0 s1 : Int} {h : AH} : evL 11 9 [l0, l1, l2] [I s0, I s1] h = if s0 ≤ s1 then evL 11 26 [l0, l1, l2] [] h else evL 11 12 [l0, l1, l2] [] h := e_icmp_ge c11_9 rfl rfl
theorem c11_12 : cd 11 12 = some (12, .iload_n 1, 1, 0, 0, 0) := rfl
theorem s11_12 {l0 l2 : AV} {l1 : Int} {h : AH} : evL 11 12 [l0, I l1, l2] [] h = evL 11 13 [l0, I l1, l2] [I l1] h := ev_go c11_12 rfl
theorem c11_13 : cd 11 13 = some (13, .aload_n 0, 1, 0, 0, 0) := rfl
theorem s11_13 {l1 l2 s0 : AV} {l0 : Option Nat} {h : AH} : evL 11 13 [.inr (.inl l0), l1, l2] [s0] h = evL 11 14 [.inr (.inl l0), l1, l2] [.inr (.inl l0), s0] h := ev_go c11_13 rfl
theorem c11_14 : cd 11 14 = some (14, .iload_n 2, 1, 0, 0, 0) := rfl
theorem s11_14 {l0 l1 s0 s1 : AV} {l2 : Int} {h : AH} : evL 11 14 [l0, l1, I l2] [s0, s1] h = evL 11 15 [l0, l1, I l2] [I l2, s0, s1] h := ev_go c11_14 rfl
theorem c11_15 : cd 11 15 = some (15, .invokevirtual 55, 3, 9, 0, 318) := rfl
theorem s11_15 {l0 l1 l2 s2 : AV} {s0 : Int} {s1 : Nat} {M : Mem} {P : PMem} (hk : kd s1 = 0) : evL 11 15 [l0, l1, l2] [I s0, Rf s1, s2] (Hp M P) = cont (evM 9 [Rf s1, I s0] (Hp M P)) (fun r h => evL 11 18 [l0, l1, l2] (rl r [s2]) h) := e_callV (av' := [I s0]) (rest := [s2]) (c := 0) c11_15 rfl rfl rfl rfl rfl rfl rfl hk rfl
theorem c11_18 : cd 11 18 = some (18, .iadd, 1, 0, 0, 0) := rfl
theorem s11_18 {l0 l1 l2 : AV} {s0 s1 : Int} {h : AH} : evL 11 18 [l0, l1, l2] [I s0, I s1] h = evL 11 19 [l0, l1, l2] [I (ad s1 s0)] h := ev_go c11_18 rfl
theorem c11_19 : cd 11 19 = some (19, .istore_n 1, 1, 0, 0, 0) := rfl
theorem s11_19 {l0 l1 l2 : AV} {s0 : Int} {h : AH} : evL 11 19 [l0, l1, l2] [I s0] h = evL 11 20 [l0, I s0, l2] [] h := ev_go c11_19 rfl
theorem c11_20 : cd 11 20 = some (20, .iinc 2 1, 3, 0, 0, 0) := rfl
theorem s11_20 {l0 l1 : AV} {l2 : Int} {h : AH} : evL 11 20 [l0, l1, I l2] [] h = evL 11 23 [l0, l1, I (ad l2 1)] [] h := ev_go c11_20 rfl
theorem c11_23 : cd 11 23 = some (23, .goto (-19), 3, 0, 0, 0) := rfl
theorem s11_23 {l0 l1 l2 : AV} {h : AH} : evL 11 23 [l0, l1, l2] [] h = evL 11 4 [l0, l1, l2] [] h := ev_go c11_23 rfl
theorem c11_26 : cd 11 26 = some (26, .iload_n 1, 1, 0, 0, 0) := rfl
theorem s11_26 {l0 l2 : AV} {l1 : Int} {h : AH} : evL 11 26 [l0, I l1, l2] [] h = evL 11 27 [l0, I l1, l2] [I l1] h := ev_go c11_26 rfl
theorem c11_27 : cd 11 27 = some (27, .ireturn, 1, 0, 0, 0) := rfl
theorem s11_27 {l0 l1 l2 : AV} {s0 : Int} {h : AH} : evL 11 27 [l0, l1, l2] [I s0] h = some (some (I s0), h) := e_ret c11_27 rfl
/-! 12: TankDivers$Crew.heldValues()I -/
theorem en12 {l0 : AV} {h : AH} : evM 12 [l0] h = evL 12 0 [l0, Db 0, Db 0] [] h := rfl
theorem c12_0 : cd 12 0 = some (0, .iconst 0, 1, 0, 0, 0) := rfl
theorem s12_0 {l0 l1 l2 : AV} {h : AH} : evL 12 0 [l0, l1, l2] [] h = evL 12 1 [l0, l1, l2] [I 0] h := ev_go c12_0 rfl
theorem c12_1 : cd 12 1 = some (1, .istore_n 1, 1, 0, 0, 0) := rfl
theorem s12_1 {l0 l1 l2 : AV} {s0 : Int} {h : AH} : evL 12 1 [l0, l1, l2] [I s0] h = evL 12 2 [l0, I s0, l2] [] h := ev_go c12_1 rfl
theorem c12_2 : cd 12 2 = some (2, .iconst 0, 1, 0, 0, 0) := rfl
theorem s12_2 {l0 l1 l2 : AV} {h : AH} : evL 12 2 [l0, l1, l2] [] h = evL 12 3 [l0, l1, l2] [I 0] h := ev_go c12_2 rfl
theorem c12_3 : cd 12 3 = some (3, .istore_n 2, 1, 0, 0, 0) := rfl
theorem s12_3 {l0 l1 l2 : AV} {s0 : Int} {h : AH} : evL 12 3 [l0, l1, l2] [I s0] h = evL 12 4 [l0, l1, I s0] [] h := ev_go c12_3 rfl
theorem c12_4 : cd 12 4 = some (4, .iload_n 2, 1, 0, 0, 0) := rfl
theorem s12_4 {l0 l1 : AV} {l2 : Int} {h : AH} : evL 12 4 [l0, l1, I l2] [] h = evL 12 5 [l0, l1, I l2] [I l2] h := ev_go c12_4 rfl
theorem c12_5 : cd 12 5 = some (5, .aload_n 0, 1, 0, 0, 0) := rfl
theorem s12_5 {l1 l2 s0 : AV} {l0 : Option Nat} {h : AH} : evL 12 5 [.inr (.inl l0), l1, l2] [s0] h = evL 12 6 [.inr (.inl l0), l1, l2] [.inr (.inl l0), s0] h := ev_go c12_5 rfl
theorem c12_6 : cd 12 6 = some (6, .getfield 41, 3, 0, 8, 89) := rfl
theorem s12_6 {l0 l1 l2 s1 : AV} {s0 : Nat} {M : Mem} {P : PMem} (hk : kd s0 = 0) : evL 12 6 [l0, l1, l2] [Rf s0, s1] (Hp M P) = evL 12 9 [l0, l1, l2] [I (M s0 8), s1] (Hp M P) := e_getI c12_6 rfl hk
theorem c12_9 : cd 12 9 = some (9, .if_icmp .ge 17, 3, 0, 0, 0) := rfl
theorem s12_9 {l0 l1 l2 : AV} {s0 s1 : Int} {h : AH} : evL 12 9 [l0, l1, l2] [I s0, I s1] h = if s0 ≤ s1 then evL 12 26 [l0, l1, l2] [] h else evL 12 12 [l0, l1, l2] [] h := e_icmp_ge c12_9 rfl rfl
theorem c12_12 : cd 12 12 = some (12, .iload_n 1, 1, 0, 0, 0) := rfl
theorem s12_12 {l0 l2 : AV} {l1 : Int} {h : AH} : evL 12 12 [l0, I l1, l2] [] h = evL 12 13 [l0, I l1, l2] [I l1] h := ev_go c12_12 rfl
theorem c12_13 : cd 12 13 = some (13, .aload_n 0, 1, 0, 0, 0) := rfl
theorem s12_13 {l1 l2 s0 : AV} {l0 : Option Nat} {h : AH} : evL 12 13 [.inr (.inl l0), l1, l2] [s0] h = evL 12 14 [.inr (.inl l0), l1, l2] [.inr (.inl l0), s0] h := ev_go c12_13 rfl
theorem c12_14 : cd 12 14 = some (14, .iload_n 2, 1, 0, 0, 0) := rfl
theorem s12_14 {l0 l1 s0 s1 : AV} {l2 : Int} {h : AH} : evL 12 14 [l0, l1, I l2] [s0, s1] h = evL 12 15 [l0, l1, I l2] [I l2, s0, s1] h := ev_go c12_14 rfl
theorem c12_15 : cd 12 15 = some (15, .invokevirtual 58, 3, 10, 0, 288) := rfl
theorem s12_15 {l0 l1 l2 s2 : AV} {s0 : Int} {s1 : Nat} {M : Mem} {P : PMem} (hk : kd s1 = 0) : evL 12 15 [l0, l1, l2] [I s0, Rf s1, s2] (Hp M P) = cont (evM 10 [Rf s1, I s0] (Hp M P)) (fun r h => evL 12 18 [l0, l1, l2] (rl r [s2]) h) := e_callV (av' := [I s0]) (rest := [s2]) (c := 0) c12_15 rfl rfl rfl rfl rfl rfl rfl hk rfl
theorem c12_18 : cd 12 18 = some (18, .iadd, 1, 0, 0, 0) := rfl
theorem s12_18 {l0 l1 l2 : AV} {s0 s1 : Int} {h : AH} : evL 12 18 [l0, l1, l2] [I s0, I s1] h = evL 12 19 [l0, l1, l2] [I (ad s1 s0)] h := ev_go c12_18 rfl
theorem c12_19 : cd 12 19 = some (19, .istore_n 1, 1, 0, 0, 0) := rfl
theorem s12_19 {l0 l1 l2 : AV} {s0 : Int} {h : AH} : evL 12 19 [l0, l1, l2] [I s0] h = evL 12 20 [l0, I s0, l2] [] h := ev_go c12_19 rfl
theorem c12_20 : cd 12 20 = some (20, .iinc 2 1, 3, 0, 0, 0) := rfl
theorem s12_20 {l0 l1 : AV} {l2 : Int} {h : AH} : evL 12 20 [l0, l1, I l2] [] h = evL 12 23 [l0, l1, I (ad l2 1)] [] h := ev_go c12_20 rfl
theorem c12_23 : cd 12 23 = some (23, .goto (-19), 3, 0, 0, 0) := rfl
theorem s12_23 {l0 l1 l2 : AV} {h : AH} : evL 12 23 [l0, l1, l2] [] h = evL 12 4 [l0, l1, l2] [] h := ev_go c12_23 rfl
theorem c12_26 : cd 12 26 = some (26, .iload_n 1, 1, 0, 0, 0) := rfl
theorem s12_26 {l0 l2 : AV} {l1 : Int} {h : AH} : evL 12 26 [l0, I l1, l2] [] h = evL 12 27 [l0, I l1, l2] [I l1] h := ev_go c12_26 rfl
theorem c12_27 : cd 12 27 = some (27, .ireturn, 1, 0, 0, 0) := rfl
theorem s12_27 {l0 l1 l2 : AV} {s0 : Int} {h : AH} : evL 12 27 [l0, l1, l2] [I s0] h = some (some (I s0), h) := e_ret c12_27 rfl
/-! 13: TankDivers$Crew.heldByThoseOut()I -/
theorem en13 {l0 : AV} {h : AH} : evM 13 [l0] h = evL 13 0 [l0, Db 0, Db 0] [] h := rfl
theorem c13_0 : cd 13 0 = some (0, .iconst 0, 1, 0, 0, 0) := rfl
theorem s13_0 {l0 l1 l2 : AV} {h : AH} : evL 13 0 [l0, l1, l2] [] h = evL 13 1 [l0, l1, l2] [I 0] h := ev_go c13_0 rfl
theorem c13_1 : cd 13 1 = some (1, .istore_n 1, 1, 0, 0, 0) := rfl
theorem s13_1 {l0 l1 l2 : AV} {s0 : Int} {h : AH} : evL 13 1 [l0, l1, l2] [I s0] h = evL 13 2 [l0, I s0, l2] [] h := ev_go c13_1 rfl
theorem c13_2 : cd 13 2 = some (2, .iconst 0, 1, 0, 0, 0) := rfl
theorem s13_2 {l0 l1 l2 : AV} {h : AH} : evL 13 2 [l0, l1, l2] [] h = evL 13 3 [l0, l1, l2] [I 0] h := ev_go c13_2 rfl
theorem c13_3 : cd 13 3 = some (3, .istore_n 2, 1, 0, 0, 0) := rfl
theorem s13_3 {l0 l1 l2 : AV} {s0 : Int} {h : AH} : evL 13 3 [l0, l1, l2] [I s0] h = evL 13 4 [l0, l1, I s0] [] h := ev_go c13_3 rfl
theorem c13_4 : cd 13 4 = some (4, .iload_n 2, 1, 0, 0, 0) := rfl
theorem s13_4 {l0 l1 : AV} {l2 : Int} {h : AH} : evL 13 4 [l0, l1, I l2] [] h = evL 13 5 [l0, l1, I l2] [I l2] h := ev_go c13_4 rfl
theorem c13_5 : cd 13 5 = some (5, .aload_n 0, 1, 0, 0, 0) := rfl
theorem s13_5 {l1 l2 s0 : AV} {l0 : Option Nat} {h : AH} : evL 13 5 [.inr (.inl l0), l1, l2] [s0] h = evL 13 6 [.inr (.inl l0), l1, l2] [.inr (.inl l0), s0] h := ev_go c13_5 rfl
theorem c13_6 : cd 13 6 = some (6, .getfield 41, 3, 0, 8, 89) := rfl
theorem s13_6 {l0 l1 l2 s1 : AV} {s0 : Nat} {M : Mem} {P : PMem} (hk : kd s0 = 0) : evL 13 6 [l0, l1, l2] [Rf s0, s1] (Hp M P) = evL 13 9 [l0, l1, l2] [I (M s0 8), s1] (Hp M P) := e_getI c13_6 rfl hk
theorem c13_9 : cd 13 9 = some (9, .if_icmp .ge 32, 3, 0, 0, 0) := rfl
theorem s13_9 {l0 l1 l2 : AV} {s0 s1 : Int} {h : AH} : evL 13 9 [l0, l1, l2] [I s0, I s1] h = if s0 ≤ s1 then evL 13 41 [l0, l1, l2] [] h else evL 13 12 [l0, l1, l2] [] h := e_icmp_ge c13_9 rfl rfl
theorem c13_12 : cd 13 12 = some (12, .iload_n 1, 1, 0, 0, 0) := rfl
theorem s13_12 {l0 l2 : AV} {l1 : Int} {h : AH} : evL 13 12 [l0, I l1, l2] [] h = evL 13 13 [l0, I l1, l2] [I l1] h := ev_go c13_12 rfl
theorem c13_13 : cd 13 13 = some (13, .aload_n 0, 1, 0, 0, 0) := rfl
theorem s13_13 {l1 l2 s0 : AV} {l0 : Option Nat} {h : AH} : evL 13 13 [.inr (.inl l0), l1, l2] [s0] h = evL 13 14 [.inr (.inl l0), l1, l2] [.inr (.inl l0), s0] h := ev_go c13_13 rfl
theorem c13_14 : cd 13 14 = some (14, .iload_n 2, 1, 0, 0, 0) := rfl
theorem s13_14 {l0 l1 s0 s1 : AV} {l2 : Int} {h : AH} : evL 13 14 [l0, l1, I l2] [s0, s1] h = evL 13 15 [l0, l1, I l2] [I l2, s0, s1] h := ev_go c13_14 rfl
theorem c13_15 : cd 13 15 = some (15, .invokevirtual 83, 3, 15, 0, 447) := rfl
theorem s13_15 {l0 l1 l2 s2 : AV} {s0 : Int} {s1 : Nat} {M : Mem} {P : PMem} (hk : kd s1 = 0) : evL 13 15 [l0, l1, l2] [I s0, Rf s1, s2] (Hp M P) = cont (evM 15 [Rf s1, I s0] (Hp M P)) (fun r h => evL 13 18 [l0, l1, l2] (rl r [s2]) h) := e_callV (av' := [I s0]) (rest := [s2]) (c := 0) c13_15 rfl rfl rfl rfl rfl rfl rfl hk rfl
theorem c13_18 : cd 13 18 = some (18, .ifCond .eq 7, 3, 0, 0, 0) := rfl
theorem s13_18 {l0 l1 l2 s1 : AV} {s0 : Int} {h : AH} : evL 13 18 [l0, l1, l2] [I s0, s1] h = if s0 = 0 then evL 13 25 [l0, l1, l2] [s1] h else evL 13 21 [l0, l1, l2] [s1] h := e_if_eq c13_18 rfl rfl
theorem c13_21 : cd 13 21 = some (21, .iconst 0, 1, 0, 0, 0) := rfl
theorem s13_21 {l0 l1 l2 s0 : AV} {h : AH} : evL 13 21 [l0, l1, l2] [s0] h = evL 13 22 [l0, l1, l2] [I 0, s0] h := ev_go c13_21 rfl
theorem c13_22 : cd 13 22 = some (22, .goto 11, 3, 0, 0, 0) := rfl
theorem s13_22 {l0 l1 l2 s0 s1 : AV} {h : AH} : evL 13 22 [l0, l1, l2] [s0, s1] h = evL 13 33 [l0, l1, l2] [s0, s1] h := ev_go c13_22 rfl
theorem c13_25 : cd 13 25 = some (25, .aload_n 0, 1, 0, 0, 0) := rfl
theorem s13_25 {l1 l2 s0 : AV} {l0 : Option Nat} {h : AH} : evL 13 25 [.inr (.inl l0), l1, l2] [s0] h = evL 13 26 [.inr (.inl l0), l1, l2] [.inr (.inl l0), s0] h := ev_go c13_25 rfl
theorem c13_26 : cd 13 26 = some (26, .getfield 26, 3, 0, 3, 81) := rfl
theorem s13_26 {l0 l1 l2 s1 : AV} {s0 : Nat} {M : Mem} {P : PMem} (hk : kd s0 = 0) : evL 13 26 [l0, l1, l2] [Rf s0, s1] (Hp M P) = evL 13 29 [l0, l1, l2] [Rf (rfd s0 3), s1] (Hp M P) := e_getR c13_26 rfl hk
theorem c13_29 : cd 13 29 = some (29, .iload_n 2, 1, 0, 0, 0) := rfl
theorem s13_29 {l0 l1 s0 s1 : AV} {l2 : Int} {h : AH} : evL 13 29 [l0, l1, I l2] [s0, s1] h = evL 13 30 [l0, l1, I l2] [I l2, s0, s1] h := ev_go c13_29 rfl
theorem c13_30 : cd 13 30 = some (30, .invokevirtual 51, 3, 80, 0, 292) := rfl
theorem s13_30 {l0 l1 l2 s2 : AV} {s0 : Int} {s1 : Nat} {M : Mem} {P : PMem} (hk : kd s1 = 6) : evL 13 30 [l0, l1, l2] [I s0, Rf s1, s2] (Hp M P) = cont (evM 80 [Rf s1, I s0] (Hp M P)) (fun r h => evL 13 33 [l0, l1, l2] (rl r [s2]) h) := e_callV (av' := [I s0]) (rest := [s2]) (c := 6) c13_30 rfl rfl rfl rfl rfl rfl rfl hk rfl
theorem c13_33 : cd 13 33 = some (33, .iadd, 1, 0, 0, 0) := rfl
theorem s13_33 {l0 l1 l2 : AV} {s0 s1 : Int} {h : AH} : evL 13 33 [l0, l1, l2] [I s0, I s1] h = evL 13 34 [l0, l1, l2] [I (ad s1 s0)] h := ev_go c13_33 rfl
theorem c13_34 : cd 13 34 = some (34, .istore_n 1, 1, 0, 0, 0) := rfl
theorem s13_34 {l0 l1 l2 : AV} {s0 : Int} {h : AH} : evL 13 34 [l0, l1, l2] [I s0] h = evL 13 35 [l0, I s0, l2] [] h := ev_go c13_34 rfl
theorem c13_35 : cd 13 35 = some (35, .iinc 2 1, 3, 0, 0, 0) := rfl
theorem s13_35 {l0 l1 : AV} {l2 : Int} {h : AH} : evL 13 35 [l0, l1, I l2] [] h = evL 13 38 [l0, l1, I (ad l2 1)] [] h := ev_go c13_35 rfl
theorem c13_38 : cd 13 38 = some (38, .goto (-34), 3, 0, 0, 0) := rfl
theorem s13_38 {l0 l1 l2 : AV} {h : AH} : evL 13 38 [l0, l1, l2] [] h = evL 13 4 [l0, l1, l2] [] h := ev_go c13_38 rfl
theorem c13_41 : cd 13 41 = some (41, .iload_n 1, 1, 0, 0, 0) := rfl
theorem s13_41 {l0 l2 : AV} {l1 : Int} {h : AH} : evL 13 41 [l0, I l1, l2] [] h = evL 13 42 [l0, I l1, l2] [I l1] h := ev_go c13_41 rfl
theorem c13_42 : cd 13 42 = some (42, .ireturn, 1, 0, 0, 0) := rfl
theorem s13_42 {l0 l1 l2 : AV} {s0 : Int} {h : AH} : evL 13 42 [l0, l1, l2] [I s0] h = some (some (I s0), h) := e_ret c13_42 rfl
/-! 14: TankDivers$Crew.ownedValues()I -/
theorem en14 {l0 : AV} {h : AH} : evM 14 [l0] h = evL 14 0 [l0] [] h := rfl
theorem c14_0 : cd 14 0 = some (0, .aload_n 0, 1, 0, 0, 0) := rfl
theorem s14_0 {l0 : Option Nat} {h : AH} : evL 14 0 [.inr (.inl l0)] [] h = evL 14 1 [.inr (.inl l0)] [.inr (.inl l0)] h := ev_go c14_0 rfl
theorem c14_1 : cd 14 1 = some (1, .getfield 32, 3, 0, 5, 85) := rfl
theorem s14_1 {l0 : AV} {s0 : Nat} {M : Mem} {P : PMem} (hk : kd s0 = 0) : evL 14 1 [l0] [Rf s0] (Hp M P) = evL 14 4 [l0] [Rf (rfd s0 5)] (Hp M P) := e_getR c14_1 rfl hk
theorem c14_4 : cd 14 4 = some (4, .invokevirtual 87, 3, 83, 0, 301) := rfl
theorem s14_4 {l0 : AV} {s0 : Nat} {M : Mem} {P : PMem} (hk : kd s0 = 6) : evL 14 4 [l0] [Rf s0] (Hp M P) = cont (evM 83 [Rf s0] (Hp M P)) (fun r h => evL 14 7 [l0] (rl r []) h) := e_callV (av' := []) (rest := []) (c := 6) c14_4 rfl rfl rfl rfl rfl rfl rfl hk rfl
theorem c14_7 : cd 14 7 = some (7, .ireturn, 1, 0, 0, 0) := rfl
theorem s14_7 {l0 : AV} {s0 : Int} {h : AH} : evL 14 7 [l0] [I s0] h = some (some (I s0), h) := e_ret c14_7 rfl
/-! 15: TankDivers$Crew.isHome(I)Z -/
theorem en15 {l0 l1 : AV} {h : AH} : evM 15 [l0, l1] h = evL 15 0 [l0, l1] [] h := rfl
theorem c15_0 : cd 15 0 = some (0, .aload_n 0, 1, 0, 0, 0) := rfl
theorem s15_0 {l1 : AV} {l0 : Option Nat} {h : AH} : evL 15 0 [.inr (.inl l0), l1] [] h = evL 15 1 [.inr (.inl l0), l1] [.inr (.inl l0)] h := ev_go c15_0 rfl
theorem c15_1 : cd 15 1 = some (1, .getfield 23, 3, 0, 2, 79) := rfl
theorem s15_1 {l0 l1 : AV} {s0 : Nat} {M : Mem} {P : PMem} (hk : kd s0 = 0) : evL 15 1 [l0, l1] [Rf s0] (Hp M P) = evL 15 4 [l0, l1] [Rf (rfd s0 2)] (Hp M P) := e_getR c15_1 rfl hk
theorem c15_4 : cd 15 4 = some (4, .iload_n 1, 1, 0, 0, 0) := rfl
theorem s15_4 {l0 s0 : AV} {l1 : Int} {h : AH} : evL 15 4 [l0, I l1] [s0] h = evL 15 5 [l0, I l1] [I l1, s0] h := ev_go c15_4 rfl
theorem c15_5 : cd 15 5 = some (5, .invokevirtual 51, 3, 80, 0, 292) := rfl
theorem s15_5 {l0 l1 : AV} {s0 : Int} {s1 : Nat} {M : Mem} {P : PMem} (hk : kd s1 = 6) : evL 15 5 [l0, l1] [I s0, Rf s1] (Hp M P) = cont (evM 80 [Rf s1, I s0] (Hp M P)) (fun r h => evL 15 8 [l0, l1] (rl r []) h) := e_callV (av' := [I s0]) (rest := []) (c := 6) c15_5 rfl rfl rfl rfl rfl rfl rfl hk rfl
theorem c15_8 : cd 15 8 = some (8, .iconst 1, 1, 0, 0, 0) := rfl
theorem s15_8 {l0 l1 s0 : AV} {h : AH} : evL 15 8 [l0, l1] [s0] h = evL 15 9 [l0, l1] [I 1, s0] h := ev_go c15_8 rfl
theorem c15_9 : cd 15 9 = some (9, .if_icmp .ne 7, 3, 0, 0, 0) := rfl
theorem s15_9 {l0 l1 : AV} {s0 s1 : Int} {h : AH} : evL 15 9 [l0, l1] [I s0, I s1] h = if s1 = s0 then evL 15 12 [l0, l1] [] h else evL 15 16 [l0, l1] [] h := e_icmp_ne c15_9 rfl rfl
theorem c15_12 : cd 15 12 = some (12, .iconst 1, 1, 0, 0, 0) := rfl
theorem s15_12 {l0 l1 : AV} {h : AH} : evL 15 12 [l0, l1] [] h = evL 15 13 [l0, l1] [I 1] h := ev_go c15_12 rfl
theorem c15_13 : cd 15 13 = some (13, .goto 4, 3, 0, 0, 0) := rfl
theorem s15_13 {l0 l1 s0 : AV} {h : AH} : evL 15 13 [l0, l1] [s0] h = evL 15 17 [l0, l1] [s0] h := ev_go c15_13 rfl
theorem c15_16 : cd 15 16 = some (16, .iconst 0, 1, 0, 0, 0) := rfl
theorem s15_16 {l0 l1 : AV} {h : AH} : evL 15 16 [l0, l1] [] h = evL 15 17 [l0, l1] [I 0] h := ev_go c15_16 rfl
theorem c15_17 : cd 15 17 = some (17, .ireturn, 1, 0, 0, 0) := rfl
theorem s15_17 {l0 l1 : AV} {s0 : Int} {h : AH} (hz : s0 = 0 ∨ s0 = 1) : evL 15 17 [l0, l1] [I s0] h = some (some (I s0), h) := e_ret c15_17 (if_pos hz)
/-! 16: TankDivers$Crew.allHome()Z -/
theorem en16 {l0 : AV} {h : AH} : evM 16 [l0] h = evL 16 0 [l0] [] h := rfl
theorem c16_0 : cd 16 0 = some (0, .aload_n 0, 1, 0, 0, 0) := rfl
theorem s16_0 {l0 : Option Nat} {h : AH} : evL 16 0 [.inr (.inl l0)] [] h = evL 16 1 [.inr (.inl l0)] [.inr (.inl l0)] h := ev_go c16_0 rfl
theorem c16_1 : cd 16 1 = some (1, .getfield 23, 3, 0, 2, 79) := rfl
theorem s16_1 {l0 : AV} {s0 : Nat} {M : Mem} {P : PMem} (hk : kd s0 = 0) : evL 16 1 [l0] [Rf s0] (Hp M P) = evL 16 4 [l0] [Rf (rfd s0 2)] (Hp M P) := e_getR c16_1 rfl hk
theorem c16_4 : cd 16 4 = some (4, .invokevirtual 87, 3, 83, 0, 301) := rfl
theorem s16_4 {l0 : AV} {s0 : Nat} {M : Mem} {P : PMem} (hk : kd s0 = 6) : evL 16 4 [l0] [Rf s0] (Hp M P) = cont (evM 83 [Rf s0] (Hp M P)) (fun r h => evL 16 7 [l0] (rl r []) h) := e_callV (av' := []) (rest := []) (c := 6) c16_4 rfl rfl rfl rfl rfl rfl rfl hk rfl
theorem c16_7 : cd 16 7 = some (7, .aload_n 0, 1, 0, 0, 0) := rfl
theorem s16_7 {s0 : AV} {l0 : Option Nat} {h : AH} : evL 16 7 [.inr (.inl l0)] [s0] h = evL 16 8 [.inr (.inl l0)] [.inr (.inl l0), s0] h := ev_go c16_7 rfl
theorem c16_8 : cd 16 8 = some (8, .getfield 41, 3, 0, 8, 89) := rfl
theorem s16_8 {l0 s1 : AV} {s0 : Nat} {M : Mem} {P : PMem} (hk : kd s0 = 0) : evL 16 8 [l0] [Rf s0, s1] (Hp M P) = evL 16 11 [l0] [I (M s0 8), s1] (Hp M P) := e_getI c16_8 rfl hk
theorem c16_11 : cd 16 11 = some (11, .if_icmp .ne 7, 3, 0, 0, 0) := rfl
theorem s16_11 {l0 : AV} {s0 s1 : Int} {h : AH} : evL 16 11 [l0] [I s0, I s1] h = if s1 = s0 then evL 16 14 [l0] [] h else evL 16 18 [l0] [] h := e_icmp_ne c16_11 rfl rfl
theorem c16_14 : cd 16 14 = some (14, .iconst 1, 1, 0, 0, 0) := rfl
theorem s16_14 {l0 : AV} {h : AH} : evL 16 14 [l0] [] h = evL 16 15 [l0] [I 1] h := ev_go c16_14 rfl
theorem c16_15 : cd 16 15 = some (15, .goto 4, 3, 0, 0, 0) := rfl
theorem s16_15 {l0 s0 : AV} {h : AH} : evL 16 15 [l0] [s0] h = evL 16 19 [l0] [s0] h := ev_go c16_15 rfl
theorem c16_18 : cd 16 18 = some (18, .iconst 0, 1, 0, 0, 0) := rfl
theorem s16_18 {l0 : AV} {h : AH} : evL 16 18 [l0] [] h = evL 16 19 [l0] [I 0] h := ev_go c16_18 rfl
theorem c16_19 : cd 16 19 = some (19, .ireturn, 1, 0, 0, 0) := rfl
theorem s16_19 {l0 : AV} {s0 : Int} {h : AH} (hz : s0 = 0 ∨ s0 = 1) : evL 16 19 [l0] [I s0] h = some (some (I s0), h) := e_ret c16_19 (if_pos hz)
/-! 17: TankDivers$Crew.diverAt(I)I -/
theorem en17 {l0 l1 : AV} {h : AH} : evM 17 [l0, l1] h = evL 17 0 [l0, l1, Db 0] [] h := rfl
theorem c17_0 : cd 17 0 = some (0, .iconst 0, 1, 0, 0, 0) := rfl
theorem s17_0 {l0 l1 l2 : AV} {h : AH} : evL 17 0 [l0, l1, l2] [] h = evL 17 1 [l0, l1, l2] [I 0] h := ev_go c17_0 rfl
theorem c17_1 : cd 17 1 = some (1, .istore_n 2, 1, 0, 0, 0) := rfl
theorem s17_1 {l0 l1 l2 : AV} {s0 : Int} {h : AH} : evL 17 1 [l0, l1, l2] [I s0] h = evL 17 2 [l0, l1, I s0] [] h := ev_go c17_1 rfl
theorem c17_2 : cd 17 2 = some (2, .iload_n 2, 1, 0, 0, 0) := rfl
theorem s17_2 {l0 l1 : AV} {l2 : Int} {h : AH} : evL 17 2 [l0, l1, I l2] [] h = evL 17 3 [l0, l1, I l2] [I l2] h := ev_go c17_2 rfl
theorem c17_3 : cd 17 3 = some (3, .aload_n 0, 1, 0, 0, 0) := rfl
theorem s17_3 {l1 l2 s0 : AV} {l0 : Option Nat} {h : AH} : evL 17 3 [.inr (.inl l0), l1, l2] [s0] h = evL 17 4 [.inr (.inl l0), l1, l2] [.inr (.inl l0), s0] h := ev_go c17_3 rfl
theorem c17_4 : cd 17 4 = some (4, .getfield 41, 3, 0, 8, 89) := rfl
theorem s17_4 {l0 l1 l2 s1 : AV} {s0 : Nat} {M : Mem} {P : PMem} (hk : kd s0 = 0) : evL 17 4 [l0, l1, l2] [Rf s0, s1] (Hp M P) = evL 17 7 [l0, l1, l2] [I (M s0 8), s1] (Hp M P) := e_getI c17_4 rfl hk
theorem c17_7 : cd 17 7 = some (7, .if_icmp .ge 23, 3, 0, 0, 0) := rfl
theorem s17_7 {l0 l1 l2 : AV} {s0 s1 : Int} {h : AH} : evL 17 7 [l0, l1, l2] [I s0, I s1] h = if s0 ≤ s1 then evL 17 30 [l0, l1, l2] [] h else evL 17 10 [l0, l1, l2] [] h := e_icmp_ge c17_7 rfl rfl
theorem c17_10 : cd 17 10 = some (10, .aload_n 0, 1, 0, 0, 0) := rfl
theorem s17_10 {l1 l2 : AV} {l0 : Option Nat} {h : AH} : evL 17 10 [.inr (.inl l0), l1, l2] [] h = evL 17 11 [.inr (.inl l0), l1, l2] [.inr (.inl l0)] h := ev_go c17_10 rfl
theorem c17_11 : cd 17 11 = some (11, .getfield 14, 3, 0, 0, 75) := rfl
theorem s17_11 {l0 l1 l2 : AV} {s0 : Nat} {M : Mem} {P : PMem} (hk : kd s0 = 0) : evL 17 11 [l0, l1, l2] [Rf s0] (Hp M P) = evL 17 14 [l0, l1, l2] [Rf (rfd s0 0)] (Hp M P) := e_getR c17_11 rfl hk
theorem c17_14 : cd 17 14 = some (14, .iload_n 2, 1, 0, 0, 0) := rfl
theorem s17_14 {l0 l1 s0 : AV} {l2 : Int} {h : AH} : evL 17 14 [l0, l1, I l2] [s0] h = evL 17 15 [l0, l1, I l2] [I l2, s0] h := ev_go c17_14 rfl
theorem c17_15 : cd 17 15 = some (15, .invokevirtual 51, 3, 80, 0, 292) := rfl
theorem s17_15 {l0 l1 l2 : AV} {s0 : Int} {s1 : Nat} {M : Mem} {P : PMem} (hk : kd s1 = 6) : evL 17 15 [l0, l1, l2] [I s0, Rf s1] (Hp M P) = cont (evM 80 [Rf s1, I s0] (Hp M P)) (fun r h => evL 17 18 [l0, l1, l2] (rl r []) h) := e_callV (av' := [I s0]) (rest := []) (c := 6) c17_15 rfl rfl rfl rfl rfl rfl rfl hk rfl
theorem c17_18 : cd 17 18 = some (18, .iload_n 1, 1, 0, 0, 0) := rfl
theorem s17_18 {l0 l2 s0 : AV} {l1 : Int} {h : AH} : evL 17 18 [l0, I l1, l2] [s0] h = evL 17 19 [l0, I l1, l2] [I l1, s0] h := ev_go c17_18 rfl
theorem c17_19 : cd 17 19 = some (19, .if_icmp .ne 5, 3, 0, 0, 0) := rfl
theorem s17_19 {l0 l1 l2 : AV} {s0 s1 : Int} {h : AH} : evL 17 19 [l0, l1, l2] [I s0, I s1] h = if s1 = s0 then evL 17 22 [l0, l1, l2] [] h else evL 17 24 [l0, l1, l2] [] h := e_icmp_ne c17_19 rfl rfl
theorem c17_22 : cd 17 22 = some (22, .iload_n 2, 1, 0, 0, 0) := rfl
theorem s17_22 {l0 l1 : AV} {l2 : Int} {h : AH} : evL 17 22 [l0, l1, I l2] [] h = evL 17 23 [l0, l1, I l2] [I l2] h := ev_go c17_22 rfl
theorem c17_23 : cd 17 23 = some (23, .ireturn, 1, 0, 0, 0) := rfl
theorem s17_23 {l0 l1 l2 : AV} {s0 : Int} {h : AH} : evL 17 23 [l0, l1, l2] [I s0] h = some (some (I s0), h) := e_ret c17_23 rfl
theorem c17_24 : cd 17 24 = some (24, .iinc 2 1, 3, 0, 0, 0) := rfl
theorem s17_24 {l0 l1 : AV} {l2 : Int} {h : AH} : evL 17 24 [l0, l1, I l2] [] h = evL 17 27 [l0, l1, I (ad l2 1)] [] h := ev_go c17_24 rfl
theorem c17_27 : cd 17 27 = some (27, .goto (-25), 3, 0, 0, 0) := rfl
theorem s17_27 {l0 l1 l2 : AV} {h : AH} : evL 17 27 [l0, l1, l2] [] h = evL 17 2 [l0, l1, l2] [] h := ev_go c17_27 rfl
theorem c17_30 : cd 17 30 = some (30, .bipush (-4), 2, 0, 0, 0) := rfl
theorem s17_30 {l0 l1 l2 : AV} {h : AH} : evL 17 30 [l0, l1, l2] [] h = evL 17 32 [l0, l1, l2] [I (-4)] h := ev_go c17_30 rfl
theorem c17_32 : cd 17 32 = some (32, .ireturn, 1, 0, 0, 0) := rfl
theorem s17_32 {l0 l1 l2 : AV} {s0 : Int} {h : AH} : evL 17 32 [l0, l1, l2] [I s0] h = some (some (I s0), h) := e_ret c17_32 rfl
/-! 18: TankDivers$Crew.isFreeFor(II)Z -/
theorem en18 {l0 l1 l2 : AV} {h : AH} : evM 18 [l0, l1, l2] h = evL 18 0 [l0, l1, l2, Db 0] [] h := rfl
theorem c18_0 : cd 18 0 = some (0, .iconst 0, 1, 0, 0, 0) := rfl
theorem s18_0 {l0 l1 l2 l3 : AV} {h : AH} : evL 18 0 [l0, l1, l2, l3] [] h = evL 18 1 [l0, l1, l2, l3] [I 0] h := ev_go c18_0 rfl
theorem c18_1 : cd 18 1 = some (1, .istore_n 3, 1, 0, 0, 0) := rfl
theorem s18_1 {l0 l1 l2 l3 : AV} {s0 : Int} {h : AH} : evL 18 1 [l0, l1, l2, l3] [I s0] h = evL 18 2 [l0, l1, l2, I s0] [] h := ev_go c18_1 rfl
theorem c18_2 : cd 18 2 = some (2, .iload_n 3, 1, 0, 0, 0) := rfl
theorem s18_2 {l0 l1 l2 : AV} {l3 : Int} {h : AH} : evL 18 2 [l0, l1, l2, I l3] [] h = evL 18 3 [l0, l1, l2, I l3] [I l3] h := ev_go c18_2 rfl
theorem c18_3 : cd 18 3 = some (3, .aload_n 0, 1, 0, 0, 0) := rfl
theorem s18_3 {l1 l2 l3 s0 : AV} {l0 : Option Nat} {h : AH} : evL 18 3 [.inr (.inl l0), l1, l2, l3] [s0] h = evL 18 4 [.inr (.inl l0), l1, l2, l3] [.inr (.inl l0), s0] h := ev_go c18_3 rfl
theorem c18_4 : cd 18 4 = some (4, .getfield 41, 3, 0, 8, 89) := rfl
theorem s18_4 {l0 l1 l2 l3 s1 : AV} {s0 : Nat} {M : Mem} {P : PMem} (hk : kd s0 = 0) : evL 18 4 [l0, l1, l2, l3] [Rf s0, s1] (Hp M P) = evL 18 7 [l0, l1, l2, l3] [I (M s0 8), s1] (Hp M P) := e_getI c18_4 rfl hk
theorem c18_7 : cd 18 7 = some (7, .if_icmp .ge 28, 3, 0, 0, 0) := rfl
theorem s18_7 {l0 l1 l2 l3 : AV} {s0 s1 : Int} {h : AH} : evL 18 7 [l0, l1, l2, l3] [I s0, I s1] h = if s0 ≤ s1 then evL 18 35 [l0, l1, l2, l3] [] h else evL 18 10 [l0, l1, l2, l3] [] h := e_icmp_ge c18_7 rfl rfl
theorem c18_10 : cd 18 10 = some (10, .iload_n 3, 1, 0, 0, 0) := rfl
theorem s18_10 {l0 l1 l2 : AV} {l3 : Int} {h : AH} : evL 18 10 [l0, l1, l2, I l3] [] h = evL 18 11 [l0, l1, l2, I l3] [I l3] h := ev_go c18_10 rfl
theorem c18_11 : cd 18 11 = some (11, .iload_n 1, 1, 0, 0, 0) := rfl
theorem s18_11 {l0 l2 l3 s0 : AV} {l1 : Int} {h : AH} : evL 18 11 [l0, I l1, l2, l3] [s0] h = evL 18 12 [l0, I l1, l2, l3] [I l1, s0] h := ev_go c18_11 rfl
theorem c18_12 : cd 18 12 = some (12, .if_icmp .eq 17, 3, 0, 0, 0) := rfl
theorem s18_12 {l0 l1 l2 l3 : AV} {s0 s1 : Int} {h : AH} : evL 18 12 [l0, l1, l2, l3] [I s0, I s1] h = if s1 = s0 then evL 18 29 [l0, l1, l2, l3] [] h else evL 18 15 [l0, l1, l2, l3] [] h := e_icmp_eq c18_12 rfl rfl
theorem c18_15 : cd 18 15 = some (15, .aload_n 0, 1, 0, 0, 0) := rfl
theorem s18_15 {l1 l2 l3 : AV} {l0 : Option Nat} {h : AH} : evL 18 15 [.inr (.inl l0), l1, l2, l3] [] h = evL 18 16 [.inr (.inl l0), l1, l2, l3] [.inr (.inl l0)] h := ev_go c18_15 rfl
theorem c18_16 : cd 18 16 = some (16, .getfield 14, 3, 0, 0, 75) := rfl
theorem s18_16 {l0 l1 l2 l3 : AV} {s0 : Nat} {M : Mem} {P : PMem} (hk : kd s0 = 0) : evL 18 16 [l0, l1, l2, l3] [Rf s0] (Hp M P) = evL 18 19 [l0, l1, l2, l3] [Rf (rfd s0 0)] (Hp M P) := e_getR c18_16 rfl hk
theorem c18_19 : cd 18 19 = some (19, .iload_n 3, 1, 0, 0, 0) := rfl
theorem s18_19 {l0 l1 l2 s0 : AV} {l3 : Int} {h : AH} : evL 18 19 [l0, l1, l2, I l3] [s0] h = evL 18 20 [l0, l1, l2, I l3] [I l3, s0] h := ev_go c18_19 rfl
theorem c18_20 : cd 18 20 = some (20, .invokevirtual 51, 3, 80, 0, 292) := rfl
theorem s18_20 {l0 l1 l2 l3 : AV} {s0 : Int} {s1 : Nat} {M : Mem} {P : PMem} (hk : kd s1 = 6) : evL 18 20 [l0, l1, l2, l3] [I s0, Rf s1] (Hp M P) = cont (evM 80 [Rf s1, I s0] (Hp M P)) (fun r h => evL 18 23 [l0, l1, l2, l3] (rl r []) h) := e_callV (av' := [I s0]) (rest := []) (c := 6) c18_20 rfl rfl rfl rfl rfl rfl rfl hk rfl
theorem c18_23 : cd 18 23 = some (23, .iload_n 2, 1, 0, 0, 0) := rfl
theorem s18_23 {l0 l1 l3 s0 : AV} {l2 : Int} {h : AH} : evL 18 23 [l0, l1, I l2, l3] [s0] h = evL 18 24 [l0, l1, I l2, l3] [I l2, s0] h := ev_go c18_23 rfl
theorem c18_24 : cd 18 24 = some (24, .if_icmp .ne 5, 3, 0, 0, 0) := rfl
theorem s18_24 {l0 l1 l2 l3 : AV} {s0 s1 : Int} {h : AH} : evL 18 24 [l0, l1, l2, l3] [I s0, I s1] h = if s1 = s0 then evL 18 27 [l0, l1, l2, l3] [] h else evL 18 29 [l0, l1, l2, l3] [] h := e_icmp_ne c18_24 rfl rfl
theorem c18_27 : cd 18 27 = some (27, .iconst 0, 1, 0, 0, 0) := rfl
theorem s18_27 {l0 l1 l2 l3 : AV} {h : AH} : evL 18 27 [l0, l1, l2, l3] [] h = evL 18 28 [l0, l1, l2, l3] [I 0] h := ev_go c18_27 rfl
theorem c18_28 : cd 18 28 = some (28, .ireturn, 1, 0, 0, 0) := rfl
theorem s18_28 {l0 l1 l2 l3 : AV} {s0 : Int} {h : AH} (hz : s0 = 0 ∨ s0 = 1) : evL 18 28 [l0, l1, l2, l3] [I s0] h = some (some (I s0), h) := e_ret c18_28 (if_pos hz)
theorem c18_29 : cd 18 29 = some (29, .iinc 3 1, 3, 0, 0, 0) := rfl
theorem s18_29 {l0 l1 l2 : AV} {l3 : Int} {h : AH} : evL 18 29 [l0, l1, l2, I l3] [] h = evL 18 32 [l0, l1, l2, I (ad l3 1)] [] h := ev_go c18_29 rfl
theorem c18_32 : cd 18 32 = some (32, .goto (-30), 3, 0, 0, 0) := rfl
theorem s18_32 {l0 l1 l2 l3 : AV} {h : AH} : evL 18 32 [l0, l1, l2, l3] [] h = evL 18 2 [l0, l1, l2, l3] [] h := ev_go c18_32 rfl
theorem c18_35 : cd 18 35 = some (35, .iconst 1, 1, 0, 0, 0) := rfl
theorem s18_35 {l0 l1 l2 l3 : AV} {h : AH} : evL 18 35 [l0, l1, l2, l3] [] h = evL 18 36 [l0, l1, l2, l3] [I 1] h := ev_go c18_35 rfl
theorem c18_36 : cd 18 36 = some (36, .ireturn, 1, 0, 0, 0) := rfl
theorem s18_36 {l0 l1 l2 l3 : AV} {s0 : Int} {h : AH} (hz : s0 = 0 ∨ s0 = 1) : evL 18 36 [l0, l1, l2, l3] [I s0] h = some (some (I s0), h) := e_ret c18_36 (if_pos hz)
/-! 19: TankDivers$Crew.nextOut(I)I -/
theorem en19 {l0 l1 : AV} {h : AH} : evM 19 [l0, l1] h = evL 19 0 [l0, l1, Db 0, Db 0] [] h := rfl
theorem c19_0 : cd 19 0 = some (0, .iload_n 1, 1, 0, 0, 0) := rfl
theorem s19_0 {l0 l2 l3 : AV} {l1 : Int} {h : AH} : evL 19 0 [l0, I l1, l2, l3] [] h = evL 19 1 [l0, I l1, l2, l3] [I l1] h := ev_go c19_0 rfl
theorem c19_1 : cd 19 1 = some (1, .istore_n 2, 1, 0, 0, 0) := rfl
theorem s19_1 {l0 l1 l2 l3 : AV} {s0 : Int} {h : AH} : evL 19 1 [l0, l1, l2, l3] [I s0] h = evL 19 2 [l0, l1, I s0, l3] [] h := ev_go c19_1 rfl
theorem c19_2 : cd 19 2 = some (2, .iconst 0, 1, 0, 0, 0) := rfl
theorem s19_2 {l0 l1 l2 l3 : AV} {h : AH} : evL 19 2 [l0, l1, l2, l3] [] h = evL 19 3 [l0, l1, l2, l3] [I 0] h := ev_go c19_2 rfl
theorem c19_3 : cd 19 3 = some (3, .istore_n 3, 1, 0, 0, 0) := rfl
theorem s19_3 {l0 l1 l2 l3 : AV} {s0 : Int} {h : AH} : evL 19 3 [l0, l1, l2, l3] [I s0] h = evL 19 4 [l0, l1, l2, I s0] [] h := ev_go c19_3 rfl
theorem c19_4 : cd 19 4 = some (4, .iload_n 3, 1, 0, 0, 0) := rfl
theorem s19_4 {l0 l1 l2 : AV} {l3 : Int} {h : AH} : evL 19 4 [l0, l1, l2, I l3] [] h = evL 19 5 [l0, l1, l2, I l3] [I l3] h := ev_go c19_4 rfl
theorem c19_5 : cd 19 5 = some (5, .aload_n 0, 1, 0, 0, 0) := rfl
theorem s19_5 {l1 l2 l3 s0 : AV} {l0 : Option Nat} {h : AH} : evL 19 5 [.inr (.inl l0), l1, l2, l3] [s0] h = evL 19 6 [.inr (.inl l0), l1, l2, l3] [.inr (.inl l0), s0] h := ev_go c19_5 rfl
theorem c19_6 : cd 19 6 = some (6, .getfield 41, 3, 0, 8, 89) := rfl
theorem s19_6 {l0 l1 l2 l3 s1 : AV} {s0 : Nat} {M : Mem} {P : PMem} (hk : kd s0 = 0) : evL 19 6 [l0, l1, l2, l3] [Rf s0, s1] (Hp M P) = evL 19 9 [l0, l1, l2, l3] [I (M s0 8), s1] (Hp M P) := e_getI c19_6 rfl hk
theorem c19_9 : cd 19 9 = some (9, .if_icmp .ge 37, 3, 0, 0, 0) := rfl
theorem s19_9 {l0 l1 l2 l3 : AV} {s0 s1 : Int} {h : AH} : evL 19 9 [l0, l1, l2, l3] [I s0, I s1] h = if s0 ≤ s1 then evL 19 46 [l0, l1, l2, l3] [] h else evL 19 12 [l0, l1, l2, l3] [] h := e_icmp_ge c19_9 rfl rfl
theorem c19_12 : cd 19 12 = some (12, .iload_n 2, 1, 0, 0, 0) := rfl
theorem s19_12 {l0 l1 l3 : AV} {l2 : Int} {h : AH} : evL 19 12 [l0, l1, I l2, l3] [] h = evL 19 13 [l0, l1, I l2, l3] [I l2] h := ev_go c19_12 rfl
theorem c19_13 : cd 19 13 = some (13, .iconst 1, 1, 0, 0, 0) := rfl
theorem s19_13 {l0 l1 l2 l3 s0 : AV} {h : AH} : evL 19 13 [l0, l1, l2, l3] [s0] h = evL 19 14 [l0, l1, l2, l3] [I 1, s0] h := ev_go c19_13 rfl
theorem c19_14 : cd 19 14 = some (14, .iadd, 1, 0, 0, 0) := rfl
theorem s19_14 {l0 l1 l2 l3 : AV} {s0 s1 : Int} {h : AH} : evL 19 14 [l0, l1, l2, l3] [I s0, I s1] h = evL 19 15 [l0, l1, l2, l3] [I (ad s1 s0)] h := ev_go c19_14 rfl
theorem c19_15 : cd 19 15 = some (15, .aload_n 0, 1, 0, 0, 0) := rfl
theorem s19_15 {l1 l2 l3 s0 : AV} {l0 : Option Nat} {h : AH} : evL 19 15 [.inr (.inl l0), l1, l2, l3] [s0] h = evL 19 16 [.inr (.inl l0), l1, l2, l3] [.inr (.inl l0), s0] h := ev_go c19_15 rfl
theorem c19_16 : cd 19 16 = some (16, .getfield 41, 3, 0, 8, 89) := rfl
theorem s19_16 {l0 l1 l2 l3 s1 : AV} {s0 : Nat} {M : Mem} {P : PMem} (hk : kd s0 = 0) : evL 19 16 [l0, l1, l2, l3] [Rf s0, s1] (Hp M P) = evL 19 19 [l0, l1, l2, l3] [I (M s0 8), s1] (Hp M P) := e_getI c19_16 rfl hk
theorem c19_19 : cd 19 19 = some (19, .if_icmp .ge 9, 3, 0, 0, 0) := rfl
theorem s19_19 {l0 l1 l2 l3 : AV} {s0 s1 : Int} {h : AH} : evL 19 19 [l0, l1, l2, l3] [I s0, I s1] h = if s0 ≤ s1 then evL 19 28 [l0, l1, l2, l3] [] h else evL 19 22 [l0, l1, l2, l3] [] h := e_icmp_ge c19_19 rfl rfl
theorem c19_22 : cd 19 22 = some (22, .iload_n 2, 1, 0, 0, 0) := rfl
theorem s19_22 {l0 l1 l3 : AV} {l2 : Int} {h : AH} : evL 19 22 [l0, l1, I l2, l3] [] h = evL 19 23 [l0, l1, I l2, l3] [I l2] h := ev_go c19_22 rfl
theorem c19_23 : cd 19 23 = some (23, .iconst 1, 1, 0, 0, 0) := rfl
theorem s19_23 {l0 l1 l2 l3 s0 : AV} {h : AH} : evL 19 23 [l0, l1, l2, l3] [s0] h = evL 19 24 [l0, l1, l2, l3] [I 1, s0] h := ev_go c19_23 rfl
theorem c19_24 : cd 19 24 = some (24, .iadd, 1, 0, 0, 0) := rfl
theorem s19_24 {l0 l1 l2 l3 : AV} {s0 s1 : Int} {h : AH} : evL 19 24 [l0, l1, l2, l3] [I s0, I s1] h = evL 19 25 [l0, l1, l2, l3] [I (ad s1 s0)] h := ev_go c19_24 rfl
theorem c19_25 : cd 19 25 = some (25, .goto 4, 3, 0, 0, 0) := rfl
theorem s19_25 {l0 l1 l2 l3 s0 : AV} {h : AH} : evL 19 25 [l0, l1, l2, l3] [s0] h = evL 19 29 [l0, l1, l2, l3] [s0] h := ev_go c19_25 rfl
theorem c19_28 : cd 19 28 = some (28, .iconst 0, 1, 0, 0, 0) := rfl
theorem s19_28 {l0 l1 l2 l3 : AV} {h : AH} : evL 19 28 [l0, l1, l2, l3] [] h = evL 19 29 [l0, l1, l2, l3] [I 0] h := ev_go c19_28 rfl
theorem c19_29 : cd 19 29 = some (29, .istore_n 2, 1, 0, 0, 0) := rfl
theorem s19_29 {l0 l1 l2 l3 : AV} {s0 : Int} {h : AH} : evL 19 29 [l0, l1, l2, l3] [I s0] h = evL 19 30 [l0, l1, I s0, l3] [] h := ev_go c19_29 rfl
theorem c19_30 : cd 19 30 = some (30, .aload_n 0, 1, 0, 0, 0) := rfl
theorem s19_30 {l1 l2 l3 : AV} {l0 : Option Nat} {h : AH} : evL 19 30 [.inr (.inl l0), l1, l2, l3] [] h = evL 19 31 [.inr (.inl l0), l1, l2, l3] [.inr (.inl l0)] h := ev_go c19_30 rfl
theorem c19_31 : cd 19 31 = some (31, .iload_n 2, 1, 0, 0, 0) := rfl
theorem s19_31 {l0 l1 l3 s0 : AV} {l2 : Int} {h : AH} : evL 19 31 [l0, l1, I l2, l3] [s0] h = evL 19 32 [l0, l1, I l2, l3] [I l2, s0] h := ev_go c19_31 rfl
theorem c19_32 : cd 19 32 = some (32, .invokevirtual 83, 3, 15, 0, 447) := rfl
theorem s19_32 {l0 l1 l2 l3 : AV} {s0 : Int} {s1 : Nat} {M : Mem} {P : PMem} (hk : kd s1 = 0) : evL 19 32 [l0, l1, l2, l3] [I s0, Rf s1] (Hp M P) = cont (evM 15 [Rf s1, I s0] (Hp M P)) (fun r h => evL 19 35 [l0, l1, l2, l3] (rl r []) h) := e_callV (av' := [I s0]) (rest := []) (c := 0) c19_32 rfl rfl rfl rfl rfl rfl rfl hk rfl
theorem c19_35 : cd 19 35 = some (35, .ifCond .ne 5, 3, 0, 0, 0) := rfl
theorem s19_35 {l0 l1 l2 l3 : AV} {s0 : Int} {h : AH} : evL 19 35 [l0, l1, l2, l3] [I s0] h = if s0 = 0 then evL 19 38 [l0, l1, l2, l3] [] h else evL 19 40 [l0, l1, l2, l3] [] h := e_if_ne c19_35 rfl rfl
theorem c19_38 : cd 19 38 = some (38, .iload_n 2, 1, 0, 0, 0) := rfl
theorem s19_38 {l0 l1 l3 : AV} {l2 : Int} {h : AH} : evL 19 38 [l0, l1, I l2, l3] [] h = evL 19 39 [l0, l1, I l2, l3] [I l2] h := ev_go c19_38 rfl
theorem c19_39 : cd 19 39 = some (39, .ireturn, 1, 0, 0, 0) := rfl
theorem s19_39 {l0 l1 l2 l3 : AV} {s0 : Int} {h : AH} : evL 19 39 [l0, l1, l2, l3] [I s0] h = some (some (I s0), h) := e_ret c19_39 rfl
theorem c19_40 : cd 19 40 = some (40, .iinc 3 1, 3, 0, 0, 0) := rfl
theorem s19_40 {l0 l1 l2 : AV} {l3 : Int} {h : AH} : evL 19 40 [l0, l1, l2, I l3] [] h = evL 19 43 [l0, l1, l2, I (ad l3 1)] [] h := ev_go c19_40 rfl
theorem c19_43 : cd 19 43 = some (43, .goto (-39), 3, 0, 0, 0) := rfl
theorem s19_43 {l0 l1 l2 l3 : AV} {h : AH} : evL 19 43 [l0, l1, l2, l3] [] h = evL 19 4 [l0, l1, l2, l3] [] h := ev_go c19_43 rfl
theorem c19_46 : cd 19 46 = some (46, .iload_n 1, 1, 0, 0, 0) := rfl
theorem s19_46 {l0 l2 l3 : AV} {l1 : Int} {h : AH} : evL 19 46 [l0, I l1, l2, l3] [] h = evL 19 47 [l0, I l1, l2, l3] [I l1] h := ev_go c19_46 rfl
theorem c19_47 : cd 19 47 = some (47, .ireturn, 1, 0, 0, 0) := rfl
theorem s19_47 {l0 l1 l2 l3 : AV} {s0 : Int} {h : AH} : evL 19 47 [l0, l1, l2, l3] [I s0] h = some (some (I s0), h) := e_ret c19_47 rfl
/-! 20: TankDivers$Crew.deepest()I -/
theorem en20 {l0 : AV} {h : AH} : evM 20 [l0] h = evL 20 0 [l0, Db 0, Db 0] [] h := rfl
theorem c20_0 : cd 20 0 = some (0, .iconst 0, 1, 0, 0, 0) := rfl
theorem s20_0 {l0 l1 l2 : AV} {h : AH} : evL 20 0 [l0, l1, l2] [] h = evL 20 1 [l0, l1, l2] [I 0] h := ev_go c20_0 rfl
theorem c20_1 : cd 20 1 = some (1, .istore_n 1, 1, 0, 0, 0) := rfl
theorem s20_1 {l0 l1 l2 : AV} {s0 : Int} {h : AH} : evL 20 1 [l0, l1, l2] [I s0] h = evL 20 2 [l0, I s0, l2] [] h := ev_go c20_1 rfl
theorem c20_2 : cd 20 2 = some (2, .iconst 1, 1, 0, 0, 0) := rfl
theorem s20_2 {l0 l1 l2 : AV} {h : AH} : evL 20 2 [l0, l1, l2] [] h = evL 20 3 [l0, l1, l2] [I 1] h := ev_go c20_2 rfl
theorem c20_3 : cd 20 3 = some (3, .istore_n 2, 1, 0, 0, 0) := rfl
theorem s20_3 {l0 l1 l2 : AV} {s0 : Int} {h : AH} : evL 20 3 [l0, l1, l2] [I s0] h = evL 20 4 [l0, l1, I s0] [] h := ev_go c20_3 rfl
theorem c20_4 : cd 20 4 = some (4, .iload_n 2, 1, 0, 0, 0) := rfl
theorem s20_4 {l0 l1 : AV} {l2 : Int} {h : AH} : evL 20 4 [l0, l1, I l2] [] h = evL 20 5 [l0, l1, I l2] [I l2] h := ev_go c20_4 rfl
theorem c20_5 : cd 20 5 = some (5, .aload_n 0, 1, 0, 0, 0) := rfl
theorem s20_5 {l1 l2 s0 : AV} {l0 : Option Nat} {h : AH} : evL 20 5 [.inr (.inl l0), l1, l2] [s0] h = evL 20 6 [.inr (.inl l0), l1, l2] [.inr (.inl l0), s0] h := ev_go c20_5 rfl
theorem c20_6 : cd 20 6 = some (6, .getfield 41, 3, 0, 8, 89) := rfl
theorem s20_6 {l0 l1 l2 s1 : AV} {s0 : Nat} {M : Mem} {P : PMem} (hk : kd s0 = 0) : evL 20 6 [l0, l1, l2] [Rf s0, s1] (Hp M P) = evL 20 9 [l0, l1, l2] [I (M s0 8), s1] (Hp M P) := e_getI c20_6 rfl hk
theorem c20_9 : cd 20 9 = some (9, .if_icmp .ge 30, 3, 0, 0, 0) := rfl
theorem s20_9 {l0 l1 l2 : AV} {s0 s1 : Int} {h : AH} : evL 20 9 [l0, l1, l2] [I s0, I s1] h = if s0 ≤ s1 then evL 20 39 [l0, l1, l2] [] h else evL 20 12 [l0, l1, l2] [] h := e_icmp_ge c20_9 rfl rfl
theorem c20_12 : cd 20 12 = some (12, .aload_n 0, 1, 0, 0, 0) := rfl
theorem s20_12 {l1 l2 : AV} {l0 : Option Nat} {h : AH} : evL 20 12 [.inr (.inl l0), l1, l2] [] h = evL 20 13 [.inr (.inl l0), l1, l2] [.inr (.inl l0)] h := ev_go c20_12 rfl
theorem c20_13 : cd 20 13 = some (13, .getfield 14, 3, 0, 0, 75) := rfl
theorem s20_13 {l0 l1 l2 : AV} {s0 : Nat} {M : Mem} {P : PMem} (hk : kd s0 = 0) : evL 20 13 [l0, l1, l2] [Rf s0] (Hp M P) = evL 20 16 [l0, l1, l2] [Rf (rfd s0 0)] (Hp M P) := e_getR c20_13 rfl hk
theorem c20_16 : cd 20 16 = some (16, .iload_n 2, 1, 0, 0, 0) := rfl
theorem s20_16 {l0 l1 s0 : AV} {l2 : Int} {h : AH} : evL 20 16 [l0, l1, I l2] [s0] h = evL 20 17 [l0, l1, I l2] [I l2, s0] h := ev_go c20_16 rfl
theorem c20_17 : cd 20 17 = some (17, .invokevirtual 51, 3, 80, 0, 292) := rfl
theorem s20_17 {l0 l1 l2 : AV} {s0 : Int} {s1 : Nat} {M : Mem} {P : PMem} (hk : kd s1 = 6) : evL 20 17 [l0, l1, l2] [I s0, Rf s1] (Hp M P) = cont (evM 80 [Rf s1, I s0] (Hp M P)) (fun r h => evL 20 20 [l0, l1, l2] (rl r []) h) := e_callV (av' := [I s0]) (rest := []) (c := 6) c20_17 rfl rfl rfl rfl rfl rfl rfl hk rfl
theorem c20_20 : cd 20 20 = some (20, .aload_n 0, 1, 0, 0, 0) := rfl
theorem s20_20 {l1 l2 s0 : AV} {l0 : Option Nat} {h : AH} : evL 20 20 [.inr (.inl l0), l1, l2] [s0] h = evL 20 21 [.inr (.inl l0), l1, l2] [.inr (.inl l0), s0] h := ev_go c20_20 rfl
theorem c20_21 : cd 20 21 = some (21, .getfield 14, 3, 0, 0, 75) := rfl
theorem s20_21 {l0 l1 l2 s1 : AV} {s0 : Nat} {M : Mem} {P : PMem} (hk : kd s0 = 0) : evL 20 21 [l0, l1, l2] [Rf s0, s1] (Hp M P) = evL 20 24 [l0, l1, l2] [Rf (rfd s0 0), s1] (Hp M P) := e_getR c20_21 rfl hk
theorem c20_24 : cd 20 24 = some (24, .iload_n 1, 1, 0, 0, 0) := rfl
theorem s20_24 {l0 l2 s0 s1 : AV} {l1 : Int} {h : AH} : evL 20 24 [l0, I l1, l2] [s0, s1] h = evL 20 25 [l0, I l1, l2] [I l1, s0, s1] h := ev_go c20_24 rfl
theorem c20_25 : cd 20 25 = some (25, .invokevirtual 51, 3, 80, 0, 292) := rfl
theorem s20_25 {l0 l1 l2 s2 : AV} {s0 : Int} {s1 : Nat} {M : Mem} {P : PMem} (hk : kd s1 = 6) : evL 20 25 [l0, l1, l2] [I s0, Rf s1, s2] (Hp M P) = cont (evM 80 [Rf s1, I s0] (Hp M P)) (fun r h => evL 20 28 [l0, l1, l2] (rl r [s2]) h) := e_callV (av' := [I s0]) (rest := [s2]) (c := 6) c20_25 rfl rfl rfl rfl rfl rfl rfl hk rfl
theorem c20_28 : cd 20 28 = some (28, .if_icmp .le 5, 3, 0, 0, 0) := rfl
theorem s20_28 {l0 l1 l2 : AV} {s0 s1 : Int} {h : AH} : evL 20 28 [l0, l1, l2] [I s0, I s1] h = if s1 ≤ s0 then evL 20 33 [l0, l1, l2] [] h else evL 20 31 [l0, l1, l2] [] h := e_icmp_le c20_28 rfl rfl
theorem c20_31 : cd 20 31 = some (31, .iload_n 2, 1, 0, 0, 0) := rfl
theorem s20_31 {l0 l1 : AV} {l2 : Int} {h : AH} : evL 20 31 [l0, l1, I l2] [] h = evL 20 32 [l0, l1, I l2] [I l2] h := ev_go c20_31 rfl
theorem c20_32 : cd 20 32 = some (32, .istore_n 1, 1, 0, 0, 0) := rfl
theorem s20_32 {l0 l1 l2 : AV} {s0 : Int} {h : AH} : evL 20 32 [l0, l1, l2] [I s0] h = evL 20 33 [l0, I s0, l2] [] h := ev_go c20_32 rfl
theorem c20_33 : cd 20 33 = some (33, .iinc 2 1, 3, 0, 0, 0) := rfl
theorem s20_33 {l0 l1 : AV} {l2 : Int} {h : AH} : evL 20 33 [l0, l1, I l2] [] h = evL 20 36 [l0, l1, I (ad l2 1)] [] h := ev_go c20_33 rfl
theorem c20_36 : cd 20 36 = some (36, .goto (-32), 3, 0, 0, 0) := rfl
theorem s20_36 {l0 l1 l2 : AV} {h : AH} : evL 20 36 [l0, l1, l2] [] h = evL 20 4 [l0, l1, l2] [] h := ev_go c20_36 rfl
theorem c20_39 : cd 20 39 = some (39, .iload_n 1, 1, 0, 0, 0) := rfl
theorem s20_39 {l0 l2 : AV} {l1 : Int} {h : AH} : evL 20 39 [l0, I l1, l2] [] h = evL 20 40 [l0, I l1, l2] [I l1] h := ev_go c20_39 rfl
theorem c20_40 : cd 20 40 = some (40, .ireturn, 1, 0, 0, 0) := rfl
theorem s20_40 {l0 l1 l2 : AV} {s0 : Int} {h : AH} : evL 20 40 [l0, l1, l2] [I s0] h = some (some (I s0), h) := e_ret c20_40 rfl
/-! 21: TankDivers$Crew.best()I -/
theorem en21 {l0 : AV} {h : AH} : evM 21 [l0] h = evL 21 0 [l0, Db 0, Db 0] [] h := rfl
theorem c21_0 : cd 21 0 = some (0, .iconst 0, 1, 0, 0, 0) := rfl
theorem s21_0 {l0 l1 l2 : AV} {h : AH} : evL 21 0 [l0, l1, l2] [] h = evL 21 1 [l0, l1, l2] [I 0] h := ev_go c21_0 rfl
theorem c21_1 : cd 21 1 = some (1, .istore_n 1, 1, 0, 0, 0) := rfl
theorem s21_1 {l0 l1 l2 : AV} {s0 : Int} {h : AH} : evL 21 1 [l0, l1, l2] [I s0] h = evL 21 2 [l0, I s0, l2] [] h := ev_go c21_1 rfl
theorem c21_2 : cd 21 2 = some (2, .iconst 1, 1, 0, 0, 0) := rfl
theorem s21_2 {l0 l1 l2 : AV} {h : AH} : evL 21 2 [l0, l1, l2] [] h = evL 21 3 [l0, l1, l2] [I 1] h := ev_go c21_2 rfl
theorem c21_3 : cd 21 3 = some (3, .istore_n 2, 1, 0, 0, 0) := rfl
theorem s21_3 {l0 l1 l2 : AV} {s0 : Int} {h : AH} : evL 21 3 [l0, l1, l2] [I s0] h = evL 21 4 [l0, l1, I s0] [] h := ev_go c21_3 rfl
theorem c21_4 : cd 21 4 = some (4, .iload_n 2, 1, 0, 0, 0) := rfl
theorem s21_4 {l0 l1 : AV} {l2 : Int} {h : AH} : evL 21 4 [l0, l1, I l2] [] h = evL 21 5 [l0, l1, I l2] [I l2] h := ev_go c21_4 rfl
theorem c21_5 : cd 21 5 = some (5, .aload_n 0, 1, 0, 0, 0) := rfl
theorem s21_5 {l1 l2 s0 : AV} {l0 : Option Nat} {h : AH} : evL 21 5 [.inr (.inl l0), l1, l2] [s0] h = evL 21 6 [.inr (.inl l0), l1, l2] [.inr (.inl l0), s0] h := ev_go c21_5 rfl
theorem c21_6 : cd 21 6 = some (6, .getfield 41, 3, 0, 8, 89) := rfl
theorem s21_6 {l0 l1 l2 s1 : AV} {s0 : Nat} {M : Mem} {P : PMem} (hk : kd s0 = 0) : evL 21 6 [l0, l1, l2] [Rf s0, s1] (Hp M P) = evL 21 9 [l0, l1, l2] [I (M s0 8), s1] (Hp M P) := e_getI c21_6 rfl hk
theorem c21_9 : cd 21 9 = some (9, .if_icmp .ge 30, 3, 0, 0, 0) := rfl
theorem s21_9 {l0 l1 l2 : AV} {s0 s1 : Int} {h : AH} : evL 21 9 [l0, l1, l2] [I s0, I s1] h = if s0 ≤ s1 then evL 21 39 [l0, l1, l2] [] h else evL 21 12 [l0, l1, l2] [] h := e_icmp_ge c21_9 rfl rfl
theorem c21_12 : cd 21 12 = some (12, .aload_n 0, 1, 0, 0, 0) := rfl
theorem s21_12 {l1 l2 : AV} {l0 : Option Nat} {h : AH} : evL 21 12 [.inr (.inl l0), l1, l2] [] h = evL 21 13 [.inr (.inl l0), l1, l2] [.inr (.inl l0)] h := ev_go c21_12 rfl
theorem c21_13 : cd 21 13 = some (13, .getfield 32, 3, 0, 5, 85) := rfl
theorem s21_13 {l0 l1 l2 : AV} {s0 : Nat} {M : Mem} {P : PMem} (hk : kd s0 = 0) : evL 21 13 [l0, l1, l2] [Rf s0] (Hp M P) = evL 21 16 [l0, l1, l2] [Rf (rfd s0 5)] (Hp M P) := e_getR c21_13 rfl hk
theorem c21_16 : cd 21 16 = some (16, .iload_n 2, 1, 0, 0, 0) := rfl
theorem s21_16 {l0 l1 s0 : AV} {l2 : Int} {h : AH} : evL 21 16 [l0, l1, I l2] [s0] h = evL 21 17 [l0, l1, I l2] [I l2, s0] h := ev_go c21_16 rfl
theorem c21_17 : cd 21 17 = some (17, .invokevirtual 51, 3, 80, 0, 292) := rfl
theorem s21_17 {l0 l1 l2 : AV} {s0 : Int} {s1 : Nat} {M : Mem} {P : PMem} (hk : kd s1 = 6) : evL 21 17 [l0, l1, l2] [I s0, Rf s1] (Hp M P) = cont (evM 80 [Rf s1, I s0] (Hp M P)) (fun r h => evL 21 20 [l0, l1, l2] (rl r []) h) := e_callV (av' := [I s0]) (rest := []) (c := 6) c21_17 rfl rfl rfl rfl rfl rfl rfl hk rfl
theorem c21_20 : cd 21 20 = some (20, .aload_n 0, 1, 0, 0, 0) := rfl
theorem s21_20 {l1 l2 s0 : AV} {l0 : Option Nat} {h : AH} : evL 21 20 [.inr (.inl l0), l1, l2] [s0] h = evL 21 21 [.inr (.inl l0), l1, l2] [.inr (.inl l0), s0] h := ev_go c21_20 rfl
theorem c21_21 : cd 21 21 = some (21, .getfield 32, 3, 0, 5, 85) := rfl
theorem s21_21 {l0 l1 l2 s1 : AV} {s0 : Nat} {M : Mem} {P : PMem} (hk : kd s0 = 0) : evL 21 21 [l0, l1, l2] [Rf s0, s1] (Hp M P) = evL 21 24 [l0, l1, l2] [Rf (rfd s0 5), s1] (Hp M P) := e_getR c21_21 rfl hk
theorem c21_24 : cd 21 24 = some (24, .iload_n 1, 1, 0, 0, 0) := rfl
theorem s21_24 {l0 l2 s0 s1 : AV} {l1 : Int} {h : AH} : evL 21 24 [l0, I l1, l2] [s0, s1] h = evL 21 25 [l0, I l1, l2] [I l1, s0, s1] h := ev_go c21_24 rfl
theorem c21_25 : cd 21 25 = some (25, .invokevirtual 51, 3, 80, 0, 292) := rfl
theorem s21_25 {l0 l1 l2 s2 : AV} {s0 : Int} {s1 : Nat} {M : Mem} {P : PMem} (hk : kd s1 = 6) : evL 21 25 [l0, l1, l2] [I s0, Rf s1, s2] (Hp M P) = cont (evM 80 [Rf s1, I s0] (Hp M P)) (fun r h => evL 21 28 [l0, l1, l2] (rl r [s2]) h) := e_callV (av' := [I s0]) (rest := [s2]) (c := 6) c21_25 rfl rfl rfl rfl rfl rfl rfl hk rfl
theorem c21_28 : cd 21 28 = some (28, .if_icmp .le 5, 3, 0, 0, 0) := rfl
theorem s21_28 {l0 l1 l2 : AV} {s0 s1 : Int} {h : AH} : evL 21 28 [l0, l1, l2] [I s0, I s1] h = if s1 ≤ s0 then evL 21 33 [l0, l1, l2] [] h else evL 21 31 [l0, l1, l2] [] h := e_icmp_le c21_28 rfl rfl
theorem c21_31 : cd 21 31 = some (31, .iload_n 2, 1, 0, 0, 0) := rfl
theorem s21_31 {l0 l1 : AV} {l2 : Int} {h : AH} : evL 21 31 [l0, l1, I l2] [] h = evL 21 32 [l0, l1, I l2] [I l2] h := ev_go c21_31 rfl
theorem c21_32 : cd 21 32 = some (32, .istore_n 1, 1, 0, 0, 0) := rfl
theorem s21_32 {l0 l1 l2 : AV} {s0 : Int} {h : AH} : evL 21 32 [l0, l1, l2] [I s0] h = evL 21 33 [l0, I s0, l2] [] h := ev_go c21_32 rfl
theorem c21_33 : cd 21 33 = some (33, .iinc 2 1, 3, 0, 0, 0) := rfl
theorem s21_33 {l0 l1 : AV} {l2 : Int} {h : AH} : evL 21 33 [l0, l1, I l2] [] h = evL 21 36 [l0, l1, I (ad l2 1)] [] h := ev_go c21_33 rfl
theorem c21_36 : cd 21 36 = some (36, .goto (-32), 3, 0, 0, 0) := rfl
theorem s21_36 {l0 l1 l2 : AV} {h : AH} : evL 21 36 [l0, l1, l2] [] h = evL 21 4 [l0, l1, l2] [] h := ev_go c21_36 rfl
theorem c21_39 : cd 21 39 = some (39, .iload_n 1, 1, 0, 0, 0) := rfl
theorem s21_39 {l0 l2 : AV} {l1 : Int} {h : AH} : evL 21 39 [l0, I l1, l2] [] h = evL 21 40 [l0, I l1, l2] [I l1] h := ev_go c21_39 rfl
theorem c21_40 : cd 21 40 = some (40, .ireturn, 1, 0, 0, 0) := rfl
theorem s21_40 {l0 l1 l2 : AV} {s0 : Int} {h : AH} : evL 21 40 [l0, l1, l2] [I s0] h = some (some (I s0), h) := e_ret c21_40 rfl
/-! 22: TankDivers$Crew.bringStacks()V -/
theorem en22 {l0 : AV} {h : AH} : evM 22 [l0] h = evL 22 0 [l0, Db 0] [] h := rfl
theorem c22_0 : cd 22 0 = some (0, .iconst 0, 1, 0, 0, 0) := rfl
theorem s22_0 {l0 l1 : AV} {h : AH} : evL 22 0 [l0, l1] [] h = evL 22 1 [l0, l1] [I 0] h := ev_go c22_0 rfl
theorem c22_1 : cd 22 1 = some (1, .istore_n 1, 1, 0, 0, 0) := rfl
theorem s22_1 {l0 l1 : AV} {s0 : Int} {h : AH} : evL 22 1 [l0, l1] [I s0] h = evL 22 2 [l0, I s0] [] h := ev_go c22_1 rfl
theorem c22_2 : cd 22 2 = some (2, .iload_n 1, 1, 0, 0, 0) := rfl
theorem s22_2 {l0 : AV} {l1 : Int} {h : AH} : evL 22 2 [l0, I l1] [] h = evL 22 3 [l0, I l1] [I l1] h := ev_go c22_2 rfl
theorem c22_3 : cd 22 3 = some (3, .aload_n 0, 1, 0, 0, 0) := rfl
theorem s22_3 {l1 s0 : AV} {l0 : Option Nat} {h : AH} : evL 22 3 [.inr (.inl l0), l1] [s0] h = evL 22 4 [.inr (.inl l0), l1] [.inr (.inl l0), s0] h := ev_go c22_3 rfl
theorem c22_4 : cd 22 4 = some (4, .getfield 41, 3, 0, 8, 89) := rfl
theorem s22_4 {l0 l1 s1 : AV} {s0 : Nat} {M : Mem} {P : PMem} (hk : kd s0 = 0) : evL 22 4 [l0, l1] [Rf s0, s1] (Hp M P) = evL 22 7 [l0, l1] [I (M s0 8), s1] (Hp M P) := e_getI c22_4 rfl hk
theorem c22_7 : cd 22 7 = some (7, .if_icmp .ge 55, 3, 0, 0, 0) := rfl
theorem s22_7 {l0 l1 : AV} {s0 s1 : Int} {h : AH} : evL 22 7 [l0, l1] [I s0, I s1] h = if s0 ≤ s1 then evL 22 62 [l0, l1] [] h else evL 22 10 [l0, l1] [] h := e_icmp_ge c22_7 rfl rfl
theorem c22_10 : cd 22 10 = some (10, .aload_n 0, 1, 0, 0, 0) := rfl
theorem s22_10 {l1 : AV} {l0 : Option Nat} {h : AH} : evL 22 10 [.inr (.inl l0), l1] [] h = evL 22 11 [.inr (.inl l0), l1] [.inr (.inl l0)] h := ev_go c22_10 rfl
theorem c22_11 : cd 22 11 = some (11, .iload_n 1, 1, 0, 0, 0) := rfl
theorem s22_11 {l0 s0 : AV} {l1 : Int} {h : AH} : evL 22 11 [l0, I l1] [s0] h = evL 22 12 [l0, I l1] [I l1, s0] h := ev_go c22_11 rfl
theorem c22_12 : cd 22 12 = some (12, .invokevirtual 83, 3, 15, 0, 447) := rfl
theorem s22_12 {l0 l1 : AV} {s0 : Int} {s1 : Nat} {M : Mem} {P : PMem} (hk : kd s1 = 0) : evL 22 12 [l0, l1] [I s0, Rf s1] (Hp M P) = cont (evM 15 [Rf s1, I s0] (Hp M P)) (fun r h => evL 22 15 [l0, l1] (rl r []) h) := e_callV (av' := [I s0]) (rest := []) (c := 0) c22_12 rfl rfl rfl rfl rfl rfl rfl hk rfl
theorem c22_15 : cd 22 15 = some (15, .ifCond .eq 32, 3, 0, 0, 0) := rfl
theorem s22_15 {l0 l1 : AV} {s0 : Int} {h : AH} : evL 22 15 [l0, l1] [I s0] h = if s0 = 0 then evL 22 47 [l0, l1] [] h else evL 22 18 [l0, l1] [] h := e_if_eq c22_15 rfl rfl
theorem c22_18 : cd 22 18 = some (18, .aload_n 0, 1, 0, 0, 0) := rfl
theorem s22_18 {l1 : AV} {l0 : Option Nat} {h : AH} : evL 22 18 [.inr (.inl l0), l1] [] h = evL 22 19 [.inr (.inl l0), l1] [.inr (.inl l0)] h := ev_go c22_18 rfl
theorem c22_19 : cd 22 19 = some (19, .getfield 32, 3, 0, 5, 85) := rfl
theorem s22_19 {l0 l1 : AV} {s0 : Nat} {M : Mem} {P : PMem} (hk : kd s0 = 0) : evL 22 19 [l0, l1] [Rf s0] (Hp M P) = evL 22 22 [l0, l1] [Rf (rfd s0 5)] (Hp M P) := e_getR c22_19 rfl hk
theorem c22_22 : cd 22 22 = some (22, .iload_n 1, 1, 0, 0, 0) := rfl
theorem s22_22 {l0 s0 : AV} {l1 : Int} {h : AH} : evL 22 22 [l0, I l1] [s0] h = evL 22 23 [l0, I l1] [I l1, s0] h := ev_go c22_22 rfl
theorem c22_23 : cd 22 23 = some (23, .aload_n 0, 1, 0, 0, 0) := rfl
theorem s22_23 {l1 s0 s1 : AV} {l0 : Option Nat} {h : AH} : evL 22 23 [.inr (.inl l0), l1] [s0, s1] h = evL 22 24 [.inr (.inl l0), l1] [.inr (.inl l0), s0, s1] h := ev_go c22_23 rfl
theorem c22_24 : cd 22 24 = some (24, .iload_n 1, 1, 0, 0, 0) := rfl
theorem s22_24 {l0 s0 s1 s2 : AV} {l1 : Int} {h : AH} : evL 22 24 [l0, I l1] [s0, s1, s2] h = evL 22 25 [l0, I l1] [I l1, s0, s1, s2] h := ev_go c22_24 rfl
theorem c22_25 : cd 22 25 = some (25, .invokevirtual 58, 3, 10, 0, 288) := rfl
theorem s22_25 {l0 l1 s2 s3 : AV} {s0 : Int} {s1 : Nat} {M : Mem} {P : PMem} (hk : kd s1 = 0) : evL 22 25 [l0, l1] [I s0, Rf s1, s2, s3] (Hp M P) = cont (evM 10 [Rf s1, I s0] (Hp M P)) (fun r h => evL 22 28 [l0, l1] (rl r [s2, s3]) h) := e_callV (av' := [I s0]) (rest := [s2, s3]) (c := 0) c22_25 rfl rfl rfl rfl rfl rfl rfl hk rfl
theorem c22_28 : cd 22 28 = some (28, .invokevirtual 69, 3, 82, 0, 580) := rfl
theorem s22_28 {l0 l1 : AV} {s0 s1 : Int} {s2 : Nat} {M : Mem} {P : PMem} (hk : kd s2 = 6) : evL 22 28 [l0, l1] [I s0, I s1, Rf s2] (Hp M P) = cont (evM 82 [Rf s2, I s1, I s0] (Hp M P)) (fun r h => evL 22 31 [l0, l1] (rl r []) h) := e_callV (av' := [I s1, I s0]) (rest := []) (c := 6) c22_28 rfl rfl rfl rfl rfl rfl rfl hk rfl
theorem c22_31 : cd 22 31 = some (31, .aload_n 0, 1, 0, 0, 0) := rfl
theorem s22_31 {l1 : AV} {l0 : Option Nat} {h : AH} : evL 22 31 [.inr (.inl l0), l1] [] h = evL 22 32 [.inr (.inl l0), l1] [.inr (.inl l0)] h := ev_go c22_31 rfl
theorem c22_32 : cd 22 32 = some (32, .getfield 35, 3, 0, 6, 86) := rfl
theorem s22_32 {l0 l1 : AV} {s0 : Nat} {M : Mem} {P : PMem} (hk : kd s0 = 0) : evL 22 32 [l0, l1] [Rf s0] (Hp M P) = evL 22 35 [l0, l1] [Rf (rfd s0 6)] (Hp M P) := e_getR c22_32 rfl hk
theorem c22_35 : cd 22 35 = some (35, .iload_n 1, 1, 0, 0, 0) := rfl
theorem s22_35 {l0 s0 : AV} {l1 : Int} {h : AH} : evL 22 35 [l0, I l1] [s0] h = evL 22 36 [l0, I l1] [I l1, s0] h := ev_go c22_35 rfl
theorem c22_36 : cd 22 36 = some (36, .aload_n 0, 1, 0, 0, 0) := rfl
theorem s22_36 {l1 s0 s1 : AV} {l0 : Option Nat} {h : AH} : evL 22 36 [.inr (.inl l0), l1] [s0, s1] h = evL 22 37 [.inr (.inl l0), l1] [.inr (.inl l0), s0, s1] h := ev_go c22_36 rfl
theorem c22_37 : cd 22 37 = some (37, .iload_n 1, 1, 0, 0, 0) := rfl
theorem s22_37 {l0 s0 s1 s2 : AV} {l1 : Int} {h : AH} : evL 22 37 [l0, I l1] [s0, s1, s2] h = evL 22 38 [l0, I l1] [I l1, s0, s1, s2] h := ev_go c22_37 rfl
theorem c22_38 : cd 22 38 = some (38, .invokevirtual 55, 3, 9, 0, 318) := rfl
theorem s22_38 {l0 l1 s2 s3 : AV} {s0 : Int} {s1 : Nat} {M : Mem} {P : PMem} (hk : kd s1 = 0) : evL 22 38 [l0, l1] [I s0, Rf s1, s2, s3] (Hp M P) = cont (evM 9 [Rf s1, I s0] (Hp M P)) (fun r h => evL 22 41 [l0, l1] (rl r [s2, s3]) h) := e_callV (av' := [I s0]) (rest := [s2, s3]) (c := 0) c22_38 rfl rfl rfl rfl rfl rfl rfl hk rfl
theorem c22_41 : cd 22 41 = some (41, .invokevirtual 69, 3, 82, 0, 580) := rfl
theorem s22_41 {l0 l1 : AV} {s0 s1 : Int} {s2 : Nat} {M : Mem} {P : PMem} (hk : kd s2 = 6) : evL 22 41 [l0, l1] [I s0, I s1, Rf s2] (Hp M P) = cont (evM 82 [Rf s2, I s1, I s0] (Hp M P)) (fun r h => evL 22 44 [l0, l1] (rl r []) h) := e_callV (av' := [I s1, I s0]) (rest := []) (c := 6) c22_41 rfl rfl rfl rfl rfl rfl rfl hk rfl
theorem c22_44 : cd 22 44 = some (44, .goto 12, 3, 0, 0, 0) := rfl
theorem s22_44 {l0 l1 : AV} {h : AH} : evL 22 44 [l0, l1] [] h = evL 22 56 [l0, l1] [] h := ev_go c22_44 rfl
theorem c22_47 : cd 22 47 = some (47, .aload_n 0, 1, 0, 0, 0) := rfl
theorem s22_47 {l1 : AV} {l0 : Option Nat} {h : AH} : evL 22 47 [.inr (.inl l0), l1] [] h = evL 22 48 [.inr (.inl l0), l1] [.inr (.inl l0)] h := ev_go c22_47 rfl
theorem c22_48 : cd 22 48 = some (48, .getfield 38, 3, 0, 7, 88) := rfl
theorem s22_48 {l0 l1 : AV} {s0 : Nat} {M : Mem} {P : PMem} (hk : kd s0 = 0) : evL 22 48 [l0, l1] [Rf s0] (Hp M P) = evL 22 51 [l0, l1] [Rf (rfd s0 7)] (Hp M P) := e_getR c22_48 rfl hk
theorem c22_51 : cd 22 51 = some (51, .iload_n 1, 1, 0, 0, 0) := rfl
theorem s22_51 {l0 s0 : AV} {l1 : Int} {h : AH} : evL 22 51 [l0, I l1] [s0] h = evL 22 52 [l0, I l1] [I l1, s0] h := ev_go c22_51 rfl
theorem c22_52 : cd 22 52 = some (52, .iconst 1, 1, 0, 0, 0) := rfl
theorem s22_52 {l0 l1 s0 s1 : AV} {h : AH} : evL 22 52 [l0, l1] [s0, s1] h = evL 22 53 [l0, l1] [I 1, s0, s1] h := ev_go c22_52 rfl
theorem c22_53 : cd 22 53 = some (53, .invokevirtual 69, 3, 82, 0, 580) := rfl
theorem s22_53 {l0 l1 : AV} {s0 s1 : Int} {s2 : Nat} {M : Mem} {P : PMem} (hk : kd s2 = 6) : evL 22 53 [l0, l1] [I s0, I s1, Rf s2] (Hp M P) = cont (evM 82 [Rf s2, I s1, I s0] (Hp M P)) (fun r h => evL 22 56 [l0, l1] (rl r []) h) := e_callV (av' := [I s1, I s0]) (rest := []) (c := 6) c22_53 rfl rfl rfl rfl rfl rfl rfl hk rfl
theorem c22_56 : cd 22 56 = some (56, .iinc 1 1, 3, 0, 0, 0) := rfl
theorem s22_56 {l0 : AV} {l1 : Int} {h : AH} : evL 22 56 [l0, I l1] [] h = evL 22 59 [l0, I (ad l1 1)] [] h := ev_go c22_56 rfl
theorem c22_59 : cd 22 59 = some (59, .goto (-57), 3, 0, 0, 0) := rfl
theorem s22_59 {l0 l1 : AV} {h : AH} : evL 22 59 [l0, l1] [] h = evL 22 2 [l0, l1] [] h := ev_go c22_59 rfl
theorem c22_62 : cd 22 62 = some (62, .return_, 1, 0, 0, 0) := rfl
theorem s22_62 {l0 l1 : AV} {h : AH} : evL 22 62 [l0, l1] [] h = some (none, h) := e_ret c22_62 rfl
/-! 23: TankDivers$Crew.sinkInto(LTankDivers$Row;I)I -/
theorem en23 {l0 l1 l2 : AV} {h : AH} : evM 23 [l0, l1, l2] h = evL 23 0 [l0, l1, l2, Db 0, Db 0, Db 0] [] h := rfl
theorem c23_0 : cd 23 0 = some (0, .iconst 0, 1, 0, 0, 0) := rfl
theorem s23_0 {l0 l1 l2 l3 l4 l5 : AV} {h : AH} : evL 23 0 [l0, l1, l2, l3, l4, l5] [] h = evL 23 1 [l0, l1, l2, l3, l4, l5] [I 0] h := ev_go c23_0 rfl
theorem c23_1 : cd 23 1 = some (1, .istore_n 3, 1, 0, 0, 0) := rfl
theorem s23_1 {l0 l1 l2 l3 l4 l5 : AV} {s0 : Int} {h : AH} : evL 23 1 [l0, l1, l2, l3, l4, l5] [I s0] h = evL 23 2 [l0, l1, l2, I s0, l4, l5] [] h := ev_go c23_1 rfl
theorem c23_2 : cd 23 2 = some (2, .iload_n 2, 1, 0, 0, 0) := rfl
theorem s23_2 {l0 l1 l3 l4 l5 : AV} {l2 : Int} {h : AH} : evL 23 2 [l0, l1, I l2, l3, l4, l5] [] h = evL 23 3 [l0, l1, I l2, l3, l4, l5] [I l2] h := ev_go c23_2 rfl
theorem c23_3 : cd 23 3 = some (3, .istore 4, 2, 0, 0, 0) := rfl
theorem s23_3 {l0 l1 l2 l3 l4 l5 : AV} {s0 : Int} {h : AH} : evL 23 3 [l0, l1, l2, l3, l4, l5] [I s0] h = evL 23 5 [l0, l1, l2, l3, I s0, l5] [] h := ev_go c23_3 rfl
theorem c23_5 : cd 23 5 = some (5, .iload 4, 2, 0, 0, 0) := rfl
theorem s23_5 {l0 l1 l2 l3 l5 : AV} {l4 : Int} {h : AH} : evL 23 5 [l0, l1, l2, l3, I l4, l5] [] h = evL 23 7 [l0, l1, l2, l3, I l4, l5] [I l4] h := ev_go c23_5 rfl
theorem c23_7 : cd 23 7 = some (7, .ifCond .lt 59, 3, 0, 0, 0) := rfl
theorem s23_7 {l0 l1 l2 l3 l4 l5 : AV} {s0 : Int} {h : AH} : evL 23 7 [l0, l1, l2, l3, l4, l5] [I s0] h = if s0 < 0 then evL 23 66 [l0, l1, l2, l3, l4, l5] [] h else evL 23 10 [l0, l1, l2, l3, l4, l5] [] h := e_if_lt c23_7 rfl rfl
theorem c23_10 : cd 23 10 = some (10, .iconst 0, 1, 0, 0, 0) := rfl
theorem s23_10 {l0 l1 l2 l3 l4 l5 : AV} {h : AH} : evL 23 10 [l0, l1, l2, l3, l4, l5] [] h = evL 23 11 [l0, l1, l2, l3, l4, l5] [I 0] h := ev_go c23_10 rfl
theorem c23_11 : cd 23 11 = some (11, .istore 5, 2, 0, 0, 0) := rfl
theorem s23_11 {l0 l1 l2 l3 l4 l5 : AV} {s0 : Int} {h : AH} : evL 23 11 [l0, l1, l2, l3, l4, l5] [I s0] h = evL 23 13 [l0, l1, l2, l3, l4, I s0] [] h := ev_go c23_11 rfl
theorem c23_13 : cd 23 13 = some (13, .iload 5, 2, 0, 0, 0) := rfl
theorem s23_13 {l0 l1 l2 l3 l4 : AV} {l5 : Int} {h : AH} : evL 23 13 [l0, l1, l2, l3, l4, I l5] [] h = evL 23 15 [l0, l1, l2, l3, l4, I l5] [I l5] h := ev_go c23_13 rfl
theorem c23_15 : cd 23 15 = some (15, .aload_n 0, 1, 0, 0, 0) := rfl
theorem s23_15 {l1 l2 l3 l4 l5 s0 : AV} {l0 : Option Nat} {h : AH} : evL 23 15 [.inr (.inl l0), l1, l2, l3, l4, l5] [s0] h = evL 23 16 [.inr (.inl l0), l1, l2, l3, l4, l5] [.inr (.inl l0), s0] h := ev_go c23_15 rfl
theorem c23_16 : cd 23 16 = some (16, .getfield 41, 3, 0, 8, 89) := rfl
theorem s23_16 {l0 l1 l2 l3 l4 l5 s1 : AV} {s0 : Nat} {M : Mem} {P : PMem} (hk : kd s0 = 0) : evL 23 16 [l0, l1, l2, l3, l4, l5] [Rf s0, s1] (Hp M P) = evL 23 19 [l0, l1, l2, l3, l4, l5] [I (M s0 8), s1] (Hp M P) := e_getI c23_16 rfl hk
theorem c23_19 : cd 23 19 = some (19, .if_icmp .ge 41, 3, 0, 0, 0) := rfl
theorem s23_19 {l0 l1 l2 l3 l4 l5 : AV} {s0 s1 : Int} {h : AH} : evL 23 19 [l0, l1, l2, l3, l4, l5] [I s0, I s1] h = if s0 ≤ s1 then evL 23 60 [l0, l1, l2, l3, l4, l5] [] h else evL 23 22 [l0, l1, l2, l3, l4, l5] [] h := e_icmp_ge c23_19 rfl rfl
theorem c23_22 : cd 23 22 = some (22, .aload_n 0, 1, 0, 0, 0) := rfl
theorem s23_22 {l1 l2 l3 l4 l5 : AV} {l0 : Option Nat} {h : AH} : evL 23 22 [.inr (.inl l0), l1, l2, l3, l4, l5] [] h = evL 23 23 [.inr (.inl l0), l1, l2, l3, l4, l5] [.inr (.inl l0)] h := ev_go c23_22 rfl
theorem c23_23 : cd 23 23 = some (23, .getfield 14, 3, 0, 0, 75) := rfl
theorem s23_23 {l0 l1 l2 l3 l4 l5 : AV} {s0 : Nat} {M : Mem} {P : PMem} (hk : kd s0 = 0) : evL 23 23 [l0, l1, l2, l3, l4, l5] [Rf s0] (Hp M P) = evL 23 26 [l0, l1, l2, l3, l4, l5] [Rf (rfd s0 0)] (Hp M P) := e_getR c23_23 rfl hk
theorem c23_26 : cd 23 26 = some (26, .iload 5, 2, 0, 0, 0) := rfl
theorem s23_26 {l0 l1 l2 l3 l4 s0 : AV} {l5 : Int} {h : AH} : evL 23 26 [l0, l1, l2, l3, l4, I l5] [s0] h = evL 23 28 [l0, l1, l2, l3, l4, I l5] [I l5, s0] h := ev_go c23_26 rfl
theorem c23_28 : cd 23 28 = some (28, .invokevirtual 51, 3, 80, 0, 292) := rfl
theorem s23_28 {l0 l1 l2 l3 l4 l5 : AV} {s0 : Int} {s1 : Nat} {M : Mem} {P : PMem} (hk : kd s1 = 6) : evL 23 28 [l0, l1, l2, l3, l4, l5] [I s0, Rf s1] (Hp M P) = cont (evM 80 [Rf s1, I s0] (Hp M P)) (fun r h => evL 23 31 [l0, l1, l2, l3, l4, l5] (rl r []) h) := e_callV (av' := [I s0]) (rest := []) (c := 6) c23_28 rfl rfl rfl rfl rfl rfl rfl hk rfl
theorem c23_31 : cd 23 31 = some (31, .iload 4, 2, 0, 0, 0) := rfl
theorem s23_31 {l0 l1 l2 l3 l5 s0 : AV} {l4 : Int} {h : AH} : evL 23 31 [l0, l1, l2, l3, I l4, l5] [s0] h = evL 23 33 [l0, l1, l2, l3, I l4, l5] [I l4, s0] h := ev_go c23_31 rfl
theorem c23_33 : cd 23 33 = some (33, .if_icmp .ne 21, 3, 0, 0, 0) := rfl
theorem s23_33 {l0 l1 l2 l3 l4 l5 : AV} {s0 s1 : Int} {h : AH} : evL 23 33 [l0, l1, l2, l3, l4, l5] [I s0, I s1] h = if s1 = s0 then evL 23 36 [l0, l1, l2, l3, l4, l5] [] h else evL 23 54 [l0, l1, l2, l3, l4, l5] [] h := e_icmp_ne c23_33 rfl rfl
theorem c23_36 : cd 23 36 = some (36, .aload_n 0, 1, 0, 0, 0) := rfl
theorem s23_36 {l1 l2 l3 l4 l5 : AV} {l0 : Option Nat} {h : AH} : evL 23 36 [.inr (.inl l0), l1, l2, l3, l4, l5] [] h = evL 23 37 [.inr (.inl l0), l1, l2, l3, l4, l5] [.inr (.inl l0)] h := ev_go c23_36 rfl
theorem c23_37 : cd 23 37 = some (37, .iload 5, 2, 0, 0, 0) := rfl
theorem s23_37 {l0 l1 l2 l3 l4 s0 : AV} {l5 : Int} {h : AH} : evL 23 37 [l0, l1, l2, l3, l4, I l5] [s0] h = evL 23 39 [l0, l1, l2, l3, l4, I l5] [I l5, s0] h := ev_go c23_37 rfl
theorem c23_39 : cd 23 39 = some (39, .invokevirtual 83, 3, 15, 0, 447) := rfl
theorem s23_39 {l0 l1 l2 l3 l4 l5 : AV} {s0 : Int} {s1 : Nat} {M : Mem} {P : PMem} (hk : kd s1 = 0) : evL 23 39 [l0, l1, l2, l3, l4, l5] [I s0, Rf s1] (Hp M P) = cont (evM 15 [Rf s1, I s0] (Hp M P)) (fun r h => evL 23 42 [l0, l1, l2, l3, l4, l5] (rl r []) h) := e_callV (av' := [I s0]) (rest := []) (c := 0) c23_39 rfl rfl rfl rfl rfl rfl rfl hk rfl
theorem c23_42 : cd 23 42 = some (42, .ifCond .ne 12, 3, 0, 0, 0) := rfl
theorem s23_42 {l0 l1 l2 l3 l4 l5 : AV} {s0 : Int} {h : AH} : evL 23 42 [l0, l1, l2, l3, l4, l5] [I s0] h = if s0 = 0 then evL 23 45 [l0, l1, l2, l3, l4, l5] [] h else evL 23 54 [l0, l1, l2, l3, l4, l5] [] h := e_if_ne c23_42 rfl rfl
theorem c23_45 : cd 23 45 = some (45, .aload_n 0, 1, 0, 0, 0) := rfl
theorem s23_45 {l1 l2 l3 l4 l5 : AV} {l0 : Option Nat} {h : AH} : evL 23 45 [.inr (.inl l0), l1, l2, l3, l4, l5] [] h = evL 23 46 [.inr (.inl l0), l1, l2, l3, l4, l5] [.inr (.inl l0)] h := ev_go c23_45 rfl
theorem c23_46 : cd 23 46 = some (46, .iload 5, 2, 0, 0, 0) := rfl
theorem s23_46 {l0 l1 l2 l3 l4 s0 : AV} {l5 : Int} {h : AH} : evL 23 46 [l0, l1, l2, l3, l4, I l5] [s0] h = evL 23 48 [l0, l1, l2, l3, l4, I l5] [I l5, s0] h := ev_go c23_46 rfl
theorem c23_48 : cd 23 48 = some (48, .aload_n 1, 1, 0, 0, 0) := rfl
theorem s23_48 {l0 l2 l3 l4 l5 s0 s1 : AV} {l1 : Option Nat} {h : AH} : evL 23 48 [l0, .inr (.inl l1), l2, l3, l4, l5] [s0, s1] h = evL 23 49 [l0, .inr (.inl l1), l2, l3, l4, l5] [.inr (.inl l1), s0, s1] h := ev_go c23_48 rfl
theorem c23_49 : cd 23 49 = some (49, .iload_n 3, 1, 0, 0, 0) := rfl
theorem s23_49 {l0 l1 l2 l4 l5 s0 s1 s2 : AV} {l3 : Int} {h : AH} : evL 23 49 [l0, l1, l2, I l3, l4, l5] [s0, s1, s2] h = evL 23 50 [l0, l1, l2, I l3, l4, l5] [I l3, s0, s1, s2] h := ev_go c23_49 rfl
theorem c23_50 : cd 23 50 = some (50, .invokevirtual 91, 3, 24, 0, 602) := rfl
theorem s23_50 {l0 l1 l2 l3 l4 l5 : AV} {s0 s2 : Int} {s1 s3 : Nat} {M : Mem} {P : PMem} (hk : kd s3 = 0) : evL 23 50 [l0, l1, l2, l3, l4, l5] [I s0, Rf s1, I s2, Rf s3] (Hp M P) = cont (evM 24 [Rf s3, I s2, Rf s1, I s0] (Hp M P)) (fun r h => evL 23 53 [l0, l1, l2, l3, l4, l5] (rl r []) h) := e_callV (av' := [I s2, Rf s1, I s0]) (rest := []) (c := 0) c23_50 rfl rfl rfl rfl rfl rfl rfl hk rfl
theorem c23_53 : cd 23 53 = some (53, .istore_n 3, 1, 0, 0, 0) := rfl
theorem s23_53 {l0 l1 l2 l3 l4 l5 : AV} {s0 : Int} {h : AH} : evL 23 53 [l0, l1, l2, l3, l4, l5] [I s0] h = evL 23 54 [l0, l1, l2, I s0, l4, l5] [] h := ev_go c23_53 rfl
theorem c23_54 : cd 23 54 = some (54, .iinc 5 1, 3, 0, 0, 0) := rfl
theorem s23_54 {l0 l1 l2 l3 l4 : AV} {l5 : Int} {h : AH} : evL 23 54 [l0, l1, l2, l3, l4, I l5] [] h = evL 23 57 [l0, l1, l2, l3, l4, I (ad l5 1)] [] h := ev_go c23_54 rfl
theorem c23_57 : cd 23 57 = some (57, .goto (-44), 3, 0, 0, 0) := rfl
theorem s23_57 {l0 l1 l2 l3 l4 l5 : AV} {h : AH} : evL 23 57 [l0, l1, l2, l3, l4, l5] [] h = evL 23 13 [l0, l1, l2, l3, l4, l5] [] h := ev_go c23_57 rfl
theorem c23_60 : cd 23 60 = some (60, .iinc 4 (-1), 3, 0, 0, 0) := rfl
theorem s23_60 {l0 l1 l2 l3 l5 : AV} {l4 : Int} {h : AH} : evL 23 60 [l0, l1, l2, l3, I l4, l5] [] h = evL 23 63 [l0, l1, l2, l3, I (ad l4 (-1)), l5] [] h := ev_go c23_60 rfl
theorem c23_63 : cd 23 63 = some (63, .goto (-58), 3, 0, 0, 0) := rfl
theorem s23_63 {l0 l1 l2 l3 l4 l5 : AV} {h : AH} : evL 23 63 [l0, l1, l2, l3, l4, l5] [] h = evL 23 5 [l0, l1, l2, l3, l4, l5] [] h := ev_go c23_63 rfl
theorem c23_66 : cd 23 66 = some (66, .iload_n 3, 1, 0, 0, 0) := rfl
theorem s23_66 {l0 l1 l2 l4 l5 : AV} {l3 : Int} {h : AH} : evL 23 66 [l0, l1, l2, I l3, l4, l5] [] h = evL 23 67 [l0, l1, l2, I l3, l4, l5] [I l3] h := ev_go c23_66 rfl
theorem c23_67 : cd 23 67 = some (67, .ireturn, 1, 0, 0, 0) := rfl
theorem s23_67 {l0 l1 l2 l3 l4 l5 : AV} {s0 : Int} {h : AH} : evL 23 67 [l0, l1, l2, l3, l4, l5] [I s0] h = some (some (I s0), h) := e_ret c23_67 rfl
/-! 24: TankDivers$Crew.sinkStacksOf(ILTankDivers$Row;I)I -/
theorem en24 {l0 l1 l2 l3 : AV} {h : AH} : evM 24 [l0, l1, l2, l3] h = evL 24 0 [l0, l1, l2, l3, Db 0, Db 0, Db 0, Db 0] [] h := rfl
theorem c24_0 : cd 24 0 = some (0, .iload_n 3, 1, 0, 0, 0) := rfl
theorem s24_0 {l0 l1 l2 l4 l5 l6 l7 : AV} {l3 : Int} {h : AH} : evL 24 0 [l0, l1, l2, I l3, l4, l5, l6, l7] [] h = evL 24 1 [l0, l1, l2, I l3, l4, l5, l6, l7] [I l3] h := ev_go c24_0 rfl
theorem c24_1 : cd 24 1 = some (1, .istore 4, 2, 0, 0, 0) := rfl
theorem s24_1 {l0 l1 l2 l3 l4 l5 l6 l7 : AV} {s0 : Int} {h : AH} : evL 24 1 [l0, l1, l2, l3, l4, l5, l6, l7] [I s0] h = evL 24 3 [l0, l1, l2, l3, I s0, l5, l6, l7] [] h := ev_go c24_1 rfl
theorem c24_3 : cd 24 3 = some (3, .iconst 0, 1, 0, 0, 0) := rfl
theorem s24_3 {l0 l1 l2 l3 l4 l5 l6 l7 : AV} {h : AH} : evL 24 3 [l0, l1, l2, l3, l4, l5, l6, l7] [] h = evL 24 4 [l0, l1, l2, l3, l4, l5, l6, l7] [I 0] h := ev_go c24_3 rfl
theorem c24_4 : cd 24 4 = some (4, .istore 5, 2, 0, 0, 0) := rfl
theorem s24_4 {l0 l1 l2 l3 l4 l5 l6 l7 : AV} {s0 : Int} {h : AH} : evL 24 4 [l0, l1, l2, l3, l4, l5, l6, l7] [I s0] h = evL 24 6 [l0, l1, l2, l3, l4, I s0, l6, l7] [] h := ev_go c24_4 rfl
theorem c24_6 : cd 24 6 = some (6, .iload 5, 2, 0, 0, 0) := rfl
theorem s24_6 {l0 l1 l2 l3 l4 l6 l7 : AV} {l5 : Int} {h : AH} : evL 24 6 [l0, l1, l2, l3, l4, I l5, l6, l7] [] h = evL 24 8 [l0, l1, l2, l3, l4, I l5, l6, l7] [I l5] h := ev_go c24_6 rfl
theorem c24_8 : cd 24 8 = some (8, .aload_n 0, 1, 0, 0, 0) := rfl
theorem s24_8 {l1 l2 l3 l4 l5 l6 l7 s0 : AV} {l0 : Option Nat} {h : AH} : evL 24 8 [.inr (.inl l0), l1, l2, l3, l4, l5, l6, l7] [s0] h = evL 24 9 [.inr (.inl l0), l1, l2, l3, l4, l5, l6, l7] [.inr (.inl l0), s0] h := ev_go c24_8 rfl
theorem c24_9 : cd 24 9 = some (9, .getfield 26, 3, 0, 3, 81) := rfl
theorem s24_9 {l0 l1 l2 l3 l4 l5 l6 l7 s1 : AV} {s0 : Nat} {M : Mem} {P : PMem} (hk : kd s0 = 0) : evL 24 9 [l0, l1, l2, l3, l4, l5, l6, l7] [Rf s0, s1] (Hp M P) = evL 24 12 [l0, l1, l2, l3, l4, l5, l6, l7] [Rf (rfd s0 3), s1] (Hp M P) := e_getR c24_9 rfl hk
theorem c24_12 : cd 24 12 = some (12, .iload_n 1, 1, 0, 0, 0) := rfl
theorem s24_12 {l0 l2 l3 l4 l5 l6 l7 s0 s1 : AV} {l1 : Int} {h : AH} : evL 24 12 [l0, I l1, l2, l3, l4, l5, l6, l7] [s0, s1] h = evL 24 13 [l0, I l1, l2, l3, l4, l5, l6, l7] [I l1, s0, s1] h := ev_go c24_12 rfl
theorem c24_13 : cd 24 13 = some (13, .invokevirtual 51, 3, 80, 0, 292) := rfl
theorem s24_13 {l0 l1 l2 l3 l4 l5 l6 l7 s2 : AV} {s0 : Int} {s1 : Nat} {M : Mem} {P : PMem} (hk : kd s1 = 6) : evL 24 13 [l0, l1, l2, l3, l4, l5, l6, l7] [I s0, Rf s1, s2] (Hp M P) = cont (evM 80 [Rf s1, I s0] (Hp M P)) (fun r h => evL 24 16 [l0, l1, l2, l3, l4, l5, l6, l7] (rl r [s2]) h) := e_callV (av' := [I s0]) (rest := [s2]) (c := 6) c24_13 rfl rfl rfl rfl rfl rfl rfl hk rfl
theorem c24_16 : cd 24 16 = some (16, .if_icmp .ge 59, 3, 0, 0, 0) := rfl
theorem s24_16 {l0 l1 l2 l3 l4 l5 l6 l7 : AV} {s0 s1 : Int} {h : AH} : evL 24 16 [l0, l1, l2, l3, l4, l5, l6, l7] [I s0, I s1] h = if s0 ≤ s1 then evL 24 75 [l0, l1, l2, l3, l4, l5, l6, l7] [] h else evL 24 19 [l0, l1, l2, l3, l4, l5, l6, l7] [] h := e_icmp_ge c24_16 rfl rfl
theorem c24_19 : cd 24 19 = some (19, .aload_n 0, 1, 0, 0, 0) := rfl
theorem s24_19 {l1 l2 l3 l4 l5 l6 l7 : AV} {l0 : Option Nat} {h : AH} : evL 24 19 [.inr (.inl l0), l1, l2, l3, l4, l5, l6, l7] [] h = evL 24 20 [.inr (.inl l0), l1, l2, l3, l4, l5, l6, l7] [.inr (.inl l0)] h := ev_go c24_19 rfl
theorem c24_20 : cd 24 20 = some (20, .getfield 29, 3, 0, 4, 84) := rfl
theorem s24_20 {l0 l1 l2 l3 l4 l5 l6 l7 : AV} {s0 : Nat} {M : Mem} {P : PMem} (hk : kd s0 = 0) : evL 24 20 [l0, l1, l2, l3, l4, l5, l6, l7] [Rf s0] (Hp M P) = evL 24 23 [l0, l1, l2, l3, l4, l5, l6, l7] [Rf (rfd s0 4)] (Hp M P) := e_getR c24_20 rfl hk
theorem c24_23 : cd 24 23 = some (23, .iload_n 1, 1, 0, 0, 0) := rfl
theorem s24_23 {l0 l2 l3 l4 l5 l6 l7 s0 : AV} {l1 : Int} {h : AH} : evL 24 23 [l0, I l1, l2, l3, l4, l5, l6, l7] [s0] h = evL 24 24 [l0, I l1, l2, l3, l4, l5, l6, l7] [I l1, s0] h := ev_go c24_23 rfl
theorem c24_24 : cd 24 24 = some (24, .iload 5, 2, 0, 0, 0) := rfl
theorem s24_24 {l0 l1 l2 l3 l4 l6 l7 s0 s1 : AV} {l5 : Int} {h : AH} : evL 24 24 [l0, l1, l2, l3, l4, I l5, l6, l7] [s0, s1] h = evL 24 26 [l0, l1, l2, l3, l4, I l5, l6, l7] [I l5, s0, s1] h := ev_go c24_24 rfl
theorem c24_26 : cd 24 26 = some (26, .invokestatic 61, 3, 5, 0, 293) := rfl
theorem s24_26 {l0 l1 l2 l3 l4 l5 l6 l7 s2 : AV} {s0 s1 : Int} {M : Mem} {P : PMem} : evL 24 26 [l0, l1, l2, l3, l4, l5, l6, l7] [I s0, I s1, s2] (Hp M P) = cont (evM 5 [I s1, I s0] (Hp M P)) (fun r h => evL 24 29 [l0, l1, l2, l3, l4, l5, l6, l7] (rl r [s2]) h) := e_callS (av := [I s1, I s0]) (rest := [s2]) c24_26 rfl rfl rfl rfl rfl rfl
theorem c24_29 : cd 24 29 = some (29, .invokevirtual 51, 3, 80, 0, 292) := rfl
theorem s24_29 {l0 l1 l2 l3 l4 l5 l6 l7 : AV} {s0 : Int} {s1 : Nat} {M : Mem} {P : PMem} (hk : kd s1 = 6) : evL 24 29 [l0, l1, l2, l3, l4, l5, l6, l7] [I s0, Rf s1] (Hp M P) = cont (evM 80 [Rf s1, I s0] (Hp M P)) (fun r h => evL 24 32 [l0, l1, l2, l3, l4, l5, l6, l7] (rl r []) h) := e_callV (av' := [I s0]) (rest := []) (c := 6) c24_29 rfl rfl rfl rfl rfl rfl rfl hk rfl
theorem c24_32 : cd 24 32 = some (32, .istore 6, 2, 0, 0, 0) := rfl
theorem s24_32 {l0 l1 l2 l3 l4 l5 l6 l7 : AV} {s0 : Int} {h : AH} : evL 24 32 [l0, l1, l2, l3, l4, l5, l6, l7] [I s0] h = evL 24 34 [l0, l1, l2, l3, l4, l5, I s0, l7] [] h := ev_go c24_32 rfl
theorem c24_34 : cd 24 34 = some (34, .iconst 0, 1, 0, 0, 0) := rfl
theorem s24_34 {l0 l1 l2 l3 l4 l5 l6 l7 : AV} {h : AH} : evL 24 34 [l0, l1, l2, l3, l4, l5, l6, l7] [] h = evL 24 35 [l0, l1, l2, l3, l4, l5, l6, l7] [I 0] h := ev_go c24_34 rfl
theorem c24_35 : cd 24 35 = some (35, .istore 7, 2, 0, 0, 0) := rfl
theorem s24_35 {l0 l1 l2 l3 l4 l5 l6 l7 : AV} {s0 : Int} {h : AH} : evL 24 35 [l0, l1, l2, l3, l4, l5, l6, l7] [I s0] h = evL 24 37 [l0, l1, l2, l3, l4, l5, l6, I s0] [] h := ev_go c24_35 rfl
theorem c24_37 : cd 24 37 = some (37, .iload 7, 2, 0, 0, 0) := rfl
theorem s24_37 {l0 l1 l2 l3 l4 l5 l6 : AV} {l7 : Int} {h : AH} : evL 24 37 [l0, l1, l2, l3, l4, l5, l6, I l7] [] h = evL 24 39 [l0, l1, l2, l3, l4, l5, l6, I l7] [I l7] h := ev_go c24_37 rfl
theorem c24_39 : cd 24 39 = some (39, .iload 6, 2, 0, 0, 0) := rfl
theorem s24_39 {l0 l1 l2 l3 l4 l5 l7 s0 : AV} {l6 : Int} {h : AH} : evL 24 39 [l0, l1, l2, l3, l4, l5, I l6, l7] [s0] h = evL 24 41 [l0, l1, l2, l3, l4, l5, I l6, l7] [I l6, s0] h := ev_go c24_39 rfl
theorem c24_41 : cd 24 41 = some (41, .invokestatic 75, 3, 75, 0, 322) := rfl
theorem s24_41 {l0 l1 l2 l3 l4 l5 l6 l7 s1 : AV} {s0 : Int} {M : Mem} {P : PMem} : evL 24 41 [l0, l1, l2, l3, l4, l5, l6, l7] [I s0, s1] (Hp M P) = cont (evM 75 [I s0] (Hp M P)) (fun r h => evL 24 44 [l0, l1, l2, l3, l4, l5, l6, l7] (rl r [s1]) h) := e_callS (av := [I s0]) (rest := [s1]) c24_41 rfl rfl rfl rfl rfl rfl
theorem c24_44 : cd 24 44 = some (44, .if_icmp .ge 25, 3, 0, 0, 0) := rfl
theorem s24_44 {l0 l1 l2 l3 l4 l5 l6 l7 : AV} {s0 s1 : Int} {h : AH} : evL 24 44 [l0, l1, l2, l3, l4, l5, l6, l7] [I s0, I s1] h = if s0 ≤ s1 then evL 24 69 [l0, l1, l2, l3, l4, l5, l6, l7] [] h else evL 24 47 [l0, l1, l2, l3, l4, l5, l6, l7] [] h := e_icmp_ge c24_44 rfl rfl
theorem c24_47 : cd 24 47 = some (47, .aload_n 2, 1, 0, 0, 0) := rfl
theorem s24_47 {l0 l1 l3 l4 l5 l6 l7 : AV} {l2 : Option Nat} {h : AH} : evL 24 47 [l0, l1, .inr (.inl l2), l3, l4, l5, l6, l7] [] h = evL 24 48 [l0, l1, .inr (.inl l2), l3, l4, l5, l6, l7] [.inr (.inl l2)] h := ev_go c24_47 rfl
theorem c24_48 : cd 24 48 = some (48, .iload 4, 2, 0, 0, 0) := rfl
theorem s24_48 {l0 l1 l2 l3 l5 l6 l7 s0 : AV} {l4 : Int} {h : AH} : evL 24 48 [l0, l1, l2, l3, I l4, l5, l6, l7] [s0] h = evL 24 50 [l0, l1, l2, l3, I l4, l5, l6, l7] [I l4, s0] h := ev_go c24_48 rfl
theorem c24_50 : cd 24 50 = some (50, .iload 6, 2, 0, 0, 0) := rfl
theorem s24_50 {l0 l1 l2 l3 l4 l5 l7 s0 s1 : AV} {l6 : Int} {h : AH} : evL 24 50 [l0, l1, l2, l3, l4, l5, I l6, l7] [s0, s1] h = evL 24 52 [l0, l1, l2, l3, l4, l5, I l6, l7] [I l6, s0, s1] h := ev_go c24_50 rfl
theorem c24_52 : cd 24 52 = some (52, .iload 7, 2, 0, 0, 0) := rfl
theorem s24_52 {l0 l1 l2 l3 l4 l5 l6 s0 s1 s2 : AV} {l7 : Int} {h : AH} : evL 24 52 [l0, l1, l2, l3, l4, l5, l6, I l7] [s0, s1, s2] h = evL 24 54 [l0, l1, l2, l3, l4, l5, l6, I l7] [I l7, s0, s1, s2] h := ev_go c24_52 rfl
theorem c24_54 : cd 24 54 = some (54, .invokestatic 95, 3, 76, 0, 606) := rfl
theorem s24_54 {l0 l1 l2 l3 l4 l5 l6 l7 s2 s3 : AV} {s0 s1 : Int} {M : Mem} {P : PMem} : evL 24 54 [l0, l1, l2, l3, l4, l5, l6, l7] [I s0, I s1, s2, s3] (Hp M P) = cont (evM 76 [I s1, I s0] (Hp M P)) (fun r h => evL 24 57 [l0, l1, l2, l3, l4, l5, l6, l7] (rl r [s2, s3]) h) := e_callS (av := [I s1, I s0]) (rest := [s2, s3]) c24_54 rfl rfl rfl rfl rfl rfl
theorem c24_57 : cd 24 57 = some (57, .invokevirtual 65, 3, 81, 0, 579) := rfl
theorem s24_57 {l0 l1 l2 l3 l4 l5 l6 l7 : AV} {s0 s1 : Int} {s2 : Nat} {M : Mem} {P : PMem} (hk : kd s2 = 6) : evL 24 57 [l0, l1, l2, l3, l4, l5, l6, l7] [I s0, I s1, Rf s2] (Hp M P) = cont (evM 81 [Rf s2, I s1, I s0] (Hp M P)) (fun r h => evL 24 60 [l0, l1, l2, l3, l4, l5, l6, l7] (rl r []) h) := e_callV (av' := [I s1, I s0]) (rest := []) (c := 6) c24_57 rfl rfl rfl rfl rfl rfl rfl hk rfl
theorem c24_60 : cd 24 60 = some (60, .iinc 4 1, 3, 0, 0, 0) := rfl
theorem s24_60 {l0 l1 l2 l3 l5 l6 l7 : AV} {l4 : Int} {h : AH} : evL 24 60 [l0, l1, l2, l3, I l4, l5, l6, l7] [] h = evL 24 63 [l0, l1, l2, l3, I (ad l4 1), l5, l6, l7] [] h := ev_go c24_60 rfl
theorem c24_63 : cd 24 63 = some (63, .iinc 7 1, 3, 0, 0, 0) := rfl
theorem s24_63 {l0 l1 l2 l3 l4 l5 l6 : AV} {l7 : Int} {h : AH} : evL 24 63 [l0, l1, l2, l3, l4, l5, l6, I l7] [] h = evL 24 66 [l0, l1, l2, l3, l4, l5, l6, I (ad l7 1)] [] h := ev_go c24_63 rfl
theorem c24_66 : cd 24 66 = some (66, .goto (-29), 3, 0, 0, 0) := rfl
theorem s24_66 {l0 l1 l2 l3 l4 l5 l6 l7 : AV} {h : AH} : evL 24 66 [l0, l1, l2, l3, l4, l5, l6, l7] [] h = evL 24 37 [l0, l1, l2, l3, l4, l5, l6, l7] [] h := ev_go c24_66 rfl
theorem c24_69 : cd 24 69 = some (69, .iinc 5 1, 3, 0, 0, 0) := rfl
theorem s24_69 {l0 l1 l2 l3 l4 l6 l7 : AV} {l5 : Int} {h : AH} : evL 24 69 [l0, l1, l2, l3, l4, I l5, l6, l7] [] h = evL 24 72 [l0, l1, l2, l3, l4, I (ad l5 1), l6, l7] [] h := ev_go c24_69 rfl
theorem c24_72 : cd 24 72 = some (72, .goto (-66), 3, 0, 0, 0) := rfl
theorem s24_72 {l0 l1 l2 l3 l4 l5 l6 l7 : AV} {h : AH} : evL 24 72 [l0, l1, l2, l3, l4, l5, l6, l7] [] h = evL 24 6 [l0, l1, l2, l3, l4, l5, l6, l7] [] h := ev_go c24_72 rfl
theorem c24_75 : cd 24 75 = some (75, .iload 4, 2, 0, 0, 0) := rfl
theorem s24_75 {l0 l1 l2 l3 l5 l6 l7 : AV} {l4 : Int} {h : AH} : evL 24 75 [l0, l1, l2, l3, I l4, l5, l6, l7] [] h = evL 24 77 [l0, l1, l2, l3, I l4, l5, l6, l7] [I l4] h := ev_go c24_75 rfl
theorem c24_77 : cd 24 77 = some (77, .ireturn, 1, 0, 0, 0) := rfl
theorem s24_77 {l0 l1 l2 l3 l4 l5 l6 l7 : AV} {s0 : Int} {h : AH} : evL 24 77 [l0, l1, l2, l3, l4, l5, l6, l7] [I s0] h = some (some (I s0), h) := e_ret c24_77 rfl
/-! 25: TankDivers$Crew.copyFrom(LTankDivers$Crew;)V -/
theorem en25 {l0 l1 : AV} {h : AH} : evM 25 [l0, l1] h = evL 25 0 [l0, l1] [] h := rfl
theorem c25_0 : cd 25 0 = some (0, .aload_n 0, 1, 0, 0, 0) := rfl
theorem s25_0 {l1 : AV} {l0 : Option Nat} {h : AH} : evL 25 0 [.inr (.inl l0), l1] [] h = evL 25 1 [.inr (.inl l0), l1] [.inr (.inl l0)] h := ev_go c25_0 rfl
theorem c25_1 : cd 25 1 = some (1, .aload_n 1, 1, 0, 0, 0) := rfl
theorem s25_1 {l0 s0 : AV} {l1 : Option Nat} {h : AH} : evL 25 1 [l0, .inr (.inl l1)] [s0] h = evL 25 2 [l0, .inr (.inl l1)] [.inr (.inl l1), s0] h := ev_go c25_1 rfl
theorem c25_2 : cd 25 2 = some (2, .getfield 41, 3, 0, 8, 89) := rfl
theorem s25_2 {l0 l1 s1 : AV} {s0 : Nat} {M : Mem} {P : PMem} (hk : kd s0 = 0) : evL 25 2 [l0, l1] [Rf s0, s1] (Hp M P) = evL 25 5 [l0, l1] [I (M s0 8), s1] (Hp M P) := e_getI c25_2 rfl hk
theorem c25_5 : cd 25 5 = some (5, .putfield 41, 3, 0, 8, 89) := rfl
theorem s25_5 {l0 l1 : AV} {s0 : Int} {s1 : Nat} {M : Mem} {P : PMem} (hk : kd s1 = 0) : evL 25 5 [l0, l1] [I s0, Rf s1] (Hp M P) = evL 25 8 [l0, l1] [] (Hp (wr M s1 8 s0) P) := e_putI c25_5 rfl hk
theorem c25_8 : cd 25 8 = some (8, .aload_n 0, 1, 0, 0, 0) := rfl
theorem s25_8 {l1 : AV} {l0 : Option Nat} {h : AH} : evL 25 8 [.inr (.inl l0), l1] [] h = evL 25 9 [.inr (.inl l0), l1] [.inr (.inl l0)] h := ev_go c25_8 rfl
theorem c25_9 : cd 25 9 = some (9, .getfield 14, 3, 0, 0, 75) := rfl
theorem s25_9 {l0 l1 : AV} {s0 : Nat} {M : Mem} {P : PMem} (hk : kd s0 = 0) : evL 25 9 [l0, l1] [Rf s0] (Hp M P) = evL 25 12 [l0, l1] [Rf (rfd s0 0)] (Hp M P) := e_getR c25_9 rfl hk
theorem c25_12 : cd 25 12 = some (12, .aload_n 1, 1, 0, 0, 0) := rfl
theorem s25_12 {l0 s0 : AV} {l1 : Option Nat} {h : AH} : evL 25 12 [l0, .inr (.inl l1)] [s0] h = evL 25 13 [l0, .inr (.inl l1)] [.inr (.inl l1), s0] h := ev_go c25_12 rfl
theorem c25_13 : cd 25 13 = some (13, .getfield 14, 3, 0, 0, 75) := rfl
theorem s25_13 {l0 l1 s1 : AV} {s0 : Nat} {M : Mem} {P : PMem} (hk : kd s0 = 0) : evL 25 13 [l0, l1] [Rf s0, s1] (Hp M P) = evL 25 16 [l0, l1] [Rf (rfd s0 0), s1] (Hp M P) := e_getR c25_13 rfl hk
theorem c25_16 : cd 25 16 = some (16, .invokevirtual 98, 3, 85, 0, 361) := rfl
theorem s25_16 {l0 l1 : AV} {s0 s1 : Nat} {M : Mem} {P : PMem} (hk : kd s1 = 6) : evL 25 16 [l0, l1] [Rf s0, Rf s1] (Hp M P) = cont (evM 85 [Rf s1, Rf s0] (Hp M P)) (fun r h => evL 25 19 [l0, l1] (rl r []) h) := e_callV (av' := [Rf s0]) (rest := []) (c := 6) c25_16 rfl rfl rfl rfl rfl rfl rfl hk rfl
theorem c25_19 : cd 25 19 = some (19, .aload_n 0, 1, 0, 0, 0) := rfl
theorem s25_19 {l1 : AV} {l0 : Option Nat} {h : AH} : evL 25 19 [.inr (.inl l0), l1] [] h = evL 25 20 [.inr (.inl l0), l1] [.inr (.inl l0)] h := ev_go c25_19 rfl
theorem c25_20 : cd 25 20 = some (20, .getfield 20, 3, 0, 1, 77) := rfl
theorem s25_20 {l0 l1 : AV} {s0 : Nat} {M : Mem} {P : PMem} (hk : kd s0 = 0) : evL 25 20 [l0, l1] [Rf s0] (Hp M P) = evL 25 23 [l0, l1] [Rf (rfd s0 1)] (Hp M P) := e_getR c25_20 rfl hk
theorem c25_23 : cd 25 23 = some (23, .aload_n 1, 1, 0, 0, 0) := rfl
theorem s25_23 {l0 s0 : AV} {l1 : Option Nat} {h : AH} : evL 25 23 [l0, .inr (.inl l1)] [s0] h = evL 25 24 [l0, .inr (.inl l1)] [.inr (.inl l1), s0] h := ev_go c25_23 rfl
theorem c25_24 : cd 25 24 = some (24, .getfield 20, 3, 0, 1, 77) := rfl
theorem s25_24 {l0 l1 s1 : AV} {s0 : Nat} {M : Mem} {P : PMem} (hk : kd s0 = 0) : evL 25 24 [l0, l1] [Rf s0, s1] (Hp M P) = evL 25 27 [l0, l1] [Rf (rfd s0 1), s1] (Hp M P) := e_getR c25_24 rfl hk
theorem c25_27 : cd 25 27 = some (27, .invokevirtual 98, 3, 85, 0, 361) := rfl
theorem s25_27 {l0 l1 : AV} {s0 s1 : Nat} {M : Mem} {P : PMem} (hk : kd s1 = 6) : evL 25 27 [l0, l1] [Rf s0, Rf s1] (Hp M P) = cont (evM 85 [Rf s1, Rf s0] (Hp M P)) (fun r h => evL 25 30 [l0, l1] (rl r []) h) := e_callV (av' := [Rf s0]) (rest := []) (c := 6) c25_27 rfl rfl rfl rfl rfl rfl rfl hk rfl
theorem c25_30 : cd 25 30 = some (30, .aload_n 0, 1, 0, 0, 0) := rfl
theorem s25_30 {l1 : AV} {l0 : Option Nat} {h : AH} : evL 25 30 [.inr (.inl l0), l1] [] h = evL 25 31 [.inr (.inl l0), l1] [.inr (.inl l0)] h := ev_go c25_30 rfl
theorem c25_31 : cd 25 31 = some (31, .getfield 23, 3, 0, 2, 79) := rfl
theorem s25_31 {l0 l1 : AV} {s0 : Nat} {M : Mem} {P : PMem} (hk : kd s0 = 0) : evL 25 31 [l0, l1] [Rf s0] (Hp M P) = evL 25 34 [l0, l1] [Rf (rfd s0 2)] (Hp M P) := e_getR c25_31 rfl hk
theorem c25_34 : cd 25 34 = some (34, .aload_n 1, 1, 0, 0, 0) := rfl
theorem s25_34 {l0 s0 : AV} {l1 : Option Nat} {h : AH} : evL 25 34 [l0, .inr (.inl l1)] [s0] h = evL 25 35 [l0, .inr (.inl l1)] [.inr (.inl l1), s0] h := ev_go c25_34 rfl
theorem c25_35 : cd 25 35 = some (35, .getfield 23, 3, 0, 2, 79) := rfl
theorem s25_35 {l0 l1 s1 : AV} {s0 : Nat} {M : Mem} {P : PMem} (hk : kd s0 = 0) : evL 25 35 [l0, l1] [Rf s0, s1] (Hp M P) = evL 25 38 [l0, l1] [Rf (rfd s0 2), s1] (Hp M P) := e_getR c25_35 rfl hk
theorem c25_38 : cd 25 38 = some (38, .invokevirtual 98, 3, 85, 0, 361) := rfl
theorem s25_38 {l0 l1 : AV} {s0 s1 : Nat} {M : Mem} {P : PMem} (hk : kd s1 = 6) : evL 25 38 [l0, l1] [Rf s0, Rf s1] (Hp M P) = cont (evM 85 [Rf s1, Rf s0] (Hp M P)) (fun r h => evL 25 41 [l0, l1] (rl r []) h) := e_callV (av' := [Rf s0]) (rest := []) (c := 6) c25_38 rfl rfl rfl rfl rfl rfl rfl hk rfl
theorem c25_41 : cd 25 41 = some (41, .aload_n 0, 1, 0, 0, 0) := rfl
theorem s25_41 {l1 : AV} {l0 : Option Nat} {h : AH} : evL 25 41 [.inr (.inl l0), l1] [] h = evL 25 42 [.inr (.inl l0), l1] [.inr (.inl l0)] h := ev_go c25_41 rfl
theorem c25_42 : cd 25 42 = some (42, .getfield 26, 3, 0, 3, 81) := rfl
theorem s25_42 {l0 l1 : AV} {s0 : Nat} {M : Mem} {P : PMem} (hk : kd s0 = 0) : evL 25 42 [l0, l1] [Rf s0] (Hp M P) = evL 25 45 [l0, l1] [Rf (rfd s0 3)] (Hp M P) := e_getR c25_42 rfl hk
theorem c25_45 : cd 25 45 = some (45, .aload_n 1, 1, 0, 0, 0) := rfl
theorem s25_45 {l0 s0 : AV} {l1 : Option Nat} {h : AH} : evL 25 45 [l0, .inr (.inl l1)] [s0] h = evL 25 46 [l0, .inr (.inl l1)] [.inr (.inl l1), s0] h := ev_go c25_45 rfl
theorem c25_46 : cd 25 46 = some (46, .getfield 26, 3, 0, 3, 81) := rfl
theorem s25_46 {l0 l1 s1 : AV} {s0 : Nat} {M : Mem} {P : PMem} (hk : kd s0 = 0) : evL 25 46 [l0, l1] [Rf s0, s1] (Hp M P) = evL 25 49 [l0, l1] [Rf (rfd s0 3), s1] (Hp M P) := e_getR c25_46 rfl hk
theorem c25_49 : cd 25 49 = some (49, .invokevirtual 98, 3, 85, 0, 361) := rfl
theorem s25_49 {l0 l1 : AV} {s0 s1 : Nat} {M : Mem} {P : PMem} (hk : kd s1 = 6) : evL 25 49 [l0, l1] [Rf s0, Rf s1] (Hp M P) = cont (evM 85 [Rf s1, Rf s0] (Hp M P)) (fun r h => evL 25 52 [l0, l1] (rl r []) h) := e_callV (av' := [Rf s0]) (rest := []) (c := 6) c25_49 rfl rfl rfl rfl rfl rfl rfl hk rfl
theorem c25_52 : cd 25 52 = some (52, .aload_n 0, 1, 0, 0, 0) := rfl
theorem s25_52 {l1 : AV} {l0 : Option Nat} {h : AH} : evL 25 52 [.inr (.inl l0), l1] [] h = evL 25 53 [.inr (.inl l0), l1] [.inr (.inl l0)] h := ev_go c25_52 rfl
theorem c25_53 : cd 25 53 = some (53, .getfield 29, 3, 0, 4, 84) := rfl
theorem s25_53 {l0 l1 : AV} {s0 : Nat} {M : Mem} {P : PMem} (hk : kd s0 = 0) : evL 25 53 [l0, l1] [Rf s0] (Hp M P) = evL 25 56 [l0, l1] [Rf (rfd s0 4)] (Hp M P) := e_getR c25_53 rfl hk
theorem c25_56 : cd 25 56 = some (56, .aload_n 1, 1, 0, 0, 0) := rfl
theorem s25_56 {l0 s0 : AV} {l1 : Option Nat} {h : AH} : evL 25 56 [l0, .inr (.inl l1)] [s0] h = evL 25 57 [l0, .inr (.inl l1)] [.inr (.inl l1), s0] h := ev_go c25_56 rfl
theorem c25_57 : cd 25 57 = some (57, .getfield 29, 3, 0, 4, 84) := rfl
theorem s25_57 {l0 l1 s1 : AV} {s0 : Nat} {M : Mem} {P : PMem} (hk : kd s0 = 0) : evL 25 57 [l0, l1] [Rf s0, s1] (Hp M P) = evL 25 60 [l0, l1] [Rf (rfd s0 4), s1] (Hp M P) := e_getR c25_57 rfl hk
theorem c25_60 : cd 25 60 = some (60, .invokevirtual 98, 3, 85, 0, 361) := rfl
theorem s25_60 {l0 l1 : AV} {s0 s1 : Nat} {M : Mem} {P : PMem} (hk : kd s1 = 6) : evL 25 60 [l0, l1] [Rf s0, Rf s1] (Hp M P) = cont (evM 85 [Rf s1, Rf s0] (Hp M P)) (fun r h => evL 25 63 [l0, l1] (rl r []) h) := e_callV (av' := [Rf s0]) (rest := []) (c := 6) c25_60 rfl rfl rfl rfl rfl rfl rfl hk rfl
theorem c25_63 : cd 25 63 = some (63, .aload_n 0, 1, 0, 0, 0) := rfl
theorem s25_63 {l1 : AV} {l0 : Option Nat} {h : AH} : evL 25 63 [.inr (.inl l0), l1] [] h = evL 25 64 [.inr (.inl l0), l1] [.inr (.inl l0)] h := ev_go c25_63 rfl
theorem c25_64 : cd 25 64 = some (64, .getfield 32, 3, 0, 5, 85) := rfl
theorem s25_64 {l0 l1 : AV} {s0 : Nat} {M : Mem} {P : PMem} (hk : kd s0 = 0) : evL 25 64 [l0, l1] [Rf s0] (Hp M P) = evL 25 67 [l0, l1] [Rf (rfd s0 5)] (Hp M P) := e_getR c25_64 rfl hk
theorem c25_67 : cd 25 67 = some (67, .aload_n 1, 1, 0, 0, 0) := rfl
theorem s25_67 {l0 s0 : AV} {l1 : Option Nat} {h : AH} : evL 25 67 [l0, .inr (.inl l1)] [s0] h = evL 25 68 [l0, .inr (.inl l1)] [.inr (.inl l1), s0] h := ev_go c25_67 rfl
theorem c25_68 : cd 25 68 = some (68, .getfield 32, 3, 0, 5, 85) := rfl
theorem s25_68 {l0 l1 s1 : AV} {s0 : Nat} {M : Mem} {P : PMem} (hk : kd s0 = 0) : evL 25 68 [l0, l1] [Rf s0, s1] (Hp M P) = evL 25 71 [l0, l1] [Rf (rfd s0 5), s1] (Hp M P) := e_getR c25_68 rfl hk
theorem c25_71 : cd 25 71 = some (71, .invokevirtual 98, 3, 85, 0, 361) := rfl
theorem s25_71 {l0 l1 : AV} {s0 s1 : Nat} {M : Mem} {P : PMem} (hk : kd s1 = 6) : evL 25 71 [l0, l1] [Rf s0, Rf s1] (Hp M P) = cont (evM 85 [Rf s1, Rf s0] (Hp M P)) (fun r h => evL 25 74 [l0, l1] (rl r []) h) := e_callV (av' := [Rf s0]) (rest := []) (c := 6) c25_71 rfl rfl rfl rfl rfl rfl rfl hk rfl
theorem c25_74 : cd 25 74 = some (74, .aload_n 0, 1, 0, 0, 0) := rfl
theorem s25_74 {l1 : AV} {l0 : Option Nat} {h : AH} : evL 25 74 [.inr (.inl l0), l1] [] h = evL 25 75 [.inr (.inl l0), l1] [.inr (.inl l0)] h := ev_go c25_74 rfl
theorem c25_75 : cd 25 75 = some (75, .getfield 35, 3, 0, 6, 86) := rfl
theorem s25_75 {l0 l1 : AV} {s0 : Nat} {M : Mem} {P : PMem} (hk : kd s0 = 0) : evL 25 75 [l0, l1] [Rf s0] (Hp M P) = evL 25 78 [l0, l1] [Rf (rfd s0 6)] (Hp M P) := e_getR c25_75 rfl hk
theorem c25_78 : cd 25 78 = some (78, .aload_n 1, 1, 0, 0, 0) := rfl
theorem s25_78 {l0 s0 : AV} {l1 : Option Nat} {h : AH} : evL 25 78 [l0, .inr (.inl l1)] [s0] h = evL 25 79 [l0, .inr (.inl l1)] [.inr (.inl l1), s0] h := ev_go c25_78 rfl
theorem c25_79 : cd 25 79 = some (79, .getfield 35, 3, 0, 6, 86) := rfl
theorem s25_79 {l0 l1 s1 : AV} {s0 : Nat} {M : Mem} {P : PMem} (hk : kd s0 = 0) : evL 25 79 [l0, l1] [Rf s0, s1] (Hp M P) = evL 25 82 [l0, l1] [Rf (rfd s0 6), s1] (Hp M P) := e_getR c25_79 rfl hk
theorem c25_82 : cd 25 82 = some (82, .invokevirtual 98, 3, 85, 0, 361) := rfl
theorem s25_82 {l0 l1 : AV} {s0 s1 : Nat} {M : Mem} {P : PMem} (hk : kd s1 = 6) : evL 25 82 [l0, l1] [Rf s0, Rf s1] (Hp M P) = cont (evM 85 [Rf s1, Rf s0] (Hp M P)) (fun r h => evL 25 85 [l0, l1] (rl r []) h) := e_callV (av' := [Rf s0]) (rest := []) (c := 6) c25_82 rfl rfl rfl rfl rfl rfl rfl hk rfl
theorem c25_85 : cd 25 85 = some (85, .aload_n 0, 1, 0, 0, 0) := rfl
theorem s25_85 {l1 : AV} {l0 : Option Nat} {h : AH} : evL 25 85 [.inr (.inl l0), l1] [] h = evL 25 86 [.inr (.inl l0), l1] [.inr (.inl l0)] h := ev_go c25_85 rfl
theorem c25_86 : cd 25 86 = some (86, .getfield 38, 3, 0, 7, 88) := rfl
theorem s25_86 {l0 l1 : AV} {s0 : Nat} {M : Mem} {P : PMem} (hk : kd s0 = 0) : evL 25 86 [l0, l1] [Rf s0] (Hp M P) = evL 25 89 [l0, l1] [Rf (rfd s0 7)] (Hp M P) := e_getR c25_86 rfl hk
theorem c25_89 : cd 25 89 = some (89, .aload_n 1, 1, 0, 0, 0) := rfl
theorem s25_89 {l0 s0 : AV} {l1 : Option Nat} {h : AH} : evL 25 89 [l0, .inr (.inl l1)] [s0] h = evL 25 90 [l0, .inr (.inl l1)] [.inr (.inl l1), s0] h := ev_go c25_89 rfl
theorem c25_90 : cd 25 90 = some (90, .getfield 38, 3, 0, 7, 88) := rfl
theorem s25_90 {l0 l1 s1 : AV} {s0 : Nat} {M : Mem} {P : PMem} (hk : kd s0 = 0) : evL 25 90 [l0, l1] [Rf s0, s1] (Hp M P) = evL 25 93 [l0, l1] [Rf (rfd s0 7), s1] (Hp M P) := e_getR c25_90 rfl hk
theorem c25_93 : cd 25 93 = some (93, .invokevirtual 98, 3, 85, 0, 361) := rfl
theorem s25_93 {l0 l1 : AV} {s0 s1 : Nat} {M : Mem} {P : PMem} (hk : kd s1 = 6) : evL 25 93 [l0, l1] [Rf s0, Rf s1] (Hp M P) = cont (evM 85 [Rf s1, Rf s0] (Hp M P)) (fun r h => evL 25 96 [l0, l1] (rl r []) h) := e_callV (av' := [Rf s0]) (rest := []) (c := 6) c25_93 rfl rfl rfl rfl rfl rfl rfl hk rfl
theorem c25_96 : cd 25 96 = some (96, .return_, 1, 0, 0, 0) := rfl
theorem s25_96 {l0 l1 : AV} {h : AH} : evL 25 96 [l0, l1] [] h = some (none, h) := e_ret c25_96 rfl
