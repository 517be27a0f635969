/-! ===== equations, on ===== -/
/-! 27: TankDivers$Game.deal(II)V -/
theorem en27 {l0 l1 l2 : AV} {h : AH} : evM 27 [l0, l1, l2] h = evL 27 0 [l0, l1, l2, Db 0] [] h := rfl
theorem c27_0 : cd 27 0 = some (0, .aload_n 0, 1, 0, 0, 0) := rfl
theorem s27_0 {l1 l2 l3 : AV} {l0 : Option Nat} {h : AH} : evL 27 0 [.inr (.inl l0), l1, l2, l3] [] h = evL 27 1 [.inr (.inl l0), l1, l2, l3] [.inr (.inl l0)] h := ev_go c27_0 rfl
theorem c27_1 : cd 27 1 = some (1, .iload_n 2, 1, 0, 0, 0) := rfl
theorem s27_1 {l0 l1 l3 s0 : AV} {l2 : Int} {h : AH} : evL 27 1 [l0, l1, I l2, l3] [s0] h = evL 27 2 [l0, l1, I l2, l3] [I l2, s0] h := ev_go c27_1 rfl
theorem c27_2 : cd 27 2 = some (2, .putfield 34, 3, 1, 3, 118) := rfl
theorem s27_2 {l0 l1 l2 l3 : AV} {s0 : Int} {s1 : Nat} {M : Mem} {P : PMem} (hk : kd s1 = 1) : evL 27 2 [l0, l1, l2, l3] [I s0, Rf s1] (Hp M P) = evL 27 5 [l0, l1, l2, l3] [] (Hp (wr M s1 3 s0) P) := e_putI c27_2 rfl hk
theorem c27_5 : cd 27 5 = some (5, .aload_n 0, 1, 0, 0, 0) := rfl
theorem s27_5 {l1 l2 l3 : AV} {l0 : Option Nat} {h : AH} : evL 27 5 [.inr (.inl l0), l1, l2, l3] [] h = evL 27 6 [.inr (.inl l0), l1, l2, l3] [.inr (.inl l0)] h := ev_go c27_5 rfl
theorem c27_6 : cd 27 6 = some (6, .getfield 12, 3, 1, 0, 112) := rfl
theorem s27_6 {l0 l1 l2 l3 : AV} {s0 : Nat} {M : Mem} {P : PMem} (hk : kd s0 = 1) : evL 27 6 [l0, l1, l2, l3] [Rf s0] (Hp M P) = evL 27 9 [l0, l1, l2, l3] [Rf (rfd s0 0)] (Hp M P) := e_getR c27_6 rfl hk
theorem c27_9 : cd 27 9 = some (9, .iconst 0, 1, 0, 0, 0) := rfl
theorem s27_9 {l0 l1 l2 l3 s0 : AV} {h : AH} : evL 27 9 [l0, l1, l2, l3] [s0] h = evL 27 10 [l0, l1, l2, l3] [I 0, s0] h := ev_go c27_9 rfl
theorem c27_10 : cd 27 10 = some (10, .putfield 38, 3, 5, 1, 58) := rfl
theorem s27_10 {l0 l1 l2 l3 : AV} {s0 : Int} {s1 : Nat} {M : Mem} {P : PMem} (hk : kd s1 = 5) : evL 27 10 [l0, l1, l2, l3] [I s0, Rf s1] (Hp M P) = evL 27 13 [l0, l1, l2, l3] [] (Hp (wr M s1 1 s0) P) := e_putI c27_10 rfl hk
theorem c27_13 : cd 27 13 = some (13, .iconst 1, 1, 0, 0, 0) := rfl
theorem s27_13 {l0 l1 l2 l3 : AV} {h : AH} : evL 27 13 [l0, l1, l2, l3] [] h = evL 27 14 [l0, l1, l2, l3] [I 1] h := ev_go c27_13 rfl
theorem c27_14 : cd 27 14 = some (14, .istore_n 3, 1, 0, 0, 0) := rfl
theorem s27_14 {l0 l1 l2 l3 : AV} {s0 : Int} {h : AH} : evL 27 14 [l0, l1, l2, l3] [I s0] h = evL 27 15 [l0, l1, l2, I s0] [] h := ev_go c27_14 rfl
theorem c27_15 : cd 27 15 = some (15, .iload_n 3, 1, 0, 0, 0) := rfl
theorem s27_15 {l0 l1 l2 : AV} {l3 : Int} {h : AH} : evL 27 15 [l0, l1, l2, I l3] [] h = evL 27 16 [l0, l1, l2, I l3] [I l3] h := ev_go c27_15 rfl
theorem c27_16 : cd 27 16 = some (16, .bipush 16, 2, 0, 0, 0) := rfl
theorem s27_16 {l0 l1 l2 l3 s0 : AV} {h : AH} : evL 27 16 [l0, l1, l2, l3] [s0] h = evL 27 18 [l0, l1, l2, l3] [I 16, s0] h := ev_go c27_16 rfl
theorem c27_18 : cd 27 18 = some (18, .if_icmp .gt 38, 3, 0, 0, 0) := rfl
theorem s27_18 {l0 l1 l2 l3 : AV} {s0 s1 : Int} {h : AH} : evL 27 18 [l0, l1, l2, l3] [I s0, I s1] h = if s0 < s1 then evL 27 56 [l0, l1, l2, l3] [] h else evL 27 21 [l0, l1, l2, l3] [] h := e_icmp_gt c27_18 rfl rfl
theorem c27_21 : cd 27 21 = some (21, .aload_n 0, 1, 0, 0, 0) := rfl
theorem s27_21 {l1 l2 l3 : AV} {l0 : Option Nat} {h : AH} : evL 27 21 [.inr (.inl l0), l1, l2, l3] [] h = evL 27 22 [.inr (.inl l0), l1, l2, l3] [.inr (.inl l0)] h := ev_go c27_21 rfl
theorem c27_22 : cd 27 22 = some (22, .invokevirtual 41, 3, 28, 0, 203) := rfl
theorem s27_22 {l0 l1 l2 l3 : AV} {s0 : Nat} {M : Mem} {P : PMem} (hk : kd s0 = 1) : evL 27 22 [l0, l1, l2, l3] [Rf s0] (Hp M P) = cont (evM 28 [Rf s0] (Hp M P)) (fun r h => evL 27 25 [l0, l1, l2, l3] (rl r []) h) := e_callV (av' := []) (rest := []) (c := 1) c27_22 rfl rfl rfl rfl rfl rfl rfl hk rfl
theorem c27_25 : cd 27 25 = some (25, .aload_n 0, 1, 0, 0, 0) := rfl
theorem s27_25 {l1 l2 l3 : AV} {l0 : Option Nat} {h : AH} : evL 27 25 [.inr (.inl l0), l1, l2, l3] [] h = evL 27 26 [.inr (.inl l0), l1, l2, l3] [.inr (.inl l0)] h := ev_go c27_25 rfl
theorem c27_26 : cd 27 26 = some (26, .getfield 12, 3, 1, 0, 112) := rfl
theorem s27_26 {l0 l1 l2 l3 : AV} {s0 : Nat} {M : Mem} {P : PMem} (hk : kd s0 = 1) : evL 27 26 [l0, l1, l2, l3] [Rf s0] (Hp M P) = evL 27 29 [l0, l1, l2, l3] [Rf (rfd s0 0)] (Hp M P) := e_getR c27_26 rfl hk
theorem c27_29 : cd 27 29 = some (29, .iconst 0, 1, 0, 0, 0) := rfl
theorem s27_29 {l0 l1 l2 l3 s0 : AV} {h : AH} : evL 27 29 [l0, l1, l2, l3] [s0] h = evL 27 30 [l0, l1, l2, l3] [I 0, s0] h := ev_go c27_29 rfl
theorem c27_30 : cd 27 30 = some (30, .iload_n 3, 1, 0, 0, 0) := rfl
theorem s27_30 {l0 l1 l2 s0 s1 : AV} {l3 : Int} {h : AH} : evL 27 30 [l0, l1, l2, I l3] [s0, s1] h = evL 27 31 [l0, l1, l2, I l3] [I l3, s0, s1] h := ev_go c27_30 rfl
theorem c27_31 : cd 27 31 = some (31, .iconst 1, 1, 0, 0, 0) := rfl
theorem s27_31 {l0 l1 l2 l3 s0 s1 s2 : AV} {h : AH} : evL 27 31 [l0, l1, l2, l3] [s0, s1, s2] h = evL 27 32 [l0, l1, l2, l3] [I 1, s0, s1, s2] h := ev_go c27_31 rfl
theorem c27_32 : cd 27 32 = some (32, .isub, 1, 0, 0, 0) := rfl
theorem s27_32 {l0 l1 l2 l3 s2 s3 : AV} {s0 s1 : Int} {h : AH} : evL 27 32 [l0, l1, l2, l3] [I s0, I s1, s2, s3] h = evL 27 33 [l0, l1, l2, l3] [I (sb s1 s0), s2, s3] h := ev_go c27_32 rfl
theorem c27_33 : cd 27 33 = some (33, .iconst 4, 1, 0, 0, 0) := rfl
theorem s27_33 {l0 l1 l2 l3 s0 s1 s2 : AV} {h : AH} : evL 27 33 [l0, l1, l2, l3] [s0, s1, s2] h = evL 27 34 [l0, l1, l2, l3] [I 4, s0, s1, s2] h := ev_go c27_33 rfl
theorem c27_34 : cd 27 34 = some (34, .idiv, 1, 0, 0, 0) := rfl
theorem s27_34 {l0 l1 l2 l3 s2 s3 : AV} {s0 s1 : Int} {h : AH} (hd : s0 ≠ 0) : evL 27 34 [l0, l1, l2, l3] [I s0, I s1, s2, s3] h = evL 27 35 [l0, l1, l2, l3] [I (dv s1 s0), s2, s3] h := ev_go c27_34 (if_pos hd)
theorem c27_35 : cd 27 35 = some (35, .iconst 4, 1, 0, 0, 0) := rfl
theorem s27_35 {l0 l1 l2 l3 s0 s1 s2 : AV} {h : AH} : evL 27 35 [l0, l1, l2, l3] [s0, s1, s2] h = evL 27 36 [l0, l1, l2, l3] [I 4, s0, s1, s2] h := ev_go c27_35 rfl
theorem c27_36 : cd 27 36 = some (36, .imul, 1, 0, 0, 0) := rfl
theorem s27_36 {l0 l1 l2 l3 s2 s3 : AV} {s0 s1 : Int} {h : AH} : evL 27 36 [l0, l1, l2, l3] [I s0, I s1, s2, s3] h = evL 27 37 [l0, l1, l2, l3] [I (ml s1 s0), s2, s3] h := ev_go c27_36 rfl
theorem c27_37 : cd 27 37 = some (37, .aload_n 0, 1, 0, 0, 0) := rfl
theorem s27_37 {l1 l2 l3 s0 s1 s2 : AV} {l0 : Option Nat} {h : AH} : evL 27 37 [.inr (.inl l0), l1, l2, l3] [s0, s1, s2] h = evL 27 38 [.inr (.inl l0), l1, l2, l3] [.inr (.inl l0), s0, s1, s2] h := ev_go c27_37 rfl
theorem c27_38 : cd 27 38 = some (38, .getfield 34, 3, 1, 3, 118) := rfl
theorem s27_38 {l0 l1 l2 l3 s1 s2 s3 : AV} {s0 : Nat} {M : Mem} {P : PMem} (hk : kd s0 = 1) : evL 27 38 [l0, l1, l2, l3] [Rf s0, s1, s2, s3] (Hp M P) = evL 27 41 [l0, l1, l2, l3] [I (M s0 3), s1, s2, s3] (Hp M P) := e_getI c27_38 rfl hk
theorem c27_41 : cd 27 41 = some (41, .iconst 4, 1, 0, 0, 0) := rfl
theorem s27_41 {l0 l1 l2 l3 s0 s1 s2 s3 : AV} {h : AH} : evL 27 41 [l0, l1, l2, l3] [s0, s1, s2, s3] h = evL 27 42 [l0, l1, l2, l3] [I 4, s0, s1, s2, s3] h := ev_go c27_41 rfl
theorem c27_42 : cd 27 42 = some (42, .irem, 1, 0, 0, 0) := rfl
theorem s27_42 {l0 l1 l2 l3 s2 s3 s4 : AV} {s0 s1 : Int} {h : AH} (hd : s0 ≠ 0) : evL 27 42 [l0, l1, l2, l3] [I s0, I s1, s2, s3, s4] h = evL 27 43 [l0, l1, l2, l3] [I (rm s1 s0), s2, s3, s4] h := ev_go c27_42 (if_pos hd)
theorem c27_43 : cd 27 43 = some (43, .iadd, 1, 0, 0, 0) := rfl
theorem s27_43 {l0 l1 l2 l3 s2 s3 : AV} {s0 s1 : Int} {h : AH} : evL 27 43 [l0, l1, l2, l3] [I s0, I s1, s2, s3] h = evL 27 44 [l0, l1, l2, l3] [I (ad s1 s0), s2, s3] h := ev_go c27_43 rfl
theorem c27_44 : cd 27 44 = some (44, .invokestatic 46, 3, 78, 0, 207) := rfl
theorem s27_44 {l0 l1 l2 l3 s2 : AV} {s0 s1 : Int} {M : Mem} {P : PMem} : evL 27 44 [l0, l1, l2, l3] [I s0, I s1, s2] (Hp M P) = cont (evM 78 [I s1, I s0] (Hp M P)) (fun r h => evL 27 47 [l0, l1, l2, l3] (rl r [s2]) h) := e_callS (av := [I s1, I s0]) (rest := [s2]) c27_44 rfl rfl rfl rfl rfl rfl
theorem c27_47 : cd 27 47 = some (47, .invokevirtual 50, 3, 68, 0, 213) := rfl
theorem s27_47 {l0 l1 l2 l3 : AV} {s0 : Int} {s1 : Nat} {M : Mem} {P : PMem} (hk : kd s1 = 5) : evL 27 47 [l0, l1, l2, l3] [I s0, Rf s1] (Hp M P) = cont (evM 68 [Rf s1, I s0] (Hp M P)) (fun r h => evL 27 50 [l0, l1, l2, l3] (rl r []) h) := e_callV (av' := [I s0]) (rest := []) (c := 5) c27_47 rfl rfl rfl rfl rfl rfl rfl hk rfl
theorem c27_50 : cd 27 50 = some (50, .iinc 3 1, 3, 0, 0, 0) := rfl
theorem s27_50 {l0 l1 l2 : AV} {l3 : Int} {h : AH} : evL 27 50 [l0, l1, l2, I l3] [] h = evL 27 53 [l0, l1, l2, I (ad l3 1)] [] h := ev_go c27_50 rfl
theorem c27_53 : cd 27 53 = some (53, .goto (-38), 3, 0, 0, 0) := rfl
theorem s27_53 {l0 l1 l2 l3 : AV} {h : AH} : evL 27 53 [l0, l1, l2, l3] [] h = evL 27 15 [l0, l1, l2, l3] [] h := ev_go c27_53 rfl
theorem c27_56 : cd 27 56 = some (56, .aload_n 0, 1, 0, 0, 0) := rfl
theorem s27_56 {l1 l2 l3 : AV} {l0 : Option Nat} {h : AH} : evL 27 56 [.inr (.inl l0), l1, l2, l3] [] h = evL 27 57 [.inr (.inl l0), l1, l2, l3] [.inr (.inl l0)] h := ev_go c27_56 rfl
theorem c27_57 : cd 27 57 = some (57, .getfield 21, 3, 1, 1, 115) := rfl
theorem s27_57 {l0 l1 l2 l3 : AV} {s0 : Nat} {M : Mem} {P : PMem} (hk : kd s0 = 1) : evL 27 57 [l0, l1, l2, l3] [Rf s0] (Hp M P) = evL 27 60 [l0, l1, l2, l3] [Rf (rfd s0 1)] (Hp M P) := e_getR c27_57 rfl hk
theorem c27_60 : cd 27 60 = some (60, .iload_n 1, 1, 0, 0, 0) := rfl
theorem s27_60 {l0 l2 l3 s0 : AV} {l1 : Int} {h : AH} : evL 27 60 [l0, I l1, l2, l3] [s0] h = evL 27 61 [l0, I l1, l2, l3] [I l1, s0] h := ev_go c27_60 rfl
theorem c27_61 : cd 27 61 = some (61, .invokevirtual 53, 3, 2, 0, 221) := rfl
theorem s27_61 {l0 l1 l2 l3 : AV} {s0 : Int} {s1 : Nat} {M : Mem} {P : PMem} (hk : kd s1 = 0) : evL 27 61 [l0, l1, l2, l3] [I s0, Rf s1] (Hp M P) = cont (evM 2 [Rf s1, I s0] (Hp M P)) (fun r h => evL 27 64 [l0, l1, l2, l3] (rl r []) h) := e_callV (av' := [I s0]) (rest := []) (c := 0) c27_61 rfl rfl rfl rfl rfl rfl rfl hk rfl
theorem c27_64 : cd 27 64 = some (64, .aload_n 0, 1, 0, 0, 0) := rfl
theorem s27_64 {l1 l2 l3 : AV} {l0 : Option Nat} {h : AH} : evL 27 64 [.inr (.inl l0), l1, l2, l3] [] h = evL 27 65 [.inr (.inl l0), l1, l2, l3] [.inr (.inl l0)] h := ev_go c27_64 rfl
theorem c27_65 : cd 27 65 = some (65, .iconst 0, 1, 0, 0, 0) := rfl
theorem s27_65 {l0 l1 l2 l3 s0 : AV} {h : AH} : evL 27 65 [l0, l1, l2, l3] [s0] h = evL 27 66 [l0, l1, l2, l3] [I 0, s0] h := ev_go c27_65 rfl
theorem c27_66 : cd 27 66 = some (66, .putfield 56, 3, 1, 4, 120) := rfl
theorem s27_66 {l0 l1 l2 l3 : AV} {s0 : Int} {s1 : Nat} {M : Mem} {P : PMem} (hk : kd s1 = 1) : evL 27 66 [l0, l1, l2, l3] [I s0, Rf s1] (Hp M P) = evL 27 69 [l0, l1, l2, l3] [] (Hp (wr M s1 4 s0) P) := e_putI c27_66 rfl hk
theorem c27_69 : cd 27 69 = some (69, .aload_n 0, 1, 0, 0, 0) := rfl
theorem s27_69 {l1 l2 l3 : AV} {l0 : Option Nat} {h : AH} : evL 27 69 [.inr (.inl l0), l1, l2, l3] [] h = evL 27 70 [.inr (.inl l0), l1, l2, l3] [.inr (.inl l0)] h := ev_go c27_69 rfl
theorem c27_70 : cd 27 70 = some (70, .iconst 0, 1, 0, 0, 0) := rfl
theorem s27_70 {l0 l1 l2 l3 s0 : AV} {h : AH} : evL 27 70 [l0, l1, l2, l3] [s0] h = evL 27 71 [l0, l1, l2, l3] [I 0, s0] h := ev_go c27_70 rfl
theorem c27_71 : cd 27 71 = some (71, .putfield 59, 3, 1, 5, 122) := rfl
theorem s27_71 {l0 l1 l2 l3 : AV} {s0 : Int} {s1 : Nat} {M : Mem} {P : PMem} (hk : kd s1 = 1) : evL 27 71 [l0, l1, l2, l3] [I s0, Rf s1] (Hp M P) = evL 27 74 [l0, l1, l2, l3] [] (Hp (wr M s1 5 s0) P) := e_putI c27_71 rfl hk
theorem c27_74 : cd 27 74 = some (74, .aload_n 0, 1, 0, 0, 0) := rfl
theorem s27_74 {l1 l2 l3 : AV} {l0 : Option Nat} {h : AH} : evL 27 74 [.inr (.inl l0), l1, l2, l3] [] h = evL 27 75 [.inr (.inl l0), l1, l2, l3] [.inr (.inl l0)] h := ev_go c27_74 rfl
theorem c27_75 : cd 27 75 = some (75, .iconst 0, 1, 0, 0, 0) := rfl
theorem s27_75 {l0 l1 l2 l3 s0 : AV} {h : AH} : evL 27 75 [l0, l1, l2, l3] [s0] h = evL 27 76 [l0, l1, l2, l3] [I 0, s0] h := ev_go c27_75 rfl
theorem c27_76 : cd 27 76 = some (76, .putfield 62, 3, 1, 6, 124) := rfl
theorem s27_76 {l0 l1 l2 l3 : AV} {s0 : Int} {s1 : Nat} {M : Mem} {P : PMem} (hk : kd s1 = 1) (hz : s0 = 0 ∨ s0 = 1) : evL 27 76 [l0, l1, l2, l3] [I s0, Rf s1] (Hp M P) = evL 27 79 [l0, l1, l2, l3] [] (Hp (wr M s1 6 s0) P) := e_putZ c27_76 rfl hk hz
theorem c27_79 : cd 27 79 = some (79, .aload_n 0, 1, 0, 0, 0) := rfl
theorem s27_79 {l1 l2 l3 : AV} {l0 : Option Nat} {h : AH} : evL 27 79 [.inr (.inl l0), l1, l2, l3] [] h = evL 27 80 [.inr (.inl l0), l1, l2, l3] [.inr (.inl l0)] h := ev_go c27_79 rfl
theorem c27_80 : cd 27 80 = some (80, .bipush 25, 2, 0, 0, 0) := rfl
theorem s27_80 {l0 l1 l2 l3 s0 : AV} {h : AH} : evL 27 80 [l0, l1, l2, l3] [s0] h = evL 27 82 [l0, l1, l2, l3] [I 25, s0] h := ev_go c27_80 rfl
theorem c27_82 : cd 27 82 = some (82, .putfield 66, 3, 1, 7, 126) := rfl
theorem s27_82 {l0 l1 l2 l3 : AV} {s0 : Int} {s1 : Nat} {M : Mem} {P : PMem} (hk : kd s1 = 1) : evL 27 82 [l0, l1, l2, l3] [I s0, Rf s1] (Hp M P) = evL 27 85 [l0, l1, l2, l3] [] (Hp (wr M s1 7 s0) P) := e_putI c27_82 rfl hk
theorem c27_85 : cd 27 85 = some (85, .aload_n 0, 1, 0, 0, 0) := rfl
theorem s27_85 {l1 l2 l3 : AV} {l0 : Option Nat} {h : AH} : evL 27 85 [.inr (.inl l0), l1, l2, l3] [] h = evL 27 86 [.inr (.inl l0), l1, l2, l3] [.inr (.inl l0)] h := ev_go c27_85 rfl
theorem c27_86 : cd 27 86 = some (86, .iconst 0, 1, 0, 0, 0) := rfl
theorem s27_86 {l0 l1 l2 l3 s0 : AV} {h : AH} : evL 27 86 [l0, l1, l2, l3] [s0] h = evL 27 87 [l0, l1, l2, l3] [I 0, s0] h := ev_go c27_86 rfl
theorem c27_87 : cd 27 87 = some (87, .putfield 69, 3, 1, 8, 128) := rfl
theorem s27_87 {l0 l1 l2 l3 : AV} {s0 : Int} {s1 : Nat} {M : Mem} {P : PMem} (hk : kd s1 = 1) : evL 27 87 [l0, l1, l2, l3] [I s0, Rf s1] (Hp M P) = evL 27 90 [l0, l1, l2, l3] [] (Hp (wr M s1 8 s0) P) := e_putI c27_87 rfl hk
theorem c27_90 : cd 27 90 = some (90, .return_, 1, 0, 0, 0) := rfl
theorem s27_90 {l0 l1 l2 l3 : AV} {h : AH} : evL 27 90 [l0, l1, l2, l3] [] h = some (none, h) := e_ret c27_90 rfl
/-! 28: TankDivers$Game.drawLot()V -/
theorem en28 {l0 : AV} {h : AH} : evM 28 [l0] h = evL 28 0 [l0] [] h := rfl
theorem c28_0 : cd 28 0 = some (0, .aload_n 0, 1, 0, 0, 0) := rfl
theorem s28_0 {l0 : Option Nat} {h : AH} : evL 28 0 [.inr (.inl l0)] [] h = evL 28 1 [.inr (.inl l0)] [.inr (.inl l0)] h := ev_go c28_0 rfl
theorem c28_1 : cd 28 1 = some (1, .sipush 421, 3, 0, 0, 0) := rfl
theorem s28_1 {l0 s0 : AV} {h : AH} : evL 28 1 [l0] [s0] h = evL 28 4 [l0] [I 421, s0] h := ev_go c28_1 rfl
theorem c28_4 : cd 28 4 = some (4, .aload_n 0, 1, 0, 0, 0) := rfl
theorem s28_4 {s0 s1 : AV} {l0 : Option Nat} {h : AH} : evL 28 4 [.inr (.inl l0)] [s0, s1] h = evL 28 5 [.inr (.inl l0)] [.inr (.inl l0), s0, s1] h := ev_go c28_4 rfl
theorem c28_5 : cd 28 5 = some (5, .getfield 34, 3, 1, 3, 118) := rfl
theorem s28_5 {l0 s1 s2 : AV} {s0 : Nat} {M : Mem} {P : PMem} (hk : kd s0 = 1) : evL 28 5 [l0] [Rf s0, s1, s2] (Hp M P) = evL 28 8 [l0] [I (M s0 3), s1, s2] (Hp M P) := e_getI c28_5 rfl hk
theorem c28_8 : cd 28 8 = some (8, .imul, 1, 0, 0, 0) := rfl
theorem s28_8 {l0 s2 : AV} {s0 s1 : Int} {h : AH} : evL 28 8 [l0] [I s0, I s1, s2] h = evL 28 9 [l0] [I (ml s1 s0), s2] h := ev_go c28_8 rfl
theorem c28_9 : cd 28 9 = some (9, .sipush 1663, 3, 0, 0, 0) := rfl
theorem s28_9 {l0 s0 s1 : AV} {h : AH} : evL 28 9 [l0] [s0, s1] h = evL 28 12 [l0] [I 1663, s0, s1] h := ev_go c28_9 rfl
theorem c28_12 : cd 28 12 = some (12, .iadd, 1, 0, 0, 0) := rfl
theorem s28_12 {l0 s2 : AV} {s0 s1 : Int} {h : AH} : evL 28 12 [l0] [I s0, I s1, s2] h = evL 28 13 [l0] [I (ad s1 s0), s2] h := ev_go c28_12 rfl
theorem c28_13 : cd 28 13 = some (13, .sipush 10000, 3, 0, 0, 0) := rfl
theorem s28_13 {l0 s0 s1 : AV} {h : AH} : evL 28 13 [l0] [s0, s1] h = evL 28 16 [l0] [I 10000, s0, s1] h := ev_go c28_13 rfl
theorem c28_16 : cd 28 16 = some (16, .irem, 1, 0, 0, 0) := rfl
theorem s28_16 {l0 s2 : AV} {s0 s1 : Int} {h : AH} (hd : s0 ≠ 0) : evL 28 16 [l0] [I s0, I s1, s2] h = evL 28 17 [l0] [I (rm s1 s0), s2] h := ev_go c28_16 (if_pos hd)
theorem c28_17 : cd 28 17 = some (17, .putfield 34, 3, 1, 3, 118) := rfl
theorem s28_17 {l0 : AV} {s0 : Int} {s1 : Nat} {M : Mem} {P : PMem} (hk : kd s1 = 1) : evL 28 17 [l0] [I s0, Rf s1] (Hp M P) = evL 28 20 [l0] [] (Hp (wr M s1 3 s0) P) := e_putI c28_17 rfl hk
theorem c28_20 : cd 28 20 = some (20, .return_, 1, 0, 0, 0) := rfl
theorem s28_20 {l0 : AV} {h : AH} : evL 28 20 [l0] [] h = some (none, h) := e_ret c28_20 rfl
/-! 29: TankDivers$Game.throwDie()I -/
theorem en29 {l0 : AV} {h : AH} : evM 29 [l0] h = evL 29 0 [l0] [] h := rfl
theorem c29_0 : cd 29 0 = some (0, .aload_n 0, 1, 0, 0, 0) := rfl
theorem s29_0 {l0 : Option Nat} {h : AH} : evL 29 0 [.inr (.inl l0)] [] h = evL 29 1 [.inr (.inl l0)] [.inr (.inl l0)] h := ev_go c29_0 rfl
theorem c29_1 : cd 29 1 = some (1, .invokevirtual 41, 3, 28, 0, 203) := rfl
theorem s29_1 {l0 : AV} {s0 : Nat} {M : Mem} {P : PMem} (hk : kd s0 = 1) : evL 29 1 [l0] [Rf s0] (Hp M P) = cont (evM 28 [Rf s0] (Hp M P)) (fun r h => evL 29 4 [l0] (rl r []) h) := e_callV (av' := []) (rest := []) (c := 1) c29_1 rfl rfl rfl rfl rfl rfl rfl hk rfl
theorem c29_4 : cd 29 4 = some (4, .iconst 1, 1, 0, 0, 0) := rfl
theorem s29_4 {l0 : AV} {h : AH} : evL 29 4 [l0] [] h = evL 29 5 [l0] [I 1] h := ev_go c29_4 rfl
theorem c29_5 : cd 29 5 = some (5, .aload_n 0, 1, 0, 0, 0) := rfl
theorem s29_5 {s0 : AV} {l0 : Option Nat} {h : AH} : evL 29 5 [.inr (.inl l0)] [s0] h = evL 29 6 [.inr (.inl l0)] [.inr (.inl l0), s0] h := ev_go c29_5 rfl
theorem c29_6 : cd 29 6 = some (6, .getfield 34, 3, 1, 3, 118) := rfl
theorem s29_6 {l0 s1 : AV} {s0 : Nat} {M : Mem} {P : PMem} (hk : kd s0 = 1) : evL 29 6 [l0] [Rf s0, s1] (Hp M P) = evL 29 9 [l0] [I (M s0 3), s1] (Hp M P) := e_getI c29_6 rfl hk
theorem c29_9 : cd 29 9 = some (9, .iconst 3, 1, 0, 0, 0) := rfl
theorem s29_9 {l0 s0 s1 : AV} {h : AH} : evL 29 9 [l0] [s0, s1] h = evL 29 10 [l0] [I 3, s0, s1] h := ev_go c29_9 rfl
theorem c29_10 : cd 29 10 = some (10, .irem, 1, 0, 0, 0) := rfl
theorem s29_10 {l0 s2 : AV} {s0 s1 : Int} {h : AH} (hd : s0 ≠ 0) : evL 29 10 [l0] [I s0, I s1, s2] h = evL 29 11 [l0] [I (rm s1 s0), s2] h := ev_go c29_10 (if_pos hd)
theorem c29_11 : cd 29 11 = some (11, .iadd, 1, 0, 0, 0) := rfl
theorem s29_11 {l0 : AV} {s0 s1 : Int} {h : AH} : evL 29 11 [l0] [I s0, I s1] h = evL 29 12 [l0] [I (ad s1 s0)] h := ev_go c29_11 rfl
theorem c29_12 : cd 29 12 = some (12, .ireturn, 1, 0, 0, 0) := rfl
theorem s29_12 {l0 : AV} {s0 : Int} {h : AH} : evL 29 12 [l0] [I s0] h = some (some (I s0), h) := e_ret c29_12 rfl
/-! 30: TankDivers$Game.isOver()Z -/
theorem en30 {l0 : AV} {h : AH} : evM 30 [l0] h = evL 30 0 [l0] [] h := rfl
theorem c30_0 : cd 30 0 = some (0, .aload_n 0, 1, 0, 0, 0) := rfl
theorem s30_0 {l0 : Option Nat} {h : AH} : evL 30 0 [.inr (.inl l0)] [] h = evL 30 1 [.inr (.inl l0)] [.inr (.inl l0)] h := ev_go c30_0 rfl
theorem c30_1 : cd 30 1 = some (1, .getfield 56, 3, 1, 4, 120) := rfl
theorem s30_1 {l0 : AV} {s0 : Nat} {M : Mem} {P : PMem} (hk : kd s0 = 1) : evL 30 1 [l0] [Rf s0] (Hp M P) = evL 30 4 [l0] [I (M s0 4)] (Hp M P) := e_getI c30_1 rfl hk
theorem c30_4 : cd 30 4 = some (4, .iconst 3, 1, 0, 0, 0) := rfl
theorem s30_4 {l0 s0 : AV} {h : AH} : evL 30 4 [l0] [s0] h = evL 30 5 [l0] [I 3, s0] h := ev_go c30_4 rfl
theorem c30_5 : cd 30 5 = some (5, .if_icmp .lt 7, 3, 0, 0, 0) := rfl
theorem s30_5 {l0 : AV} {s0 s1 : Int} {h : AH} : evL 30 5 [l0] [I s0, I s1] h = if s1 < s0 then evL 30 12 [l0] [] h else evL 30 8 [l0] [] h := e_icmp_lt c30_5 rfl rfl
theorem c30_8 : cd 30 8 = some (8, .iconst 1, 1, 0, 0, 0) := rfl
theorem s30_8 {l0 : AV} {h : AH} : evL 30 8 [l0] [] h = evL 30 9 [l0] [I 1] h := ev_go c30_8 rfl
theorem c30_9 : cd 30 9 = some (9, .goto 4, 3, 0, 0, 0) := rfl
theorem s30_9 {l0 s0 : AV} {h : AH} : evL 30 9 [l0] [s0] h = evL 30 13 [l0] [s0] h := ev_go c30_9 rfl
theorem c30_12 : cd 30 12 = some (12, .iconst 0, 1, 0, 0, 0) := rfl
theorem s30_12 {l0 : AV} {h : AH} : evL 30 12 [l0] [] h = evL 30 13 [l0] [I 0] h := ev_go c30_12 rfl
theorem c30_13 : cd 30 13 = some (13, .ireturn, 1, 0, 0, 0) := rfl
theorem s30_13 {l0 : AV} {s0 : Int} {h : AH} (hz : s0 = 0 ∨ s0 = 1) : evL 30 13 [l0] [I s0] h = some (some (I s0), h) := e_ret c30_13 (if_pos hz)
/-! 31: TankDivers$Game.placeOnTurn()I -/
theorem en31 {l0 : AV} {h : AH} : evM 31 [l0] h = evL 31 0 [l0] [] h := rfl
theorem c31_0 : cd 31 0 = some (0, .aload_n 0, 1, 0, 0, 0) := rfl
theorem s31_0 {l0 : Option Nat} {h : AH} : evL 31 0 [.inr (.inl l0)] [] h = evL 31 1 [.inr (.inl l0)] [.inr (.inl l0)] h := ev_go c31_0 rfl
theorem c31_1 : cd 31 1 = some (1, .getfield 21, 3, 1, 1, 115) := rfl
theorem s31_1 {l0 : AV} {s0 : Nat} {M : Mem} {P : PMem} (hk : kd s0 = 1) : evL 31 1 [l0] [Rf s0] (Hp M P) = evL 31 4 [l0] [Rf (rfd s0 1)] (Hp M P) := e_getR c31_1 rfl hk
theorem c31_4 : cd 31 4 = some (4, .getfield 72, 3, 0, 0, 76) := rfl
theorem s31_4 {l0 : AV} {s0 : Nat} {M : Mem} {P : PMem} (hk : kd s0 = 0) : evL 31 4 [l0] [Rf s0] (Hp M P) = evL 31 7 [l0] [Rf (rfd s0 0)] (Hp M P) := e_getR c31_4 rfl hk
theorem c31_7 : cd 31 7 = some (7, .aload_n 0, 1, 0, 0, 0) := rfl
theorem s31_7 {s0 : AV} {l0 : Option Nat} {h : AH} : evL 31 7 [.inr (.inl l0)] [s0] h = evL 31 8 [.inr (.inl l0)] [.inr (.inl l0), s0] h := ev_go c31_7 rfl
theorem c31_8 : cd 31 8 = some (8, .getfield 59, 3, 1, 5, 122) := rfl
theorem s31_8 {l0 s1 : AV} {s0 : Nat} {M : Mem} {P : PMem} (hk : kd s0 = 1) : evL 31 8 [l0] [Rf s0, s1] (Hp M P) = evL 31 11 [l0] [I (M s0 5), s1] (Hp M P) := e_getI c31_8 rfl hk
theorem c31_11 : cd 31 11 = some (11, .invokevirtual 75, 3, 80, 0, 467) := rfl
theorem s31_11 {l0 : AV} {s0 : Int} {s1 : Nat} {M : Mem} {P : PMem} (hk : kd s1 = 6) : evL 31 11 [l0] [I s0, Rf s1] (Hp M P) = cont (evM 80 [Rf s1, I s0] (Hp M P)) (fun r h => evL 31 14 [l0] (rl r []) h) := e_callV (av' := [I s0]) (rest := []) (c := 6) c31_11 rfl rfl rfl rfl rfl rfl rfl hk rfl
theorem c31_14 : cd 31 14 = some (14, .ireturn, 1, 0, 0, 0) := rfl
theorem s31_14 {l0 : AV} {s0 : Int} {h : AH} : evL 31 14 [l0] [I s0] h = some (some (I s0), h) := e_ret c31_14 rfl
/-! 32: TankDivers$Game.allValues()I -/
theorem en32 {l0 : AV} {h : AH} : evM 32 [l0] h = evL 32 0 [l0] [] h := rfl
theorem c32_0 : cd 32 0 = some (0, .aload_n 0, 1, 0, 0, 0) := rfl
theorem s32_0 {l0 : Option Nat} {h : AH} : evL 32 0 [.inr (.inl l0)] [] h = evL 32 1 [.inr (.inl l0)] [.inr (.inl l0)] h := ev_go c32_0 rfl
theorem c32_1 : cd 32 1 = some (1, .getfield 12, 3, 1, 0, 112) := rfl
theorem s32_1 {l0 : AV} {s0 : Nat} {M : Mem} {P : PMem} (hk : kd s0 = 1) : evL 32 1 [l0] [Rf s0] (Hp M P) = evL 32 4 [l0] [Rf (rfd s0 0)] (Hp M P) := e_getR c32_1 rfl hk
theorem c32_4 : cd 32 4 = some (4, .invokevirtual 79, 3, 71, 0, 693) := rfl
theorem s32_4 {l0 : AV} {s0 : Nat} {M : Mem} {P : PMem} (hk : kd s0 = 5) : evL 32 4 [l0] [Rf s0] (Hp M P) = cont (evM 71 [Rf s0] (Hp M P)) (fun r h => evL 32 7 [l0] (rl r []) h) := e_callV (av' := []) (rest := []) (c := 5) c32_4 rfl rfl rfl rfl rfl rfl rfl hk rfl
theorem c32_7 : cd 32 7 = some (7, .aload_n 0, 1, 0, 0, 0) := rfl
theorem s32_7 {s0 : AV} {l0 : Option Nat} {h : AH} : evL 32 7 [.inr (.inl l0)] [s0] h = evL 32 8 [.inr (.inl l0)] [.inr (.inl l0), s0] h := ev_go c32_7 rfl
theorem c32_8 : cd 32 8 = some (8, .getfield 21, 3, 1, 1, 115) := rfl
theorem s32_8 {l0 s1 : AV} {s0 : Nat} {M : Mem} {P : PMem} (hk : kd s0 = 1) : evL 32 8 [l0] [Rf s0, s1] (Hp M P) = evL 32 11 [l0] [Rf (rfd s0 1), s1] (Hp M P) := e_getR c32_8 rfl hk
theorem c32_11 : cd 32 11 = some (11, .invokevirtual 83, 3, 12, 0, 694) := rfl
theorem s32_11 {l0 s1 : AV} {s0 : Nat} {M : Mem} {P : PMem} (hk : kd s0 = 0) : evL 32 11 [l0] [Rf s0, s1] (Hp M P) = cont (evM 12 [Rf s0] (Hp M P)) (fun r h => evL 32 14 [l0] (rl r [s1]) h) := e_callV (av' := []) (rest := [s1]) (c := 0) c32_11 rfl rfl rfl rfl rfl rfl rfl hk rfl
theorem c32_14 : cd 32 14 = some (14, .iadd, 1, 0, 0, 0) := rfl
theorem s32_14 {l0 : AV} {s0 s1 : Int} {h : AH} : evL 32 14 [l0] [I s0, I s1] h = evL 32 15 [l0] [I (ad s1 s0)] h := ev_go c32_14 rfl
theorem c32_15 : cd 32 15 = some (15, .aload_n 0, 1, 0, 0, 0) := rfl
theorem s32_15 {s0 : AV} {l0 : Option Nat} {h : AH} : evL 32 15 [.inr (.inl l0)] [s0] h = evL 32 16 [.inr (.inl l0)] [.inr (.inl l0), s0] h := ev_go c32_15 rfl
theorem c32_16 : cd 32 16 = some (16, .getfield 21, 3, 1, 1, 115) := rfl
theorem s32_16 {l0 s1 : AV} {s0 : Nat} {M : Mem} {P : PMem} (hk : kd s0 = 1) : evL 32 16 [l0] [Rf s0, s1] (Hp M P) = evL 32 19 [l0] [Rf (rfd s0 1), s1] (Hp M P) := e_getR c32_16 rfl hk
theorem c32_19 : cd 32 19 = some (19, .invokevirtual 86, 3, 14, 0, 695) := rfl
theorem s32_19 {l0 s1 : AV} {s0 : Nat} {M : Mem} {P : PMem} (hk : kd s0 = 0) : evL 32 19 [l0] [Rf s0, s1] (Hp M P) = cont (evM 14 [Rf s0] (Hp M P)) (fun r h => evL 32 22 [l0] (rl r [s1]) h) := e_callV (av' := []) (rest := [s1]) (c := 0) c32_19 rfl rfl rfl rfl rfl rfl rfl hk rfl
theorem c32_22 : cd 32 22 = some (22, .iadd, 1, 0, 0, 0) := rfl
theorem s32_22 {l0 : AV} {s0 s1 : Int} {h : AH} : evL 32 22 [l0] [I s0, I s1] h = evL 32 23 [l0] [I (ad s1 s0)] h := ev_go c32_22 rfl
theorem c32_23 : cd 32 23 = some (23, .ireturn, 1, 0, 0, 0) := rfl
theorem s32_23 {l0 : AV} {s0 : Int} {h : AH} : evL 32 23 [l0] [I s0] h = some (some (I s0), h) := e_ret c32_23 rfl
/-! 33: TankDivers$Game.allTreasures()I -/
theorem en33 {l0 : AV} {h : AH} : evM 33 [l0] h = evL 33 0 [l0] [] h := rfl
theorem c33_0 : cd 33 0 = some (0, .aload_n 0, 1, 0, 0, 0) := rfl
theorem s33_0 {l0 : Option Nat} {h : AH} : evL 33 0 [.inr (.inl l0)] [] h = evL 33 1 [.inr (.inl l0)] [.inr (.inl l0)] h := ev_go c33_0 rfl
theorem c33_1 : cd 33 1 = some (1, .getfield 12, 3, 1, 0, 112) := rfl
theorem s33_1 {l0 : AV} {s0 : Nat} {M : Mem} {P : PMem} (hk : kd s0 = 1) : evL 33 1 [l0] [Rf s0] (Hp M P) = evL 33 4 [l0] [Rf (rfd s0 0)] (Hp M P) := e_getR c33_1 rfl hk
theorem c33_4 : cd 33 4 = some (4, .invokevirtual 89, 3, 70, 0, 309) := rfl
theorem s33_4 {l0 : AV} {s0 : Nat} {M : Mem} {P : PMem} (hk : kd s0 = 5) : evL 33 4 [l0] [Rf s0] (Hp M P) = cont (evM 70 [Rf s0] (Hp M P)) (fun r h => evL 33 7 [l0] (rl r []) h) := e_callV (av' := []) (rest := []) (c := 5) c33_4 rfl rfl rfl rfl rfl rfl rfl hk rfl
theorem c33_7 : cd 33 7 = some (7, .aload_n 0, 1, 0, 0, 0) := rfl
theorem s33_7 {s0 : AV} {l0 : Option Nat} {h : AH} : evL 33 7 [.inr (.inl l0)] [s0] h = evL 33 8 [.inr (.inl l0)] [.inr (.inl l0), s0] h := ev_go c33_7 rfl
theorem c33_8 : cd 33 8 = some (8, .getfield 21, 3, 1, 1, 115) := rfl
theorem s33_8 {l0 s1 : AV} {s0 : Nat} {M : Mem} {P : PMem} (hk : kd s0 = 1) : evL 33 8 [l0] [Rf s0, s1] (Hp M P) = evL 33 11 [l0] [Rf (rfd s0 1), s1] (Hp M P) := e_getR c33_8 rfl hk
theorem c33_11 : cd 33 11 = some (11, .invokevirtual 92, 3, 11, 0, 314) := rfl
theorem s33_11 {l0 s1 : AV} {s0 : Nat} {M : Mem} {P : PMem} (hk : kd s0 = 0) : evL 33 11 [l0] [Rf s0, s1] (Hp M P) = cont (evM 11 [Rf s0] (Hp M P)) (fun r h => evL 33 14 [l0] (rl r [s1]) h) := e_callV (av' := []) (rest := [s1]) (c := 0) c33_11 rfl rfl rfl rfl rfl rfl rfl hk rfl
theorem c33_14 : cd 33 14 = some (14, .iadd, 1, 0, 0, 0) := rfl
theorem s33_14 {l0 : AV} {s0 s1 : Int} {h : AH} : evL 33 14 [l0] [I s0, I s1] h = evL 33 15 [l0] [I (ad s1 s0)] h := ev_go c33_14 rfl
theorem c33_15 : cd 33 15 = some (15, .aload_n 0, 1, 0, 0, 0) := rfl
theorem s33_15 {s0 : AV} {l0 : Option Nat} {h : AH} : evL 33 15 [.inr (.inl l0)] [s0] h = evL 33 16 [.inr (.inl l0)] [.inr (.inl l0), s0] h := ev_go c33_15 rfl
theorem c33_16 : cd 33 16 = some (16, .getfield 21, 3, 1, 1, 115) := rfl
theorem s33_16 {l0 s1 : AV} {s0 : Nat} {M : Mem} {P : PMem} (hk : kd s0 = 1) : evL 33 16 [l0] [Rf s0, s1] (Hp M P) = evL 33 19 [l0] [Rf (rfd s0 1), s1] (Hp M P) := e_getR c33_16 rfl hk
theorem c33_19 : cd 33 19 = some (19, .getfield 95, 3, 0, 6, 87) := rfl
theorem s33_19 {l0 s1 : AV} {s0 : Nat} {M : Mem} {P : PMem} (hk : kd s0 = 0) : evL 33 19 [l0] [Rf s0, s1] (Hp M P) = evL 33 22 [l0] [Rf (rfd s0 6), s1] (Hp M P) := e_getR c33_19 rfl hk
theorem c33_22 : cd 33 22 = some (22, .invokevirtual 98, 3, 83, 0, 323) := rfl
theorem s33_22 {l0 s1 : AV} {s0 : Nat} {M : Mem} {P : PMem} (hk : kd s0 = 6) : evL 33 22 [l0] [Rf s0, s1] (Hp M P) = cont (evM 83 [Rf s0] (Hp M P)) (fun r h => evL 33 25 [l0] (rl r [s1]) h) := e_callV (av' := []) (rest := [s1]) (c := 6) c33_22 rfl rfl rfl rfl rfl rfl rfl hk rfl
theorem c33_25 : cd 33 25 = some (25, .iadd, 1, 0, 0, 0) := rfl
theorem s33_25 {l0 : AV} {s0 s1 : Int} {h : AH} : evL 33 25 [l0] [I s0, I s1] h = evL 33 26 [l0] [I (ad s1 s0)] h := ev_go c33_25 rfl
theorem c33_26 : cd 33 26 = some (26, .ireturn, 1, 0, 0, 0) := rfl
theorem s33_26 {l0 : AV} {s0 : Int} {h : AH} : evL 33 26 [l0] [I s0] h = some (some (I s0), h) := e_ret c33_26 rfl
/-! 34: TankDivers$Game.whyNoMove(Z)I -/
theorem en34 {l0 l1 : AV} {h : AH} : evM 34 [l0, l1] h = evL 34 0 [l0, l1] [] h := rfl
theorem c34_0 : cd 34 0 = some (0, .aload_n 0, 1, 0, 0, 0) := rfl
theorem s34_0 {l1 : AV} {l0 : Option Nat} {h : AH} : evL 34 0 [.inr (.inl l0), l1] [] h = evL 34 1 [.inr (.inl l0), l1] [.inr (.inl l0)] h := ev_go c34_0 rfl
theorem c34_1 : cd 34 1 = some (1, .invokevirtual 101, 3, 30, 0, 462) := rfl
theorem s34_1 {l0 l1 : AV} {s0 : Nat} {M : Mem} {P : PMem} (hk : kd s0 = 1) : evL 34 1 [l0, l1] [Rf s0] (Hp M P) = cont (evM 30 [Rf s0] (Hp M P)) (fun r h => evL 34 4 [l0, l1] (rl r []) h) := e_callV (av' := []) (rest := []) (c := 1) c34_1 rfl rfl rfl rfl rfl rfl rfl hk rfl
theorem c34_4 : cd 34 4 = some (4, .ifCond .eq 5, 3, 0, 0, 0) := rfl
theorem s34_4 {l0 l1 : AV} {s0 : Int} {h : AH} : evL 34 4 [l0, l1] [I s0] h = if s0 = 0 then evL 34 9 [l0, l1] [] h else evL 34 7 [l0, l1] [] h := e_if_eq c34_4 rfl rfl
theorem c34_7 : cd 34 7 = some (7, .iconst 1, 1, 0, 0, 0) := rfl
theorem s34_7 {l0 l1 : AV} {h : AH} : evL 34 7 [l0, l1] [] h = evL 34 8 [l0, l1] [I 1] h := ev_go c34_7 rfl
theorem c34_8 : cd 34 8 = some (8, .ireturn, 1, 0, 0, 0) := rfl
theorem s34_8 {l0 l1 : AV} {s0 : Int} {h : AH} : evL 34 8 [l0, l1] [I s0] h = some (some (I s0), h) := e_ret c34_8 rfl
theorem c34_9 : cd 34 9 = some (9, .aload_n 0, 1, 0, 0, 0) := rfl
theorem s34_9 {l1 : AV} {l0 : Option Nat} {h : AH} : evL 34 9 [.inr (.inl l0), l1] [] h = evL 34 10 [.inr (.inl l0), l1] [.inr (.inl l0)] h := ev_go c34_9 rfl
theorem c34_10 : cd 34 10 = some (10, .getfield 62, 3, 1, 6, 124) := rfl
theorem s34_10 {l0 l1 : AV} {s0 : Nat} {M : Mem} {P : PMem} (hk : kd s0 = 1) : evL 34 10 [l0, l1] [Rf s0] (Hp M P) = evL 34 13 [l0, l1] [I (M s0 6)] (Hp M P) := e_getI c34_10 rfl hk
theorem c34_13 : cd 34 13 = some (13, .ifCond .eq 5, 3, 0, 0, 0) := rfl
theorem s34_13 {l0 l1 : AV} {s0 : Int} {h : AH} : evL 34 13 [l0, l1] [I s0] h = if s0 = 0 then evL 34 18 [l0, l1] [] h else evL 34 16 [l0, l1] [] h := e_if_eq c34_13 rfl rfl
theorem c34_16 : cd 34 16 = some (16, .iconst 3, 1, 0, 0, 0) := rfl
theorem s34_16 {l0 l1 : AV} {h : AH} : evL 34 16 [l0, l1] [] h = evL 34 17 [l0, l1] [I 3] h := ev_go c34_16 rfl
theorem c34_17 : cd 34 17 = some (17, .ireturn, 1, 0, 0, 0) := rfl
theorem s34_17 {l0 l1 : AV} {s0 : Int} {h : AH} : evL 34 17 [l0, l1] [I s0] h = some (some (I s0), h) := e_ret c34_17 rfl
theorem c34_18 : cd 34 18 = some (18, .iload_n 1, 1, 0, 0, 0) := rfl
theorem s34_18 {l0 : AV} {l1 : Int} {h : AH} : evL 34 18 [l0, I l1] [] h = evL 34 19 [l0, I l1] [I l1] h := ev_go c34_18 rfl
theorem c34_19 : cd 34 19 = some (19, .ifCond .eq 21, 3, 0, 0, 0) := rfl
theorem s34_19 {l0 l1 : AV} {s0 : Int} {h : AH} : evL 34 19 [l0, l1] [I s0] h = if s0 = 0 then evL 34 40 [l0, l1] [] h else evL 34 22 [l0, l1] [] h := e_if_eq c34_19 rfl rfl
theorem c34_22 : cd 34 22 = some (22, .aload_n 0, 1, 0, 0, 0) := rfl
theorem s34_22 {l1 : AV} {l0 : Option Nat} {h : AH} : evL 34 22 [.inr (.inl l0), l1] [] h = evL 34 23 [.inr (.inl l0), l1] [.inr (.inl l0)] h := ev_go c34_22 rfl
theorem c34_23 : cd 34 23 = some (23, .invokevirtual 105, 3, 35, 0, 463) := rfl
theorem s34_23 {l0 l1 : AV} {s0 : Nat} {M : Mem} {P : PMem} (hk : kd s0 = 1) : evL 34 23 [l0, l1] [Rf s0] (Hp M P) = cont (evM 35 [Rf s0] (Hp M P)) (fun r h => evL 34 26 [l0, l1] (rl r []) h) := e_callV (av' := []) (rest := []) (c := 1) c34_23 rfl rfl rfl rfl rfl rfl rfl hk rfl
theorem c34_26 : cd 34 26 = some (26, .ifCond .ne 10, 3, 0, 0, 0) := rfl
theorem s34_26 {l0 l1 : AV} {s0 : Int} {h : AH} : evL 34 26 [l0, l1] [I s0] h = if s0 = 0 then evL 34 29 [l0, l1] [] h else evL 34 36 [l0, l1] [] h := e_if_ne c34_26 rfl rfl
theorem c34_29 : cd 34 29 = some (29, .aload_n 0, 1, 0, 0, 0) := rfl
theorem s34_29 {l1 : AV} {l0 : Option Nat} {h : AH} : evL 34 29 [.inr (.inl l0), l1] [] h = evL 34 30 [.inr (.inl l0), l1] [.inr (.inl l0)] h := ev_go c34_29 rfl
theorem c34_30 : cd 34 30 = some (30, .invokevirtual 108, 3, 31, 0, 468) := rfl
theorem s34_30 {l0 l1 : AV} {s0 : Nat} {M : Mem} {P : PMem} (hk : kd s0 = 1) : evL 34 30 [l0, l1] [Rf s0] (Hp M P) = cont (evM 31 [Rf s0] (Hp M P)) (fun r h => evL 34 33 [l0, l1] (rl r []) h) := e_callV (av' := []) (rest := []) (c := 1) c34_30 rfl rfl rfl rfl rfl rfl rfl hk rfl
theorem c34_33 : cd 34 33 = some (33, .ifCond .ne 7, 3, 0, 0, 0) := rfl
theorem s34_33 {l0 l1 : AV} {s0 : Int} {h : AH} : evL 34 33 [l0, l1] [I s0] h = if s0 = 0 then evL 34 36 [l0, l1] [] h else evL 34 40 [l0, l1] [] h := e_if_ne c34_33 rfl rfl
theorem c34_36 : cd 34 36 = some (36, .iconst 4, 1, 0, 0, 0) := rfl
theorem s34_36 {l0 l1 : AV} {h : AH} : evL 34 36 [l0, l1] [] h = evL 34 37 [l0, l1] [I 4] h := ev_go c34_36 rfl
theorem c34_37 : cd 34 37 = some (37, .goto 4, 3, 0, 0, 0) := rfl
theorem s34_37 {l0 l1 s0 : AV} {h : AH} : evL 34 37 [l0, l1] [s0] h = evL 34 41 [l0, l1] [s0] h := ev_go c34_37 rfl
theorem c34_40 : cd 34 40 = some (40, .iconst 0, 1, 0, 0, 0) := rfl
theorem s34_40 {l0 l1 : AV} {h : AH} : evL 34 40 [l0, l1] [] h = evL 34 41 [l0, l1] [I 0] h := ev_go c34_40 rfl
theorem c34_41 : cd 34 41 = some (41, .ireturn, 1, 0, 0, 0) := rfl
theorem s34_41 {l0 l1 : AV} {s0 : Int} {h : AH} : evL 34 41 [l0, l1] [I s0] h = some (some (I s0), h) := e_ret c34_41 rfl
/-! 35: TankDivers$Game.goesUp()Z -/
theorem en35 {l0 : AV} {h : AH} : evM 35 [l0] h = evL 35 0 [l0] [] h := rfl
theorem c35_0 : cd 35 0 = some (0, .aload_n 0, 1, 0, 0, 0) := rfl
theorem s35_0 {l0 : Option Nat} {h : AH} : evL 35 0 [.inr (.inl l0)] [] h = evL 35 1 [.inr (.inl l0)] [.inr (.inl l0)] h := ev_go c35_0 rfl
theorem c35_1 : cd 35 1 = some (1, .getfield 21, 3, 1, 1, 115) := rfl
theorem s35_1 {l0 : AV} {s0 : Nat} {M : Mem} {P : PMem} (hk : kd s0 = 1) : evL 35 1 [l0] [Rf s0] (Hp M P) = evL 35 4 [l0] [Rf (rfd s0 1)] (Hp M P) := e_getR c35_1 rfl hk
theorem c35_4 : cd 35 4 = some (4, .getfield 111, 3, 0, 1, 78) := rfl
theorem s35_4 {l0 : AV} {s0 : Nat} {M : Mem} {P : PMem} (hk : kd s0 = 0) : evL 35 4 [l0] [Rf s0] (Hp M P) = evL 35 7 [l0] [Rf (rfd s0 1)] (Hp M P) := e_getR c35_4 rfl hk
theorem c35_7 : cd 35 7 = some (7, .aload_n 0, 1, 0, 0, 0) := rfl
theorem s35_7 {s0 : AV} {l0 : Option Nat} {h : AH} : evL 35 7 [.inr (.inl l0)] [s0] h = evL 35 8 [.inr (.inl l0)] [.inr (.inl l0), s0] h := ev_go c35_7 rfl
theorem c35_8 : cd 35 8 = some (8, .getfield 59, 3, 1, 5, 122) := rfl
theorem s35_8 {l0 s1 : AV} {s0 : Nat} {M : Mem} {P : PMem} (hk : kd s0 = 1) : evL 35 8 [l0] [Rf s0, s1] (Hp M P) = evL 35 11 [l0] [I (M s0 5), s1] (Hp M P) := e_getI c35_8 rfl hk
theorem c35_11 : cd 35 11 = some (11, .invokevirtual 75, 3, 80, 0, 467) := rfl
theorem s35_11 {l0 : AV} {s0 : Int} {s1 : Nat} {M : Mem} {P : PMem} (hk : kd s1 = 6) : evL 35 11 [l0] [I s0, Rf s1] (Hp M P) = cont (evM 80 [Rf s1, I s0] (Hp M P)) (fun r h => evL 35 14 [l0] (rl r []) h) := e_callV (av' := [I s0]) (rest := []) (c := 6) c35_11 rfl rfl rfl rfl rfl rfl rfl hk rfl
theorem c35_14 : cd 35 14 = some (14, .iconst 1, 1, 0, 0, 0) := rfl
theorem s35_14 {l0 s0 : AV} {h : AH} : evL 35 14 [l0] [s0] h = evL 35 15 [l0] [I 1, s0] h := ev_go c35_14 rfl
theorem c35_15 : cd 35 15 = some (15, .if_icmp .ne 7, 3, 0, 0, 0) := rfl
theorem s35_15 {l0 : AV} {s0 s1 : Int} {h : AH} : evL 35 15 [l0] [I s0, I s1] h = if s1 = s0 then evL 35 18 [l0] [] h else evL 35 22 [l0] [] h := e_icmp_ne c35_15 rfl rfl
theorem c35_18 : cd 35 18 = some (18, .iconst 1, 1, 0, 0, 0) := rfl
theorem s35_18 {l0 : AV} {h : AH} : evL 35 18 [l0] [] h = evL 35 19 [l0] [I 1] h := ev_go c35_18 rfl
theorem c35_19 : cd 35 19 = some (19, .goto 4, 3, 0, 0, 0) := rfl
theorem s35_19 {l0 s0 : AV} {h : AH} : evL 35 19 [l0] [s0] h = evL 35 23 [l0] [s0] h := ev_go c35_19 rfl
theorem c35_22 : cd 35 22 = some (22, .iconst 0, 1, 0, 0, 0) := rfl
theorem s35_22 {l0 : AV} {h : AH} : evL 35 22 [l0] [] h = evL 35 23 [l0] [I 0] h := ev_go c35_22 rfl
theorem c35_23 : cd 35 23 = some (23, .ireturn, 1, 0, 0, 0) := rfl
theorem s35_23 {l0 : AV} {s0 : Int} {h : AH} (hz : s0 = 0 ∨ s0 = 1) : evL 35 23 [l0] [I s0] h = some (some (I s0), h) := e_ret c35_23 (if_pos hz)
/-! 36: TankDivers$Game.makeMove(Z)I -/
theorem en36 {l0 l1 : AV} {h : AH} : evM 36 [l0, l1] h = evL 36 0 [l0, l1, Db 0, Db 0] [] h := rfl
theorem c36_0 : cd 36 0 = some (0, .aload_n 0, 1, 0, 0, 0) := rfl
theorem s36_0 {l1 l2 l3 : AV} {l0 : Option Nat} {h : AH} : evL 36 0 [.inr (.inl l0), l1, l2, l3] [] h = evL 36 1 [.inr (.inl l0), l1, l2, l3] [.inr (.inl l0)] h := ev_go c36_0 rfl
theorem c36_1 : cd 36 1 = some (1, .iload_n 1, 1, 0, 0, 0) := rfl
theorem s36_1 {l0 l2 l3 s0 : AV} {l1 : Int} {h : AH} : evL 36 1 [l0, I l1, l2, l3] [s0] h = evL 36 2 [l0, I l1, l2, l3] [I l1, s0] h := ev_go c36_1 rfl
theorem c36_2 : cd 36 2 = some (2, .invokevirtual 114, 3, 34, 0, 541) := rfl
theorem s36_2 {l0 l1 l2 l3 : AV} {s0 : Int} {s1 : Nat} {M : Mem} {P : PMem} (hk : kd s1 = 1) : evL 36 2 [l0, l1, l2, l3] [I s0, Rf s1] (Hp M P) = cont (evM 34 [Rf s1, I s0] (Hp M P)) (fun r h => evL 36 5 [l0, l1, l2, l3] (rl r []) h) := e_callV (av' := [I s0]) (rest := []) (c := 1) c36_2 rfl rfl rfl rfl rfl rfl rfl hk rfl
theorem c36_5 : cd 36 5 = some (5, .istore_n 2, 1, 0, 0, 0) := rfl
theorem s36_5 {l0 l1 l2 l3 : AV} {s0 : Int} {h : AH} : evL 36 5 [l0, l1, l2, l3] [I s0] h = evL 36 6 [l0, l1, I s0, l3] [] h := ev_go c36_5 rfl
theorem c36_6 : cd 36 6 = some (6, .iload_n 2, 1, 0, 0, 0) := rfl
theorem s36_6 {l0 l1 l3 : AV} {l2 : Int} {h : AH} : evL 36 6 [l0, l1, I l2, l3] [] h = evL 36 7 [l0, l1, I l2, l3] [I l2] h := ev_go c36_6 rfl
theorem c36_7 : cd 36 7 = some (7, .ifCond .eq 15, 3, 0, 0, 0) := rfl
theorem s36_7 {l0 l1 l2 l3 : AV} {s0 : Int} {h : AH} : evL 36 7 [l0, l1, l2, l3] [I s0] h = if s0 = 0 then evL 36 22 [l0, l1, l2, l3] [] h else evL 36 10 [l0, l1, l2, l3] [] h := e_if_eq c36_7 rfl rfl
theorem c36_10 : cd 36 10 = some (10, .aload_n 0, 1, 0, 0, 0) := rfl
theorem s36_10 {l1 l2 l3 : AV} {l0 : Option Nat} {h : AH} : evL 36 10 [.inr (.inl l0), l1, l2, l3] [] h = evL 36 11 [.inr (.inl l0), l1, l2, l3] [.inr (.inl l0)] h := ev_go c36_10 rfl
theorem c36_11 : cd 36 11 = some (11, .dup, 1, 0, 0, 0) := rfl
theorem s36_11 {l0 l1 l2 l3 : AV} {s0 : Option Nat} {h : AH} : evL 36 11 [l0, l1, l2, l3] [.inr (.inl s0)] h = evL 36 12 [l0, l1, l2, l3] [.inr (.inl s0), .inr (.inl s0)] h := ev_go c36_11 rfl
theorem c36_12 : cd 36 12 = some (12, .getfield 118, 3, 1, 9, 130) := rfl
theorem s36_12 {l0 l1 l2 l3 s1 : AV} {s0 : Nat} {M : Mem} {P : PMem} (hk : kd s0 = 1) : evL 36 12 [l0, l1, l2, l3] [Rf s0, s1] (Hp M P) = evL 36 15 [l0, l1, l2, l3] [I (M s0 9), s1] (Hp M P) := e_getI c36_12 rfl hk
theorem c36_15 : cd 36 15 = some (15, .iconst 1, 1, 0, 0, 0) := rfl
theorem s36_15 {l0 l1 l2 l3 s0 s1 : AV} {h : AH} : evL 36 15 [l0, l1, l2, l3] [s0, s1] h = evL 36 16 [l0, l1, l2, l3] [I 1, s0, s1] h := ev_go c36_15 rfl
theorem c36_16 : cd 36 16 = some (16, .iadd, 1, 0, 0, 0) := rfl
theorem s36_16 {l0 l1 l2 l3 s2 : AV} {s0 s1 : Int} {h : AH} : evL 36 16 [l0, l1, l2, l3] [I s0, I s1, s2] h = evL 36 17 [l0, l1, l2, l3] [I (ad s1 s0), s2] h := ev_go c36_16 rfl
theorem c36_17 : cd 36 17 = some (17, .putfield 118, 3, 1, 9, 130) := rfl
theorem s36_17 {l0 l1 l2 l3 : AV} {s0 : Int} {s1 : Nat} {M : Mem} {P : PMem} (hk : kd s1 = 1) : evL 36 17 [l0, l1, l2, l3] [I s0, Rf s1] (Hp M P) = evL 36 20 [l0, l1, l2, l3] [] (Hp (wr M s1 9 s0) P) := e_putI c36_17 rfl hk
theorem c36_20 : cd 36 20 = some (20, .iload_n 2, 1, 0, 0, 0) := rfl
theorem s36_20 {l0 l1 l3 : AV} {l2 : Int} {h : AH} : evL 36 20 [l0, l1, I l2, l3] [] h = evL 36 21 [l0, l1, I l2, l3] [I l2] h := ev_go c36_20 rfl
theorem c36_21 : cd 36 21 = some (21, .ireturn, 1, 0, 0, 0) := rfl
theorem s36_21 {l0 l1 l2 l3 : AV} {s0 : Int} {h : AH} : evL 36 21 [l0, l1, l2, l3] [I s0] h = some (some (I s0), h) := e_ret c36_21 rfl
theorem c36_22 : cd 36 22 = some (22, .aload_n 0, 1, 0, 0, 0) := rfl
theorem s36_22 {l1 l2 l3 : AV} {l0 : Option Nat} {h : AH} : evL 36 22 [.inr (.inl l0), l1, l2, l3] [] h = evL 36 23 [.inr (.inl l0), l1, l2, l3] [.inr (.inl l0)] h := ev_go c36_22 rfl
theorem c36_23 : cd 36 23 = some (23, .dup, 1, 0, 0, 0) := rfl
theorem s36_23 {l0 l1 l2 l3 : AV} {s0 : Option Nat} {h : AH} : evL 36 23 [l0, l1, l2, l3] [.inr (.inl s0)] h = evL 36 24 [l0, l1, l2, l3] [.inr (.inl s0), .inr (.inl s0)] h := ev_go c36_23 rfl
theorem c36_24 : cd 36 24 = some (24, .getfield 66, 3, 1, 7, 126) := rfl
theorem s36_24 {l0 l1 l2 l3 s1 : AV} {s0 : Nat} {M : Mem} {P : PMem} (hk : kd s0 = 1) : evL 36 24 [l0, l1, l2, l3] [Rf s0, s1] (Hp M P) = evL 36 27 [l0, l1, l2, l3] [I (M s0 7), s1] (Hp M P) := e_getI c36_24 rfl hk
theorem c36_27 : cd 36 27 = some (27, .aload_n 0, 1, 0, 0, 0) := rfl
theorem s36_27 {l1 l2 l3 s0 s1 : AV} {l0 : Option Nat} {h : AH} : evL 36 27 [.inr (.inl l0), l1, l2, l3] [s0, s1] h = evL 36 28 [.inr (.inl l0), l1, l2, l3] [.inr (.inl l0), s0, s1] h := ev_go c36_27 rfl
theorem c36_28 : cd 36 28 = some (28, .getfield 66, 3, 1, 7, 126) := rfl
theorem s36_28 {l0 l1 l2 l3 s1 s2 : AV} {s0 : Nat} {M : Mem} {P : PMem} (hk : kd s0 = 1) : evL 36 28 [l0, l1, l2, l3] [Rf s0, s1, s2] (Hp M P) = evL 36 31 [l0, l1, l2, l3] [I (M s0 7), s1, s2] (Hp M P) := e_getI c36_28 rfl hk
theorem c36_31 : cd 36 31 = some (31, .aload_n 0, 1, 0, 0, 0) := rfl
theorem s36_31 {l1 l2 l3 s0 s1 s2 : AV} {l0 : Option Nat} {h : AH} : evL 36 31 [.inr (.inl l0), l1, l2, l3] [s0, s1, s2] h = evL 36 32 [.inr (.inl l0), l1, l2, l3] [.inr (.inl l0), s0, s1, s2] h := ev_go c36_31 rfl
theorem c36_32 : cd 36 32 = some (32, .getfield 21, 3, 1, 1, 115) := rfl
theorem s36_32 {l0 l1 l2 l3 s1 s2 s3 : AV} {s0 : Nat} {M : Mem} {P : PMem} (hk : kd s0 = 1) : evL 36 32 [l0, l1, l2, l3] [Rf s0, s1, s2, s3] (Hp M P) = evL 36 35 [l0, l1, l2, l3] [Rf (rfd s0 1), s1, s2, s3] (Hp M P) := e_getR c36_32 rfl hk
theorem c36_35 : cd 36 35 = some (35, .getfield 121, 3, 0, 3, 82) := rfl
theorem s36_35 {l0 l1 l2 l3 s1 s2 s3 : AV} {s0 : Nat} {M : Mem} {P : PMem} (hk : kd s0 = 0) : evL 36 35 [l0, l1, l2, l3] [Rf s0, s1, s2, s3] (Hp M P) = evL 36 38 [l0, l1, l2, l3] [Rf (rfd s0 3), s1, s2, s3] (Hp M P) := e_getR c36_35 rfl hk
theorem c36_38 : cd 36 38 = some (38, .aload_n 0, 1, 0, 0, 0) := rfl
theorem s36_38 {l1 l2 l3 s0 s1 s2 s3 : AV} {l0 : Option Nat} {h : AH} : evL 36 38 [.inr (.inl l0), l1, l2, l3] [s0, s1, s2, s3] h = evL 36 39 [.inr (.inl l0), l1, l2, l3] [.inr (.inl l0), s0, s1, s2, s3] h := ev_go c36_38 rfl
theorem c36_39 : cd 36 39 = some (39, .getfield 59, 3, 1, 5, 122) := rfl
theorem s36_39 {l0 l1 l2 l3 s1 s2 s3 s4 : AV} {s0 : Nat} {M : Mem} {P : PMem} (hk : kd s0 = 1) : evL 36 39 [l0, l1, l2, l3] [Rf s0, s1, s2, s3, s4] (Hp M P) = evL 36 42 [l0, l1, l2, l3] [I (M s0 5), s1, s2, s3, s4] (Hp M P) := e_getI c36_39 rfl hk
theorem c36_42 : cd 36 42 = some (42, .invokevirtual 75, 3, 80, 0, 467) := rfl
theorem s36_42 {l0 l1 l2 l3 s2 s3 s4 : AV} {s0 : Int} {s1 : Nat} {M : Mem} {P : PMem} (hk : kd s1 = 6) : evL 36 42 [l0, l1, l2, l3] [I s0, Rf s1, s2, s3, s4] (Hp M P) = cont (evM 80 [Rf s1, I s0] (Hp M P)) (fun r h => evL 36 45 [l0, l1, l2, l3] (rl r [s2, s3, s4]) h) := e_callV (av' := [I s0]) (rest := [s2, s3, s4]) (c := 6) c36_42 rfl rfl rfl rfl rfl rfl rfl hk rfl
theorem c36_45 : cd 36 45 = some (45, .invokestatic 124, 3, 902, 0, 542) := rfl
theorem s36_45 {l0 l1 l2 l3 s2 s3 : AV} {s0 s1 : Int} {h : AH} : evL 36 45 [l0, l1, l2, l3] [I s0, I s1, s2, s3] h = evL 36 48 [l0, l1, l2, l3] [I (if s0 < s1 then s0 else s1), s2, s3] h := e_math c36_45 (Nat.le_of_ble_eq_true rfl) rfl (Nat.le_of_ble_eq_true rfl) ⟨Nat.le_of_ble_eq_true rfl, Nat.le_of_ble_eq_true rfl⟩
theorem c36_48 : cd 36 48 = some (48, .isub, 1, 0, 0, 0) := rfl
theorem s36_48 {l0 l1 l2 l3 s2 : AV} {s0 s1 : Int} {h : AH} : evL 36 48 [l0, l1, l2, l3] [I s0, I s1, s2] h = evL 36 49 [l0, l1, l2, l3] [I (sb s1 s0), s2] h := ev_go c36_48 rfl
theorem c36_49 : cd 36 49 = some (49, .putfield 66, 3, 1, 7, 126) := rfl
theorem s36_49 {l0 l1 l2 l3 : AV} {s0 : Int} {s1 : Nat} {M : Mem} {P : PMem} (hk : kd s1 = 1) : evL 36 49 [l0, l1, l2, l3] [I s0, Rf s1] (Hp M P) = evL 36 52 [l0, l1, l2, l3] [] (Hp (wr M s1 7 s0) P) := e_putI c36_49 rfl hk
theorem c36_52 : cd 36 52 = some (52, .iload_n 1, 1, 0, 0, 0) := rfl
theorem s36_52 {l0 l2 l3 : AV} {l1 : Int} {h : AH} : evL 36 52 [l0, I l1, l2, l3] [] h = evL 36 53 [l0, I l1, l2, l3] [I l1] h := ev_go c36_52 rfl
theorem c36_53 : cd 36 53 = some (53, .ifCond .eq 18, 3, 0, 0, 0) := rfl
theorem s36_53 {l0 l1 l2 l3 : AV} {s0 : Int} {h : AH} : evL 36 53 [l0, l1, l2, l3] [I s0] h = if s0 = 0 then evL 36 71 [l0, l1, l2, l3] [] h else evL 36 56 [l0, l1, l2, l3] [] h := e_if_eq c36_53 rfl rfl
theorem c36_56 : cd 36 56 = some (56, .aload_n 0, 1, 0, 0, 0) := rfl
theorem s36_56 {l1 l2 l3 : AV} {l0 : Option Nat} {h : AH} : evL 36 56 [.inr (.inl l0), l1, l2, l3] [] h = evL 36 57 [.inr (.inl l0), l1, l2, l3] [.inr (.inl l0)] h := ev_go c36_56 rfl
theorem c36_57 : cd 36 57 = some (57, .getfield 21, 3, 1, 1, 115) := rfl
theorem s36_57 {l0 l1 l2 l3 : AV} {s0 : Nat} {M : Mem} {P : PMem} (hk : kd s0 = 1) : evL 36 57 [l0, l1, l2, l3] [Rf s0] (Hp M P) = evL 36 60 [l0, l1, l2, l3] [Rf (rfd s0 1)] (Hp M P) := e_getR c36_57 rfl hk
theorem c36_60 : cd 36 60 = some (60, .getfield 111, 3, 0, 1, 78) := rfl
theorem s36_60 {l0 l1 l2 l3 : AV} {s0 : Nat} {M : Mem} {P : PMem} (hk : kd s0 = 0) : evL 36 60 [l0, l1, l2, l3] [Rf s0] (Hp M P) = evL 36 63 [l0, l1, l2, l3] [Rf (rfd s0 1)] (Hp M P) := e_getR c36_60 rfl hk
theorem c36_63 : cd 36 63 = some (63, .aload_n 0, 1, 0, 0, 0) := rfl
theorem s36_63 {l1 l2 l3 s0 : AV} {l0 : Option Nat} {h : AH} : evL 36 63 [.inr (.inl l0), l1, l2, l3] [s0] h = evL 36 64 [.inr (.inl l0), l1, l2, l3] [.inr (.inl l0), s0] h := ev_go c36_63 rfl
theorem c36_64 : cd 36 64 = some (64, .getfield 59, 3, 1, 5, 122) := rfl
theorem s36_64 {l0 l1 l2 l3 s1 : AV} {s0 : Nat} {M : Mem} {P : PMem} (hk : kd s0 = 1) : evL 36 64 [l0, l1, l2, l3] [Rf s0, s1] (Hp M P) = evL 36 67 [l0, l1, l2, l3] [I (M s0 5), s1] (Hp M P) := e_getI c36_64 rfl hk
theorem c36_67 : cd 36 67 = some (67, .iconst 1, 1, 0, 0, 0) := rfl
theorem s36_67 {l0 l1 l2 l3 s0 s1 : AV} {h : AH} : evL 36 67 [l0, l1, l2, l3] [s0, s1] h = evL 36 68 [l0, l1, l2, l3] [I 1, s0, s1] h := ev_go c36_67 rfl
theorem c36_68 : cd 36 68 = some (68, .invokevirtual 129, 3, 81, 0, 545) := rfl
theorem s36_68 {l0 l1 l2 l3 : AV} {s0 s1 : Int} {s2 : Nat} {M : Mem} {P : PMem} (hk : kd s2 = 6) : evL 36 68 [l0, l1, l2, l3] [I s0, I s1, Rf s2] (Hp M P) = cont (evM 81 [Rf s2, I s1, I s0] (Hp M P)) (fun r h => evL 36 71 [l0, l1, l2, l3] (rl r []) h) := e_callV (av' := [I s1, I s0]) (rest := []) (c := 6) c36_68 rfl rfl rfl rfl rfl rfl rfl hk rfl
theorem c36_71 : cd 36 71 = some (71, .aload_n 0, 1, 0, 0, 0) := rfl
theorem s36_71 {l1 l2 l3 : AV} {l0 : Option Nat} {h : AH} : evL 36 71 [.inr (.inl l0), l1, l2, l3] [] h = evL 36 72 [.inr (.inl l0), l1, l2, l3] [.inr (.inl l0)] h := ev_go c36_71 rfl
theorem c36_72 : cd 36 72 = some (72, .aload_n 0, 1, 0, 0, 0) := rfl
theorem s36_72 {l1 l2 l3 s0 : AV} {l0 : Option Nat} {h : AH} : evL 36 72 [.inr (.inl l0), l1, l2, l3] [s0] h = evL 36 73 [.inr (.inl l0), l1, l2, l3] [.inr (.inl l0), s0] h := ev_go c36_72 rfl
theorem c36_73 : cd 36 73 = some (73, .invokevirtual 133, 3, 29, 0, 546) := rfl
theorem s36_73 {l0 l1 l2 l3 s1 : AV} {s0 : Nat} {M : Mem} {P : PMem} (hk : kd s0 = 1) : evL 36 73 [l0, l1, l2, l3] [Rf s0, s1] (Hp M P) = cont (evM 29 [Rf s0] (Hp M P)) (fun r h => evL 36 76 [l0, l1, l2, l3] (rl r [s1]) h) := e_callV (av' := []) (rest := [s1]) (c := 1) c36_73 rfl rfl rfl rfl rfl rfl rfl hk rfl
theorem c36_76 : cd 36 76 = some (76, .aload_n 0, 1, 0, 0, 0) := rfl
theorem s36_76 {l1 l2 l3 s0 s1 : AV} {l0 : Option Nat} {h : AH} : evL 36 76 [.inr (.inl l0), l1, l2, l3] [s0, s1] h = evL 36 77 [.inr (.inl l0), l1, l2, l3] [.inr (.inl l0), s0, s1] h := ev_go c36_76 rfl
theorem c36_77 : cd 36 77 = some (77, .invokevirtual 133, 3, 29, 0, 546) := rfl
theorem s36_77 {l0 l1 l2 l3 s1 s2 : AV} {s0 : Nat} {M : Mem} {P : PMem} (hk : kd s0 = 1) : evL 36 77 [l0, l1, l2, l3] [Rf s0, s1, s2] (Hp M P) = cont (evM 29 [Rf s0] (Hp M P)) (fun r h => evL 36 80 [l0, l1, l2, l3] (rl r [s1, s2]) h) := e_callV (av' := []) (rest := [s1, s2]) (c := 1) c36_77 rfl rfl rfl rfl rfl rfl rfl hk rfl
theorem c36_80 : cd 36 80 = some (80, .iadd, 1, 0, 0, 0) := rfl
theorem s36_80 {l0 l1 l2 l3 s2 : AV} {s0 s1 : Int} {h : AH} : evL 36 80 [l0, l1, l2, l3] [I s0, I s1, s2] h = evL 36 81 [l0, l1, l2, l3] [I (ad s1 s0), s2] h := ev_go c36_80 rfl
theorem c36_81 : cd 36 81 = some (81, .putfield 69, 3, 1, 8, 128) := rfl
theorem s36_81 {l0 l1 l2 l3 : AV} {s0 : Int} {s1 : Nat} {M : Mem} {P : PMem} (hk : kd s1 = 1) : evL 36 81 [l0, l1, l2, l3] [I s0, Rf s1] (Hp M P) = evL 36 84 [l0, l1, l2, l3] [] (Hp (wr M s1 8 s0) P) := e_putI c36_81 rfl hk
theorem c36_84 : cd 36 84 = some (84, .aload_n 0, 1, 0, 0, 0) := rfl
theorem s36_84 {l1 l2 l3 : AV} {l0 : Option Nat} {h : AH} : evL 36 84 [.inr (.inl l0), l1, l2, l3] [] h = evL 36 85 [.inr (.inl l0), l1, l2, l3] [.inr (.inl l0)] h := ev_go c36_84 rfl
theorem c36_85 : cd 36 85 = some (85, .aload_n 0, 1, 0, 0, 0) := rfl
theorem s36_85 {l1 l2 l3 s0 : AV} {l0 : Option Nat} {h : AH} : evL 36 85 [.inr (.inl l0), l1, l2, l3] [s0] h = evL 36 86 [.inr (.inl l0), l1, l2, l3] [.inr (.inl l0), s0] h := ev_go c36_85 rfl
theorem c36_86 : cd 36 86 = some (86, .invokevirtual 108, 3, 31, 0, 468) := rfl
theorem s36_86 {l0 l1 l2 l3 s1 : AV} {s0 : Nat} {M : Mem} {P : PMem} (hk : kd s0 = 1) : evL 36 86 [l0, l1, l2, l3] [Rf s0, s1] (Hp M P) = cont (evM 31 [Rf s0] (Hp M P)) (fun r h => evL 36 89 [l0, l1, l2, l3] (rl r [s1]) h) := e_callV (av' := []) (rest := [s1]) (c := 1) c36_86 rfl rfl rfl rfl rfl rfl rfl hk rfl
theorem c36_89 : cd 36 89 = some (89, .aload_n 0, 1, 0, 0, 0) := rfl
theorem s36_89 {l1 l2 l3 s0 s1 : AV} {l0 : Option Nat} {h : AH} : evL 36 89 [.inr (.inl l0), l1, l2, l3] [s0, s1] h = evL 36 90 [.inr (.inl l0), l1, l2, l3] [.inr (.inl l0), s0, s1] h := ev_go c36_89 rfl
theorem c36_90 : cd 36 90 = some (90, .invokevirtual 105, 3, 35, 0, 463) := rfl
theorem s36_90 {l0 l1 l2 l3 s1 s2 : AV} {s0 : Nat} {M : Mem} {P : PMem} (hk : kd s0 = 1) : evL 36 90 [l0, l1, l2, l3] [Rf s0, s1, s2] (Hp M P) = cont (evM 35 [Rf s0] (Hp M P)) (fun r h => evL 36 93 [l0, l1, l2, l3] (rl r [s1, s2]) h) := e_callV (av' := []) (rest := [s1, s2]) (c := 1) c36_90 rfl rfl rfl rfl rfl rfl rfl hk rfl
theorem c36_93 : cd 36 93 = some (93, .aload_n 0, 1, 0, 0, 0) := rfl
theorem s36_93 {l1 l2 l3 s0 s1 s2 : AV} {l0 : Option Nat} {h : AH} : evL 36 93 [.inr (.inl l0), l1, l2, l3] [s0, s1, s2] h = evL 36 94 [.inr (.inl l0), l1, l2, l3] [.inr (.inl l0), s0, s1, s2] h := ev_go c36_93 rfl
theorem c36_94 : cd 36 94 = some (94, .getfield 69, 3, 1, 8, 128) := rfl
theorem s36_94 {l0 l1 l2 l3 s1 s2 s3 : AV} {s0 : Nat} {M : Mem} {P : PMem} (hk : kd s0 = 1) : evL 36 94 [l0, l1, l2, l3] [Rf s0, s1, s2, s3] (Hp M P) = evL 36 97 [l0, l1, l2, l3] [I (M s0 8), s1, s2, s3] (Hp M P) := e_getI c36_94 rfl hk
theorem c36_97 : cd 36 97 = some (97, .invokevirtual 136, 3, 37, 0, 550) := rfl
theorem s36_97 {l0 l1 l2 l3 : AV} {s0 s1 s2 : Int} {s3 : Nat} {M : Mem} {P : PMem} (hk : kd s3 = 1) : evL 36 97 [l0, l1, l2, l3] [I s0, I s1, I s2, Rf s3] (Hp M P) = cont (evM 37 [Rf s3, I s2, I s1, I s0] (Hp M P)) (fun r h => evL 36 100 [l0, l1, l2, l3] (rl r []) h) := e_callV (av' := [I s2, I s1, I s0]) (rest := []) (c := 1) c36_97 rfl rfl rfl rfl rfl rfl rfl hk rfl
theorem c36_100 : cd 36 100 = some (100, .istore_n 3, 1, 0, 0, 0) := rfl
theorem s36_100 {l0 l1 l2 l3 : AV} {s0 : Int} {h : AH} : evL 36 100 [l0, l1, l2, l3] [I s0] h = evL 36 101 [l0, l1, l2, I s0] [] h := ev_go c36_100 rfl
theorem c36_101 : cd 36 101 = some (101, .aload_n 0, 1, 0, 0, 0) := rfl
theorem s36_101 {l1 l2 l3 : AV} {l0 : Option Nat} {h : AH} : evL 36 101 [.inr (.inl l0), l1, l2, l3] [] h = evL 36 102 [.inr (.inl l0), l1, l2, l3] [.inr (.inl l0)] h := ev_go c36_101 rfl
theorem c36_102 : cd 36 102 = some (102, .getfield 21, 3, 1, 1, 115) := rfl
theorem s36_102 {l0 l1 l2 l3 : AV} {s0 : Nat} {M : Mem} {P : PMem} (hk : kd s0 = 1) : evL 36 102 [l0, l1, l2, l3] [Rf s0] (Hp M P) = evL 36 105 [l0, l1, l2, l3] [Rf (rfd s0 1)] (Hp M P) := e_getR c36_102 rfl hk
theorem c36_105 : cd 36 105 = some (105, .getfield 72, 3, 0, 0, 76) := rfl
theorem s36_105 {l0 l1 l2 l3 : AV} {s0 : Nat} {M : Mem} {P : PMem} (hk : kd s0 = 0) : evL 36 105 [l0, l1, l2, l3] [Rf s0] (Hp M P) = evL 36 108 [l0, l1, l2, l3] [Rf (rfd s0 0)] (Hp M P) := e_getR c36_105 rfl hk
theorem c36_108 : cd 36 108 = some (108, .aload_n 0, 1, 0, 0, 0) := rfl
theorem s36_108 {l1 l2 l3 s0 : AV} {l0 : Option Nat} {h : AH} : evL 36 108 [.inr (.inl l0), l1, l2, l3] [s0] h = evL 36 109 [.inr (.inl l0), l1, l2, l3] [.inr (.inl l0), s0] h := ev_go c36_108 rfl
theorem c36_109 : cd 36 109 = some (109, .getfield 59, 3, 1, 5, 122) := rfl
theorem s36_109 {l0 l1 l2 l3 s1 : AV} {s0 : Nat} {M : Mem} {P : PMem} (hk : kd s0 = 1) : evL 36 109 [l0, l1, l2, l3] [Rf s0, s1] (Hp M P) = evL 36 112 [l0, l1, l2, l3] [I (M s0 5), s1] (Hp M P) := e_getI c36_109 rfl hk
theorem c36_112 : cd 36 112 = some (112, .iload_n 3, 1, 0, 0, 0) := rfl
theorem s36_112 {l0 l1 l2 s0 s1 : AV} {l3 : Int} {h : AH} : evL 36 112 [l0, l1, l2, I l3] [s0, s1] h = evL 36 113 [l0, l1, l2, I l3] [I l3, s0, s1] h := ev_go c36_112 rfl
theorem c36_113 : cd 36 113 = some (113, .invokevirtual 129, 3, 81, 0, 545) := rfl
theorem s36_113 {l0 l1 l2 l3 : AV} {s0 s1 : Int} {s2 : Nat} {M : Mem} {P : PMem} (hk : kd s2 = 6) : evL 36 113 [l0, l1, l2, l3] [I s0, I s1, Rf s2] (Hp M P) = cont (evM 81 [Rf s2, I s1, I s0] (Hp M P)) (fun r h => evL 36 116 [l0, l1, l2, l3] (rl r []) h) := e_callV (av' := [I s1, I s0]) (rest := []) (c := 6) c36_113 rfl rfl rfl rfl rfl rfl rfl hk rfl
theorem c36_116 : cd 36 116 = some (116, .aload_n 0, 1, 0, 0, 0) := rfl
theorem s36_116 {l1 l2 l3 : AV} {l0 : Option Nat} {h : AH} : evL 36 116 [.inr (.inl l0), l1, l2, l3] [] h = evL 36 117 [.inr (.inl l0), l1, l2, l3] [.inr (.inl l0)] h := ev_go c36_116 rfl
theorem c36_117 : cd 36 117 = some (117, .invokevirtual 105, 3, 35, 0, 463) := rfl
theorem s36_117 {l0 l1 l2 l3 : AV} {s0 : Nat} {M : Mem} {P : PMem} (hk : kd s0 = 1) : evL 36 117 [l0, l1, l2, l3] [Rf s0] (Hp M P) = cont (evM 35 [Rf s0] (Hp M P)) (fun r h => evL 36 120 [l0, l1, l2, l3] (rl r []) h) := e_callV (av' := []) (rest := []) (c := 1) c36_117 rfl rfl rfl rfl rfl rfl rfl hk rfl
theorem c36_120 : cd 36 120 = some (120, .ifCond .eq 22, 3, 0, 0, 0) := rfl
theorem s36_120 {l0 l1 l2 l3 : AV} {s0 : Int} {h : AH} : evL 36 120 [l0, l1, l2, l3] [I s0] h = if s0 = 0 then evL 36 142 [l0, l1, l2, l3] [] h else evL 36 123 [l0, l1, l2, l3] [] h := e_if_eq c36_120 rfl rfl
theorem c36_123 : cd 36 123 = some (123, .iload_n 3, 1, 0, 0, 0) := rfl
theorem s36_123 {l0 l1 l2 : AV} {l3 : Int} {h : AH} : evL 36 123 [l0, l1, l2, I l3] [] h = evL 36 124 [l0, l1, l2, I l3] [I l3] h := ev_go c36_123 rfl
theorem c36_124 : cd 36 124 = some (124, .ifCond .ne 18, 3, 0, 0, 0) := rfl
theorem s36_124 {l0 l1 l2 l3 : AV} {s0 : Int} {h : AH} : evL 36 124 [l0, l1, l2, l3] [I s0] h = if s0 = 0 then evL 36 127 [l0, l1, l2, l3] [] h else evL 36 142 [l0, l1, l2, l3] [] h := e_if_ne c36_124 rfl rfl
theorem c36_127 : cd 36 127 = some (127, .aload_n 0, 1, 0, 0, 0) := rfl
theorem s36_127 {l1 l2 l3 : AV} {l0 : Option Nat} {h : AH} : evL 36 127 [.inr (.inl l0), l1, l2, l3] [] h = evL 36 128 [.inr (.inl l0), l1, l2, l3] [.inr (.inl l0)] h := ev_go c36_127 rfl
theorem c36_128 : cd 36 128 = some (128, .getfield 21, 3, 1, 1, 115) := rfl
theorem s36_128 {l0 l1 l2 l3 : AV} {s0 : Nat} {M : Mem} {P : PMem} (hk : kd s0 = 1) : evL 36 128 [l0, l1, l2, l3] [Rf s0] (Hp M P) = evL 36 131 [l0, l1, l2, l3] [Rf (rfd s0 1)] (Hp M P) := e_getR c36_128 rfl hk
theorem c36_131 : cd 36 131 = some (131, .getfield 140, 3, 0, 2, 80) := rfl
theorem s36_131 {l0 l1 l2 l3 : AV} {s0 : Nat} {M : Mem} {P : PMem} (hk : kd s0 = 0) : evL 36 131 [l0, l1, l2, l3] [Rf s0] (Hp M P) = evL 36 134 [l0, l1, l2, l3] [Rf (rfd s0 2)] (Hp M P) := e_getR c36_131 rfl hk
theorem c36_134 : cd 36 134 = some (134, .aload_n 0, 1, 0, 0, 0) := rfl
theorem s36_134 {l1 l2 l3 s0 : AV} {l0 : Option Nat} {h : AH} : evL 36 134 [.inr (.inl l0), l1, l2, l3] [s0] h = evL 36 135 [.inr (.inl l0), l1, l2, l3] [.inr (.inl l0), s0] h := ev_go c36_134 rfl
theorem c36_135 : cd 36 135 = some (135, .getfield 59, 3, 1, 5, 122) := rfl
theorem s36_135 {l0 l1 l2 l3 s1 : AV} {s0 : Nat} {M : Mem} {P : PMem} (hk : kd s0 = 1) : evL 36 135 [l0, l1, l2, l3] [Rf s0, s1] (Hp M P) = evL 36 138 [l0, l1, l2, l3] [I (M s0 5), s1] (Hp M P) := e_getI c36_135 rfl hk
theorem c36_138 : cd 36 138 = some (138, .iconst 1, 1, 0, 0, 0) := rfl
theorem s36_138 {l0 l1 l2 l3 s0 s1 : AV} {h : AH} : evL 36 138 [l0, l1, l2, l3] [s0, s1] h = evL 36 139 [l0, l1, l2, l3] [I 1, s0, s1] h := ev_go c36_138 rfl
theorem c36_139 : cd 36 139 = some (139, .invokevirtual 129, 3, 81, 0, 545) := rfl
theorem s36_139 {l0 l1 l2 l3 : AV} {s0 s1 : Int} {s2 : Nat} {M : Mem} {P : PMem} (hk : kd s2 = 6) : evL 36 139 [l0, l1, l2, l3] [I s0, I s1, Rf s2] (Hp M P) = cont (evM 81 [Rf s2, I s1, I s0] (Hp M P)) (fun r h => evL 36 142 [l0, l1, l2, l3] (rl r []) h) := e_callV (av' := [I s1, I s0]) (rest := []) (c := 6) c36_139 rfl rfl rfl rfl rfl rfl rfl hk rfl
theorem c36_142 : cd 36 142 = some (142, .aload_n 0, 1, 0, 0, 0) := rfl
theorem s36_142 {l1 l2 l3 : AV} {l0 : Option Nat} {h : AH} : evL 36 142 [.inr (.inl l0), l1, l2, l3] [] h = evL 36 143 [.inr (.inl l0), l1, l2, l3] [.inr (.inl l0)] h := ev_go c36_142 rfl
theorem c36_143 : cd 36 143 = some (143, .iconst 1, 1, 0, 0, 0) := rfl
theorem s36_143 {l0 l1 l2 l3 s0 : AV} {h : AH} : evL 36 143 [l0, l1, l2, l3] [s0] h = evL 36 144 [l0, l1, l2, l3] [I 1, s0] h := ev_go c36_143 rfl
theorem c36_144 : cd 36 144 = some (144, .putfield 62, 3, 1, 6, 124) := rfl
theorem s36_144 {l0 l1 l2 l3 : AV} {s0 : Int} {s1 : Nat} {M : Mem} {P : PMem} (hk : kd s1 = 1) (hz : s0 = 0 ∨ s0 = 1) : evL 36 144 [l0, l1, l2, l3] [I s0, Rf s1] (Hp M P) = evL 36 147 [l0, l1, l2, l3] [] (Hp (wr M s1 6 s0) P) := e_putZ c36_144 rfl hk hz
theorem c36_147 : cd 36 147 = some (147, .bipush 10, 2, 0, 0, 0) := rfl
theorem s36_147 {l0 l1 l2 l3 : AV} {h : AH} : evL 36 147 [l0, l1, l2, l3] [] h = evL 36 149 [l0, l1, l2, l3] [I 10] h := ev_go c36_147 rfl
theorem c36_149 : cd 36 149 = some (149, .iload_n 3, 1, 0, 0, 0) := rfl
theorem s36_149 {l0 l1 l2 s0 : AV} {l3 : Int} {h : AH} : evL 36 149 [l0, l1, l2, I l3] [s0] h = evL 36 150 [l0, l1, l2, I l3] [I l3, s0] h := ev_go c36_149 rfl
theorem c36_150 : cd 36 150 = some (150, .iadd, 1, 0, 0, 0) := rfl
theorem s36_150 {l0 l1 l2 l3 : AV} {s0 s1 : Int} {h : AH} : evL 36 150 [l0, l1, l2, l3] [I s0, I s1] h = evL 36 151 [l0, l1, l2, l3] [I (ad s1 s0)] h := ev_go c36_150 rfl
theorem c36_151 : cd 36 151 = some (151, .ireturn, 1, 0, 0, 0) := rfl
theorem s36_151 {l0 l1 l2 l3 : AV} {s0 : Int} {h : AH} : evL 36 151 [l0, l1, l2, l3] [I s0] h = some (some (I s0), h) := e_ret c36_151 rfl
/-! 37: TankDivers$Game.landing(IZI)I -/
theorem en37 {l0 l1 l2 l3 : AV} {h : AH} : evM 37 [l0, l1, l2, l3] h = evL 37 0 [l0, l1, l2, l3, Db 0, Db 0, Db 0] [] h := rfl
theorem c37_0 : cd 37 0 = some (0, .iload_n 3, 1, 0, 0, 0) := rfl
theorem s37_0 {l0 l1 l2 l4 l5 l6 : AV} {l3 : Int} {h : AH} : evL 37 0 [l0, l1, l2, I l3, l4, l5, l6] [] h = evL 37 1 [l0, l1, l2, I l3, l4, l5, l6] [I l3] h := ev_go c37_0 rfl
theorem c37_1 : cd 37 1 = some (1, .aload_n 0, 1, 0, 0, 0) := rfl
theorem s37_1 {l1 l2 l3 l4 l5 l6 s0 : AV} {l0 : Option Nat} {h : AH} : evL 37 1 [.inr (.inl l0), l1, l2, l3, l4, l5, l6] [s0] h = evL 37 2 [.inr (.inl l0), l1, l2, l3, l4, l5, l6] [.inr (.inl l0), s0] h := ev_go c37_1 rfl
theorem c37_2 : cd 37 2 = some (2, .getfield 21, 3, 1, 1, 115) := rfl
theorem s37_2 {l0 l1 l2 l3 l4 l5 l6 s1 : AV} {s0 : Nat} {M : Mem} {P : PMem} (hk : kd s0 = 1) : evL 37 2 [l0, l1, l2, l3, l4, l5, l6] [Rf s0, s1] (Hp M P) = evL 37 5 [l0, l1, l2, l3, l4, l5, l6] [Rf (rfd s0 1), s1] (Hp M P) := e_getR c37_2 rfl hk
theorem c37_5 : cd 37 5 = some (5, .getfield 121, 3, 0, 3, 82) := rfl
theorem s37_5 {l0 l1 l2 l3 l4 l5 l6 s1 : AV} {s0 : Nat} {M : Mem} {P : PMem} (hk : kd s0 = 0) : evL 37 5 [l0, l1, l2, l3, l4, l5, l6] [Rf s0, s1] (Hp M P) = evL 37 8 [l0, l1, l2, l3, l4, l5, l6] [Rf (rfd s0 3), s1] (Hp M P) := e_getR c37_5 rfl hk
theorem c37_8 : cd 37 8 = some (8, .aload_n 0, 1, 0, 0, 0) := rfl
theorem s37_8 {l1 l2 l3 l4 l5 l6 s0 s1 : AV} {l0 : Option Nat} {h : AH} : evL 37 8 [.inr (.inl l0), l1, l2, l3, l4, l5, l6] [s0, s1] h = evL 37 9 [.inr (.inl l0), l1, l2, l3, l4, l5, l6] [.inr (.inl l0), s0, s1] h := ev_go c37_8 rfl
theorem c37_9 : cd 37 9 = some (9, .getfield 59, 3, 1, 5, 122) := rfl
theorem s37_9 {l0 l1 l2 l3 l4 l5 l6 s1 s2 : AV} {s0 : Nat} {M : Mem} {P : PMem} (hk : kd s0 = 1) : evL 37 9 [l0, l1, l2, l3, l4, l5, l6] [Rf s0, s1, s2] (Hp M P) = evL 37 12 [l0, l1, l2, l3, l4, l5, l6] [I (M s0 5), s1, s2] (Hp M P) := e_getI c37_9 rfl hk
theorem c37_12 : cd 37 12 = some (12, .invokevirtual 75, 3, 80, 0, 467) := rfl
theorem s37_12 {l0 l1 l2 l3 l4 l5 l6 s2 : AV} {s0 : Int} {s1 : Nat} {M : Mem} {P : PMem} (hk : kd s1 = 6) : evL 37 12 [l0, l1, l2, l3, l4, l5, l6] [I s0, Rf s1, s2] (Hp M P) = cont (evM 80 [Rf s1, I s0] (Hp M P)) (fun r h => evL 37 15 [l0, l1, l2, l3, l4, l5, l6] (rl r [s2]) h) := e_callV (av' := [I s0]) (rest := [s2]) (c := 6) c37_12 rfl rfl rfl rfl rfl rfl rfl hk rfl
theorem c37_15 : cd 37 15 = some (15, .isub, 1, 0, 0, 0) := rfl
theorem s37_15 {l0 l1 l2 l3 l4 l5 l6 : AV} {s0 s1 : Int} {h : AH} : evL 37 15 [l0, l1, l2, l3, l4, l5, l6] [I s0, I s1] h = evL 37 16 [l0, l1, l2, l3, l4, l5, l6] [I (sb s1 s0)] h := ev_go c37_15 rfl
theorem c37_16 : cd 37 16 = some (16, .istore 4, 2, 0, 0, 0) := rfl
theorem s37_16 {l0 l1 l2 l3 l4 l5 l6 : AV} {s0 : Int} {h : AH} : evL 37 16 [l0, l1, l2, l3, l4, l5, l6] [I s0] h = evL 37 18 [l0, l1, l2, l3, I s0, l5, l6] [] h := ev_go c37_16 rfl
theorem c37_18 : cd 37 18 = some (18, .iload_n 1, 1, 0, 0, 0) := rfl
theorem s37_18 {l0 l2 l3 l4 l5 l6 : AV} {l1 : Int} {h : AH} : evL 37 18 [l0, I l1, l2, l3, l4, l5, l6] [] h = evL 37 19 [l0, I l1, l2, l3, l4, l5, l6] [I l1] h := ev_go c37_18 rfl
theorem c37_19 : cd 37 19 = some (19, .istore 5, 2, 0, 0, 0) := rfl
theorem s37_19 {l0 l1 l2 l3 l4 l5 l6 : AV} {s0 : Int} {h : AH} : evL 37 19 [l0, l1, l2, l3, l4, l5, l6] [I s0] h = evL 37 21 [l0, l1, l2, l3, l4, I s0, l6] [] h := ev_go c37_19 rfl
theorem c37_21 : cd 37 21 = some (21, .iconst 0, 1, 0, 0, 0) := rfl
theorem s37_21 {l0 l1 l2 l3 l4 l5 l6 : AV} {h : AH} : evL 37 21 [l0, l1, l2, l3, l4, l5, l6] [] h = evL 37 22 [l0, l1, l2, l3, l4, l5, l6] [I 0] h := ev_go c37_21 rfl
theorem c37_22 : cd 37 22 = some (22, .istore 6, 2, 0, 0, 0) := rfl
theorem s37_22 {l0 l1 l2 l3 l4 l5 l6 : AV} {s0 : Int} {h : AH} : evL 37 22 [l0, l1, l2, l3, l4, l5, l6] [I s0] h = evL 37 24 [l0, l1, l2, l3, l4, l5, I s0] [] h := ev_go c37_22 rfl
theorem c37_24 : cd 37 24 = some (24, .iload 6, 2, 0, 0, 0) := rfl
theorem s37_24 {l0 l1 l2 l3 l4 l5 : AV} {l6 : Int} {h : AH} : evL 37 24 [l0, l1, l2, l3, l4, l5, I l6] [] h = evL 37 26 [l0, l1, l2, l3, l4, l5, I l6] [I l6] h := ev_go c37_24 rfl
theorem c37_26 : cd 37 26 = some (26, .iload 4, 2, 0, 0, 0) := rfl
theorem s37_26 {l0 l1 l2 l3 l5 l6 s0 : AV} {l4 : Int} {h : AH} : evL 37 26 [l0, l1, l2, l3, I l4, l5, l6] [s0] h = evL 37 28 [l0, l1, l2, l3, I l4, l5, l6] [I l4, s0] h := ev_go c37_26 rfl
theorem c37_28 : cd 37 28 = some (28, .if_icmp .ge 30, 3, 0, 0, 0) := rfl
theorem s37_28 {l0 l1 l2 l3 l4 l5 l6 : AV} {s0 s1 : Int} {h : AH} : evL 37 28 [l0, l1, l2, l3, l4, l5, l6] [I s0, I s1] h = if s0 ≤ s1 then evL 37 58 [l0, l1, l2, l3, l4, l5, l6] [] h else evL 37 31 [l0, l1, l2, l3, l4, l5, l6] [] h := e_icmp_ge c37_28 rfl rfl
theorem c37_31 : cd 37 31 = some (31, .iload_n 2, 1, 0, 0, 0) := rfl
theorem s37_31 {l0 l1 l3 l4 l5 l6 : AV} {l2 : Int} {h : AH} : evL 37 31 [l0, l1, I l2, l3, l4, l5, l6] [] h = evL 37 32 [l0, l1, I l2, l3, l4, l5, l6] [I l2] h := ev_go c37_31 rfl
theorem c37_32 : cd 37 32 = some (32, .ifCond .eq 12, 3, 0, 0, 0) := rfl
theorem s37_32 {l0 l1 l2 l3 l4 l5 l6 : AV} {s0 : Int} {h : AH} : evL 37 32 [l0, l1, l2, l3, l4, l5, l6] [I s0] h = if s0 = 0 then evL 37 44 [l0, l1, l2, l3, l4, l5, l6] [] h else evL 37 35 [l0, l1, l2, l3, l4, l5, l6] [] h := e_if_eq c37_32 rfl rfl
theorem c37_35 : cd 37 35 = some (35, .aload_n 0, 1, 0, 0, 0) := rfl
theorem s37_35 {l1 l2 l3 l4 l5 l6 : AV} {l0 : Option Nat} {h : AH} : evL 37 35 [.inr (.inl l0), l1, l2, l3, l4, l5, l6] [] h = evL 37 36 [.inr (.inl l0), l1, l2, l3, l4, l5, l6] [.inr (.inl l0)] h := ev_go c37_35 rfl
theorem c37_36 : cd 37 36 = some (36, .iload 5, 2, 0, 0, 0) := rfl
theorem s37_36 {l0 l1 l2 l3 l4 l6 s0 : AV} {l5 : Int} {h : AH} : evL 37 36 [l0, l1, l2, l3, l4, I l5, l6] [s0] h = evL 37 38 [l0, l1, l2, l3, l4, I l5, l6] [I l5, s0] h := ev_go c37_36 rfl
theorem c37_38 : cd 37 38 = some (38, .invokevirtual 143, 3, 38, 0, 482) := rfl
theorem s37_38 {l0 l1 l2 l3 l4 l5 l6 : AV} {s0 : Int} {s1 : Nat} {M : Mem} {P : PMem} (hk : kd s1 = 1) : evL 37 38 [l0, l1, l2, l3, l4, l5, l6] [I s0, Rf s1] (Hp M P) = cont (evM 38 [Rf s1, I s0] (Hp M P)) (fun r h => evL 37 41 [l0, l1, l2, l3, l4, l5, l6] (rl r []) h) := e_callV (av' := [I s0]) (rest := []) (c := 1) c37_38 rfl rfl rfl rfl rfl rfl rfl hk rfl
theorem c37_41 : cd 37 41 = some (41, .goto 9, 3, 0, 0, 0) := rfl
theorem s37_41 {l0 l1 l2 l3 l4 l5 l6 s0 : AV} {h : AH} : evL 37 41 [l0, l1, l2, l3, l4, l5, l6] [s0] h = evL 37 50 [l0, l1, l2, l3, l4, l5, l6] [s0] h := ev_go c37_41 rfl
theorem c37_44 : cd 37 44 = some (44, .aload_n 0, 1, 0, 0, 0) := rfl
theorem s37_44 {l1 l2 l3 l4 l5 l6 : AV} {l0 : Option Nat} {h : AH} : evL 37 44 [.inr (.inl l0), l1, l2, l3, l4, l5, l6] [] h = evL 37 45 [.inr (.inl l0), l1, l2, l3, l4, l5, l6] [.inr (.inl l0)] h := ev_go c37_44 rfl
theorem c37_45 : cd 37 45 = some (45, .iload 5, 2, 0, 0, 0) := rfl
theorem s37_45 {l0 l1 l2 l3 l4 l6 s0 : AV} {l5 : Int} {h : AH} : evL 37 45 [l0, l1, l2, l3, l4, I l5, l6] [s0] h = evL 37 47 [l0, l1, l2, l3, l4, I l5, l6] [I l5, s0] h := ev_go c37_45 rfl
theorem c37_47 : cd 37 47 = some (47, .invokevirtual 146, 3, 39, 0, 490) := rfl
theorem s37_47 {l0 l1 l2 l3 l4 l5 l6 : AV} {s0 : Int} {s1 : Nat} {M : Mem} {P : PMem} (hk : kd s1 = 1) : evL 37 47 [l0, l1, l2, l3, l4, l5, l6] [I s0, Rf s1] (Hp M P) = cont (evM 39 [Rf s1, I s0] (Hp M P)) (fun r h => evL 37 50 [l0, l1, l2, l3, l4, l5, l6] (rl r []) h) := e_callV (av' := [I s0]) (rest := []) (c := 1) c37_47 rfl rfl rfl rfl rfl rfl rfl hk rfl
theorem c37_50 : cd 37 50 = some (50, .istore 5, 2, 0, 0, 0) := rfl
theorem s37_50 {l0 l1 l2 l3 l4 l5 l6 : AV} {s0 : Int} {h : AH} : evL 37 50 [l0, l1, l2, l3, l4, l5, l6] [I s0] h = evL 37 52 [l0, l1, l2, l3, l4, I s0, l6] [] h := ev_go c37_50 rfl
theorem c37_52 : cd 37 52 = some (52, .iinc 6 1, 3, 0, 0, 0) := rfl
theorem s37_52 {l0 l1 l2 l3 l4 l5 : AV} {l6 : Int} {h : AH} : evL 37 52 [l0, l1, l2, l3, l4, l5, I l6] [] h = evL 37 55 [l0, l1, l2, l3, l4, l5, I (ad l6 1)] [] h := ev_go c37_52 rfl
theorem c37_55 : cd 37 55 = some (55, .goto (-31), 3, 0, 0, 0) := rfl
theorem s37_55 {l0 l1 l2 l3 l4 l5 l6 : AV} {h : AH} : evL 37 55 [l0, l1, l2, l3, l4, l5, l6] [] h = evL 37 24 [l0, l1, l2, l3, l4, l5, l6] [] h := ev_go c37_55 rfl
theorem c37_58 : cd 37 58 = some (58, .iload 5, 2, 0, 0, 0) := rfl
theorem s37_58 {l0 l1 l2 l3 l4 l6 : AV} {l5 : Int} {h : AH} : evL 37 58 [l0, l1, l2, l3, l4, I l5, l6] [] h = evL 37 60 [l0, l1, l2, l3, l4, I l5, l6] [I l5] h := ev_go c37_58 rfl
theorem c37_60 : cd 37 60 = some (60, .ireturn, 1, 0, 0, 0) := rfl
theorem s37_60 {l0 l1 l2 l3 l4 l5 l6 : AV} {s0 : Int} {h : AH} : evL 37 60 [l0, l1, l2, l3, l4, l5, l6] [I s0] h = some (some (I s0), h) := e_ret c37_60 rfl
/-! 38: TankDivers$Game.stepUp(I)I -/
theorem en38 {l0 l1 : AV} {h : AH} : evM 38 [l0, l1] h = evL 38 0 [l0, l1, Db 0] [] h := rfl
theorem c38_0 : cd 38 0 = some (0, .iload_n 1, 1, 0, 0, 0) := rfl
theorem s38_0 {l0 l2 : AV} {l1 : Int} {h : AH} : evL 38 0 [l0, I l1, l2] [] h = evL 38 1 [l0, I l1, l2] [I l1] h := ev_go c38_0 rfl
theorem c38_1 : cd 38 1 = some (1, .iconst 1, 1, 0, 0, 0) := rfl
theorem s38_1 {l0 l1 l2 s0 : AV} {h : AH} : evL 38 1 [l0, l1, l2] [s0] h = evL 38 2 [l0, l1, l2] [I 1, s0] h := ev_go c38_1 rfl
theorem c38_2 : cd 38 2 = some (2, .isub, 1, 0, 0, 0) := rfl
theorem s38_2 {l0 l1 l2 : AV} {s0 s1 : Int} {h : AH} : evL 38 2 [l0, l1, l2] [I s0, I s1] h = evL 38 3 [l0, l1, l2] [I (sb s1 s0)] h := ev_go c38_2 rfl
theorem c38_3 : cd 38 3 = some (3, .istore_n 2, 1, 0, 0, 0) := rfl
theorem s38_3 {l0 l1 l2 : AV} {s0 : Int} {h : AH} : evL 38 3 [l0, l1, l2] [I s0] h = evL 38 4 [l0, l1, I s0] [] h := ev_go c38_3 rfl
theorem c38_4 : cd 38 4 = some (4, .iload_n 2, 1, 0, 0, 0) := rfl
theorem s38_4 {l0 l1 : AV} {l2 : Int} {h : AH} : evL 38 4 [l0, l1, I l2] [] h = evL 38 5 [l0, l1, I l2] [I l2] h := ev_go c38_4 rfl
theorem c38_5 : cd 38 5 = some (5, .ifCond .le 26, 3, 0, 0, 0) := rfl
theorem s38_5 {l0 l1 l2 : AV} {s0 : Int} {h : AH} : evL 38 5 [l0, l1, l2] [I s0] h = if s0 ≤ 0 then evL 38 31 [l0, l1, l2] [] h else evL 38 8 [l0, l1, l2] [] h := e_if_le c38_5 rfl rfl
theorem c38_8 : cd 38 8 = some (8, .aload_n 0, 1, 0, 0, 0) := rfl
theorem s38_8 {l1 l2 : AV} {l0 : Option Nat} {h : AH} : evL 38 8 [.inr (.inl l0), l1, l2] [] h = evL 38 9 [.inr (.inl l0), l1, l2] [.inr (.inl l0)] h := ev_go c38_8 rfl
theorem c38_9 : cd 38 9 = some (9, .getfield 21, 3, 1, 1, 115) := rfl
theorem s38_9 {l0 l1 l2 : AV} {s0 : Nat} {M : Mem} {P : PMem} (hk : kd s0 = 1) : evL 38 9 [l0, l1, l2] [Rf s0] (Hp M P) = evL 38 12 [l0, l1, l2] [Rf (rfd s0 1)] (Hp M P) := e_getR c38_9 rfl hk
theorem c38_12 : cd 38 12 = some (12, .aload_n 0, 1, 0, 0, 0) := rfl
theorem s38_12 {l1 l2 s0 : AV} {l0 : Option Nat} {h : AH} : evL 38 12 [.inr (.inl l0), l1, l2] [s0] h = evL 38 13 [.inr (.inl l0), l1, l2] [.inr (.inl l0), s0] h := ev_go c38_12 rfl
theorem c38_13 : cd 38 13 = some (13, .getfield 59, 3, 1, 5, 122) := rfl
theorem s38_13 {l0 l1 l2 s1 : AV} {s0 : Nat} {M : Mem} {P : PMem} (hk : kd s0 = 1) : evL 38 13 [l0, l1, l2] [Rf s0, s1] (Hp M P) = evL 38 16 [l0, l1, l2] [I (M s0 5), s1] (Hp M P) := e_getI c38_13 rfl hk
theorem c38_16 : cd 38 16 = some (16, .iload_n 2, 1, 0, 0, 0) := rfl
theorem s38_16 {l0 l1 s0 s1 : AV} {l2 : Int} {h : AH} : evL 38 16 [l0, l1, I l2] [s0, s1] h = evL 38 17 [l0, l1, I l2] [I l2, s0, s1] h := ev_go c38_16 rfl
theorem c38_17 : cd 38 17 = some (17, .invokevirtual 149, 3, 18, 0, 486) := rfl
theorem s38_17 {l0 l1 l2 : AV} {s0 s1 : Int} {s2 : Nat} {M : Mem} {P : PMem} (hk : kd s2 = 0) : evL 38 17 [l0, l1, l2] [I s0, I s1, Rf s2] (Hp M P) = cont (evM 18 [Rf s2, I s1, I s0] (Hp M P)) (fun r h => evL 38 20 [l0, l1, l2] (rl r []) h) := e_callV (av' := [I s1, I s0]) (rest := []) (c := 0) c38_17 rfl rfl rfl rfl rfl rfl rfl hk rfl
theorem c38_20 : cd 38 20 = some (20, .ifCond .eq 5, 3, 0, 0, 0) := rfl
theorem s38_20 {l0 l1 l2 : AV} {s0 : Int} {h : AH} : evL 38 20 [l0, l1, l2] [I s0] h = if s0 = 0 then evL 38 25 [l0, l1, l2] [] h else evL 38 23 [l0, l1, l2] [] h := e_if_eq c38_20 rfl rfl
theorem c38_23 : cd 38 23 = some (23, .iload_n 2, 1, 0, 0, 0) := rfl
theorem s38_23 {l0 l1 : AV} {l2 : Int} {h : AH} : evL 38 23 [l0, l1, I l2] [] h = evL 38 24 [l0, l1, I l2] [I l2] h := ev_go c38_23 rfl
theorem c38_24 : cd 38 24 = some (24, .ireturn, 1, 0, 0, 0) := rfl
theorem s38_24 {l0 l1 l2 : AV} {s0 : Int} {h : AH} : evL 38 24 [l0, l1, l2] [I s0] h = some (some (I s0), h) := e_ret c38_24 rfl
theorem c38_25 : cd 38 25 = some (25, .iinc 2 (-1), 3, 0, 0, 0) := rfl
theorem s38_25 {l0 l1 : AV} {l2 : Int} {h : AH} : evL 38 25 [l0, l1, I l2] [] h = evL 38 28 [l0, l1, I (ad l2 (-1))] [] h := ev_go c38_25 rfl
theorem c38_28 : cd 38 28 = some (28, .goto (-24), 3, 0, 0, 0) := rfl
theorem s38_28 {l0 l1 l2 : AV} {h : AH} : evL 38 28 [l0, l1, l2] [] h = evL 38 4 [l0, l1, l2] [] h := ev_go c38_28 rfl
theorem c38_31 : cd 38 31 = some (31, .iconst 0, 1, 0, 0, 0) := rfl
theorem s38_31 {l0 l1 l2 : AV} {h : AH} : evL 38 31 [l0, l1, l2] [] h = evL 38 32 [l0, l1, l2] [I 0] h := ev_go c38_31 rfl
theorem c38_32 : cd 38 32 = some (32, .ireturn, 1, 0, 0, 0) := rfl
theorem s38_32 {l0 l1 l2 : AV} {s0 : Int} {h : AH} : evL 38 32 [l0, l1, l2] [I s0] h = some (some (I s0), h) := e_ret c38_32 rfl
/-! 39: TankDivers$Game.stepDown(I)I -/
theorem en39 {l0 l1 : AV} {h : AH} : evM 39 [l0, l1] h = evL 39 0 [l0, l1, Db 0] [] h := rfl
theorem c39_0 : cd 39 0 = some (0, .iload_n 1, 1, 0, 0, 0) := rfl
theorem s39_0 {l0 l2 : AV} {l1 : Int} {h : AH} : evL 39 0 [l0, I l1, l2] [] h = evL 39 1 [l0, I l1, l2] [I l1] h := ev_go c39_0 rfl
theorem c39_1 : cd 39 1 = some (1, .iconst 1, 1, 0, 0, 0) := rfl
theorem s39_1 {l0 l1 l2 s0 : AV} {h : AH} : evL 39 1 [l0, l1, l2] [s0] h = evL 39 2 [l0, l1, l2] [I 1, s0] h := ev_go c39_1 rfl
theorem c39_2 : cd 39 2 = some (2, .iadd, 1, 0, 0, 0) := rfl
theorem s39_2 {l0 l1 l2 : AV} {s0 s1 : Int} {h : AH} : evL 39 2 [l0, l1, l2] [I s0, I s1] h = evL 39 3 [l0, l1, l2] [I (ad s1 s0)] h := ev_go c39_2 rfl
theorem c39_3 : cd 39 3 = some (3, .istore_n 2, 1, 0, 0, 0) := rfl
theorem s39_3 {l0 l1 l2 : AV} {s0 : Int} {h : AH} : evL 39 3 [l0, l1, l2] [I s0] h = evL 39 4 [l0, l1, I s0] [] h := ev_go c39_3 rfl
theorem c39_4 : cd 39 4 = some (4, .iload_n 2, 1, 0, 0, 0) := rfl
theorem s39_4 {l0 l1 : AV} {l2 : Int} {h : AH} : evL 39 4 [l0, l1, I l2] [] h = evL 39 5 [l0, l1, I l2] [I l2] h := ev_go c39_4 rfl
theorem c39_5 : cd 39 5 = some (5, .aload_n 0, 1, 0, 0, 0) := rfl
theorem s39_5 {l1 l2 s0 : AV} {l0 : Option Nat} {h : AH} : evL 39 5 [.inr (.inl l0), l1, l2] [s0] h = evL 39 6 [.inr (.inl l0), l1, l2] [.inr (.inl l0), s0] h := ev_go c39_5 rfl
theorem c39_6 : cd 39 6 = some (6, .getfield 12, 3, 1, 0, 112) := rfl
theorem s39_6 {l0 l1 l2 s1 : AV} {s0 : Nat} {M : Mem} {P : PMem} (hk : kd s0 = 1) : evL 39 6 [l0, l1, l2] [Rf s0, s1] (Hp M P) = evL 39 9 [l0, l1, l2] [Rf (rfd s0 0), s1] (Hp M P) := e_getR c39_6 rfl hk
theorem c39_9 : cd 39 9 = some (9, .getfield 38, 3, 5, 1, 58) := rfl
theorem s39_9 {l0 l1 l2 s1 : AV} {s0 : Nat} {M : Mem} {P : PMem} (hk : kd s0 = 5) : evL 39 9 [l0, l1, l2] [Rf s0, s1] (Hp M P) = evL 39 12 [l0, l1, l2] [I (M s0 1), s1] (Hp M P) := e_getI c39_9 rfl hk
theorem c39_12 : cd 39 12 = some (12, .if_icmp .gt 26, 3, 0, 0, 0) := rfl
theorem s39_12 {l0 l1 l2 : AV} {s0 s1 : Int} {h : AH} : evL 39 12 [l0, l1, l2] [I s0, I s1] h = if s0 < s1 then evL 39 38 [l0, l1, l2] [] h else evL 39 15 [l0, l1, l2] [] h := e_icmp_gt c39_12 rfl rfl
theorem c39_15 : cd 39 15 = some (15, .aload_n 0, 1, 0, 0, 0) := rfl
theorem s39_15 {l1 l2 : AV} {l0 : Option Nat} {h : AH} : evL 39 15 [.inr (.inl l0), l1, l2] [] h = evL 39 16 [.inr (.inl l0), l1, l2] [.inr (.inl l0)] h := ev_go c39_15 rfl
theorem c39_16 : cd 39 16 = some (16, .getfield 21, 3, 1, 1, 115) := rfl
theorem s39_16 {l0 l1 l2 : AV} {s0 : Nat} {M : Mem} {P : PMem} (hk : kd s0 = 1) : evL 39 16 [l0, l1, l2] [Rf s0] (Hp M P) = evL 39 19 [l0, l1, l2] [Rf (rfd s0 1)] (Hp M P) := e_getR c39_16 rfl hk
theorem c39_19 : cd 39 19 = some (19, .aload_n 0, 1, 0, 0, 0) := rfl
theorem s39_19 {l1 l2 s0 : AV} {l0 : Option Nat} {h : AH} : evL 39 19 [.inr (.inl l0), l1, l2] [s0] h = evL 39 20 [.inr (.inl l0), l1, l2] [.inr (.inl l0), s0] h := ev_go c39_19 rfl
theorem c39_20 : cd 39 20 = some (20, .getfield 59, 3, 1, 5, 122) := rfl
theorem s39_20 {l0 l1 l2 s1 : AV} {s0 : Nat} {M : Mem} {P : PMem} (hk : kd s0 = 1) : evL 39 20 [l0, l1, l2] [Rf s0, s1] (Hp M P) = evL 39 23 [l0, l1, l2] [I (M s0 5), s1] (Hp M P) := e_getI c39_20 rfl hk
theorem c39_23 : cd 39 23 = some (23, .iload_n 2, 1, 0, 0, 0) := rfl
theorem s39_23 {l0 l1 s0 s1 : AV} {l2 : Int} {h : AH} : evL 39 23 [l0, l1, I l2] [s0, s1] h = evL 39 24 [l0, l1, I l2] [I l2, s0, s1] h := ev_go c39_23 rfl
theorem c39_24 : cd 39 24 = some (24, .invokevirtual 149, 3, 18, 0, 486) := rfl
theorem s39_24 {l0 l1 l2 : AV} {s0 s1 : Int} {s2 : Nat} {M : Mem} {P : PMem} (hk : kd s2 = 0) : evL 39 24 [l0, l1, l2] [I s0, I s1, Rf s2] (Hp M P) = cont (evM 18 [Rf s2, I s1, I s0] (Hp M P)) (fun r h => evL 39 27 [l0, l1, l2] (rl r []) h) := e_callV (av' := [I s1, I s0]) (rest := []) (c := 0) c39_24 rfl rfl rfl rfl rfl rfl rfl hk rfl
theorem c39_27 : cd 39 27 = some (27, .ifCond .eq 5, 3, 0, 0, 0) := rfl
theorem s39_27 {l0 l1 l2 : AV} {s0 : Int} {h : AH} : evL 39 27 [l0, l1, l2] [I s0] h = if s0 = 0 then evL 39 32 [l0, l1, l2] [] h else evL 39 30 [l0, l1, l2] [] h := e_if_eq c39_27 rfl rfl
theorem c39_30 : cd 39 30 = some (30, .iload_n 2, 1, 0, 0, 0) := rfl
theorem s39_30 {l0 l1 : AV} {l2 : Int} {h : AH} : evL 39 30 [l0, l1, I l2] [] h = evL 39 31 [l0, l1, I l2] [I l2] h := ev_go c39_30 rfl
theorem c39_31 : cd 39 31 = some (31, .ireturn, 1, 0, 0, 0) := rfl
theorem s39_31 {l0 l1 l2 : AV} {s0 : Int} {h : AH} : evL 39 31 [l0, l1, l2] [I s0] h = some (some (I s0), h) := e_ret c39_31 rfl
theorem c39_32 : cd 39 32 = some (32, .iinc 2 1, 3, 0, 0, 0) := rfl
theorem s39_32 {l0 l1 : AV} {l2 : Int} {h : AH} : evL 39 32 [l0, l1, I l2] [] h = evL 39 35 [l0, l1, I (ad l2 1)] [] h := ev_go c39_32 rfl
theorem c39_35 : cd 39 35 = some (35, .goto (-31), 3, 0, 0, 0) := rfl
theorem s39_35 {l0 l1 l2 : AV} {h : AH} : evL 39 35 [l0, l1, l2] [] h = evL 39 4 [l0, l1, l2] [] h := ev_go c39_35 rfl
theorem c39_38 : cd 39 38 = some (38, .iload_n 1, 1, 0, 0, 0) := rfl
theorem s39_38 {l0 l2 : AV} {l1 : Int} {h : AH} : evL 39 38 [l0, I l1, l2] [] h = evL 39 39 [l0, I l1, l2] [I l1] h := ev_go c39_38 rfl
theorem c39_39 : cd 39 39 = some (39, .ireturn, 1, 0, 0, 0) := rfl
theorem s39_39 {l0 l1 l2 : AV} {s0 : Int} {h : AH} : evL 39 39 [l0, l1, l2] [I s0] h = some (some (I s0), h) := e_ret c39_39 rfl
/-! 40: TankDivers$Game.doDeed(II)I -/
theorem en40 {l0 l1 l2 : AV} {h : AH} : evM 40 [l0, l1, l2] h = evL 40 0 [l0, l1, l2, Db 0, Db 0, Db 0] [] h := rfl
theorem c40_0 : cd 40 0 = some (0, .aload_n 0, 1, 0, 0, 0) := rfl
theorem s40_0 {l1 l2 l3 l4 l5 : AV} {l0 : Option Nat} {h : AH} : evL 40 0 [.inr (.inl l0), l1, l2, l3, l4, l5] [] h = evL 40 1 [.inr (.inl l0), l1, l2, l3, l4, l5] [.inr (.inl l0)] h := ev_go c40_0 rfl
theorem c40_1 : cd 40 1 = some (1, .iload_n 1, 1, 0, 0, 0) := rfl
theorem s40_1 {l0 l2 l3 l4 l5 s0 : AV} {l1 : Int} {h : AH} : evL 40 1 [l0, I l1, l2, l3, l4, l5] [s0] h = evL 40 2 [l0, I l1, l2, l3, l4, l5] [I l1, s0] h := ev_go c40_1 rfl
theorem c40_2 : cd 40 2 = some (2, .iload_n 2, 1, 0, 0, 0) := rfl
theorem s40_2 {l0 l1 l3 l4 l5 s0 s1 : AV} {l2 : Int} {h : AH} : evL 40 2 [l0, l1, I l2, l3, l4, l5] [s0, s1] h = evL 40 3 [l0, l1, I l2, l3, l4, l5] [I l2, s0, s1] h := ev_go c40_2 rfl
theorem c40_3 : cd 40 3 = some (3, .invokevirtual 153, 3, 41, 0, 562) := rfl
theorem s40_3 {l0 l1 l2 l3 l4 l5 : AV} {s0 s1 : Int} {s2 : Nat} {M : Mem} {P : PMem} (hk : kd s2 = 1) : evL 40 3 [l0, l1, l2, l3, l4, l5] [I s0, I s1, Rf s2] (Hp M P) = cont (evM 41 [Rf s2, I s1, I s0] (Hp M P)) (fun r h => evL 40 6 [l0, l1, l2, l3, l4, l5] (rl r []) h) := e_callV (av' := [I s1, I s0]) (rest := []) (c := 1) c40_3 rfl rfl rfl rfl rfl rfl rfl hk rfl
theorem c40_6 : cd 40 6 = some (6, .istore_n 3, 1, 0, 0, 0) := rfl
theorem s40_6 {l0 l1 l2 l3 l4 l5 : AV} {s0 : Int} {h : AH} : evL 40 6 [l0, l1, l2, l3, l4, l5] [I s0] h = evL 40 7 [l0, l1, l2, I s0, l4, l5] [] h := ev_go c40_6 rfl
theorem c40_7 : cd 40 7 = some (7, .iload_n 3, 1, 0, 0, 0) := rfl
theorem s40_7 {l0 l1 l2 l4 l5 : AV} {l3 : Int} {h : AH} : evL 40 7 [l0, l1, l2, I l3, l4, l5] [] h = evL 40 8 [l0, l1, l2, I l3, l4, l5] [I l3] h := ev_go c40_7 rfl
theorem c40_8 : cd 40 8 = some (8, .ifCond .eq 15, 3, 0, 0, 0) := rfl
theorem s40_8 {l0 l1 l2 l3 l4 l5 : AV} {s0 : Int} {h : AH} : evL 40 8 [l0, l1, l2, l3, l4, l5] [I s0] h = if s0 = 0 then evL 40 23 [l0, l1, l2, l3, l4, l5] [] h else evL 40 11 [l0, l1, l2, l3, l4, l5] [] h := e_if_eq c40_8 rfl rfl
theorem c40_11 : cd 40 11 = some (11, .aload_n 0, 1, 0, 0, 0) := rfl
theorem s40_11 {l1 l2 l3 l4 l5 : AV} {l0 : Option Nat} {h : AH} : evL 40 11 [.inr (.inl l0), l1, l2, l3, l4, l5] [] h = evL 40 12 [.inr (.inl l0), l1, l2, l3, l4, l5] [.inr (.inl l0)] h := ev_go c40_11 rfl
theorem c40_12 : cd 40 12 = some (12, .dup, 1, 0, 0, 0) := rfl
theorem s40_12 {l0 l1 l2 l3 l4 l5 : AV} {s0 : Option Nat} {h : AH} : evL 40 12 [l0, l1, l2, l3, l4, l5] [.inr (.inl s0)] h = evL 40 13 [l0, l1, l2, l3, l4, l5] [.inr (.inl s0), .inr (.inl s0)] h := ev_go c40_12 rfl
theorem c40_13 : cd 40 13 = some (13, .getfield 118, 3, 1, 9, 130) := rfl
theorem s40_13 {l0 l1 l2 l3 l4 l5 s1 : AV} {s0 : Nat} {M : Mem} {P : PMem} (hk : kd s0 = 1) : evL 40 13 [l0, l1, l2, l3, l4, l5] [Rf s0, s1] (Hp M P) = evL 40 16 [l0, l1, l2, l3, l4, l5] [I (M s0 9), s1] (Hp M P) := e_getI c40_13 rfl hk
theorem c40_16 : cd 40 16 = some (16, .iconst 1, 1, 0, 0, 0) := rfl
theorem s40_16 {l0 l1 l2 l3 l4 l5 s0 s1 : AV} {h : AH} : evL 40 16 [l0, l1, l2, l3, l4, l5] [s0, s1] h = evL 40 17 [l0, l1, l2, l3, l4, l5] [I 1, s0, s1] h := ev_go c40_16 rfl
theorem c40_17 : cd 40 17 = some (17, .iadd, 1, 0, 0, 0) := rfl
theorem s40_17 {l0 l1 l2 l3 l4 l5 s2 : AV} {s0 s1 : Int} {h : AH} : evL 40 17 [l0, l1, l2, l3, l4, l5] [I s0, I s1, s2] h = evL 40 18 [l0, l1, l2, l3, l4, l5] [I (ad s1 s0), s2] h := ev_go c40_17 rfl
theorem c40_18 : cd 40 18 = some (18, .putfield 118, 3, 1, 9, 130) := rfl
theorem s40_18 {l0 l1 l2 l3 l4 l5 : AV} {s0 : Int} {s1 : Nat} {M : Mem} {P : PMem} (hk : kd s1 = 1) : evL 40 18 [l0, l1, l2, l3, l4, l5] [I s0, Rf s1] (Hp M P) = evL 40 21 [l0, l1, l2, l3, l4, l5] [] (Hp (wr M s1 9 s0) P) := e_putI c40_18 rfl hk
theorem c40_21 : cd 40 21 = some (21, .iload_n 3, 1, 0, 0, 0) := rfl
theorem s40_21 {l0 l1 l2 l4 l5 : AV} {l3 : Int} {h : AH} : evL 40 21 [l0, l1, l2, I l3, l4, l5] [] h = evL 40 22 [l0, l1, l2, I l3, l4, l5] [I l3] h := ev_go c40_21 rfl
theorem c40_22 : cd 40 22 = some (22, .ireturn, 1, 0, 0, 0) := rfl
theorem s40_22 {l0 l1 l2 l3 l4 l5 : AV} {s0 : Int} {h : AH} : evL 40 22 [l0, l1, l2, l3, l4, l5] [I s0] h = some (some (I s0), h) := e_ret c40_22 rfl
theorem c40_23 : cd 40 23 = some (23, .aload_n 0, 1, 0, 0, 0) := rfl
theorem s40_23 {l1 l2 l3 l4 l5 : AV} {l0 : Option Nat} {h : AH} : evL 40 23 [.inr (.inl l0), l1, l2, l3, l4, l5] [] h = evL 40 24 [.inr (.inl l0), l1, l2, l3, l4, l5] [.inr (.inl l0)] h := ev_go c40_23 rfl
theorem c40_24 : cd 40 24 = some (24, .invokevirtual 108, 3, 31, 0, 468) := rfl
theorem s40_24 {l0 l1 l2 l3 l4 l5 : AV} {s0 : Nat} {M : Mem} {P : PMem} (hk : kd s0 = 1) : evL 40 24 [l0, l1, l2, l3, l4, l5] [Rf s0] (Hp M P) = cont (evM 31 [Rf s0] (Hp M P)) (fun r h => evL 40 27 [l0, l1, l2, l3, l4, l5] (rl r []) h) := e_callV (av' := []) (rest := []) (c := 1) c40_24 rfl rfl rfl rfl rfl rfl rfl hk rfl
theorem c40_27 : cd 40 27 = some (27, .istore 4, 2, 0, 0, 0) := rfl
theorem s40_27 {l0 l1 l2 l3 l4 l5 : AV} {s0 : Int} {h : AH} : evL 40 27 [l0, l1, l2, l3, l4, l5] [I s0] h = evL 40 29 [l0, l1, l2, l3, I s0, l5] [] h := ev_go c40_27 rfl
theorem c40_29 : cd 40 29 = some (29, .bipush 10, 2, 0, 0, 0) := rfl
theorem s40_29 {l0 l1 l2 l3 l4 l5 : AV} {h : AH} : evL 40 29 [l0, l1, l2, l3, l4, l5] [] h = evL 40 31 [l0, l1, l2, l3, l4, l5] [I 10] h := ev_go c40_29 rfl
theorem c40_31 : cd 40 31 = some (31, .istore 5, 2, 0, 0, 0) := rfl
theorem s40_31 {l0 l1 l2 l3 l4 l5 : AV} {s0 : Int} {h : AH} : evL 40 31 [l0, l1, l2, l3, l4, l5] [I s0] h = evL 40 33 [l0, l1, l2, l3, l4, I s0] [] h := ev_go c40_31 rfl
theorem c40_33 : cd 40 33 = some (33, .iload_n 1, 1, 0, 0, 0) := rfl
theorem s40_33 {l0 l2 l3 l4 l5 : AV} {l1 : Int} {h : AH} : evL 40 33 [l0, I l1, l2, l3, l4, l5] [] h = evL 40 34 [l0, I l1, l2, l3, l4, l5] [I l1] h := ev_go c40_33 rfl
theorem c40_34 : cd 40 34 = some (34, .bipush 116, 2, 0, 0, 0) := rfl
theorem s40_34 {l0 l1 l2 l3 l4 l5 s0 : AV} {h : AH} : evL 40 34 [l0, l1, l2, l3, l4, l5] [s0] h = evL 40 36 [l0, l1, l2, l3, l4, l5] [I 116, s0] h := ev_go c40_34 rfl
theorem c40_36 : cd 40 36 = some (36, .if_icmp .ne 55, 3, 0, 0, 0) := rfl
theorem s40_36 {l0 l1 l2 l3 l4 l5 : AV} {s0 s1 : Int} {h : AH} : evL 40 36 [l0, l1, l2, l3, l4, l5] [I s0, I s1] h = if s1 = s0 then evL 40 39 [l0, l1, l2, l3, l4, l5] [] h else evL 40 91 [l0, l1, l2, l3, l4, l5] [] h := e_icmp_ne c40_36 rfl rfl
theorem c40_39 : cd 40 39 = some (39, .aload_n 0, 1, 0, 0, 0) := rfl
theorem s40_39 {l1 l2 l3 l4 l5 : AV} {l0 : Option Nat} {h : AH} : evL 40 39 [.inr (.inl l0), l1, l2, l3, l4, l5] [] h = evL 40 40 [.inr (.inl l0), l1, l2, l3, l4, l5] [.inr (.inl l0)] h := ev_go c40_39 rfl
theorem c40_40 : cd 40 40 = some (40, .getfield 21, 3, 1, 1, 115) := rfl
theorem s40_40 {l0 l1 l2 l3 l4 l5 : AV} {s0 : Nat} {M : Mem} {P : PMem} (hk : kd s0 = 1) : evL 40 40 [l0, l1, l2, l3, l4, l5] [Rf s0] (Hp M P) = evL 40 43 [l0, l1, l2, l3, l4, l5] [Rf (rfd s0 1)] (Hp M P) := e_getR c40_40 rfl hk
theorem c40_43 : cd 40 43 = some (43, .aload_n 0, 1, 0, 0, 0) := rfl
theorem s40_43 {l1 l2 l3 l4 l5 s0 : AV} {l0 : Option Nat} {h : AH} : evL 40 43 [.inr (.inl l0), l1, l2, l3, l4, l5] [s0] h = evL 40 44 [.inr (.inl l0), l1, l2, l3, l4, l5] [.inr (.inl l0), s0] h := ev_go c40_43 rfl
theorem c40_44 : cd 40 44 = some (44, .getfield 59, 3, 1, 5, 122) := rfl
theorem s40_44 {l0 l1 l2 l3 l4 l5 s1 : AV} {s0 : Nat} {M : Mem} {P : PMem} (hk : kd s0 = 1) : evL 40 44 [l0, l1, l2, l3, l4, l5] [Rf s0, s1] (Hp M P) = evL 40 47 [l0, l1, l2, l3, l4, l5] [I (M s0 5), s1] (Hp M P) := e_getI c40_44 rfl hk
theorem c40_47 : cd 40 47 = some (47, .aload_n 0, 1, 0, 0, 0) := rfl
theorem s40_47 {l1 l2 l3 l4 l5 s0 s1 : AV} {l0 : Option Nat} {h : AH} : evL 40 47 [.inr (.inl l0), l1, l2, l3, l4, l5] [s0, s1] h = evL 40 48 [.inr (.inl l0), l1, l2, l3, l4, l5] [.inr (.inl l0), s0, s1] h := ev_go c40_47 rfl
theorem c40_48 : cd 40 48 = some (48, .getfield 12, 3, 1, 0, 112) := rfl
theorem s40_48 {l0 l1 l2 l3 l4 l5 s1 s2 : AV} {s0 : Nat} {M : Mem} {P : PMem} (hk : kd s0 = 1) : evL 40 48 [l0, l1, l2, l3, l4, l5] [Rf s0, s1, s2] (Hp M P) = evL 40 51 [l0, l1, l2, l3, l4, l5] [Rf (rfd s0 0), s1, s2] (Hp M P) := e_getR c40_48 rfl hk
theorem c40_51 : cd 40 51 = some (51, .iload 4, 2, 0, 0, 0) := rfl
theorem s40_51 {l0 l1 l2 l3 l5 s0 s1 s2 : AV} {l4 : Int} {h : AH} : evL 40 51 [l0, l1, l2, l3, I l4, l5] [s0, s1, s2] h = evL 40 53 [l0, l1, l2, l3, I l4, l5] [I l4, s0, s1, s2] h := ev_go c40_51 rfl
theorem c40_53 : cd 40 53 = some (53, .invokevirtual 156, 3, 66, 0, 570) := rfl
theorem s40_53 {l0 l1 l2 l3 l4 l5 s2 s3 : AV} {s0 : Int} {s1 : Nat} {M : Mem} {P : PMem} (hk : kd s1 = 5) : evL 40 53 [l0, l1, l2, l3, l4, l5] [I s0, Rf s1, s2, s3] (Hp M P) = cont (evM 66 [Rf s1, I s0] (Hp M P)) (fun r h => evL 40 56 [l0, l1, l2, l3, l4, l5] (rl r [s2, s3]) h) := e_callV (av' := [I s0]) (rest := [s2, s3]) (c := 5) c40_53 rfl rfl rfl rfl rfl rfl rfl hk rfl
theorem c40_56 : cd 40 56 = some (56, .invokevirtual 159, 3, 7, 0, 575) := rfl
theorem s40_56 {l0 l1 l2 l3 l4 l5 : AV} {s0 s1 : Int} {s2 : Nat} {M : Mem} {P : PMem} (hk : kd s2 = 0) : evL 40 56 [l0, l1, l2, l3, l4, l5] [I s0, I s1, Rf s2] (Hp M P) = cont (evM 7 [Rf s2, I s1, I s0] (Hp M P)) (fun r h => evL 40 59 [l0, l1, l2, l3, l4, l5] (rl r []) h) := e_callV (av' := [I s1, I s0]) (rest := []) (c := 0) c40_56 rfl rfl rfl rfl rfl rfl rfl hk rfl
theorem c40_59 : cd 40 59 = some (59, .aload_n 0, 1, 0, 0, 0) := rfl
theorem s40_59 {l1 l2 l3 l4 l5 : AV} {l0 : Option Nat} {h : AH} : evL 40 59 [.inr (.inl l0), l1, l2, l3, l4, l5] [] h = evL 40 60 [.inr (.inl l0), l1, l2, l3, l4, l5] [.inr (.inl l0)] h := ev_go c40_59 rfl
theorem c40_60 : cd 40 60 = some (60, .getfield 12, 3, 1, 0, 112) := rfl
theorem s40_60 {l0 l1 l2 l3 l4 l5 : AV} {s0 : Nat} {M : Mem} {P : PMem} (hk : kd s0 = 1) : evL 40 60 [l0, l1, l2, l3, l4, l5] [Rf s0] (Hp M P) = evL 40 63 [l0, l1, l2, l3, l4, l5] [Rf (rfd s0 0)] (Hp M P) := e_getR c40_60 rfl hk
theorem c40_63 : cd 40 63 = some (63, .iload 4, 2, 0, 0, 0) := rfl
theorem s40_63 {l0 l1 l2 l3 l5 s0 : AV} {l4 : Int} {h : AH} : evL 40 63 [l0, l1, l2, l3, I l4, l5] [s0] h = evL 40 65 [l0, l1, l2, l3, I l4, l5] [I l4, s0] h := ev_go c40_63 rfl
theorem c40_65 : cd 40 65 = some (65, .iconst 0, 1, 0, 0, 0) := rfl
theorem s40_65 {l0 l1 l2 l3 l4 l5 s0 s1 : AV} {h : AH} : evL 40 65 [l0, l1, l2, l3, l4, l5] [s0, s1] h = evL 40 66 [l0, l1, l2, l3, l4, l5] [I 0, s0, s1] h := ev_go c40_65 rfl
theorem c40_66 : cd 40 66 = some (66, .invokevirtual 162, 3, 67, 0, 581) := rfl
theorem s40_66 {l0 l1 l2 l3 l4 l5 : AV} {s0 s1 : Int} {s2 : Nat} {M : Mem} {P : PMem} (hk : kd s2 = 5) : evL 40 66 [l0, l1, l2, l3, l4, l5] [I s0, I s1, Rf s2] (Hp M P) = cont (evM 67 [Rf s2, I s1, I s0] (Hp M P)) (fun r h => evL 40 69 [l0, l1, l2, l3, l4, l5] (rl r []) h) := e_callV (av' := [I s1, I s0]) (rest := []) (c := 5) c40_66 rfl rfl rfl rfl rfl rfl rfl hk rfl
theorem c40_69 : cd 40 69 = some (69, .iload 5, 2, 0, 0, 0) := rfl
theorem s40_69 {l0 l1 l2 l3 l4 : AV} {l5 : Int} {h : AH} : evL 40 69 [l0, l1, l2, l3, l4, I l5] [] h = evL 40 71 [l0, l1, l2, l3, l4, I l5] [I l5] h := ev_go c40_69 rfl
theorem c40_71 : cd 40 71 = some (71, .aload_n 0, 1, 0, 0, 0) := rfl
theorem s40_71 {l1 l2 l3 l4 l5 s0 : AV} {l0 : Option Nat} {h : AH} : evL 40 71 [.inr (.inl l0), l1, l2, l3, l4, l5] [s0] h = evL 40 72 [.inr (.inl l0), l1, l2, l3, l4, l5] [.inr (.inl l0), s0] h := ev_go c40_71 rfl
theorem c40_72 : cd 40 72 = some (72, .getfield 21, 3, 1, 1, 115) := rfl
theorem s40_72 {l0 l1 l2 l3 l4 l5 s1 : AV} {s0 : Nat} {M : Mem} {P : PMem} (hk : kd s0 = 1) : evL 40 72 [l0, l1, l2, l3, l4, l5] [Rf s0, s1] (Hp M P) = evL 40 75 [l0, l1, l2, l3, l4, l5] [Rf (rfd s0 1), s1] (Hp M P) := e_getR c40_72 rfl hk
theorem c40_75 : cd 40 75 = some (75, .getfield 121, 3, 0, 3, 82) := rfl
theorem s40_75 {l0 l1 l2 l3 l4 l5 s1 : AV} {s0 : Nat} {M : Mem} {P : PMem} (hk : kd s0 = 0) : evL 40 75 [l0, l1, l2, l3, l4, l5] [Rf s0, s1] (Hp M P) = evL 40 78 [l0, l1, l2, l3, l4, l5] [Rf (rfd s0 3), s1] (Hp M P) := e_getR c40_75 rfl hk
theorem c40_78 : cd 40 78 = some (78, .aload_n 0, 1, 0, 0, 0) := rfl
theorem s40_78 {l1 l2 l3 l4 l5 s0 s1 : AV} {l0 : Option Nat} {h : AH} : evL 40 78 [.inr (.inl l0), l1, l2, l3, l4, l5] [s0, s1] h = evL 40 79 [.inr (.inl l0), l1, l2, l3, l4, l5] [.inr (.inl l0), s0, s1] h := ev_go c40_78 rfl
theorem c40_79 : cd 40 79 = some (79, .getfield 59, 3, 1, 5, 122) := rfl
theorem s40_79 {l0 l1 l2 l3 l4 l5 s1 s2 : AV} {s0 : Nat} {M : Mem} {P : PMem} (hk : kd s0 = 1) : evL 40 79 [l0, l1, l2, l3, l4, l5] [Rf s0, s1, s2] (Hp M P) = evL 40 82 [l0, l1, l2, l3, l4, l5] [I (M s0 5), s1, s2] (Hp M P) := e_getI c40_79 rfl hk
theorem c40_82 : cd 40 82 = some (82, .invokevirtual 75, 3, 80, 0, 467) := rfl
theorem s40_82 {l0 l1 l2 l3 l4 l5 s2 : AV} {s0 : Int} {s1 : Nat} {M : Mem} {P : PMem} (hk : kd s1 = 6) : evL 40 82 [l0, l1, l2, l3, l4, l5] [I s0, Rf s1, s2] (Hp M P) = cont (evM 80 [Rf s1, I s0] (Hp M P)) (fun r h => evL 40 85 [l0, l1, l2, l3, l4, l5] (rl r [s2]) h) := e_callV (av' := [I s0]) (rest := [s2]) (c := 6) c40_82 rfl rfl rfl rfl rfl rfl rfl hk rfl
theorem c40_85 : cd 40 85 = some (85, .iadd, 1, 0, 0, 0) := rfl
theorem s40_85 {l0 l1 l2 l3 l4 l5 : AV} {s0 s1 : Int} {h : AH} : evL 40 85 [l0, l1, l2, l3, l4, l5] [I s0, I s1] h = evL 40 86 [l0, l1, l2, l3, l4, l5] [I (ad s1 s0)] h := ev_go c40_85 rfl
theorem c40_86 : cd 40 86 = some (86, .istore 5, 2, 0, 0, 0) := rfl
theorem s40_86 {l0 l1 l2 l3 l4 l5 : AV} {s0 : Int} {h : AH} : evL 40 86 [l0, l1, l2, l3, l4, l5] [I s0] h = evL 40 88 [l0, l1, l2, l3, l4, I s0] [] h := ev_go c40_86 rfl
theorem c40_88 : cd 40 88 = some (88, .goto 49, 3, 0, 0, 0) := rfl
theorem s40_88 {l0 l1 l2 l3 l4 l5 : AV} {h : AH} : evL 40 88 [l0, l1, l2, l3, l4, l5] [] h = evL 40 137 [l0, l1, l2, l3, l4, l5] [] h := ev_go c40_88 rfl
theorem c40_91 : cd 40 91 = some (91, .iload_n 1, 1, 0, 0, 0) := rfl
theorem s40_91 {l0 l2 l3 l4 l5 : AV} {l1 : Int} {h : AH} : evL 40 91 [l0, I l1, l2, l3, l4, l5] [] h = evL 40 92 [l0, I l1, l2, l3, l4, l5] [I l1] h := ev_go c40_91 rfl
theorem c40_92 : cd 40 92 = some (92, .bipush 108, 2, 0, 0, 0) := rfl
theorem s40_92 {l0 l1 l2 l3 l4 l5 s0 : AV} {h : AH} : evL 40 92 [l0, l1, l2, l3, l4, l5] [s0] h = evL 40 94 [l0, l1, l2, l3, l4, l5] [I 108, s0] h := ev_go c40_92 rfl
theorem c40_94 : cd 40 94 = some (94, .if_icmp .ne 43, 3, 0, 0, 0) := rfl
theorem s40_94 {l0 l1 l2 l3 l4 l5 : AV} {s0 s1 : Int} {h : AH} : evL 40 94 [l0, l1, l2, l3, l4, l5] [I s0, I s1] h = if s1 = s0 then evL 40 97 [l0, l1, l2, l3, l4, l5] [] h else evL 40 137 [l0, l1, l2, l3, l4, l5] [] h := e_icmp_ne c40_94 rfl rfl
theorem c40_97 : cd 40 97 = some (97, .aload_n 0, 1, 0, 0, 0) := rfl
theorem s40_97 {l1 l2 l3 l4 l5 : AV} {l0 : Option Nat} {h : AH} : evL 40 97 [.inr (.inl l0), l1, l2, l3, l4, l5] [] h = evL 40 98 [.inr (.inl l0), l1, l2, l3, l4, l5] [.inr (.inl l0)] h := ev_go c40_97 rfl
theorem c40_98 : cd 40 98 = some (98, .getfield 12, 3, 1, 0, 112) := rfl
theorem s40_98 {l0 l1 l2 l3 l4 l5 : AV} {s0 : Nat} {M : Mem} {P : PMem} (hk : kd s0 = 1) : evL 40 98 [l0, l1, l2, l3, l4, l5] [Rf s0] (Hp M P) = evL 40 101 [l0, l1, l2, l3, l4, l5] [Rf (rfd s0 0)] (Hp M P) := e_getR c40_98 rfl hk
theorem c40_101 : cd 40 101 = some (101, .iload 4, 2, 0, 0, 0) := rfl
theorem s40_101 {l0 l1 l2 l3 l5 s0 : AV} {l4 : Int} {h : AH} : evL 40 101 [l0, l1, l2, l3, I l4, l5] [s0] h = evL 40 103 [l0, l1, l2, l3, I l4, l5] [I l4, s0] h := ev_go c40_101 rfl
theorem c40_103 : cd 40 103 = some (103, .aload_n 0, 1, 0, 0, 0) := rfl
theorem s40_103 {l1 l2 l3 l4 l5 s0 s1 : AV} {l0 : Option Nat} {h : AH} : evL 40 103 [.inr (.inl l0), l1, l2, l3, l4, l5] [s0, s1] h = evL 40 104 [.inr (.inl l0), l1, l2, l3, l4, l5] [.inr (.inl l0), s0, s1] h := ev_go c40_103 rfl
theorem c40_104 : cd 40 104 = some (104, .getfield 21, 3, 1, 1, 115) := rfl
theorem s40_104 {l0 l1 l2 l3 l4 l5 s1 s2 : AV} {s0 : Nat} {M : Mem} {P : PMem} (hk : kd s0 = 1) : evL 40 104 [l0, l1, l2, l3, l4, l5] [Rf s0, s1, s2] (Hp M P) = evL 40 107 [l0, l1, l2, l3, l4, l5] [Rf (rfd s0 1), s1, s2] (Hp M P) := e_getR c40_104 rfl hk
theorem c40_107 : cd 40 107 = some (107, .aload_n 0, 1, 0, 0, 0) := rfl
theorem s40_107 {l1 l2 l3 l4 l5 s0 s1 s2 : AV} {l0 : Option Nat} {h : AH} : evL 40 107 [.inr (.inl l0), l1, l2, l3, l4, l5] [s0, s1, s2] h = evL 40 108 [.inr (.inl l0), l1, l2, l3, l4, l5] [.inr (.inl l0), s0, s1, s2] h := ev_go c40_107 rfl
theorem c40_108 : cd 40 108 = some (108, .getfield 59, 3, 1, 5, 122) := rfl
theorem s40_108 {l0 l1 l2 l3 l4 l5 s1 s2 s3 : AV} {s0 : Nat} {M : Mem} {P : PMem} (hk : kd s0 = 1) : evL 40 108 [l0, l1, l2, l3, l4, l5] [Rf s0, s1, s2, s3] (Hp M P) = evL 40 111 [l0, l1, l2, l3, l4, l5] [I (M s0 5), s1, s2, s3] (Hp M P) := e_getI c40_108 rfl hk
theorem c40_111 : cd 40 111 = some (111, .iload_n 2, 1, 0, 0, 0) := rfl
theorem s40_111 {l0 l1 l3 l4 l5 s0 s1 s2 s3 : AV} {l2 : Int} {h : AH} : evL 40 111 [l0, l1, I l2, l3, l4, l5] [s0, s1, s2, s3] h = evL 40 112 [l0, l1, I l2, l3, l4, l5] [I l2, s0, s1, s2, s3] h := ev_go c40_111 rfl
theorem c40_112 : cd 40 112 = some (112, .invokevirtual 165, 3, 8, 0, 585) := rfl
theorem s40_112 {l0 l1 l2 l3 l4 l5 s3 s4 : AV} {s0 s1 : Int} {s2 : Nat} {M : Mem} {P : PMem} (hk : kd s2 = 0) : evL 40 112 [l0, l1, l2, l3, l4, l5] [I s0, I s1, Rf s2, s3, s4] (Hp M P) = cont (evM 8 [Rf s2, I s1, I s0] (Hp M P)) (fun r h => evL 40 115 [l0, l1, l2, l3, l4, l5] (rl r [s3, s4]) h) := e_callV (av' := [I s1, I s0]) (rest := [s3, s4]) (c := 0) c40_112 rfl rfl rfl rfl rfl rfl rfl hk rfl
theorem c40_115 : cd 40 115 = some (115, .invokevirtual 162, 3, 67, 0, 581) := rfl
theorem s40_115 {l0 l1 l2 l3 l4 l5 : AV} {s0 s1 : Int} {s2 : Nat} {M : Mem} {P : PMem} (hk : kd s2 = 5) : evL 40 115 [l0, l1, l2, l3, l4, l5] [I s0, I s1, Rf s2] (Hp M P) = cont (evM 67 [Rf s2, I s1, I s0] (Hp M P)) (fun r h => evL 40 118 [l0, l1, l2, l3, l4, l5] (rl r []) h) := e_callV (av' := [I s1, I s0]) (rest := []) (c := 5) c40_115 rfl rfl rfl rfl rfl rfl rfl hk rfl
theorem c40_118 : cd 40 118 = some (118, .iload 5, 2, 0, 0, 0) := rfl
theorem s40_118 {l0 l1 l2 l3 l4 : AV} {l5 : Int} {h : AH} : evL 40 118 [l0, l1, l2, l3, l4, I l5] [] h = evL 40 120 [l0, l1, l2, l3, l4, I l5] [I l5] h := ev_go c40_118 rfl
theorem c40_120 : cd 40 120 = some (120, .aload_n 0, 1, 0, 0, 0) := rfl
theorem s40_120 {l1 l2 l3 l4 l5 s0 : AV} {l0 : Option Nat} {h : AH} : evL 40 120 [.inr (.inl l0), l1, l2, l3, l4, l5] [s0] h = evL 40 121 [.inr (.inl l0), l1, l2, l3, l4, l5] [.inr (.inl l0), s0] h := ev_go c40_120 rfl
theorem c40_121 : cd 40 121 = some (121, .getfield 21, 3, 1, 1, 115) := rfl
theorem s40_121 {l0 l1 l2 l3 l4 l5 s1 : AV} {s0 : Nat} {M : Mem} {P : PMem} (hk : kd s0 = 1) : evL 40 121 [l0, l1, l2, l3, l4, l5] [Rf s0, s1] (Hp M P) = evL 40 124 [l0, l1, l2, l3, l4, l5] [Rf (rfd s0 1), s1] (Hp M P) := e_getR c40_121 rfl hk
theorem c40_124 : cd 40 124 = some (124, .getfield 121, 3, 0, 3, 82) := rfl
theorem s40_124 {l0 l1 l2 l3 l4 l5 s1 : AV} {s0 : Nat} {M : Mem} {P : PMem} (hk : kd s0 = 0) : evL 40 124 [l0, l1, l2, l3, l4, l5] [Rf s0, s1] (Hp M P) = evL 40 127 [l0, l1, l2, l3, l4, l5] [Rf (rfd s0 3), s1] (Hp M P) := e_getR c40_124 rfl hk
theorem c40_127 : cd 40 127 = some (127, .aload_n 0, 1, 0, 0, 0) := rfl
theorem s40_127 {l1 l2 l3 l4 l5 s0 s1 : AV} {l0 : Option Nat} {h : AH} : evL 40 127 [.inr (.inl l0), l1, l2, l3, l4, l5] [s0, s1] h = evL 40 128 [.inr (.inl l0), l1, l2, l3, l4, l5] [.inr (.inl l0), s0, s1] h := ev_go c40_127 rfl
theorem c40_128 : cd 40 128 = some (128, .getfield 59, 3, 1, 5, 122) := rfl
theorem s40_128 {l0 l1 l2 l3 l4 l5 s1 s2 : AV} {s0 : Nat} {M : Mem} {P : PMem} (hk : kd s0 = 1) : evL 40 128 [l0, l1, l2, l3, l4, l5] [Rf s0, s1, s2] (Hp M P) = evL 40 131 [l0, l1, l2, l3, l4, l5] [I (M s0 5), s1, s2] (Hp M P) := e_getI c40_128 rfl hk
theorem c40_131 : cd 40 131 = some (131, .invokevirtual 75, 3, 80, 0, 467) := rfl
theorem s40_131 {l0 l1 l2 l3 l4 l5 s2 : AV} {s0 : Int} {s1 : Nat} {M : Mem} {P : PMem} (hk : kd s1 = 6) : evL 40 131 [l0, l1, l2, l3, l4, l5] [I s0, Rf s1, s2] (Hp M P) = cont (evM 80 [Rf s1, I s0] (Hp M P)) (fun r h => evL 40 134 [l0, l1, l2, l3, l4, l5] (rl r [s2]) h) := e_callV (av' := [I s0]) (rest := [s2]) (c := 6) c40_131 rfl rfl rfl rfl rfl rfl rfl hk rfl
theorem c40_134 : cd 40 134 = some (134, .iadd, 1, 0, 0, 0) := rfl
theorem s40_134 {l0 l1 l2 l3 l4 l5 : AV} {s0 s1 : Int} {h : AH} : evL 40 134 [l0, l1, l2, l3, l4, l5] [I s0, I s1] h = evL 40 135 [l0, l1, l2, l3, l4, l5] [I (ad s1 s0)] h := ev_go c40_134 rfl
theorem c40_135 : cd 40 135 = some (135, .istore 5, 2, 0, 0, 0) := rfl
theorem s40_135 {l0 l1 l2 l3 l4 l5 : AV} {s0 : Int} {h : AH} : evL 40 135 [l0, l1, l2, l3, l4, l5] [I s0] h = evL 40 137 [l0, l1, l2, l3, l4, I s0] [] h := ev_go c40_135 rfl
theorem c40_137 : cd 40 137 = some (137, .aload_n 0, 1, 0, 0, 0) := rfl
theorem s40_137 {l1 l2 l3 l4 l5 : AV} {l0 : Option Nat} {h : AH} : evL 40 137 [.inr (.inl l0), l1, l2, l3, l4, l5] [] h = evL 40 138 [.inr (.inl l0), l1, l2, l3, l4, l5] [.inr (.inl l0)] h := ev_go c40_137 rfl
theorem c40_138 : cd 40 138 = some (138, .iconst 0, 1, 0, 0, 0) := rfl
theorem s40_138 {l0 l1 l2 l3 l4 l5 s0 : AV} {h : AH} : evL 40 138 [l0, l1, l2, l3, l4, l5] [s0] h = evL 40 139 [l0, l1, l2, l3, l4, l5] [I 0, s0] h := ev_go c40_138 rfl
theorem c40_139 : cd 40 139 = some (139, .putfield 62, 3, 1, 6, 124) := rfl
theorem s40_139 {l0 l1 l2 l3 l4 l5 : AV} {s0 : Int} {s1 : Nat} {M : Mem} {P : PMem} (hk : kd s1 = 1) (hz : s0 = 0 ∨ s0 = 1) : evL 40 139 [l0, l1, l2, l3, l4, l5] [I s0, Rf s1] (Hp M P) = evL 40 142 [l0, l1, l2, l3, l4, l5] [] (Hp (wr M s1 6 s0) P) := e_putZ c40_139 rfl hk hz
theorem c40_142 : cd 40 142 = some (142, .aload_n 0, 1, 0, 0, 0) := rfl
theorem s40_142 {l1 l2 l3 l4 l5 : AV} {l0 : Option Nat} {h : AH} : evL 40 142 [.inr (.inl l0), l1, l2, l3, l4, l5] [] h = evL 40 143 [.inr (.inl l0), l1, l2, l3, l4, l5] [.inr (.inl l0)] h := ev_go c40_142 rfl
theorem c40_143 : cd 40 143 = some (143, .getfield 66, 3, 1, 7, 126) := rfl
theorem s40_143 {l0 l1 l2 l3 l4 l5 : AV} {s0 : Nat} {M : Mem} {P : PMem} (hk : kd s0 = 1) : evL 40 143 [l0, l1, l2, l3, l4, l5] [Rf s0] (Hp M P) = evL 40 146 [l0, l1, l2, l3, l4, l5] [I (M s0 7)] (Hp M P) := e_getI c40_143 rfl hk
theorem c40_146 : cd 40 146 = some (146, .ifCond .eq 13, 3, 0, 0, 0) := rfl
theorem s40_146 {l0 l1 l2 l3 l4 l5 : AV} {s0 : Int} {h : AH} : evL 40 146 [l0, l1, l2, l3, l4, l5] [I s0] h = if s0 = 0 then evL 40 159 [l0, l1, l2, l3, l4, l5] [] h else evL 40 149 [l0, l1, l2, l3, l4, l5] [] h := e_if_eq c40_146 rfl rfl
theorem c40_149 : cd 40 149 = some (149, .aload_n 0, 1, 0, 0, 0) := rfl
theorem s40_149 {l1 l2 l3 l4 l5 : AV} {l0 : Option Nat} {h : AH} : evL 40 149 [.inr (.inl l0), l1, l2, l3, l4, l5] [] h = evL 40 150 [.inr (.inl l0), l1, l2, l3, l4, l5] [.inr (.inl l0)] h := ev_go c40_149 rfl
theorem c40_150 : cd 40 150 = some (150, .getfield 21, 3, 1, 1, 115) := rfl
theorem s40_150 {l0 l1 l2 l3 l4 l5 : AV} {s0 : Nat} {M : Mem} {P : PMem} (hk : kd s0 = 1) : evL 40 150 [l0, l1, l2, l3, l4, l5] [Rf s0] (Hp M P) = evL 40 153 [l0, l1, l2, l3, l4, l5] [Rf (rfd s0 1)] (Hp M P) := e_getR c40_150 rfl hk
theorem c40_153 : cd 40 153 = some (153, .invokevirtual 168, 3, 16, 0, 590) := rfl
theorem s40_153 {l0 l1 l2 l3 l4 l5 : AV} {s0 : Nat} {M : Mem} {P : PMem} (hk : kd s0 = 0) : evL 40 153 [l0, l1, l2, l3, l4, l5] [Rf s0] (Hp M P) = cont (evM 16 [Rf s0] (Hp M P)) (fun r h => evL 40 156 [l0, l1, l2, l3, l4, l5] (rl r []) h) := e_callV (av' := []) (rest := []) (c := 0) c40_153 rfl rfl rfl rfl rfl rfl rfl hk rfl
theorem c40_156 : cd 40 156 = some (156, .ifCond .eq 10, 3, 0, 0, 0) := rfl
theorem s40_156 {l0 l1 l2 l3 l4 l5 : AV} {s0 : Int} {h : AH} : evL 40 156 [l0, l1, l2, l3, l4, l5] [I s0] h = if s0 = 0 then evL 40 166 [l0, l1, l2, l3, l4, l5] [] h else evL 40 159 [l0, l1, l2, l3, l4, l5] [] h := e_if_eq c40_156 rfl rfl
theorem c40_159 : cd 40 159 = some (159, .aload_n 0, 1, 0, 0, 0) := rfl
theorem s40_159 {l1 l2 l3 l4 l5 : AV} {l0 : Option Nat} {h : AH} : evL 40 159 [.inr (.inl l0), l1, l2, l3, l4, l5] [] h = evL 40 160 [.inr (.inl l0), l1, l2, l3, l4, l5] [.inr (.inl l0)] h := ev_go c40_159 rfl
theorem c40_160 : cd 40 160 = some (160, .invokevirtual 171, 3, 44, 0, 594) := rfl
theorem s40_160 {l0 l1 l2 l3 l4 l5 : AV} {s0 : Nat} {M : Mem} {P : PMem} (hk : kd s0 = 1) : evL 40 160 [l0, l1, l2, l3, l4, l5] [Rf s0] (Hp M P) = cont (evM 44 [Rf s0] (Hp M P)) (fun r h => evL 40 163 [l0, l1, l2, l3, l4, l5] (rl r []) h) := e_callV (av' := []) (rest := []) (c := 1) c40_160 rfl rfl rfl rfl rfl rfl rfl hk rfl
theorem c40_163 : cd 40 163 = some (163, .goto 18, 3, 0, 0, 0) := rfl
theorem s40_163 {l0 l1 l2 l3 l4 l5 : AV} {h : AH} : evL 40 163 [l0, l1, l2, l3, l4, l5] [] h = evL 40 181 [l0, l1, l2, l3, l4, l5] [] h := ev_go c40_163 rfl
theorem c40_166 : cd 40 166 = some (166, .aload_n 0, 1, 0, 0, 0) := rfl
theorem s40_166 {l1 l2 l3 l4 l5 : AV} {l0 : Option Nat} {h : AH} : evL 40 166 [.inr (.inl l0), l1, l2, l3, l4, l5] [] h = evL 40 167 [.inr (.inl l0), l1, l2, l3, l4, l5] [.inr (.inl l0)] h := ev_go c40_166 rfl
theorem c40_167 : cd 40 167 = some (167, .aload_n 0, 1, 0, 0, 0) := rfl
theorem s40_167 {l1 l2 l3 l4 l5 s0 : AV} {l0 : Option Nat} {h : AH} : evL 40 167 [.inr (.inl l0), l1, l2, l3, l4, l5] [s0] h = evL 40 168 [.inr (.inl l0), l1, l2, l3, l4, l5] [.inr (.inl l0), s0] h := ev_go c40_167 rfl
theorem c40_168 : cd 40 168 = some (168, .getfield 21, 3, 1, 1, 115) := rfl
theorem s40_168 {l0 l1 l2 l3 l4 l5 s1 : AV} {s0 : Nat} {M : Mem} {P : PMem} (hk : kd s0 = 1) : evL 40 168 [l0, l1, l2, l3, l4, l5] [Rf s0, s1] (Hp M P) = evL 40 171 [l0, l1, l2, l3, l4, l5] [Rf (rfd s0 1), s1] (Hp M P) := e_getR c40_168 rfl hk
theorem c40_171 : cd 40 171 = some (171, .aload_n 0, 1, 0, 0, 0) := rfl
theorem s40_171 {l1 l2 l3 l4 l5 s0 s1 : AV} {l0 : Option Nat} {h : AH} : evL 40 171 [.inr (.inl l0), l1, l2, l3, l4, l5] [s0, s1] h = evL 40 172 [.inr (.inl l0), l1, l2, l3, l4, l5] [.inr (.inl l0), s0, s1] h := ev_go c40_171 rfl
theorem c40_172 : cd 40 172 = some (172, .getfield 59, 3, 1, 5, 122) := rfl
theorem s40_172 {l0 l1 l2 l3 l4 l5 s1 s2 : AV} {s0 : Nat} {M : Mem} {P : PMem} (hk : kd s0 = 1) : evL 40 172 [l0, l1, l2, l3, l4, l5] [Rf s0, s1, s2] (Hp M P) = evL 40 175 [l0, l1, l2, l3, l4, l5] [I (M s0 5), s1, s2] (Hp M P) := e_getI c40_172 rfl hk
theorem c40_175 : cd 40 175 = some (175, .invokevirtual 174, 3, 19, 0, 626) := rfl
theorem s40_175 {l0 l1 l2 l3 l4 l5 s2 : AV} {s0 : Int} {s1 : Nat} {M : Mem} {P : PMem} (hk : kd s1 = 0) : evL 40 175 [l0, l1, l2, l3, l4, l5] [I s0, Rf s1, s2] (Hp M P) = cont (evM 19 [Rf s1, I s0] (Hp M P)) (fun r h => evL 40 178 [l0, l1, l2, l3, l4, l5] (rl r [s2]) h) := e_callV (av' := [I s0]) (rest := [s2]) (c := 0) c40_175 rfl rfl rfl rfl rfl rfl rfl hk rfl
theorem c40_178 : cd 40 178 = some (178, .putfield 59, 3, 1, 5, 122) := rfl
theorem s40_178 {l0 l1 l2 l3 l4 l5 : AV} {s0 : Int} {s1 : Nat} {M : Mem} {P : PMem} (hk : kd s1 = 1) : evL 40 178 [l0, l1, l2, l3, l4, l5] [I s0, Rf s1] (Hp M P) = evL 40 181 [l0, l1, l2, l3, l4, l5] [] (Hp (wr M s1 5 s0) P) := e_putI c40_178 rfl hk
theorem c40_181 : cd 40 181 = some (181, .iload 5, 2, 0, 0, 0) := rfl
theorem s40_181 {l0 l1 l2 l3 l4 : AV} {l5 : Int} {h : AH} : evL 40 181 [l0, l1, l2, l3, l4, I l5] [] h = evL 40 183 [l0, l1, l2, l3, l4, I l5] [I l5] h := ev_go c40_181 rfl
theorem c40_183 : cd 40 183 = some (183, .ireturn, 1, 0, 0, 0) := rfl
theorem s40_183 {l0 l1 l2 l3 l4 l5 : AV} {s0 : Int} {h : AH} : evL 40 183 [l0, l1, l2, l3, l4, l5] [I s0] h = some (some (I s0), h) := e_ret c40_183 rfl
/-! 41: TankDivers$Game.whyNoDeed(II)I -/
theorem en41 {l0 l1 l2 : AV} {h : AH} : evM 41 [l0, l1, l2] h = evL 41 0 [l0, l1, l2] [] h := rfl
theorem c41_0 : cd 41 0 = some (0, .aload_n 0, 1, 0, 0, 0) := rfl
theorem s41_0 {l1 l2 : AV} {l0 : Option Nat} {h : AH} : evL 41 0 [.inr (.inl l0), l1, l2] [] h = evL 41 1 [.inr (.inl l0), l1, l2] [.inr (.inl l0)] h := ev_go c41_0 rfl
theorem c41_1 : cd 41 1 = some (1, .invokevirtual 101, 3, 30, 0, 462) := rfl
theorem s41_1 {l0 l1 l2 : AV} {s0 : Nat} {M : Mem} {P : PMem} (hk : kd s0 = 1) : evL 41 1 [l0, l1, l2] [Rf s0] (Hp M P) = cont (evM 30 [Rf s0] (Hp M P)) (fun r h => evL 41 4 [l0, l1, l2] (rl r []) h) := e_callV (av' := []) (rest := []) (c := 1) c41_1 rfl rfl rfl rfl rfl rfl rfl hk rfl
theorem c41_4 : cd 41 4 = some (4, .ifCond .eq 5, 3, 0, 0, 0) := rfl
theorem s41_4 {l0 l1 l2 : AV} {s0 : Int} {h : AH} : evL 41 4 [l0, l1, l2] [I s0] h = if s0 = 0 then evL 41 9 [l0, l1, l2] [] h else evL 41 7 [l0, l1, l2] [] h := e_if_eq c41_4 rfl rfl
theorem c41_7 : cd 41 7 = some (7, .iconst 1, 1, 0, 0, 0) := rfl
theorem s41_7 {l0 l1 l2 : AV} {h : AH} : evL 41 7 [l0, l1, l2] [] h = evL 41 8 [l0, l1, l2] [I 1] h := ev_go c41_7 rfl
theorem c41_8 : cd 41 8 = some (8, .ireturn, 1, 0, 0, 0) := rfl
theorem s41_8 {l0 l1 l2 : AV} {s0 : Int} {h : AH} : evL 41 8 [l0, l1, l2] [I s0] h = some (some (I s0), h) := e_ret c41_8 rfl
theorem c41_9 : cd 41 9 = some (9, .aload_n 0, 1, 0, 0, 0) := rfl
theorem s41_9 {l1 l2 : AV} {l0 : Option Nat} {h : AH} : evL 41 9 [.inr (.inl l0), l1, l2] [] h = evL 41 10 [.inr (.inl l0), l1, l2] [.inr (.inl l0)] h := ev_go c41_9 rfl
theorem c41_10 : cd 41 10 = some (10, .getfield 62, 3, 1, 6, 124) := rfl
theorem s41_10 {l0 l1 l2 : AV} {s0 : Nat} {M : Mem} {P : PMem} (hk : kd s0 = 1) : evL 41 10 [l0, l1, l2] [Rf s0] (Hp M P) = evL 41 13 [l0, l1, l2] [I (M s0 6)] (Hp M P) := e_getI c41_10 rfl hk
theorem c41_13 : cd 41 13 = some (13, .ifCond .ne 5, 3, 0, 0, 0) := rfl
theorem s41_13 {l0 l1 l2 : AV} {s0 : Int} {h : AH} : evL 41 13 [l0, l1, l2] [I s0] h = if s0 = 0 then evL 41 16 [l0, l1, l2] [] h else evL 41 18 [l0, l1, l2] [] h := e_if_ne c41_13 rfl rfl
theorem c41_16 : cd 41 16 = some (16, .iconst 2, 1, 0, 0, 0) := rfl
theorem s41_16 {l0 l1 l2 : AV} {h : AH} : evL 41 16 [l0, l1, l2] [] h = evL 41 17 [l0, l1, l2] [I 2] h := ev_go c41_16 rfl
theorem c41_17 : cd 41 17 = some (17, .ireturn, 1, 0, 0, 0) := rfl
theorem s41_17 {l0 l1 l2 : AV} {s0 : Int} {h : AH} : evL 41 17 [l0, l1, l2] [I s0] h = some (some (I s0), h) := e_ret c41_17 rfl
theorem c41_18 : cd 41 18 = some (18, .iload_n 1, 1, 0, 0, 0) := rfl
theorem s41_18 {l0 l2 : AV} {l1 : Int} {h : AH} : evL 41 18 [l0, I l1, l2] [] h = evL 41 19 [l0, I l1, l2] [I l1] h := ev_go c41_18 rfl
theorem c41_19 : cd 41 19 = some (19, .bipush 110, 2, 0, 0, 0) := rfl
theorem s41_19 {l0 l1 l2 s0 : AV} {h : AH} : evL 41 19 [l0, l1, l2] [s0] h = evL 41 21 [l0, l1, l2] [I 110, s0] h := ev_go c41_19 rfl
theorem c41_21 : cd 41 21 = some (21, .if_icmp .ne 5, 3, 0, 0, 0) := rfl
theorem s41_21 {l0 l1 l2 : AV} {s0 s1 : Int} {h : AH} : evL 41 21 [l0, l1, l2] [I s0, I s1] h = if s1 = s0 then evL 41 24 [l0, l1, l2] [] h else evL 41 26 [l0, l1, l2] [] h := e_icmp_ne c41_21 rfl rfl
theorem c41_24 : cd 41 24 = some (24, .iconst 0, 1, 0, 0, 0) := rfl
theorem s41_24 {l0 l1 l2 : AV} {h : AH} : evL 41 24 [l0, l1, l2] [] h = evL 41 25 [l0, l1, l2] [I 0] h := ev_go c41_24 rfl
theorem c41_25 : cd 41 25 = some (25, .ireturn, 1, 0, 0, 0) := rfl
theorem s41_25 {l0 l1 l2 : AV} {s0 : Int} {h : AH} : evL 41 25 [l0, l1, l2] [I s0] h = some (some (I s0), h) := e_ret c41_25 rfl
theorem c41_26 : cd 41 26 = some (26, .aload_n 0, 1, 0, 0, 0) := rfl
theorem s41_26 {l1 l2 : AV} {l0 : Option Nat} {h : AH} : evL 41 26 [.inr (.inl l0), l1, l2] [] h = evL 41 27 [.inr (.inl l0), l1, l2] [.inr (.inl l0)] h := ev_go c41_26 rfl
theorem c41_27 : cd 41 27 = some (27, .invokevirtual 108, 3, 31, 0, 468) := rfl
theorem s41_27 {l0 l1 l2 : AV} {s0 : Nat} {M : Mem} {P : PMem} (hk : kd s0 = 1) : evL 41 27 [l0, l1, l2] [Rf s0] (Hp M P) = cont (evM 31 [Rf s0] (Hp M P)) (fun r h => evL 41 30 [l0, l1, l2] (rl r []) h) := e_callV (av' := []) (rest := []) (c := 1) c41_27 rfl rfl rfl rfl rfl rfl rfl hk rfl
theorem c41_30 : cd 41 30 = some (30, .ifCond .ne 5, 3, 0, 0, 0) := rfl
theorem s41_30 {l0 l1 l2 : AV} {s0 : Int} {h : AH} : evL 41 30 [l0, l1, l2] [I s0] h = if s0 = 0 then evL 41 33 [l0, l1, l2] [] h else evL 41 35 [l0, l1, l2] [] h := e_if_ne c41_30 rfl rfl
theorem c41_33 : cd 41 33 = some (33, .iconst 5, 1, 0, 0, 0) := rfl
theorem s41_33 {l0 l1 l2 : AV} {h : AH} : evL 41 33 [l0, l1, l2] [] h = evL 41 34 [l0, l1, l2] [I 5] h := ev_go c41_33 rfl
theorem c41_34 : cd 41 34 = some (34, .ireturn, 1, 0, 0, 0) := rfl
theorem s41_34 {l0 l1 l2 : AV} {s0 : Int} {h : AH} : evL 41 34 [l0, l1, l2] [I s0] h = some (some (I s0), h) := e_ret c41_34 rfl
theorem c41_35 : cd 41 35 = some (35, .iload_n 1, 1, 0, 0, 0) := rfl
theorem s41_35 {l0 l2 : AV} {l1 : Int} {h : AH} : evL 41 35 [l0, I l1, l2] [] h = evL 41 36 [l0, I l1, l2] [I l1] h := ev_go c41_35 rfl
theorem c41_36 : cd 41 36 = some (36, .bipush 116, 2, 0, 0, 0) := rfl
theorem s41_36 {l0 l1 l2 s0 : AV} {h : AH} : evL 41 36 [l0, l1, l2] [s0] h = evL 41 38 [l0, l1, l2] [I 116, s0] h := ev_go c41_36 rfl
theorem c41_38 : cd 41 38 = some (38, .if_icmp .ne 10, 3, 0, 0, 0) := rfl
theorem s41_38 {l0 l1 l2 : AV} {s0 s1 : Int} {h : AH} : evL 41 38 [l0, l1, l2] [I s0, I s1] h = if s1 = s0 then evL 41 41 [l0, l1, l2] [] h else evL 41 48 [l0, l1, l2] [] h := e_icmp_ne c41_38 rfl rfl
theorem c41_41 : cd 41 41 = some (41, .aload_n 0, 1, 0, 0, 0) := rfl
theorem s41_41 {l1 l2 : AV} {l0 : Option Nat} {h : AH} : evL 41 41 [.inr (.inl l0), l1, l2] [] h = evL 41 42 [.inr (.inl l0), l1, l2] [.inr (.inl l0)] h := ev_go c41_41 rfl
theorem c41_42 : cd 41 42 = some (42, .invokevirtual 177, 3, 42, 0, 566) := rfl
theorem s41_42 {l0 l1 l2 : AV} {s0 : Nat} {M : Mem} {P : PMem} (hk : kd s0 = 1) : evL 41 42 [l0, l1, l2] [Rf s0] (Hp M P) = cont (evM 42 [Rf s0] (Hp M P)) (fun r h => evL 41 45 [l0, l1, l2] (rl r []) h) := e_callV (av' := []) (rest := []) (c := 1) c41_42 rfl rfl rfl rfl rfl rfl rfl hk rfl
theorem c41_45 : cd 41 45 = some (45, .goto 8, 3, 0, 0, 0) := rfl
theorem s41_45 {l0 l1 l2 s0 : AV} {h : AH} : evL 41 45 [l0, l1, l2] [s0] h = evL 41 53 [l0, l1, l2] [s0] h := ev_go c41_45 rfl
theorem c41_48 : cd 41 48 = some (48, .aload_n 0, 1, 0, 0, 0) := rfl
theorem s41_48 {l1 l2 : AV} {l0 : Option Nat} {h : AH} : evL 41 48 [.inr (.inl l0), l1, l2] [] h = evL 41 49 [.inr (.inl l0), l1, l2] [.inr (.inl l0)] h := ev_go c41_48 rfl
theorem c41_49 : cd 41 49 = some (49, .iload_n 2, 1, 0, 0, 0) := rfl
theorem s41_49 {l0 l1 s0 : AV} {l2 : Int} {h : AH} : evL 41 49 [l0, l1, I l2] [s0] h = evL 41 50 [l0, l1, I l2] [I l2, s0] h := ev_go c41_49 rfl
theorem c41_50 : cd 41 50 = some (50, .invokevirtual 180, 3, 43, 0, 571) := rfl
theorem s41_50 {l0 l1 l2 : AV} {s0 : Int} {s1 : Nat} {M : Mem} {P : PMem} (hk : kd s1 = 1) : evL 41 50 [l0, l1, l2] [I s0, Rf s1] (Hp M P) = cont (evM 43 [Rf s1, I s0] (Hp M P)) (fun r h => evL 41 53 [l0, l1, l2] (rl r []) h) := e_callV (av' := [I s0]) (rest := []) (c := 1) c41_50 rfl rfl rfl rfl rfl rfl rfl hk rfl
theorem c41_53 : cd 41 53 = some (53, .ireturn, 1, 0, 0, 0) := rfl
theorem s41_53 {l0 l1 l2 : AV} {s0 : Int} {h : AH} : evL 41 53 [l0, l1, l2] [I s0] h = some (some (I s0), h) := e_ret c41_53 rfl
/-! 42: TankDivers$Game.whyNotTake()I -/
theorem en42 {l0 : AV} {h : AH} : evM 42 [l0] h = evL 42 0 [l0] [] h := rfl
theorem c42_0 : cd 42 0 = some (0, .aload_n 0, 1, 0, 0, 0) := rfl
theorem s42_0 {l0 : Option Nat} {h : AH} : evL 42 0 [.inr (.inl l0)] [] h = evL 42 1 [.inr (.inl l0)] [.inr (.inl l0)] h := ev_go c42_0 rfl
theorem c42_1 : cd 42 1 = some (1, .getfield 12, 3, 1, 0, 112) := rfl
theorem s42_1 {l0 : AV} {s0 : Nat} {M : Mem} {P : PMem} (hk : kd s0 = 1) : evL 42 1 [l0] [Rf s0] (Hp M P) = evL 42 4 [l0] [Rf (rfd s0 0)] (Hp M P) := e_getR c42_1 rfl hk
theorem c42_4 : cd 42 4 = some (4, .aload_n 0, 1, 0, 0, 0) := rfl
theorem s42_4 {s0 : AV} {l0 : Option Nat} {h : AH} : evL 42 4 [.inr (.inl l0)] [s0] h = evL 42 5 [.inr (.inl l0)] [.inr (.inl l0), s0] h := ev_go c42_4 rfl
theorem c42_5 : cd 42 5 = some (5, .invokevirtual 108, 3, 31, 0, 468) := rfl
theorem s42_5 {l0 s1 : AV} {s0 : Nat} {M : Mem} {P : PMem} (hk : kd s0 = 1) : evL 42 5 [l0] [Rf s0, s1] (Hp M P) = cont (evM 31 [Rf s0] (Hp M P)) (fun r h => evL 42 8 [l0] (rl r [s1]) h) := e_callV (av' := []) (rest := [s1]) (c := 1) c42_5 rfl rfl rfl rfl rfl rfl rfl hk rfl
theorem c42_8 : cd 42 8 = some (8, .invokevirtual 156, 3, 66, 0, 570) := rfl
theorem s42_8 {l0 : AV} {s0 : Int} {s1 : Nat} {M : Mem} {P : PMem} (hk : kd s1 = 5) : evL 42 8 [l0] [I s0, Rf s1] (Hp M P) = cont (evM 66 [Rf s1, I s0] (Hp M P)) (fun r h => evL 42 11 [l0] (rl r []) h) := e_callV (av' := [I s0]) (rest := []) (c := 5) c42_8 rfl rfl rfl rfl rfl rfl rfl hk rfl
theorem c42_11 : cd 42 11 = some (11, .ifCond .ne 6, 3, 0, 0, 0) := rfl
theorem s42_11 {l0 : AV} {s0 : Int} {h : AH} : evL 42 11 [l0] [I s0] h = if s0 = 0 then evL 42 14 [l0] [] h else evL 42 17 [l0] [] h := e_if_ne c42_11 rfl rfl
theorem c42_14 : cd 42 14 = some (14, .bipush 6, 2, 0, 0, 0) := rfl
theorem s42_14 {l0 : AV} {h : AH} : evL 42 14 [l0] [] h = evL 42 16 [l0] [I 6] h := ev_go c42_14 rfl
theorem c42_16 : cd 42 16 = some (16, .ireturn, 1, 0, 0, 0) := rfl
theorem s42_16 {l0 : AV} {s0 : Int} {h : AH} : evL 42 16 [l0] [I s0] h = some (some (I s0), h) := e_ret c42_16 rfl
theorem c42_17 : cd 42 17 = some (17, .aload_n 0, 1, 0, 0, 0) := rfl
theorem s42_17 {l0 : Option Nat} {h : AH} : evL 42 17 [.inr (.inl l0)] [] h = evL 42 18 [.inr (.inl l0)] [.inr (.inl l0)] h := ev_go c42_17 rfl
theorem c42_18 : cd 42 18 = some (18, .getfield 21, 3, 1, 1, 115) := rfl
theorem s42_18 {l0 : AV} {s0 : Nat} {M : Mem} {P : PMem} (hk : kd s0 = 1) : evL 42 18 [l0] [Rf s0] (Hp M P) = evL 42 21 [l0] [Rf (rfd s0 1)] (Hp M P) := e_getR c42_18 rfl hk
theorem c42_21 : cd 42 21 = some (21, .getfield 121, 3, 0, 3, 82) := rfl
theorem s42_21 {l0 : AV} {s0 : Nat} {M : Mem} {P : PMem} (hk : kd s0 = 0) : evL 42 21 [l0] [Rf s0] (Hp M P) = evL 42 24 [l0] [Rf (rfd s0 3)] (Hp M P) := e_getR c42_21 rfl hk
theorem c42_24 : cd 42 24 = some (24, .aload_n 0, 1, 0, 0, 0) := rfl
theorem s42_24 {s0 : AV} {l0 : Option Nat} {h : AH} : evL 42 24 [.inr (.inl l0)] [s0] h = evL 42 25 [.inr (.inl l0)] [.inr (.inl l0), s0] h := ev_go c42_24 rfl
theorem c42_25 : cd 42 25 = some (25, .getfield 59, 3, 1, 5, 122) := rfl
theorem s42_25 {l0 s1 : AV} {s0 : Nat} {M : Mem} {P : PMem} (hk : kd s0 = 1) : evL 42 25 [l0] [Rf s0, s1] (Hp M P) = evL 42 28 [l0] [I (M s0 5), s1] (Hp M P) := e_getI c42_25 rfl hk
theorem c42_28 : cd 42 28 = some (28, .invokevirtual 75, 3, 80, 0, 467) := rfl
theorem s42_28 {l0 : AV} {s0 : Int} {s1 : Nat} {M : Mem} {P : PMem} (hk : kd s1 = 6) : evL 42 28 [l0] [I s0, Rf s1] (Hp M P) = cont (evM 80 [Rf s1, I s0] (Hp M P)) (fun r h => evL 42 31 [l0] (rl r []) h) := e_callV (av' := [I s0]) (rest := []) (c := 6) c42_28 rfl rfl rfl rfl rfl rfl rfl hk rfl
theorem c42_31 : cd 42 31 = some (31, .bipush 6, 2, 0, 0, 0) := rfl
theorem s42_31 {l0 s0 : AV} {h : AH} : evL 42 31 [l0] [s0] h = evL 42 33 [l0] [I 6, s0] h := ev_go c42_31 rfl
theorem c42_33 : cd 42 33 = some (33, .if_icmp .ge 7, 3, 0, 0, 0) := rfl
theorem s42_33 {l0 : AV} {s0 s1 : Int} {h : AH} : evL 42 33 [l0] [I s0, I s1] h = if s0 ≤ s1 then evL 42 40 [l0] [] h else evL 42 36 [l0] [] h := e_icmp_ge c42_33 rfl rfl
theorem c42_36 : cd 42 36 = some (36, .iconst 0, 1, 0, 0, 0) := rfl
theorem s42_36 {l0 : AV} {h : AH} : evL 42 36 [l0] [] h = evL 42 37 [l0] [I 0] h := ev_go c42_36 rfl
theorem c42_37 : cd 42 37 = some (37, .goto 5, 3, 0, 0, 0) := rfl
theorem s42_37 {l0 s0 : AV} {h : AH} : evL 42 37 [l0] [s0] h = evL 42 42 [l0] [s0] h := ev_go c42_37 rfl
theorem c42_40 : cd 42 40 = some (40, .bipush 8, 2, 0, 0, 0) := rfl
theorem s42_40 {l0 : AV} {h : AH} : evL 42 40 [l0] [] h = evL 42 42 [l0] [I 8] h := ev_go c42_40 rfl
theorem c42_42 : cd 42 42 = some (42, .ireturn, 1, 0, 0, 0) := rfl
theorem s42_42 {l0 : AV} {s0 : Int} {h : AH} : evL 42 42 [l0] [I s0] h = some (some (I s0), h) := e_ret c42_42 rfl
/-! 43: TankDivers$Game.whyNotLay(I)I -/
theorem en43 {l0 l1 : AV} {h : AH} : evM 43 [l0, l1] h = evL 43 0 [l0, l1] [] h := rfl
theorem c43_0 : cd 43 0 = some (0, .iload_n 1, 1, 0, 0, 0) := rfl
theorem s43_0 {l0 : AV} {l1 : Int} {h : AH} : evL 43 0 [l0, I l1] [] h = evL 43 1 [l0, I l1] [I l1] h := ev_go c43_0 rfl
theorem c43_1 : cd 43 1 = some (1, .ifCond .lt 21, 3, 0, 0, 0) := rfl
theorem s43_1 {l0 l1 : AV} {s0 : Int} {h : AH} : evL 43 1 [l0, l1] [I s0] h = if s0 < 0 then evL 43 22 [l0, l1] [] h else evL 43 4 [l0, l1] [] h := e_if_lt c43_1 rfl rfl
theorem c43_4 : cd 43 4 = some (4, .iload_n 1, 1, 0, 0, 0) := rfl
theorem s43_4 {l0 : AV} {l1 : Int} {h : AH} : evL 43 4 [l0, I l1] [] h = evL 43 5 [l0, I l1] [I l1] h := ev_go c43_4 rfl
theorem c43_5 : cd 43 5 = some (5, .aload_n 0, 1, 0, 0, 0) := rfl
theorem s43_5 {l1 s0 : AV} {l0 : Option Nat} {h : AH} : evL 43 5 [.inr (.inl l0), l1] [s0] h = evL 43 6 [.inr (.inl l0), l1] [.inr (.inl l0), s0] h := ev_go c43_5 rfl
theorem c43_6 : cd 43 6 = some (6, .getfield 21, 3, 1, 1, 115) := rfl
theorem s43_6 {l0 l1 s1 : AV} {s0 : Nat} {M : Mem} {P : PMem} (hk : kd s0 = 1) : evL 43 6 [l0, l1] [Rf s0, s1] (Hp M P) = evL 43 9 [l0, l1] [Rf (rfd s0 1), s1] (Hp M P) := e_getR c43_6 rfl hk
theorem c43_9 : cd 43 9 = some (9, .getfield 121, 3, 0, 3, 82) := rfl
theorem s43_9 {l0 l1 s1 : AV} {s0 : Nat} {M : Mem} {P : PMem} (hk : kd s0 = 0) : evL 43 9 [l0, l1] [Rf s0, s1] (Hp M P) = evL 43 12 [l0, l1] [Rf (rfd s0 3), s1] (Hp M P) := e_getR c43_9 rfl hk
theorem c43_12 : cd 43 12 = some (12, .aload_n 0, 1, 0, 0, 0) := rfl
theorem s43_12 {l1 s0 s1 : AV} {l0 : Option Nat} {h : AH} : evL 43 12 [.inr (.inl l0), l1] [s0, s1] h = evL 43 13 [.inr (.inl l0), l1] [.inr (.inl l0), s0, s1] h := ev_go c43_12 rfl
theorem c43_13 : cd 43 13 = some (13, .getfield 59, 3, 1, 5, 122) := rfl
theorem s43_13 {l0 l1 s1 s2 : AV} {s0 : Nat} {M : Mem} {P : PMem} (hk : kd s0 = 1) : evL 43 13 [l0, l1] [Rf s0, s1, s2] (Hp M P) = evL 43 16 [l0, l1] [I (M s0 5), s1, s2] (Hp M P) := e_getI c43_13 rfl hk
theorem c43_16 : cd 43 16 = some (16, .invokevirtual 75, 3, 80, 0, 467) := rfl
theorem s43_16 {l0 l1 s2 : AV} {s0 : Int} {s1 : Nat} {M : Mem} {P : PMem} (hk : kd s1 = 6) : evL 43 16 [l0, l1] [I s0, Rf s1, s2] (Hp M P) = cont (evM 80 [Rf s1, I s0] (Hp M P)) (fun r h => evL 43 19 [l0, l1] (rl r [s2]) h) := e_callV (av' := [I s0]) (rest := [s2]) (c := 6) c43_16 rfl rfl rfl rfl rfl rfl rfl hk rfl
theorem c43_19 : cd 43 19 = some (19, .if_icmp .lt 6, 3, 0, 0, 0) := rfl
theorem s43_19 {l0 l1 : AV} {s0 s1 : Int} {h : AH} : evL 43 19 [l0, l1] [I s0, I s1] h = if s1 < s0 then evL 43 25 [l0, l1] [] h else evL 43 22 [l0, l1] [] h := e_icmp_lt c43_19 rfl rfl
theorem c43_22 : cd 43 22 = some (22, .bipush 6, 2, 0, 0, 0) := rfl
theorem s43_22 {l0 l1 : AV} {h : AH} : evL 43 22 [l0, l1] [] h = evL 43 24 [l0, l1] [I 6] h := ev_go c43_22 rfl
theorem c43_24 : cd 43 24 = some (24, .ireturn, 1, 0, 0, 0) := rfl
theorem s43_24 {l0 l1 : AV} {s0 : Int} {h : AH} : evL 43 24 [l0, l1] [I s0] h = some (some (I s0), h) := e_ret c43_24 rfl
theorem c43_25 : cd 43 25 = some (25, .aload_n 0, 1, 0, 0, 0) := rfl
theorem s43_25 {l1 : AV} {l0 : Option Nat} {h : AH} : evL 43 25 [.inr (.inl l0), l1] [] h = evL 43 26 [.inr (.inl l0), l1] [.inr (.inl l0)] h := ev_go c43_25 rfl
theorem c43_26 : cd 43 26 = some (26, .getfield 12, 3, 1, 0, 112) := rfl
theorem s43_26 {l0 l1 : AV} {s0 : Nat} {M : Mem} {P : PMem} (hk : kd s0 = 1) : evL 43 26 [l0, l1] [Rf s0] (Hp M P) = evL 43 29 [l0, l1] [Rf (rfd s0 0)] (Hp M P) := e_getR c43_26 rfl hk
theorem c43_29 : cd 43 29 = some (29, .aload_n 0, 1, 0, 0, 0) := rfl
theorem s43_29 {l1 s0 : AV} {l0 : Option Nat} {h : AH} : evL 43 29 [.inr (.inl l0), l1] [s0] h = evL 43 30 [.inr (.inl l0), l1] [.inr (.inl l0), s0] h := ev_go c43_29 rfl
theorem c43_30 : cd 43 30 = some (30, .invokevirtual 108, 3, 31, 0, 468) := rfl
theorem s43_30 {l0 l1 s1 : AV} {s0 : Nat} {M : Mem} {P : PMem} (hk : kd s0 = 1) : evL 43 30 [l0, l1] [Rf s0, s1] (Hp M P) = cont (evM 31 [Rf s0] (Hp M P)) (fun r h => evL 43 33 [l0, l1] (rl r [s1]) h) := e_callV (av' := []) (rest := [s1]) (c := 1) c43_30 rfl rfl rfl rfl rfl rfl rfl hk rfl
theorem c43_33 : cd 43 33 = some (33, .invokevirtual 156, 3, 66, 0, 570) := rfl
theorem s43_33 {l0 l1 : AV} {s0 : Int} {s1 : Nat} {M : Mem} {P : PMem} (hk : kd s1 = 5) : evL 43 33 [l0, l1] [I s0, Rf s1] (Hp M P) = cont (evM 66 [Rf s1, I s0] (Hp M P)) (fun r h => evL 43 36 [l0, l1] (rl r []) h) := e_callV (av' := [I s0]) (rest := []) (c := 5) c43_33 rfl rfl rfl rfl rfl rfl rfl hk rfl
theorem c43_36 : cd 43 36 = some (36, .ifCond .ne 7, 3, 0, 0, 0) := rfl
theorem s43_36 {l0 l1 : AV} {s0 : Int} {h : AH} : evL 43 36 [l0, l1] [I s0] h = if s0 = 0 then evL 43 39 [l0, l1] [] h else evL 43 43 [l0, l1] [] h := e_if_ne c43_36 rfl rfl
theorem c43_39 : cd 43 39 = some (39, .iconst 0, 1, 0, 0, 0) := rfl
theorem s43_39 {l0 l1 : AV} {h : AH} : evL 43 39 [l0, l1] [] h = evL 43 40 [l0, l1] [I 0] h := ev_go c43_39 rfl
theorem c43_40 : cd 43 40 = some (40, .goto 5, 3, 0, 0, 0) := rfl
theorem s43_40 {l0 l1 s0 : AV} {h : AH} : evL 43 40 [l0, l1] [s0] h = evL 43 45 [l0, l1] [s0] h := ev_go c43_40 rfl
theorem c43_43 : cd 43 43 = some (43, .bipush 7, 2, 0, 0, 0) := rfl
theorem s43_43 {l0 l1 : AV} {h : AH} : evL 43 43 [l0, l1] [] h = evL 43 45 [l0, l1] [I 7] h := ev_go c43_43 rfl
theorem c43_45 : cd 43 45 = some (45, .ireturn, 1, 0, 0, 0) := rfl
theorem s43_45 {l0 l1 : AV} {s0 : Int} {h : AH} : evL 43 45 [l0, l1] [I s0] h = some (some (I s0), h) := e_ret c43_45 rfl
/-! 44: TankDivers$Game.endRound()V -/
theorem en44 {l0 : AV} {h : AH} : evM 44 [l0] h = evL 44 0 [l0, Db 0] [] h := rfl
theorem c44_0 : cd 44 0 = some (0, .aload_n 0, 1, 0, 0, 0) := rfl
theorem s44_0 {l1 : AV} {l0 : Option Nat} {h : AH} : evL 44 0 [.inr (.inl l0), l1] [] h = evL 44 1 [.inr (.inl l0), l1] [.inr (.inl l0)] h := ev_go c44_0 rfl
theorem c44_1 : cd 44 1 = some (1, .getfield 21, 3, 1, 1, 115) := rfl
theorem s44_1 {l0 l1 : AV} {s0 : Nat} {M : Mem} {P : PMem} (hk : kd s0 = 1) : evL 44 1 [l0, l1] [Rf s0] (Hp M P) = evL 44 4 [l0, l1] [Rf (rfd s0 1)] (Hp M P) := e_getR c44_1 rfl hk
theorem c44_4 : cd 44 4 = some (4, .aload_n 0, 1, 0, 0, 0) := rfl
theorem s44_4 {l1 s0 : AV} {l0 : Option Nat} {h : AH} : evL 44 4 [.inr (.inl l0), l1] [s0] h = evL 44 5 [.inr (.inl l0), l1] [.inr (.inl l0), s0] h := ev_go c44_4 rfl
theorem c44_5 : cd 44 5 = some (5, .getfield 30, 3, 1, 2, 117) := rfl
theorem s44_5 {l0 l1 s1 : AV} {s0 : Nat} {M : Mem} {P : PMem} (hk : kd s0 = 1) : evL 44 5 [l0, l1] [Rf s0, s1] (Hp M P) = evL 44 8 [l0, l1] [Rf (rfd s0 2), s1] (Hp M P) := e_getR c44_5 rfl hk
theorem c44_8 : cd 44 8 = some (8, .aload_n 0, 1, 0, 0, 0) := rfl
theorem s44_8 {l1 s0 s1 : AV} {l0 : Option Nat} {h : AH} : evL 44 8 [.inr (.inl l0), l1] [s0, s1] h = evL 44 9 [.inr (.inl l0), l1] [.inr (.inl l0), s0, s1] h := ev_go c44_8 rfl
theorem c44_9 : cd 44 9 = some (9, .getfield 12, 3, 1, 0, 112) := rfl
theorem s44_9 {l0 l1 s1 s2 : AV} {s0 : Nat} {M : Mem} {P : PMem} (hk : kd s0 = 1) : evL 44 9 [l0, l1] [Rf s0, s1, s2] (Hp M P) = evL 44 12 [l0, l1] [Rf (rfd s0 0), s1, s2] (Hp M P) := e_getR c44_9 rfl hk
theorem c44_12 : cd 44 12 = some (12, .getfield 38, 3, 5, 1, 58) := rfl
theorem s44_12 {l0 l1 s1 s2 : AV} {s0 : Nat} {M : Mem} {P : PMem} (hk : kd s0 = 5) : evL 44 12 [l0, l1] [Rf s0, s1, s2] (Hp M P) = evL 44 15 [l0, l1] [I (M s0 1), s1, s2] (Hp M P) := e_getI c44_12 rfl hk
theorem c44_15 : cd 44 15 = some (15, .invokevirtual 183, 3, 23, 0, 598) := rfl
theorem s44_15 {l0 l1 : AV} {s0 : Int} {s1 s2 : Nat} {M : Mem} {P : PMem} (hk : kd s2 = 0) : evL 44 15 [l0, l1] [I s0, Rf s1, Rf s2] (Hp M P) = cont (evM 23 [Rf s2, Rf s1, I s0] (Hp M P)) (fun r h => evL 44 18 [l0, l1] (rl r []) h) := e_callV (av' := [Rf s1, I s0]) (rest := []) (c := 0) c44_15 rfl rfl rfl rfl rfl rfl rfl hk rfl
theorem c44_18 : cd 44 18 = some (18, .istore_n 1, 1, 0, 0, 0) := rfl
theorem s44_18 {l0 l1 : AV} {s0 : Int} {h : AH} : evL 44 18 [l0, l1] [I s0] h = evL 44 19 [l0, I s0] [] h := ev_go c44_18 rfl
theorem c44_19 : cd 44 19 = some (19, .aload_n 0, 1, 0, 0, 0) := rfl
theorem s44_19 {l1 : AV} {l0 : Option Nat} {h : AH} : evL 44 19 [.inr (.inl l0), l1] [] h = evL 44 20 [.inr (.inl l0), l1] [.inr (.inl l0)] h := ev_go c44_19 rfl
theorem c44_20 : cd 44 20 = some (20, .getfield 21, 3, 1, 1, 115) := rfl
theorem s44_20 {l0 l1 : AV} {s0 : Nat} {M : Mem} {P : PMem} (hk : kd s0 = 1) : evL 44 20 [l0, l1] [Rf s0] (Hp M P) = evL 44 23 [l0, l1] [Rf (rfd s0 1)] (Hp M P) := e_getR c44_20 rfl hk
theorem c44_23 : cd 44 23 = some (23, .invokevirtual 187, 3, 22, 0, 607) := rfl
theorem s44_23 {l0 l1 : AV} {s0 : Nat} {M : Mem} {P : PMem} (hk : kd s0 = 0) : evL 44 23 [l0, l1] [Rf s0] (Hp M P) = cont (evM 22 [Rf s0] (Hp M P)) (fun r h => evL 44 26 [l0, l1] (rl r []) h) := e_callV (av' := []) (rest := []) (c := 0) c44_23 rfl rfl rfl rfl rfl rfl rfl hk rfl
theorem c44_26 : cd 44 26 = some (26, .aload_n 0, 1, 0, 0, 0) := rfl
theorem s44_26 {l1 : AV} {l0 : Option Nat} {h : AH} : evL 44 26 [.inr (.inl l0), l1] [] h = evL 44 27 [.inr (.inl l0), l1] [.inr (.inl l0)] h := ev_go c44_26 rfl
theorem c44_27 : cd 44 27 = some (27, .getfield 12, 3, 1, 0, 112) := rfl
theorem s44_27 {l0 l1 : AV} {s0 : Nat} {M : Mem} {P : PMem} (hk : kd s0 = 1) : evL 44 27 [l0, l1] [Rf s0] (Hp M P) = evL 44 30 [l0, l1] [Rf (rfd s0 0)] (Hp M P) := e_getR c44_27 rfl hk
theorem c44_30 : cd 44 30 = some (30, .invokevirtual 190, 3, 72, 0, 611) := rfl
theorem s44_30 {l0 l1 : AV} {s0 : Nat} {M : Mem} {P : PMem} (hk : kd s0 = 5) : evL 44 30 [l0, l1] [Rf s0] (Hp M P) = cont (evM 72 [Rf s0] (Hp M P)) (fun r h => evL 44 33 [l0, l1] (rl r []) h) := e_callV (av' := []) (rest := []) (c := 5) c44_30 rfl rfl rfl rfl rfl rfl rfl hk rfl
theorem c44_33 : cd 44 33 = some (33, .aload_n 0, 1, 0, 0, 0) := rfl
theorem s44_33 {l1 : AV} {l0 : Option Nat} {h : AH} : evL 44 33 [.inr (.inl l0), l1] [] h = evL 44 34 [.inr (.inl l0), l1] [.inr (.inl l0)] h := ev_go c44_33 rfl
theorem c44_34 : cd 44 34 = some (34, .getfield 12, 3, 1, 0, 112) := rfl
theorem s44_34 {l0 l1 : AV} {s0 : Nat} {M : Mem} {P : PMem} (hk : kd s0 = 1) : evL 44 34 [l0, l1] [Rf s0] (Hp M P) = evL 44 37 [l0, l1] [Rf (rfd s0 0)] (Hp M P) := e_getR c44_34 rfl hk
theorem c44_37 : cd 44 37 = some (37, .aload_n 0, 1, 0, 0, 0) := rfl
theorem s44_37 {l1 s0 : AV} {l0 : Option Nat} {h : AH} : evL 44 37 [.inr (.inl l0), l1] [s0] h = evL 44 38 [.inr (.inl l0), l1] [.inr (.inl l0), s0] h := ev_go c44_37 rfl
theorem c44_38 : cd 44 38 = some (38, .getfield 30, 3, 1, 2, 117) := rfl
theorem s44_38 {l0 l1 s1 : AV} {s0 : Nat} {M : Mem} {P : PMem} (hk : kd s0 = 1) : evL 44 38 [l0, l1] [Rf s0, s1] (Hp M P) = evL 44 41 [l0, l1] [Rf (rfd s0 2), s1] (Hp M P) := e_getR c44_38 rfl hk
theorem c44_41 : cd 44 41 = some (41, .iload_n 1, 1, 0, 0, 0) := rfl
theorem s44_41 {l0 s0 s1 : AV} {l1 : Int} {h : AH} : evL 44 41 [l0, I l1] [s0, s1] h = evL 44 42 [l0, I l1] [I l1, s0, s1] h := ev_go c44_41 rfl
theorem c44_42 : cd 44 42 = some (42, .invokevirtual 193, 3, 73, 0, 616) := rfl
theorem s44_42 {l0 l1 : AV} {s0 : Int} {s1 s2 : Nat} {M : Mem} {P : PMem} (hk : kd s2 = 5) : evL 44 42 [l0, l1] [I s0, Rf s1, Rf s2] (Hp M P) = cont (evM 73 [Rf s2, Rf s1, I s0] (Hp M P)) (fun r h => evL 44 45 [l0, l1] (rl r []) h) := e_callV (av' := [Rf s1, I s0]) (rest := []) (c := 5) c44_42 rfl rfl rfl rfl rfl rfl rfl hk rfl
theorem c44_45 : cd 44 45 = some (45, .aload_n 0, 1, 0, 0, 0) := rfl
theorem s44_45 {l1 : AV} {l0 : Option Nat} {h : AH} : evL 44 45 [.inr (.inl l0), l1] [] h = evL 44 46 [.inr (.inl l0), l1] [.inr (.inl l0)] h := ev_go c44_45 rfl
theorem c44_46 : cd 44 46 = some (46, .aload_n 0, 1, 0, 0, 0) := rfl
theorem s44_46 {l1 s0 : AV} {l0 : Option Nat} {h : AH} : evL 44 46 [.inr (.inl l0), l1] [s0] h = evL 44 47 [.inr (.inl l0), l1] [.inr (.inl l0), s0] h := ev_go c44_46 rfl
theorem c44_47 : cd 44 47 = some (47, .getfield 21, 3, 1, 1, 115) := rfl
theorem s44_47 {l0 l1 s1 : AV} {s0 : Nat} {M : Mem} {P : PMem} (hk : kd s0 = 1) : evL 44 47 [l0, l1] [Rf s0, s1] (Hp M P) = evL 44 50 [l0, l1] [Rf (rfd s0 1), s1] (Hp M P) := e_getR c44_47 rfl hk
theorem c44_50 : cd 44 50 = some (50, .invokevirtual 197, 3, 20, 0, 621) := rfl
theorem s44_50 {l0 l1 s1 : AV} {s0 : Nat} {M : Mem} {P : PMem} (hk : kd s0 = 0) : evL 44 50 [l0, l1] [Rf s0, s1] (Hp M P) = cont (evM 20 [Rf s0] (Hp M P)) (fun r h => evL 44 53 [l0, l1] (rl r [s1]) h) := e_callV (av' := []) (rest := [s1]) (c := 0) c44_50 rfl rfl rfl rfl rfl rfl rfl hk rfl
theorem c44_53 : cd 44 53 = some (53, .putfield 59, 3, 1, 5, 122) := rfl
theorem s44_53 {l0 l1 : AV} {s0 : Int} {s1 : Nat} {M : Mem} {P : PMem} (hk : kd s1 = 1) : evL 44 53 [l0, l1] [I s0, Rf s1] (Hp M P) = evL 44 56 [l0, l1] [] (Hp (wr M s1 5 s0) P) := e_putI c44_53 rfl hk
theorem c44_56 : cd 44 56 = some (56, .aload_n 0, 1, 0, 0, 0) := rfl
theorem s44_56 {l1 : AV} {l0 : Option Nat} {h : AH} : evL 44 56 [.inr (.inl l0), l1] [] h = evL 44 57 [.inr (.inl l0), l1] [.inr (.inl l0)] h := ev_go c44_56 rfl
theorem c44_57 : cd 44 57 = some (57, .getfield 21, 3, 1, 1, 115) := rfl
theorem s44_57 {l0 l1 : AV} {s0 : Nat} {M : Mem} {P : PMem} (hk : kd s0 = 1) : evL 44 57 [l0, l1] [Rf s0] (Hp M P) = evL 44 60 [l0, l1] [Rf (rfd s0 1)] (Hp M P) := e_getR c44_57 rfl hk
theorem c44_60 : cd 44 60 = some (60, .invokevirtual 200, 3, 3, 0, 625) := rfl
theorem s44_60 {l0 l1 : AV} {s0 : Nat} {M : Mem} {P : PMem} (hk : kd s0 = 0) : evL 44 60 [l0, l1] [Rf s0] (Hp M P) = cont (evM 3 [Rf s0] (Hp M P)) (fun r h => evL 44 63 [l0, l1] (rl r []) h) := e_callV (av' := []) (rest := []) (c := 0) c44_60 rfl rfl rfl rfl rfl rfl rfl hk rfl
theorem c44_63 : cd 44 63 = some (63, .aload_n 0, 1, 0, 0, 0) := rfl
theorem s44_63 {l1 : AV} {l0 : Option Nat} {h : AH} : evL 44 63 [.inr (.inl l0), l1] [] h = evL 44 64 [.inr (.inl l0), l1] [.inr (.inl l0)] h := ev_go c44_63 rfl
theorem c44_64 : cd 44 64 = some (64, .bipush 25, 2, 0, 0, 0) := rfl
theorem s44_64 {l0 l1 s0 : AV} {h : AH} : evL 44 64 [l0, l1] [s0] h = evL 44 66 [l0, l1] [I 25, s0] h := ev_go c44_64 rfl
theorem c44_66 : cd 44 66 = some (66, .putfield 66, 3, 1, 7, 126) := rfl
theorem s44_66 {l0 l1 : AV} {s0 : Int} {s1 : Nat} {M : Mem} {P : PMem} (hk : kd s1 = 1) : evL 44 66 [l0, l1] [I s0, Rf s1] (Hp M P) = evL 44 69 [l0, l1] [] (Hp (wr M s1 7 s0) P) := e_putI c44_66 rfl hk
theorem c44_69 : cd 44 69 = some (69, .aload_n 0, 1, 0, 0, 0) := rfl
theorem s44_69 {l1 : AV} {l0 : Option Nat} {h : AH} : evL 44 69 [.inr (.inl l0), l1] [] h = evL 44 70 [.inr (.inl l0), l1] [.inr (.inl l0)] h := ev_go c44_69 rfl
theorem c44_70 : cd 44 70 = some (70, .dup, 1, 0, 0, 0) := rfl
theorem s44_70 {l0 l1 : AV} {s0 : Option Nat} {h : AH} : evL 44 70 [l0, l1] [.inr (.inl s0)] h = evL 44 71 [l0, l1] [.inr (.inl s0), .inr (.inl s0)] h := ev_go c44_70 rfl
theorem c44_71 : cd 44 71 = some (71, .getfield 56, 3, 1, 4, 120) := rfl
theorem s44_71 {l0 l1 s1 : AV} {s0 : Nat} {M : Mem} {P : PMem} (hk : kd s0 = 1) : evL 44 71 [l0, l1] [Rf s0, s1] (Hp M P) = evL 44 74 [l0, l1] [I (M s0 4), s1] (Hp M P) := e_getI c44_71 rfl hk
theorem c44_74 : cd 44 74 = some (74, .iconst 1, 1, 0, 0, 0) := rfl
theorem s44_74 {l0 l1 s0 s1 : AV} {h : AH} : evL 44 74 [l0, l1] [s0, s1] h = evL 44 75 [l0, l1] [I 1, s0, s1] h := ev_go c44_74 rfl
theorem c44_75 : cd 44 75 = some (75, .iadd, 1, 0, 0, 0) := rfl
theorem s44_75 {l0 l1 s2 : AV} {s0 s1 : Int} {h : AH} : evL 44 75 [l0, l1] [I s0, I s1, s2] h = evL 44 76 [l0, l1] [I (ad s1 s0), s2] h := ev_go c44_75 rfl
theorem c44_76 : cd 44 76 = some (76, .putfield 56, 3, 1, 4, 120) := rfl
theorem s44_76 {l0 l1 : AV} {s0 : Int} {s1 : Nat} {M : Mem} {P : PMem} (hk : kd s1 = 1) : evL 44 76 [l0, l1] [I s0, Rf s1] (Hp M P) = evL 44 79 [l0, l1] [] (Hp (wr M s1 4 s0) P) := e_putI c44_76 rfl hk
theorem c44_79 : cd 44 79 = some (79, .return_, 1, 0, 0, 0) := rfl
theorem s44_79 {l0 l1 : AV} {h : AH} : evL 44 79 [l0, l1] [] h = some (none, h) := e_ret c44_79 rfl
/-! 45: TankDivers$Game.copyFrom(LTankDivers$Game;)V -/
theorem en45 {l0 l1 : AV} {h : AH} : evM 45 [l0, l1] h = evL 45 0 [l0, l1] [] h := rfl
theorem c45_0 : cd 45 0 = some (0, .aload_n 0, 1, 0, 0, 0) := rfl
theorem s45_0 {l1 : AV} {l0 : Option Nat} {h : AH} : evL 45 0 [.inr (.inl l0), l1] [] h = evL 45 1 [.inr (.inl l0), l1] [.inr (.inl l0)] h := ev_go c45_0 rfl
theorem c45_1 : cd 45 1 = some (1, .getfield 12, 3, 1, 0, 112) := rfl
theorem s45_1 {l0 l1 : AV} {s0 : Nat} {M : Mem} {P : PMem} (hk : kd s0 = 1) : evL 45 1 [l0, l1] [Rf s0] (Hp M P) = evL 45 4 [l0, l1] [Rf (rfd s0 0)] (Hp M P) := e_getR c45_1 rfl hk
theorem c45_4 : cd 45 4 = some (4, .aload_n 1, 1, 0, 0, 0) := rfl
theorem s45_4 {l0 s0 : AV} {l1 : Option Nat} {h : AH} : evL 45 4 [l0, .inr (.inl l1)] [s0] h = evL 45 5 [l0, .inr (.inl l1)] [.inr (.inl l1), s0] h := ev_go c45_4 rfl
theorem c45_5 : cd 45 5 = some (5, .getfield 12, 3, 1, 0, 112) := rfl
theorem s45_5 {l0 l1 s1 : AV} {s0 : Nat} {M : Mem} {P : PMem} (hk : kd s0 = 1) : evL 45 5 [l0, l1] [Rf s0, s1] (Hp M P) = evL 45 8 [l0, l1] [Rf (rfd s0 0), s1] (Hp M P) := e_getR c45_5 rfl hk
theorem c45_8 : cd 45 8 = some (8, .invokevirtual 203, 3, 74, 0, 348) := rfl
theorem s45_8 {l0 l1 : AV} {s0 s1 : Nat} {M : Mem} {P : PMem} (hk : kd s1 = 5) : evL 45 8 [l0, l1] [Rf s0, Rf s1] (Hp M P) = cont (evM 74 [Rf s1, Rf s0] (Hp M P)) (fun r h => evL 45 11 [l0, l1] (rl r []) h) := e_callV (av' := [Rf s0]) (rest := []) (c := 5) c45_8 rfl rfl rfl rfl rfl rfl rfl hk rfl
theorem c45_11 : cd 45 11 = some (11, .aload_n 0, 1, 0, 0, 0) := rfl
theorem s45_11 {l1 : AV} {l0 : Option Nat} {h : AH} : evL 45 11 [.inr (.inl l0), l1] [] h = evL 45 12 [.inr (.inl l0), l1] [.inr (.inl l0)] h := ev_go c45_11 rfl
theorem c45_12 : cd 45 12 = some (12, .getfield 21, 3, 1, 1, 115) := rfl
theorem s45_12 {l0 l1 : AV} {s0 : Nat} {M : Mem} {P : PMem} (hk : kd s0 = 1) : evL 45 12 [l0, l1] [Rf s0] (Hp M P) = evL 45 15 [l0, l1] [Rf (rfd s0 1)] (Hp M P) := e_getR c45_12 rfl hk
theorem c45_15 : cd 45 15 = some (15, .aload_n 1, 1, 0, 0, 0) := rfl
theorem s45_15 {l0 s0 : AV} {l1 : Option Nat} {h : AH} : evL 45 15 [l0, .inr (.inl l1)] [s0] h = evL 45 16 [l0, .inr (.inl l1)] [.inr (.inl l1), s0] h := ev_go c45_15 rfl
theorem c45_16 : cd 45 16 = some (16, .getfield 21, 3, 1, 1, 115) := rfl
theorem s45_16 {l0 l1 s1 : AV} {s0 : Nat} {M : Mem} {P : PMem} (hk : kd s0 = 1) : evL 45 16 [l0, l1] [Rf s0, s1] (Hp M P) = evL 45 19 [l0, l1] [Rf (rfd s0 1), s1] (Hp M P) := e_getR c45_16 rfl hk
theorem c45_19 : cd 45 19 = some (19, .invokevirtual 207, 3, 25, 0, 357) := rfl
theorem s45_19 {l0 l1 : AV} {s0 s1 : Nat} {M : Mem} {P : PMem} (hk : kd s1 = 0) : evL 45 19 [l0, l1] [Rf s0, Rf s1] (Hp M P) = cont (evM 25 [Rf s1, Rf s0] (Hp M P)) (fun r h => evL 45 22 [l0, l1] (rl r []) h) := e_callV (av' := [Rf s0]) (rest := []) (c := 0) c45_19 rfl rfl rfl rfl rfl rfl rfl hk rfl
theorem c45_22 : cd 45 22 = some (22, .aload_n 0, 1, 0, 0, 0) := rfl
theorem s45_22 {l1 : AV} {l0 : Option Nat} {h : AH} : evL 45 22 [.inr (.inl l0), l1] [] h = evL 45 23 [.inr (.inl l0), l1] [.inr (.inl l0)] h := ev_go c45_22 rfl
theorem c45_23 : cd 45 23 = some (23, .aload_n 1, 1, 0, 0, 0) := rfl
theorem s45_23 {l0 s0 : AV} {l1 : Option Nat} {h : AH} : evL 45 23 [l0, .inr (.inl l1)] [s0] h = evL 45 24 [l0, .inr (.inl l1)] [.inr (.inl l1), s0] h := ev_go c45_23 rfl
theorem c45_24 : cd 45 24 = some (24, .getfield 34, 3, 1, 3, 118) := rfl
theorem s45_24 {l0 l1 s1 : AV} {s0 : Nat} {M : Mem} {P : PMem} (hk : kd s0 = 1) : evL 45 24 [l0, l1] [Rf s0, s1] (Hp M P) = evL 45 27 [l0, l1] [I (M s0 3), s1] (Hp M P) := e_getI c45_24 rfl hk
theorem c45_27 : cd 45 27 = some (27, .putfield 34, 3, 1, 3, 118) := rfl
theorem s45_27 {l0 l1 : AV} {s0 : Int} {s1 : Nat} {M : Mem} {P : PMem} (hk : kd s1 = 1) : evL 45 27 [l0, l1] [I s0, Rf s1] (Hp M P) = evL 45 30 [l0, l1] [] (Hp (wr M s1 3 s0) P) := e_putI c45_27 rfl hk
theorem c45_30 : cd 45 30 = some (30, .aload_n 0, 1, 0, 0, 0) := rfl
theorem s45_30 {l1 : AV} {l0 : Option Nat} {h : AH} : evL 45 30 [.inr (.inl l0), l1] [] h = evL 45 31 [.inr (.inl l0), l1] [.inr (.inl l0)] h := ev_go c45_30 rfl
theorem c45_31 : cd 45 31 = some (31, .aload_n 1, 1, 0, 0, 0) := rfl
theorem s45_31 {l0 s0 : AV} {l1 : Option Nat} {h : AH} : evL 45 31 [l0, .inr (.inl l1)] [s0] h = evL 45 32 [l0, .inr (.inl l1)] [.inr (.inl l1), s0] h := ev_go c45_31 rfl
theorem c45_32 : cd 45 32 = some (32, .getfield 56, 3, 1, 4, 120) := rfl
theorem s45_32 {l0 l1 s1 : AV} {s0 : Nat} {M : Mem} {P : PMem} (hk : kd s0 = 1) : evL 45 32 [l0, l1] [Rf s0, s1] (Hp M P) = evL 45 35 [l0, l1] [I (M s0 4), s1] (Hp M P) := e_getI c45_32 rfl hk
theorem c45_35 : cd 45 35 = some (35, .putfield 56, 3, 1, 4, 120) := rfl
theorem s45_35 {l0 l1 : AV} {s0 : Int} {s1 : Nat} {M : Mem} {P : PMem} (hk : kd s1 = 1) : evL 45 35 [l0, l1] [I s0, Rf s1] (Hp M P) = evL 45 38 [l0, l1] [] (Hp (wr M s1 4 s0) P) := e_putI c45_35 rfl hk
theorem c45_38 : cd 45 38 = some (38, .aload_n 0, 1, 0, 0, 0) := rfl
theorem s45_38 {l1 : AV} {l0 : Option Nat} {h : AH} : evL 45 38 [.inr (.inl l0), l1] [] h = evL 45 39 [.inr (.inl l0), l1] [.inr (.inl l0)] h := ev_go c45_38 rfl
theorem c45_39 : cd 45 39 = some (39, .aload_n 1, 1, 0, 0, 0) := rfl
theorem s45_39 {l0 s0 : AV} {l1 : Option Nat} {h : AH} : evL 45 39 [l0, .inr (.inl l1)] [s0] h = evL 45 40 [l0, .inr (.inl l1)] [.inr (.inl l1), s0] h := ev_go c45_39 rfl
theorem c45_40 : cd 45 40 = some (40, .getfield 59, 3, 1, 5, 122) := rfl
theorem s45_40 {l0 l1 s1 : AV} {s0 : Nat} {M : Mem} {P : PMem} (hk : kd s0 = 1) : evL 45 40 [l0, l1] [Rf s0, s1] (Hp M P) = evL 45 43 [l0, l1] [I (M s0 5), s1] (Hp M P) := e_getI c45_40 rfl hk
theorem c45_43 : cd 45 43 = some (43, .putfield 59, 3, 1, 5, 122) := rfl
theorem s45_43 {l0 l1 : AV} {s0 : Int} {s1 : Nat} {M : Mem} {P : PMem} (hk : kd s1 = 1) : evL 45 43 [l0, l1] [I s0, Rf s1] (Hp M P) = evL 45 46 [l0, l1] [] (Hp (wr M s1 5 s0) P) := e_putI c45_43 rfl hk
theorem c45_46 : cd 45 46 = some (46, .aload_n 0, 1, 0, 0, 0) := rfl
theorem s45_46 {l1 : AV} {l0 : Option Nat} {h : AH} : evL 45 46 [.inr (.inl l0), l1] [] h = evL 45 47 [.inr (.inl l0), l1] [.inr (.inl l0)] h := ev_go c45_46 rfl
theorem c45_47 : cd 45 47 = some (47, .aload_n 1, 1, 0, 0, 0) := rfl
theorem s45_47 {l0 s0 : AV} {l1 : Option Nat} {h : AH} : evL 45 47 [l0, .inr (.inl l1)] [s0] h = evL 45 48 [l0, .inr (.inl l1)] [.inr (.inl l1), s0] h := ev_go c45_47 rfl
theorem c45_48 : cd 45 48 = some (48, .getfield 62, 3, 1, 6, 124) := rfl
theorem s45_48 {l0 l1 s1 : AV} {s0 : Nat} {M : Mem} {P : PMem} (hk : kd s0 = 1) : evL 45 48 [l0, l1] [Rf s0, s1] (Hp M P) = evL 45 51 [l0, l1] [I (M s0 6), s1] (Hp M P) := e_getI c45_48 rfl hk
theorem c45_51 : cd 45 51 = some (51, .putfield 62, 3, 1, 6, 124) := rfl
theorem s45_51 {l0 l1 : AV} {s0 : Int} {s1 : Nat} {M : Mem} {P : PMem} (hk : kd s1 = 1) (hz : s0 = 0 ∨ s0 = 1) : evL 45 51 [l0, l1] [I s0, Rf s1] (Hp M P) = evL 45 54 [l0, l1] [] (Hp (wr M s1 6 s0) P) := e_putZ c45_51 rfl hk hz
theorem c45_54 : cd 45 54 = some (54, .aload_n 0, 1, 0, 0, 0) := rfl
theorem s45_54 {l1 : AV} {l0 : Option Nat} {h : AH} : evL 45 54 [.inr (.inl l0), l1] [] h = evL 45 55 [.inr (.inl l0), l1] [.inr (.inl l0)] h := ev_go c45_54 rfl
theorem c45_55 : cd 45 55 = some (55, .aload_n 1, 1, 0, 0, 0) := rfl
theorem s45_55 {l0 s0 : AV} {l1 : Option Nat} {h : AH} : evL 45 55 [l0, .inr (.inl l1)] [s0] h = evL 45 56 [l0, .inr (.inl l1)] [.inr (.inl l1), s0] h := ev_go c45_55 rfl
theorem c45_56 : cd 45 56 = some (56, .getfield 66, 3, 1, 7, 126) := rfl
theorem s45_56 {l0 l1 s1 : AV} {s0 : Nat} {M : Mem} {P : PMem} (hk : kd s0 = 1) : evL 45 56 [l0, l1] [Rf s0, s1] (Hp M P) = evL 45 59 [l0, l1] [I (M s0 7), s1] (Hp M P) := e_getI c45_56 rfl hk
theorem c45_59 : cd 45 59 = some (59, .putfield 66, 3, 1, 7, 126) := rfl
theorem s45_59 {l0 l1 : AV} {s0 : Int} {s1 : Nat} {M : Mem} {P : PMem} (hk : kd s1 = 1) : evL 45 59 [l0, l1] [I s0, Rf s1] (Hp M P) = evL 45 62 [l0, l1] [] (Hp (wr M s1 7 s0) P) := e_putI c45_59 rfl hk
theorem c45_62 : cd 45 62 = some (62, .aload_n 0, 1, 0, 0, 0) := rfl
theorem s45_62 {l1 : AV} {l0 : Option Nat} {h : AH} : evL 45 62 [.inr (.inl l0), l1] [] h = evL 45 63 [.inr (.inl l0), l1] [.inr (.inl l0)] h := ev_go c45_62 rfl
theorem c45_63 : cd 45 63 = some (63, .aload_n 1, 1, 0, 0, 0) := rfl
theorem s45_63 {l0 s0 : AV} {l1 : Option Nat} {h : AH} : evL 45 63 [l0, .inr (.inl l1)] [s0] h = evL 45 64 [l0, .inr (.inl l1)] [.inr (.inl l1), s0] h := ev_go c45_63 rfl
theorem c45_64 : cd 45 64 = some (64, .getfield 69, 3, 1, 8, 128) := rfl
theorem s45_64 {l0 l1 s1 : AV} {s0 : Nat} {M : Mem} {P : PMem} (hk : kd s0 = 1) : evL 45 64 [l0, l1] [Rf s0, s1] (Hp M P) = evL 45 67 [l0, l1] [I (M s0 8), s1] (Hp M P) := e_getI c45_64 rfl hk
theorem c45_67 : cd 45 67 = some (67, .putfield 69, 3, 1, 8, 128) := rfl
theorem s45_67 {l0 l1 : AV} {s0 : Int} {s1 : Nat} {M : Mem} {P : PMem} (hk : kd s1 = 1) : evL 45 67 [l0, l1] [I s0, Rf s1] (Hp M P) = evL 45 70 [l0, l1] [] (Hp (wr M s1 8 s0) P) := e_putI c45_67 rfl hk
theorem c45_70 : cd 45 70 = some (70, .aload_n 0, 1, 0, 0, 0) := rfl
theorem s45_70 {l1 : AV} {l0 : Option Nat} {h : AH} : evL 45 70 [.inr (.inl l0), l1] [] h = evL 45 71 [.inr (.inl l0), l1] [.inr (.inl l0)] h := ev_go c45_70 rfl
theorem c45_71 : cd 45 71 = some (71, .aload_n 1, 1, 0, 0, 0) := rfl
theorem s45_71 {l0 s0 : AV} {l1 : Option Nat} {h : AH} : evL 45 71 [l0, .inr (.inl l1)] [s0] h = evL 45 72 [l0, .inr (.inl l1)] [.inr (.inl l1), s0] h := ev_go c45_71 rfl
theorem c45_72 : cd 45 72 = some (72, .getfield 118, 3, 1, 9, 130) := rfl
theorem s45_72 {l0 l1 s1 : AV} {s0 : Nat} {M : Mem} {P : PMem} (hk : kd s0 = 1) : evL 45 72 [l0, l1] [Rf s0, s1] (Hp M P) = evL 45 75 [l0, l1] [I (M s0 9), s1] (Hp M P) := e_getI c45_72 rfl hk
theorem c45_75 : cd 45 75 = some (75, .putfield 118, 3, 1, 9, 130) := rfl
theorem s45_75 {l0 l1 : AV} {s0 : Int} {s1 : Nat} {M : Mem} {P : PMem} (hk : kd s1 = 1) : evL 45 75 [l0, l1] [I s0, Rf s1] (Hp M P) = evL 45 78 [l0, l1] [] (Hp (wr M s1 9 s0) P) := e_putI c45_75 rfl hk
theorem c45_78 : cd 45 78 = some (78, .return_, 1, 0, 0, 0) := rfl
theorem s45_78 {l0 l1 : AV} {h : AH} : evL 45 78 [l0, l1] [] h = some (none, h) := e_ret c45_78 rfl
/-! 87: TankDivers.begin(II)I -/
theorem en87 {l0 l1 l2 : AV} {h : AH} : evM 87 [l0, l1, l2] h = evL 87 0 [l0, l1, l2] [] h := rfl
theorem c87_0 : cd 87 0 = some (0, .iload_n 1, 1, 0, 0, 0) := rfl
theorem s87_0 {l0 l2 : AV} {l1 : Int} {h : AH} : evL 87 0 [l0, I l1, l2] [] h = evL 87 1 [l0, I l1, l2] [I l1] h := ev_go c87_0 rfl
theorem c87_1 : cd 87 1 = some (1, .iconst 2, 1, 0, 0, 0) := rfl
theorem s87_1 {l0 l1 l2 s0 : AV} {h : AH} : evL 87 1 [l0, l1, l2] [s0] h = evL 87 2 [l0, l1, l2] [I 2, s0] h := ev_go c87_1 rfl
theorem c87_2 : cd 87 2 = some (2, .if_icmp .lt 19, 3, 0, 0, 0) := rfl
theorem s87_2 {l0 l1 l2 : AV} {s0 s1 : Int} {h : AH} : evL 87 2 [l0, l1, l2] [I s0, I s1] h = if s1 < s0 then evL 87 21 [l0, l1, l2] [] h else evL 87 5 [l0, l1, l2] [] h := e_icmp_lt c87_2 rfl rfl
theorem c87_5 : cd 87 5 = some (5, .iload_n 1, 1, 0, 0, 0) := rfl
theorem s87_5 {l0 l2 : AV} {l1 : Int} {h : AH} : evL 87 5 [l0, I l1, l2] [] h = evL 87 6 [l0, I l1, l2] [I l1] h := ev_go c87_5 rfl
theorem c87_6 : cd 87 6 = some (6, .iconst 4, 1, 0, 0, 0) := rfl
theorem s87_6 {l0 l1 l2 s0 : AV} {h : AH} : evL 87 6 [l0, l1, l2] [s0] h = evL 87 7 [l0, l1, l2] [I 4, s0] h := ev_go c87_6 rfl
theorem c87_7 : cd 87 7 = some (7, .if_icmp .gt 14, 3, 0, 0, 0) := rfl
theorem s87_7 {l0 l1 l2 : AV} {s0 s1 : Int} {h : AH} : evL 87 7 [l0, l1, l2] [I s0, I s1] h = if s0 < s1 then evL 87 21 [l0, l1, l2] [] h else evL 87 10 [l0, l1, l2] [] h := e_icmp_gt c87_7 rfl rfl
theorem c87_10 : cd 87 10 = some (10, .iload_n 2, 1, 0, 0, 0) := rfl
theorem s87_10 {l0 l1 : AV} {l2 : Int} {h : AH} : evL 87 10 [l0, l1, I l2] [] h = evL 87 11 [l0, l1, I l2] [I l2] h := ev_go c87_10 rfl
theorem c87_11 : cd 87 11 = some (11, .ifCond .lt 10, 3, 0, 0, 0) := rfl
theorem s87_11 {l0 l1 l2 : AV} {s0 : Int} {h : AH} : evL 87 11 [l0, l1, l2] [I s0] h = if s0 < 0 then evL 87 21 [l0, l1, l2] [] h else evL 87 14 [l0, l1, l2] [] h := e_if_lt c87_11 rfl rfl
theorem c87_14 : cd 87 14 = some (14, .iload_n 2, 1, 0, 0, 0) := rfl
theorem s87_14 {l0 l1 : AV} {l2 : Int} {h : AH} : evL 87 14 [l0, l1, I l2] [] h = evL 87 15 [l0, l1, I l2] [I l2] h := ev_go c87_14 rfl
theorem c87_15 : cd 87 15 = some (15, .sipush 10000, 3, 0, 0, 0) := rfl
theorem s87_15 {l0 l1 l2 s0 : AV} {h : AH} : evL 87 15 [l0, l1, l2] [s0] h = evL 87 18 [l0, l1, l2] [I 10000, s0] h := ev_go c87_15 rfl
theorem c87_18 : cd 87 18 = some (18, .if_icmp .lt 5, 3, 0, 0, 0) := rfl
theorem s87_18 {l0 l1 l2 : AV} {s0 s1 : Int} {h : AH} : evL 87 18 [l0, l1, l2] [I s0, I s1] h = if s1 < s0 then evL 87 23 [l0, l1, l2] [] h else evL 87 21 [l0, l1, l2] [] h := e_icmp_lt c87_18 rfl rfl
theorem c87_21 : cd 87 21 = some (21, .iconst (-1), 1, 0, 0, 0) := rfl
theorem s87_21 {l0 l1 l2 : AV} {h : AH} : evL 87 21 [l0, l1, l2] [] h = evL 87 22 [l0, l1, l2] [I (-1)] h := ev_go c87_21 rfl
theorem c87_22 : cd 87 22 = some (22, .ireturn, 1, 0, 0, 0) := rfl
theorem s87_22 {l0 l1 l2 : AV} {s0 : Int} {h : AH} : evL 87 22 [l0, l1, l2] [I s0] h = some (some (I s0), h) := e_ret c87_22 rfl
theorem c87_23 : cd 87 23 = some (23, .aload_n 0, 1, 0, 0, 0) := rfl
theorem s87_23 {l1 l2 : AV} {l0 : Option Nat} {h : AH} : evL 87 23 [.inr (.inl l0), l1, l2] [] h = evL 87 24 [.inr (.inl l0), l1, l2] [.inr (.inl l0)] h := ev_go c87_23 rfl
theorem c87_24 : cd 87 24 = some (24, .getfield 22, 3, 7, 2, 235) := rfl
theorem s87_24 {l0 l1 l2 : AV} {s0 : Nat} {M : Mem} {P : PMem} (hk : kd s0 = 7) : evL 87 24 [l0, l1, l2] [Rf s0] (Hp M P) = evL 87 27 [l0, l1, l2] [Rf (rfd s0 2)] (Hp M P) := e_getR c87_24 rfl hk
theorem c87_27 : cd 87 27 = some (27, .aload_n 0, 1, 0, 0, 0) := rfl
theorem s87_27 {l1 l2 s0 : AV} {l0 : Option Nat} {h : AH} : evL 87 27 [.inr (.inl l0), l1, l2] [s0] h = evL 87 28 [.inr (.inl l0), l1, l2] [.inr (.inl l0), s0] h := ev_go c87_27 rfl
theorem c87_28 : cd 87 28 = some (28, .getfield 12, 3, 7, 0, 233) := rfl
theorem s87_28 {l0 l1 l2 s1 : AV} {s0 : Nat} {M : Mem} {P : PMem} (hk : kd s0 = 7) : evL 87 28 [l0, l1, l2] [Rf s0, s1] (Hp M P) = evL 87 31 [l0, l1, l2] [Rf (rfd s0 0), s1] (Hp M P) := e_getR c87_28 rfl hk
theorem c87_31 : cd 87 31 = some (31, .invokevirtual 48, 3, 48, 0, 371) := rfl
theorem s87_31 {l0 l1 l2 : AV} {s0 s1 : Nat} {M : Mem} {P : PMem} (hk : kd s1 = 2) : evL 87 31 [l0, l1, l2] [Rf s0, Rf s1] (Hp M P) = cont (evM 48 [Rf s1, Rf s0] (Hp M P)) (fun r h => evL 87 34 [l0, l1, l2] (rl r []) h) := e_callV (av' := [Rf s0]) (rest := []) (c := 2) c87_31 rfl rfl rfl rfl rfl rfl rfl hk rfl
theorem c87_34 : cd 87 34 = some (34, .aload_n 0, 1, 0, 0, 0) := rfl
theorem s87_34 {l1 l2 : AV} {l0 : Option Nat} {h : AH} : evL 87 34 [.inr (.inl l0), l1, l2] [] h = evL 87 35 [.inr (.inl l0), l1, l2] [.inr (.inl l0)] h := ev_go c87_34 rfl
theorem c87_35 : cd 87 35 = some (35, .getfield 12, 3, 7, 0, 233) := rfl
theorem s87_35 {l0 l1 l2 : AV} {s0 : Nat} {M : Mem} {P : PMem} (hk : kd s0 = 7) : evL 87 35 [l0, l1, l2] [Rf s0] (Hp M P) = evL 87 38 [l0, l1, l2] [Rf (rfd s0 0)] (Hp M P) := e_getR c87_35 rfl hk
theorem c87_38 : cd 87 38 = some (38, .iload_n 1, 1, 0, 0, 0) := rfl
theorem s87_38 {l0 l2 s0 : AV} {l1 : Int} {h : AH} : evL 87 38 [l0, I l1, l2] [s0] h = evL 87 39 [l0, I l1, l2] [I l1, s0] h := ev_go c87_38 rfl
theorem c87_39 : cd 87 39 = some (39, .iload_n 2, 1, 0, 0, 0) := rfl
theorem s87_39 {l0 l1 s0 s1 : AV} {l2 : Int} {h : AH} : evL 87 39 [l0, l1, I l2] [s0, s1] h = evL 87 40 [l0, l1, I l2] [I l2, s0, s1] h := ev_go c87_39 rfl
theorem c87_40 : cd 87 40 = some (40, .invokevirtual 44, 3, 27, 0, 199) := rfl
theorem s87_40 {l0 l1 l2 : AV} {s0 s1 : Int} {s2 : Nat} {M : Mem} {P : PMem} (hk : kd s2 = 1) : evL 87 40 [l0, l1, l2] [I s0, I s1, Rf s2] (Hp M P) = cont (evM 27 [Rf s2, I s1, I s0] (Hp M P)) (fun r h => evL 87 43 [l0, l1, l2] (rl r []) h) := e_callV (av' := [I s1, I s0]) (rest := []) (c := 1) c87_40 rfl rfl rfl rfl rfl rfl rfl hk rfl
theorem c87_43 : cd 87 43 = some (43, .aload_n 0, 1, 0, 0, 0) := rfl
theorem s87_43 {l1 l2 : AV} {l0 : Option Nat} {h : AH} : evL 87 43 [.inr (.inl l0), l1, l2] [] h = evL 87 44 [.inr (.inl l0), l1, l2] [.inr (.inl l0)] h := ev_go c87_43 rfl
theorem c87_44 : cd 87 44 = some (44, .getfield 12, 3, 7, 0, 233) := rfl
theorem s87_44 {l0 l1 l2 : AV} {s0 : Nat} {M : Mem} {P : PMem} (hk : kd s0 = 7) : evL 87 44 [l0, l1, l2] [Rf s0] (Hp M P) = evL 87 47 [l0, l1, l2] [Rf (rfd s0 0)] (Hp M P) := e_getR c87_44 rfl hk
theorem c87_47 : cd 87 47 = some (47, .invokevirtual 52, 3, 32, 0, 689) := rfl
theorem s87_47 {l0 l1 l2 : AV} {s0 : Nat} {M : Mem} {P : PMem} (hk : kd s0 = 1) : evL 87 47 [l0, l1, l2] [Rf s0] (Hp M P) = cont (evM 32 [Rf s0] (Hp M P)) (fun r h => evL 87 50 [l0, l1, l2] (rl r []) h) := e_callV (av' := []) (rest := []) (c := 1) c87_47 rfl rfl rfl rfl rfl rfl rfl hk rfl
theorem c87_50 : cd 87 50 = some (50, .ireturn, 1, 0, 0, 0) := rfl
theorem s87_50 {l0 l1 l2 : AV} {s0 : Int} {h : AH} : evL 87 50 [l0, l1, l2] [I s0] h = some (some (I s0), h) := e_ret c87_50 rfl
/-! 88: TankDivers.move(Z)I -/
theorem en88 {l0 l1 : AV} {h : AH} : evM 88 [l0, l1] h = evL 88 0 [l0, l1] [] h := rfl
theorem c88_0 : cd 88 0 = some (0, .aload_n 0, 1, 0, 0, 0) := rfl
theorem s88_0 {l1 : AV} {l0 : Option Nat} {h : AH} : evL 88 0 [.inr (.inl l0), l1] [] h = evL 88 1 [.inr (.inl l0), l1] [.inr (.inl l0)] h := ev_go c88_0 rfl
theorem c88_1 : cd 88 1 = some (1, .getfield 22, 3, 7, 2, 235) := rfl
theorem s88_1 {l0 l1 : AV} {s0 : Nat} {M : Mem} {P : PMem} (hk : kd s0 = 7) : evL 88 1 [l0, l1] [Rf s0] (Hp M P) = evL 88 4 [l0, l1] [Rf (rfd s0 2)] (Hp M P) := e_getR c88_1 rfl hk
theorem c88_4 : cd 88 4 = some (4, .aload_n 0, 1, 0, 0, 0) := rfl
theorem s88_4 {l1 s0 : AV} {l0 : Option Nat} {h : AH} : evL 88 4 [.inr (.inl l0), l1] [s0] h = evL 88 5 [.inr (.inl l0), l1] [.inr (.inl l0), s0] h := ev_go c88_4 rfl
theorem c88_5 : cd 88 5 = some (5, .getfield 12, 3, 7, 0, 233) := rfl
theorem s88_5 {l0 l1 s1 : AV} {s0 : Nat} {M : Mem} {P : PMem} (hk : kd s0 = 7) : evL 88 5 [l0, l1] [Rf s0, s1] (Hp M P) = evL 88 8 [l0, l1] [Rf (rfd s0 0), s1] (Hp M P) := e_getR c88_5 rfl hk
theorem c88_8 : cd 88 8 = some (8, .invokevirtual 48, 3, 48, 0, 371) := rfl
theorem s88_8 {l0 l1 : AV} {s0 s1 : Nat} {M : Mem} {P : PMem} (hk : kd s1 = 2) : evL 88 8 [l0, l1] [Rf s0, Rf s1] (Hp M P) = cont (evM 48 [Rf s1, Rf s0] (Hp M P)) (fun r h => evL 88 11 [l0, l1] (rl r []) h) := e_callV (av' := [Rf s0]) (rest := []) (c := 2) c88_8 rfl rfl rfl rfl rfl rfl rfl hk rfl
theorem c88_11 : cd 88 11 = some (11, .aload_n 0, 1, 0, 0, 0) := rfl
theorem s88_11 {l1 : AV} {l0 : Option Nat} {h : AH} : evL 88 11 [.inr (.inl l0), l1] [] h = evL 88 12 [.inr (.inl l0), l1] [.inr (.inl l0)] h := ev_go c88_11 rfl
theorem c88_12 : cd 88 12 = some (12, .getfield 12, 3, 7, 0, 233) := rfl
theorem s88_12 {l0 l1 : AV} {s0 : Nat} {M : Mem} {P : PMem} (hk : kd s0 = 7) : evL 88 12 [l0, l1] [Rf s0] (Hp M P) = evL 88 15 [l0, l1] [Rf (rfd s0 0)] (Hp M P) := e_getR c88_12 rfl hk
theorem c88_15 : cd 88 15 = some (15, .iload_n 1, 1, 0, 0, 0) := rfl
theorem s88_15 {l0 s0 : AV} {l1 : Int} {h : AH} : evL 88 15 [l0, I l1] [s0] h = evL 88 16 [l0, I l1] [I l1, s0] h := ev_go c88_15 rfl
theorem c88_16 : cd 88 16 = some (16, .invokevirtual 56, 3, 36, 0, 537) := rfl
theorem s88_16 {l0 l1 : AV} {s0 : Int} {s1 : Nat} {M : Mem} {P : PMem} (hk : kd s1 = 1) : evL 88 16 [l0, l1] [I s0, Rf s1] (Hp M P) = cont (evM 36 [Rf s1, I s0] (Hp M P)) (fun r h => evL 88 19 [l0, l1] (rl r []) h) := e_callV (av' := [I s0]) (rest := []) (c := 1) c88_16 rfl rfl rfl rfl rfl rfl rfl hk rfl
theorem c88_19 : cd 88 19 = some (19, .ireturn, 1, 0, 0, 0) := rfl
theorem s88_19 {l0 l1 : AV} {s0 : Int} {h : AH} : evL 88 19 [l0, l1] [I s0] h = some (some (I s0), h) := e_ret c88_19 rfl
/-! 89: TankDivers.take()I -/
theorem en89 {l0 : AV} {h : AH} : evM 89 [l0] h = evL 89 0 [l0] [] h := rfl
theorem c89_0 : cd 89 0 = some (0, .aload_n 0, 1, 0, 0, 0) := rfl
theorem s89_0 {l0 : Option Nat} {h : AH} : evL 89 0 [.inr (.inl l0)] [] h = evL 89 1 [.inr (.inl l0)] [.inr (.inl l0)] h := ev_go c89_0 rfl
theorem c89_1 : cd 89 1 = some (1, .getfield 22, 3, 7, 2, 235) := rfl
theorem s89_1 {l0 : AV} {s0 : Nat} {M : Mem} {P : PMem} (hk : kd s0 = 7) : evL 89 1 [l0] [Rf s0] (Hp M P) = evL 89 4 [l0] [Rf (rfd s0 2)] (Hp M P) := e_getR c89_1 rfl hk
theorem c89_4 : cd 89 4 = some (4, .aload_n 0, 1, 0, 0, 0) := rfl
theorem s89_4 {s0 : AV} {l0 : Option Nat} {h : AH} : evL 89 4 [.inr (.inl l0)] [s0] h = evL 89 5 [.inr (.inl l0)] [.inr (.inl l0), s0] h := ev_go c89_4 rfl
theorem c89_5 : cd 89 5 = some (5, .getfield 12, 3, 7, 0, 233) := rfl
theorem s89_5 {l0 s1 : AV} {s0 : Nat} {M : Mem} {P : PMem} (hk : kd s0 = 7) : evL 89 5 [l0] [Rf s0, s1] (Hp M P) = evL 89 8 [l0] [Rf (rfd s0 0), s1] (Hp M P) := e_getR c89_5 rfl hk
theorem c89_8 : cd 89 8 = some (8, .invokevirtual 48, 3, 48, 0, 371) := rfl
theorem s89_8 {l0 : AV} {s0 s1 : Nat} {M : Mem} {P : PMem} (hk : kd s1 = 2) : evL 89 8 [l0] [Rf s0, Rf s1] (Hp M P) = cont (evM 48 [Rf s1, Rf s0] (Hp M P)) (fun r h => evL 89 11 [l0] (rl r []) h) := e_callV (av' := [Rf s0]) (rest := []) (c := 2) c89_8 rfl rfl rfl rfl rfl rfl rfl hk rfl
theorem c89_11 : cd 89 11 = some (11, .aload_n 0, 1, 0, 0, 0) := rfl
theorem s89_11 {l0 : Option Nat} {h : AH} : evL 89 11 [.inr (.inl l0)] [] h = evL 89 12 [.inr (.inl l0)] [.inr (.inl l0)] h := ev_go c89_11 rfl
theorem c89_12 : cd 89 12 = some (12, .getfield 12, 3, 7, 0, 233) := rfl
theorem s89_12 {l0 : AV} {s0 : Nat} {M : Mem} {P : PMem} (hk : kd s0 = 7) : evL 89 12 [l0] [Rf s0] (Hp M P) = evL 89 15 [l0] [Rf (rfd s0 0)] (Hp M P) := e_getR c89_12 rfl hk
theorem c89_15 : cd 89 15 = some (15, .bipush 116, 2, 0, 0, 0) := rfl
theorem s89_15 {l0 s0 : AV} {h : AH} : evL 89 15 [l0] [s0] h = evL 89 17 [l0] [I 116, s0] h := ev_go c89_15 rfl
theorem c89_17 : cd 89 17 = some (17, .iconst 0, 1, 0, 0, 0) := rfl
theorem s89_17 {l0 s0 s1 : AV} {h : AH} : evL 89 17 [l0] [s0, s1] h = evL 89 18 [l0] [I 0, s0, s1] h := ev_go c89_17 rfl
theorem c89_18 : cd 89 18 = some (18, .invokevirtual 60, 3, 40, 0, 558) := rfl
theorem s89_18 {l0 : AV} {s0 s1 : Int} {s2 : Nat} {M : Mem} {P : PMem} (hk : kd s2 = 1) : evL 89 18 [l0] [I s0, I s1, Rf s2] (Hp M P) = cont (evM 40 [Rf s2, I s1, I s0] (Hp M P)) (fun r h => evL 89 21 [l0] (rl r []) h) := e_callV (av' := [I s1, I s0]) (rest := []) (c := 1) c89_18 rfl rfl rfl rfl rfl rfl rfl hk rfl
theorem c89_21 : cd 89 21 = some (21, .ireturn, 1, 0, 0, 0) := rfl
theorem s89_21 {l0 : AV} {s0 : Int} {h : AH} : evL 89 21 [l0] [I s0] h = some (some (I s0), h) := e_ret c89_21 rfl
/-! 90: TankDivers.lay(I)I -/
theorem en90 {l0 l1 : AV} {h : AH} : evM 90 [l0, l1] h = evL 90 0 [l0, l1] [] h := rfl
theorem c90_0 : cd 90 0 = some (0, .aload_n 0, 1, 0, 0, 0) := rfl
theorem s90_0 {l1 : AV} {l0 : Option Nat} {h : AH} : evL 90 0 [.inr (.inl l0), l1] [] h = evL 90 1 [.inr (.inl l0), l1] [.inr (.inl l0)] h := ev_go c90_0 rfl
theorem c90_1 : cd 90 1 = some (1, .getfield 22, 3, 7, 2, 235) := rfl
theorem s90_1 {l0 l1 : AV} {s0 : Nat} {M : Mem} {P : PMem} (hk : kd s0 = 7) : evL 90 1 [l0, l1] [Rf s0] (Hp M P) = evL 90 4 [l0, l1] [Rf (rfd s0 2)] (Hp M P) := e_getR c90_1 rfl hk
theorem c90_4 : cd 90 4 = some (4, .aload_n 0, 1, 0, 0, 0) := rfl
theorem s90_4 {l1 s0 : AV} {l0 : Option Nat} {h : AH} : evL 90 4 [.inr (.inl l0), l1] [s0] h = evL 90 5 [.inr (.inl l0), l1] [.inr (.inl l0), s0] h := ev_go c90_4 rfl
theorem c90_5 : cd 90 5 = some (5, .getfield 12, 3, 7, 0, 233) := rfl
theorem s90_5 {l0 l1 s1 : AV} {s0 : Nat} {M : Mem} {P : PMem} (hk : kd s0 = 7) : evL 90 5 [l0, l1] [Rf s0, s1] (Hp M P) = evL 90 8 [l0, l1] [Rf (rfd s0 0), s1] (Hp M P) := e_getR c90_5 rfl hk
theorem c90_8 : cd 90 8 = some (8, .invokevirtual 48, 3, 48, 0, 371) := rfl
theorem s90_8 {l0 l1 : AV} {s0 s1 : Nat} {M : Mem} {P : PMem} (hk : kd s1 = 2) : evL 90 8 [l0, l1] [Rf s0, Rf s1] (Hp M P) = cont (evM 48 [Rf s1, Rf s0] (Hp M P)) (fun r h => evL 90 11 [l0, l1] (rl r []) h) := e_callV (av' := [Rf s0]) (rest := []) (c := 2) c90_8 rfl rfl rfl rfl rfl rfl rfl hk rfl
theorem c90_11 : cd 90 11 = some (11, .aload_n 0, 1, 0, 0, 0) := rfl
theorem s90_11 {l1 : AV} {l0 : Option Nat} {h : AH} : evL 90 11 [.inr (.inl l0), l1] [] h = evL 90 12 [.inr (.inl l0), l1] [.inr (.inl l0)] h := ev_go c90_11 rfl
theorem c90_12 : cd 90 12 = some (12, .getfield 12, 3, 7, 0, 233) := rfl
theorem s90_12 {l0 l1 : AV} {s0 : Nat} {M : Mem} {P : PMem} (hk : kd s0 = 7) : evL 90 12 [l0, l1] [Rf s0] (Hp M P) = evL 90 15 [l0, l1] [Rf (rfd s0 0)] (Hp M P) := e_getR c90_12 rfl hk
theorem c90_15 : cd 90 15 = some (15, .bipush 108, 2, 0, 0, 0) := rfl
theorem s90_15 {l0 l1 s0 : AV} {h : AH} : evL 90 15 [l0, l1] [s0] h = evL 90 17 [l0, l1] [I 108, s0] h := ev_go c90_15 rfl
theorem c90_17 : cd 90 17 = some (17, .iload_n 1, 1, 0, 0, 0) := rfl
theorem s90_17 {l0 s0 s1 : AV} {l1 : Int} {h : AH} : evL 90 17 [l0, I l1] [s0, s1] h = evL 90 18 [l0, I l1] [I l1, s0, s1] h := ev_go c90_17 rfl
theorem c90_18 : cd 90 18 = some (18, .invokevirtual 60, 3, 40, 0, 558) := rfl
theorem s90_18 {l0 l1 : AV} {s0 s1 : Int} {s2 : Nat} {M : Mem} {P : PMem} (hk : kd s2 = 1) : evL 90 18 [l0, l1] [I s0, I s1, Rf s2] (Hp M P) = cont (evM 40 [Rf s2, I s1, I s0] (Hp M P)) (fun r h => evL 90 21 [l0, l1] (rl r []) h) := e_callV (av' := [I s1, I s0]) (rest := []) (c := 1) c90_18 rfl rfl rfl rfl rfl rfl rfl hk rfl
theorem c90_21 : cd 90 21 = some (21, .ireturn, 1, 0, 0, 0) := rfl
theorem s90_21 {l0 l1 : AV} {s0 : Int} {h : AH} : evL 90 21 [l0, l1] [I s0] h = some (some (I s0), h) := e_ret c90_21 rfl
/-! 91: TankDivers.nothing()I -/
theorem en91 {l0 : AV} {h : AH} : evM 91 [l0] h = evL 91 0 [l0] [] h := rfl
theorem c91_0 : cd 91 0 = some (0, .aload_n 0, 1, 0, 0, 0) := rfl
theorem s91_0 {l0 : Option Nat} {h : AH} : evL 91 0 [.inr (.inl l0)] [] h = evL 91 1 [.inr (.inl l0)] [.inr (.inl l0)] h := ev_go c91_0 rfl
theorem c91_1 : cd 91 1 = some (1, .getfield 22, 3, 7, 2, 235) := rfl
theorem s91_1 {l0 : AV} {s0 : Nat} {M : Mem} {P : PMem} (hk : kd s0 = 7) : evL 91 1 [l0] [Rf s0] (Hp M P) = evL 91 4 [l0] [Rf (rfd s0 2)] (Hp M P) := e_getR c91_1 rfl hk
theorem c91_4 : cd 91 4 = some (4, .aload_n 0, 1, 0, 0, 0) := rfl
theorem s91_4 {s0 : AV} {l0 : Option Nat} {h : AH} : evL 91 4 [.inr (.inl l0)] [s0] h = evL 91 5 [.inr (.inl l0)] [.inr (.inl l0), s0] h := ev_go c91_4 rfl
theorem c91_5 : cd 91 5 = some (5, .getfield 12, 3, 7, 0, 233) := rfl
theorem s91_5 {l0 s1 : AV} {s0 : Nat} {M : Mem} {P : PMem} (hk : kd s0 = 7) : evL 91 5 [l0] [Rf s0, s1] (Hp M P) = evL 91 8 [l0] [Rf (rfd s0 0), s1] (Hp M P) := e_getR c91_5 rfl hk
theorem c91_8 : cd 91 8 = some (8, .invokevirtual 48, 3, 48, 0, 371) := rfl
theorem s91_8 {l0 : AV} {s0 s1 : Nat} {M : Mem} {P : PMem} (hk : kd s1 = 2) : evL 91 8 [l0] [Rf s0, Rf s1] (Hp M P) = cont (evM 48 [Rf s1, Rf s0] (Hp M P)) (fun r h => evL 91 11 [l0] (rl r []) h) := e_callV (av' := [Rf s0]) (rest := []) (c := 2) c91_8 rfl rfl rfl rfl rfl rfl rfl hk rfl
theorem c91_11 : cd 91 11 = some (11, .aload_n 0, 1, 0, 0, 0) := rfl
theorem s91_11 {l0 : Option Nat} {h : AH} : evL 91 11 [.inr (.inl l0)] [] h = evL 91 12 [.inr (.inl l0)] [.inr (.inl l0)] h := ev_go c91_11 rfl
theorem c91_12 : cd 91 12 = some (12, .getfield 12, 3, 7, 0, 233) := rfl
theorem s91_12 {l0 : AV} {s0 : Nat} {M : Mem} {P : PMem} (hk : kd s0 = 7) : evL 91 12 [l0] [Rf s0] (Hp M P) = evL 91 15 [l0] [Rf (rfd s0 0)] (Hp M P) := e_getR c91_12 rfl hk
theorem c91_15 : cd 91 15 = some (15, .bipush 110, 2, 0, 0, 0) := rfl
theorem s91_15 {l0 s0 : AV} {h : AH} : evL 91 15 [l0] [s0] h = evL 91 17 [l0] [I 110, s0] h := ev_go c91_15 rfl
theorem c91_17 : cd 91 17 = some (17, .iconst 0, 1, 0, 0, 0) := rfl
theorem s91_17 {l0 s0 s1 : AV} {h : AH} : evL 91 17 [l0] [s0, s1] h = evL 91 18 [l0] [I 0, s0, s1] h := ev_go c91_17 rfl
theorem c91_18 : cd 91 18 = some (18, .invokevirtual 60, 3, 40, 0, 558) := rfl
theorem s91_18 {l0 : AV} {s0 s1 : Int} {s2 : Nat} {M : Mem} {P : PMem} (hk : kd s2 = 1) : evL 91 18 [l0] [I s0, I s1, Rf s2] (Hp M P) = cont (evM 40 [Rf s2, I s1, I s0] (Hp M P)) (fun r h => evL 91 21 [l0] (rl r []) h) := e_callV (av' := [I s1, I s0]) (rest := []) (c := 1) c91_18 rfl rfl rfl rfl rfl rfl rfl hk rfl
theorem c91_21 : cd 91 21 = some (21, .ireturn, 1, 0, 0, 0) := rfl
theorem s91_21 {l0 : AV} {s0 : Int} {h : AH} : evL 91 21 [l0] [I s0] h = some (some (I s0), h) := e_ret c91_21 rfl
/-! 92: TankDivers.append(I)I -/
theorem en92 {l0 l1 : AV} {h : AH} : evM 92 [l0, l1] h = evL 92 0 [l0, l1] [] h := rfl
theorem c92_0 : cd 92 0 = some (0, .iload_n 1, 1, 0, 0, 0) := rfl
theorem s92_0 {l0 : AV} {l1 : Int} {h : AH} : evL 92 0 [l0, I l1] [] h = evL 92 1 [l0, I l1] [I l1] h := ev_go c92_0 rfl
theorem c92_1 : cd 92 1 = some (1, .bipush 33, 2, 0, 0, 0) := rfl
theorem s92_1 {l0 l1 s0 : AV} {h : AH} : evL 92 1 [l0, l1] [s0] h = evL 92 3 [l0, l1] [I 33, s0] h := ev_go c92_1 rfl
theorem c92_3 : cd 92 3 = some (3, .if_icmp .lt 9, 3, 0, 0, 0) := rfl
theorem s92_3 {l0 l1 : AV} {s0 s1 : Int} {h : AH} : evL 92 3 [l0, l1] [I s0, I s1] h = if s1 < s0 then evL 92 12 [l0, l1] [] h else evL 92 6 [l0, l1] [] h := e_icmp_lt c92_3 rfl rfl
theorem c92_6 : cd 92 6 = some (6, .iload_n 1, 1, 0, 0, 0) := rfl
theorem s92_6 {l0 : AV} {l1 : Int} {h : AH} : evL 92 6 [l0, I l1] [] h = evL 92 7 [l0, I l1] [I l1] h := ev_go c92_6 rfl
theorem c92_7 : cd 92 7 = some (7, .bipush 126, 2, 0, 0, 0) := rfl
theorem s92_7 {l0 l1 s0 : AV} {h : AH} : evL 92 7 [l0, l1] [s0] h = evL 92 9 [l0, l1] [I 126, s0] h := ev_go c92_7 rfl
theorem c92_9 : cd 92 9 = some (9, .if_icmp .le 5, 3, 0, 0, 0) := rfl
theorem s92_9 {l0 l1 : AV} {s0 s1 : Int} {h : AH} : evL 92 9 [l0, l1] [I s0, I s1] h = if s1 ≤ s0 then evL 92 14 [l0, l1] [] h else evL 92 12 [l0, l1] [] h := e_icmp_le c92_9 rfl rfl
theorem c92_12 : cd 92 12 = some (12, .iconst (-1), 1, 0, 0, 0) := rfl
theorem s92_12 {l0 l1 : AV} {h : AH} : evL 92 12 [l0, l1] [] h = evL 92 13 [l0, l1] [I (-1)] h := ev_go c92_12 rfl
theorem c92_13 : cd 92 13 = some (13, .ireturn, 1, 0, 0, 0) := rfl
theorem s92_13 {l0 l1 : AV} {s0 : Int} {h : AH} : evL 92 13 [l0, l1] [I s0] h = some (some (I s0), h) := e_ret c92_13 rfl
theorem c92_14 : cd 92 14 = some (14, .aload_n 0, 1, 0, 0, 0) := rfl
theorem s92_14 {l1 : AV} {l0 : Option Nat} {h : AH} : evL 92 14 [.inr (.inl l0), l1] [] h = evL 92 15 [.inr (.inl l0), l1] [.inr (.inl l0)] h := ev_go c92_14 rfl
theorem c92_15 : cd 92 15 = some (15, .getfield 29, 3, 7, 3, 236) := rfl
theorem s92_15 {l0 l1 : AV} {s0 : Nat} {M : Mem} {P : PMem} (hk : kd s0 = 7) : evL 92 15 [l0, l1] [Rf s0] (Hp M P) = evL 92 18 [l0, l1] [Rf (rfd s0 3)] (Hp M P) := e_getR c92_15 rfl hk
theorem c92_18 : cd 92 18 = some (18, .iload_n 1, 1, 0, 0, 0) := rfl
theorem s92_18 {l0 s0 : AV} {l1 : Int} {h : AH} : evL 92 18 [l0, I l1] [s0] h = evL 92 19 [l0, I l1] [I l1, s0] h := ev_go c92_18 rfl
theorem c92_19 : cd 92 19 = some (19, .invokevirtual 64, 3, 61, 0, 660) := rfl
theorem s92_19 {l0 l1 : AV} {s0 : Int} {s1 : Nat} {M : Mem} {P : PMem} (hk : kd s1 = 4) : evL 92 19 [l0, l1] [I s0, Rf s1] (Hp M P) = cont (evM 61 [Rf s1, I s0] (Hp M P)) (fun r h => evL 92 22 [l0, l1] (rl r []) h) := e_callV (av' := [I s0]) (rest := []) (c := 4) c92_19 rfl rfl rfl rfl rfl rfl rfl hk rfl
theorem c92_22 : cd 92 22 = some (22, .ireturn, 1, 0, 0, 0) := rfl
theorem s92_22 {l0 l1 : AV} {s0 : Int} {h : AH} : evL 92 22 [l0, l1] [I s0] h = some (some (I s0), h) := e_ret c92_22 rfl
/-! 93: TankDivers.clear()I -/
theorem en93 {l0 : AV} {h : AH} : evM 93 [l0] h = evL 93 0 [l0] [] h := rfl
theorem c93_0 : cd 93 0 = some (0, .aload_n 0, 1, 0, 0, 0) := rfl
theorem s93_0 {l0 : Option Nat} {h : AH} : evL 93 0 [.inr (.inl l0)] [] h = evL 93 1 [.inr (.inl l0)] [.inr (.inl l0)] h := ev_go c93_0 rfl
theorem c93_1 : cd 93 1 = some (1, .getfield 29, 3, 7, 3, 236) := rfl
theorem s93_1 {l0 : AV} {s0 : Nat} {M : Mem} {P : PMem} (hk : kd s0 = 7) : evL 93 1 [l0] [Rf s0] (Hp M P) = evL 93 4 [l0] [Rf (rfd s0 3)] (Hp M P) := e_getR c93_1 rfl hk
theorem c93_4 : cd 93 4 = some (4, .invokevirtual 68, 3, 62, 0, 652) := rfl
theorem s93_4 {l0 : AV} {s0 : Nat} {M : Mem} {P : PMem} (hk : kd s0 = 4) : evL 93 4 [l0] [Rf s0] (Hp M P) = cont (evM 62 [Rf s0] (Hp M P)) (fun r h => evL 93 7 [l0] (rl r []) h) := e_callV (av' := []) (rest := []) (c := 4) c93_4 rfl rfl rfl rfl rfl rfl rfl hk rfl
theorem c93_7 : cd 93 7 = some (7, .ireturn, 1, 0, 0, 0) := rfl
theorem s93_7 {l0 : AV} {s0 : Int} {h : AH} : evL 93 7 [l0] [I s0] h = some (some (I s0), h) := e_ret c93_7 rfl
/-! 94: TankDivers.fault()I -/
theorem en94 {l0 : AV} {h : AH} : evM 94 [l0] h = evL 94 0 [l0] [] h := rfl
theorem c94_0 : cd 94 0 = some (0, .aload_n 0, 1, 0, 0, 0) := rfl
theorem s94_0 {l0 : Option Nat} {h : AH} : evL 94 0 [.inr (.inl l0)] [] h = evL 94 1 [.inr (.inl l0)] [.inr (.inl l0)] h := ev_go c94_0 rfl
theorem c94_1 : cd 94 1 = some (1, .getfield 29, 3, 7, 3, 236) := rfl
theorem s94_1 {l0 : AV} {s0 : Nat} {M : Mem} {P : PMem} (hk : kd s0 = 7) : evL 94 1 [l0] [Rf s0] (Hp M P) = evL 94 4 [l0] [Rf (rfd s0 3)] (Hp M P) := e_getR c94_1 rfl hk
theorem c94_4 : cd 94 4 = some (4, .invokevirtual 71, 3, 63, 0, 669) := rfl
theorem s94_4 {l0 : AV} {s0 : Nat} {M : Mem} {P : PMem} (hk : kd s0 = 4) : evL 94 4 [l0] [Rf s0] (Hp M P) = cont (evM 63 [Rf s0] (Hp M P)) (fun r h => evL 94 7 [l0] (rl r []) h) := e_callV (av' := []) (rest := []) (c := 4) c94_4 rfl rfl rfl rfl rfl rfl rfl hk rfl
theorem c94_7 : cd 94 7 = some (7, .ireturn, 1, 0, 0, 0) := rfl
theorem s94_7 {l0 : AV} {s0 : Int} {h : AH} : evL 94 7 [l0] [I s0] h = some (some (I s0), h) := e_ret c94_7 rfl
/-! 95: TankDivers.play()I -/
theorem en95 {l0 : AV} {h : AH} : evM 95 [l0] h = evL 95 0 [l0, Db 0, Db 0, Db 0, Db 0, Db 0] [] h := rfl
theorem c95_0 : cd 95 0 = some (0, .aload_n 0, 1, 0, 0, 0) := rfl
theorem s95_0 {l1 l2 l3 l4 l5 : AV} {l0 : Option Nat} {h : AH} : evL 95 0 [.inr (.inl l0), l1, l2, l3, l4, l5] [] h = evL 95 1 [.inr (.inl l0), l1, l2, l3, l4, l5] [.inr (.inl l0)] h := ev_go c95_0 rfl
theorem c95_1 : cd 95 1 = some (1, .getfield 29, 3, 7, 3, 236) := rfl
theorem s95_1 {l0 l1 l2 l3 l4 l5 : AV} {s0 : Nat} {M : Mem} {P : PMem} (hk : kd s0 = 7) : evL 95 1 [l0, l1, l2, l3, l4, l5] [Rf s0] (Hp M P) = evL 95 4 [l0, l1, l2, l3, l4, l5] [Rf (rfd s0 3)] (Hp M P) := e_getR c95_1 rfl hk
theorem c95_4 : cd 95 4 = some (4, .invokevirtual 71, 3, 63, 0, 669) := rfl
theorem s95_4 {l0 l1 l2 l3 l4 l5 : AV} {s0 : Nat} {M : Mem} {P : PMem} (hk : kd s0 = 4) : evL 95 4 [l0, l1, l2, l3, l4, l5] [Rf s0] (Hp M P) = cont (evM 63 [Rf s0] (Hp M P)) (fun r h => evL 95 7 [l0, l1, l2, l3, l4, l5] (rl r []) h) := e_callV (av' := []) (rest := []) (c := 4) c95_4 rfl rfl rfl rfl rfl rfl rfl hk rfl
theorem c95_7 : cd 95 7 = some (7, .bipush (-4), 2, 0, 0, 0) := rfl
theorem s95_7 {l0 l1 l2 l3 l4 l5 s0 : AV} {h : AH} : evL 95 7 [l0, l1, l2, l3, l4, l5] [s0] h = evL 95 9 [l0, l1, l2, l3, l4, l5] [I (-4), s0] h := ev_go c95_7 rfl
theorem c95_9 : cd 95 9 = some (9, .if_icmp .eq 6, 3, 0, 0, 0) := rfl
theorem s95_9 {l0 l1 l2 l3 l4 l5 : AV} {s0 s1 : Int} {h : AH} : evL 95 9 [l0, l1, l2, l3, l4, l5] [I s0, I s1] h = if s1 = s0 then evL 95 15 [l0, l1, l2, l3, l4, l5] [] h else evL 95 12 [l0, l1, l2, l3, l4, l5] [] h := e_icmp_eq c95_9 rfl rfl
theorem c95_12 : cd 95 12 = some (12, .bipush (-2), 2, 0, 0, 0) := rfl
theorem s95_12 {l0 l1 l2 l3 l4 l5 : AV} {h : AH} : evL 95 12 [l0, l1, l2, l3, l4, l5] [] h = evL 95 14 [l0, l1, l2, l3, l4, l5] [I (-2)] h := ev_go c95_12 rfl
theorem c95_14 : cd 95 14 = some (14, .ireturn, 1, 0, 0, 0) := rfl
theorem s95_14 {l0 l1 l2 l3 l4 l5 : AV} {s0 : Int} {h : AH} : evL 95 14 [l0, l1, l2, l3, l4, l5] [I s0] h = some (some (I s0), h) := e_ret c95_14 rfl
theorem c95_15 : cd 95 15 = some (15, .aload_n 0, 1, 0, 0, 0) := rfl
theorem s95_15 {l1 l2 l3 l4 l5 : AV} {l0 : Option Nat} {h : AH} : evL 95 15 [.inr (.inl l0), l1, l2, l3, l4, l5] [] h = evL 95 16 [.inr (.inl l0), l1, l2, l3, l4, l5] [.inr (.inl l0)] h := ev_go c95_15 rfl
theorem c95_16 : cd 95 16 = some (16, .getfield 22, 3, 7, 2, 235) := rfl
theorem s95_16 {l0 l1 l2 l3 l4 l5 : AV} {s0 : Nat} {M : Mem} {P : PMem} (hk : kd s0 = 7) : evL 95 16 [l0, l1, l2, l3, l4, l5] [Rf s0] (Hp M P) = evL 95 19 [l0, l1, l2, l3, l4, l5] [Rf (rfd s0 2)] (Hp M P) := e_getR c95_16 rfl hk
theorem c95_19 : cd 95 19 = some (19, .aload_n 0, 1, 0, 0, 0) := rfl
theorem s95_19 {l1 l2 l3 l4 l5 s0 : AV} {l0 : Option Nat} {h : AH} : evL 95 19 [.inr (.inl l0), l1, l2, l3, l4, l5] [s0] h = evL 95 20 [.inr (.inl l0), l1, l2, l3, l4, l5] [.inr (.inl l0), s0] h := ev_go c95_19 rfl
theorem c95_20 : cd 95 20 = some (20, .getfield 12, 3, 7, 0, 233) := rfl
theorem s95_20 {l0 l1 l2 l3 l4 l5 s1 : AV} {s0 : Nat} {M : Mem} {P : PMem} (hk : kd s0 = 7) : evL 95 20 [l0, l1, l2, l3, l4, l5] [Rf s0, s1] (Hp M P) = evL 95 23 [l0, l1, l2, l3, l4, l5] [Rf (rfd s0 0), s1] (Hp M P) := e_getR c95_20 rfl hk
theorem c95_23 : cd 95 23 = some (23, .invokevirtual 48, 3, 48, 0, 371) := rfl
theorem s95_23 {l0 l1 l2 l3 l4 l5 : AV} {s0 s1 : Nat} {M : Mem} {P : PMem} (hk : kd s1 = 2) : evL 95 23 [l0, l1, l2, l3, l4, l5] [Rf s0, Rf s1] (Hp M P) = cont (evM 48 [Rf s1, Rf s0] (Hp M P)) (fun r h => evL 95 26 [l0, l1, l2, l3, l4, l5] (rl r []) h) := e_callV (av' := [Rf s0]) (rest := []) (c := 2) c95_23 rfl rfl rfl rfl rfl rfl rfl hk rfl
theorem c95_26 : cd 95 26 = some (26, .aload_n 0, 1, 0, 0, 0) := rfl
theorem s95_26 {l1 l2 l3 l4 l5 : AV} {l0 : Option Nat} {h : AH} : evL 95 26 [.inr (.inl l0), l1, l2, l3, l4, l5] [] h = evL 95 27 [.inr (.inl l0), l1, l2, l3, l4, l5] [.inr (.inl l0)] h := ev_go c95_26 rfl
theorem c95_27 : cd 95 27 = some (27, .iconst 0, 1, 0, 0, 0) := rfl
theorem s95_27 {l0 l1 l2 l3 l4 l5 s0 : AV} {h : AH} : evL 95 27 [l0, l1, l2, l3, l4, l5] [s0] h = evL 95 28 [l0, l1, l2, l3, l4, l5] [I 0, s0] h := ev_go c95_27 rfl
theorem c95_28 : cd 95 28 = some (28, .putfield 40, 3, 7, 6, 239) := rfl
theorem s95_28 {l0 l1 l2 l3 l4 l5 : AV} {s0 : Int} {s1 : Nat} {M : Mem} {P : PMem} (hk : kd s1 = 7) : evL 95 28 [l0, l1, l2, l3, l4, l5] [I s0, Rf s1] (Hp M P) = evL 95 31 [l0, l1, l2, l3, l4, l5] [] (Hp (wr M s1 6 s0) P) := e_putI c95_28 rfl hk
theorem c95_31 : cd 95 31 = some (31, .iconst 0, 1, 0, 0, 0) := rfl
theorem s95_31 {l0 l1 l2 l3 l4 l5 : AV} {h : AH} : evL 95 31 [l0, l1, l2, l3, l4, l5] [] h = evL 95 32 [l0, l1, l2, l3, l4, l5] [I 0] h := ev_go c95_31 rfl
theorem c95_32 : cd 95 32 = some (32, .istore_n 1, 1, 0, 0, 0) := rfl
theorem s95_32 {l0 l1 l2 l3 l4 l5 : AV} {s0 : Int} {h : AH} : evL 95 32 [l0, l1, l2, l3, l4, l5] [I s0] h = evL 95 33 [l0, I s0, l2, l3, l4, l5] [] h := ev_go c95_32 rfl
theorem c95_33 : cd 95 33 = some (33, .aload_n 0, 1, 0, 0, 0) := rfl
theorem s95_33 {l1 l2 l3 l4 l5 : AV} {l0 : Option Nat} {h : AH} : evL 95 33 [.inr (.inl l0), l1, l2, l3, l4, l5] [] h = evL 95 34 [.inr (.inl l0), l1, l2, l3, l4, l5] [.inr (.inl l0)] h := ev_go c95_33 rfl
theorem c95_34 : cd 95 34 = some (34, .getfield 29, 3, 7, 3, 236) := rfl
theorem s95_34 {l0 l1 l2 l3 l4 l5 : AV} {s0 : Nat} {M : Mem} {P : PMem} (hk : kd s0 = 7) : evL 95 34 [l0, l1, l2, l3, l4, l5] [Rf s0] (Hp M P) = evL 95 37 [l0, l1, l2, l3, l4, l5] [Rf (rfd s0 3)] (Hp M P) := e_getR c95_34 rfl hk
theorem c95_37 : cd 95 37 = some (37, .invokevirtual 74, 3, 59, 0, 324) := rfl
theorem s95_37 {l0 l1 l2 l3 l4 l5 : AV} {s0 : Nat} {M : Mem} {P : PMem} (hk : kd s0 = 4) : evL 95 37 [l0, l1, l2, l3, l4, l5] [Rf s0] (Hp M P) = cont (evM 59 [Rf s0] (Hp M P)) (fun r h => evL 95 40 [l0, l1, l2, l3, l4, l5] (rl r []) h) := e_callV (av' := []) (rest := []) (c := 4) c95_37 rfl rfl rfl rfl rfl rfl rfl hk rfl
theorem c95_40 : cd 95 40 = some (40, .istore_n 2, 1, 0, 0, 0) := rfl
theorem s95_40 {l0 l1 l2 l3 l4 l5 : AV} {s0 : Int} {h : AH} : evL 95 40 [l0, l1, l2, l3, l4, l5] [I s0] h = evL 95 41 [l0, l1, I s0, l3, l4, l5] [] h := ev_go c95_40 rfl
theorem c95_41 : cd 95 41 = some (41, .iconst 0, 1, 0, 0, 0) := rfl
theorem s95_41 {l0 l1 l2 l3 l4 l5 : AV} {h : AH} : evL 95 41 [l0, l1, l2, l3, l4, l5] [] h = evL 95 42 [l0, l1, l2, l3, l4, l5] [I 0] h := ev_go c95_41 rfl
theorem c95_42 : cd 95 42 = some (42, .istore_n 3, 1, 0, 0, 0) := rfl
theorem s95_42 {l0 l1 l2 l3 l4 l5 : AV} {s0 : Int} {h : AH} : evL 95 42 [l0, l1, l2, l3, l4, l5] [I s0] h = evL 95 43 [l0, l1, l2, I s0, l4, l5] [] h := ev_go c95_42 rfl
theorem c95_43 : cd 95 43 = some (43, .iload_n 3, 1, 0, 0, 0) := rfl
theorem s95_43 {l0 l1 l2 l4 l5 : AV} {l3 : Int} {h : AH} : evL 95 43 [l0, l1, l2, I l3, l4, l5] [] h = evL 95 44 [l0, l1, l2, I l3, l4, l5] [I l3] h := ev_go c95_43 rfl
theorem c95_44 : cd 95 44 = some (44, .iload_n 2, 1, 0, 0, 0) := rfl
theorem s95_44 {l0 l1 l3 l4 l5 s0 : AV} {l2 : Int} {h : AH} : evL 95 44 [l0, l1, I l2, l3, l4, l5] [s0] h = evL 95 45 [l0, l1, I l2, l3, l4, l5] [I l2, s0] h := ev_go c95_44 rfl
theorem c95_45 : cd 95 45 = some (45, .if_icmp .ge 127, 3, 0, 0, 0) := rfl
theorem s95_45 {l0 l1 l2 l3 l4 l5 : AV} {s0 s1 : Int} {h : AH} : evL 95 45 [l0, l1, l2, l3, l4, l5] [I s0, I s1] h = if s0 ≤ s1 then evL 95 172 [l0, l1, l2, l3, l4, l5] [] h else evL 95 48 [l0, l1, l2, l3, l4, l5] [] h := e_icmp_ge c95_45 rfl rfl
theorem c95_48 : cd 95 48 = some (48, .aload_n 0, 1, 0, 0, 0) := rfl
theorem s95_48 {l1 l2 l3 l4 l5 : AV} {l0 : Option Nat} {h : AH} : evL 95 48 [.inr (.inl l0), l1, l2, l3, l4, l5] [] h = evL 95 49 [.inr (.inl l0), l1, l2, l3, l4, l5] [.inr (.inl l0)] h := ev_go c95_48 rfl
theorem c95_49 : cd 95 49 = some (49, .getfield 40, 3, 7, 6, 239) := rfl
theorem s95_49 {l0 l1 l2 l3 l4 l5 : AV} {s0 : Nat} {M : Mem} {P : PMem} (hk : kd s0 = 7) : evL 95 49 [l0, l1, l2, l3, l4, l5] [Rf s0] (Hp M P) = evL 95 52 [l0, l1, l2, l3, l4, l5] [I (M s0 6)] (Hp M P) := e_getI c95_49 rfl hk
theorem c95_52 : cd 95 52 = some (52, .ifCond .ne 120, 3, 0, 0, 0) := rfl
theorem s95_52 {l0 l1 l2 l3 l4 l5 : AV} {s0 : Int} {h : AH} : evL 95 52 [l0, l1, l2, l3, l4, l5] [I s0] h = if s0 = 0 then evL 95 55 [l0, l1, l2, l3, l4, l5] [] h else evL 95 172 [l0, l1, l2, l3, l4, l5] [] h := e_if_ne c95_52 rfl rfl
theorem c95_55 : cd 95 55 = some (55, .aload_n 0, 1, 0, 0, 0) := rfl
theorem s95_55 {l1 l2 l3 l4 l5 : AV} {l0 : Option Nat} {h : AH} : evL 95 55 [.inr (.inl l0), l1, l2, l3, l4, l5] [] h = evL 95 56 [.inr (.inl l0), l1, l2, l3, l4, l5] [.inr (.inl l0)] h := ev_go c95_55 rfl
theorem c95_56 : cd 95 56 = some (56, .getfield 29, 3, 7, 3, 236) := rfl
theorem s95_56 {l0 l1 l2 l3 l4 l5 : AV} {s0 : Nat} {M : Mem} {P : PMem} (hk : kd s0 = 7) : evL 95 56 [l0, l1, l2, l3, l4, l5] [Rf s0] (Hp M P) = evL 95 59 [l0, l1, l2, l3, l4, l5] [Rf (rfd s0 3)] (Hp M P) := e_getR c95_56 rfl hk
theorem c95_59 : cd 95 59 = some (59, .iload_n 3, 1, 0, 0, 0) := rfl
theorem s95_59 {l0 l1 l2 l4 l5 s0 : AV} {l3 : Int} {h : AH} : evL 95 59 [l0, l1, l2, I l3, l4, l5] [s0] h = evL 95 60 [l0, l1, l2, I l3, l4, l5] [I l3, s0] h := ev_go c95_59 rfl
theorem c95_60 : cd 95 60 = some (60, .invokevirtual 77, 3, 60, 0, 681) := rfl
theorem s95_60 {l0 l1 l2 l3 l4 l5 : AV} {s0 : Int} {s1 : Nat} {M : Mem} {P : PMem} (hk : kd s1 = 4) : evL 95 60 [l0, l1, l2, l3, l4, l5] [I s0, Rf s1] (Hp M P) = cont (evM 60 [Rf s1, I s0] (Hp M P)) (fun r h => evL 95 63 [l0, l1, l2, l3, l4, l5] (rl r []) h) := e_callV (av' := [I s0]) (rest := []) (c := 4) c95_60 rfl rfl rfl rfl rfl rfl rfl hk rfl
theorem c95_63 : cd 95 63 = some (63, .istore 4, 2, 0, 0, 0) := rfl
theorem s95_63 {l0 l1 l2 l3 l4 l5 : AV} {s0 : Int} {h : AH} : evL 95 63 [l0, l1, l2, l3, l4, l5] [I s0] h = evL 95 65 [l0, l1, l2, l3, I s0, l5] [] h := ev_go c95_63 rfl
theorem c95_65 : cd 95 65 = some (65, .iload 4, 2, 0, 0, 0) := rfl
theorem s95_65 {l0 l1 l2 l3 l5 : AV} {l4 : Int} {h : AH} : evL 95 65 [l0, l1, l2, l3, I l4, l5] [] h = evL 95 67 [l0, l1, l2, l3, I l4, l5] [I l4] h := ev_go c95_65 rfl
theorem c95_67 : cd 95 67 = some (67, .bipush 48, 2, 0, 0, 0) := rfl
theorem s95_67 {l0 l1 l2 l3 l4 l5 s0 : AV} {h : AH} : evL 95 67 [l0, l1, l2, l3, l4, l5] [s0] h = evL 95 69 [l0, l1, l2, l3, l4, l5] [I 48, s0] h := ev_go c95_67 rfl
theorem c95_69 : cd 95 69 = some (69, .if_icmp .lt 13, 3, 0, 0, 0) := rfl
theorem s95_69 {l0 l1 l2 l3 l4 l5 : AV} {s0 s1 : Int} {h : AH} : evL 95 69 [l0, l1, l2, l3, l4, l5] [I s0, I s1] h = if s1 < s0 then evL 95 82 [l0, l1, l2, l3, l4, l5] [] h else evL 95 72 [l0, l1, l2, l3, l4, l5] [] h := e_icmp_lt c95_69 rfl rfl
theorem c95_72 : cd 95 72 = some (72, .iload 4, 2, 0, 0, 0) := rfl
theorem s95_72 {l0 l1 l2 l3 l5 : AV} {l4 : Int} {h : AH} : evL 95 72 [l0, l1, l2, l3, I l4, l5] [] h = evL 95 74 [l0, l1, l2, l3, I l4, l5] [I l4] h := ev_go c95_72 rfl
theorem c95_74 : cd 95 74 = some (74, .bipush 53, 2, 0, 0, 0) := rfl
theorem s95_74 {l0 l1 l2 l3 l4 l5 s0 : AV} {h : AH} : evL 95 74 [l0, l1, l2, l3, l4, l5] [s0] h = evL 95 76 [l0, l1, l2, l3, l4, l5] [I 53, s0] h := ev_go c95_74 rfl
theorem c95_76 : cd 95 76 = some (76, .if_icmp .gt 6, 3, 0, 0, 0) := rfl
theorem s95_76 {l0 l1 l2 l3 l4 l5 : AV} {s0 s1 : Int} {h : AH} : evL 95 76 [l0, l1, l2, l3, l4, l5] [I s0, I s1] h = if s0 < s1 then evL 95 82 [l0, l1, l2, l3, l4, l5] [] h else evL 95 79 [l0, l1, l2, l3, l4, l5] [] h := e_icmp_gt c95_76 rfl rfl
theorem c95_79 : cd 95 79 = some (79, .goto 87, 3, 0, 0, 0) := rfl
theorem s95_79 {l0 l1 l2 l3 l4 l5 : AV} {h : AH} : evL 95 79 [l0, l1, l2, l3, l4, l5] [] h = evL 95 166 [l0, l1, l2, l3, l4, l5] [] h := ev_go c95_79 rfl
theorem c95_82 : cd 95 82 = some (82, .iload 4, 2, 0, 0, 0) := rfl
theorem s95_82 {l0 l1 l2 l3 l5 : AV} {l4 : Int} {h : AH} : evL 95 82 [l0, l1, l2, l3, I l4, l5] [] h = evL 95 84 [l0, l1, l2, l3, I l4, l5] [I l4] h := ev_go c95_82 rfl
theorem c95_84 : cd 95 84 = some (84, .bipush 100, 2, 0, 0, 0) := rfl
theorem s95_84 {l0 l1 l2 l3 l4 l5 s0 : AV} {h : AH} : evL 95 84 [l0, l1, l2, l3, l4, l5] [s0] h = evL 95 86 [l0, l1, l2, l3, l4, l5] [I 100, s0] h := ev_go c95_84 rfl
theorem c95_86 : cd 95 86 = some (86, .if_icmp .eq 10, 3, 0, 0, 0) := rfl
theorem s95_86 {l0 l1 l2 l3 l4 l5 : AV} {s0 s1 : Int} {h : AH} : evL 95 86 [l0, l1, l2, l3, l4, l5] [I s0, I s1] h = if s1 = s0 then evL 95 96 [l0, l1, l2, l3, l4, l5] [] h else evL 95 89 [l0, l1, l2, l3, l4, l5] [] h := e_icmp_eq c95_86 rfl rfl
theorem c95_89 : cd 95 89 = some (89, .iload 4, 2, 0, 0, 0) := rfl
theorem s95_89 {l0 l1 l2 l3 l5 : AV} {l4 : Int} {h : AH} : evL 95 89 [l0, l1, l2, l3, I l4, l5] [] h = evL 95 91 [l0, l1, l2, l3, I l4, l5] [I l4] h := ev_go c95_89 rfl
theorem c95_91 : cd 95 91 = some (91, .bipush 117, 2, 0, 0, 0) := rfl
theorem s95_91 {l0 l1 l2 l3 l4 l5 s0 : AV} {h : AH} : evL 95 91 [l0, l1, l2, l3, l4, l5] [s0] h = evL 95 93 [l0, l1, l2, l3, l4, l5] [I 117, s0] h := ev_go c95_91 rfl
theorem c95_93 : cd 95 93 = some (93, .if_icmp .ne 25, 3, 0, 0, 0) := rfl
theorem s95_93 {l0 l1 l2 l3 l4 l5 : AV} {s0 s1 : Int} {h : AH} : evL 95 93 [l0, l1, l2, l3, l4, l5] [I s0, I s1] h = if s1 = s0 then evL 95 96 [l0, l1, l2, l3, l4, l5] [] h else evL 95 118 [l0, l1, l2, l3, l4, l5] [] h := e_icmp_ne c95_93 rfl rfl
theorem c95_96 : cd 95 96 = some (96, .aload_n 0, 1, 0, 0, 0) := rfl
theorem s95_96 {l1 l2 l3 l4 l5 : AV} {l0 : Option Nat} {h : AH} : evL 95 96 [.inr (.inl l0), l1, l2, l3, l4, l5] [] h = evL 95 97 [.inr (.inl l0), l1, l2, l3, l4, l5] [.inr (.inl l0)] h := ev_go c95_96 rfl
theorem c95_97 : cd 95 97 = some (97, .getfield 12, 3, 7, 0, 233) := rfl
theorem s95_97 {l0 l1 l2 l3 l4 l5 : AV} {s0 : Nat} {M : Mem} {P : PMem} (hk : kd s0 = 7) : evL 95 97 [l0, l1, l2, l3, l4, l5] [Rf s0] (Hp M P) = evL 95 100 [l0, l1, l2, l3, l4, l5] [Rf (rfd s0 0)] (Hp M P) := e_getR c95_97 rfl hk
theorem c95_100 : cd 95 100 = some (100, .iload 4, 2, 0, 0, 0) := rfl
theorem s95_100 {l0 l1 l2 l3 l5 s0 : AV} {l4 : Int} {h : AH} : evL 95 100 [l0, l1, l2, l3, I l4, l5] [s0] h = evL 95 102 [l0, l1, l2, l3, I l4, l5] [I l4, s0] h := ev_go c95_100 rfl
theorem c95_102 : cd 95 102 = some (102, .bipush 117, 2, 0, 0, 0) := rfl
theorem s95_102 {l0 l1 l2 l3 l4 l5 s0 s1 : AV} {h : AH} : evL 95 102 [l0, l1, l2, l3, l4, l5] [s0, s1] h = evL 95 104 [l0, l1, l2, l3, l4, l5] [I 117, s0, s1] h := ev_go c95_102 rfl
theorem c95_104 : cd 95 104 = some (104, .if_icmp .ne 7, 3, 0, 0, 0) := rfl
theorem s95_104 {l0 l1 l2 l3 l4 l5 s2 : AV} {s0 s1 : Int} {h : AH} : evL 95 104 [l0, l1, l2, l3, l4, l5] [I s0, I s1, s2] h = if s1 = s0 then evL 95 107 [l0, l1, l2, l3, l4, l5] [s2] h else evL 95 111 [l0, l1, l2, l3, l4, l5] [s2] h := e_icmp_ne c95_104 rfl rfl
theorem c95_107 : cd 95 107 = some (107, .iconst 1, 1, 0, 0, 0) := rfl
theorem s95_107 {l0 l1 l2 l3 l4 l5 s0 : AV} {h : AH} : evL 95 107 [l0, l1, l2, l3, l4, l5] [s0] h = evL 95 108 [l0, l1, l2, l3, l4, l5] [I 1, s0] h := ev_go c95_107 rfl
theorem c95_108 : cd 95 108 = some (108, .goto 4, 3, 0, 0, 0) := rfl
theorem s95_108 {l0 l1 l2 l3 l4 l5 s0 s1 : AV} {h : AH} : evL 95 108 [l0, l1, l2, l3, l4, l5] [s0, s1] h = evL 95 112 [l0, l1, l2, l3, l4, l5] [s0, s1] h := ev_go c95_108 rfl
theorem c95_111 : cd 95 111 = some (111, .iconst 0, 1, 0, 0, 0) := rfl
theorem s95_111 {l0 l1 l2 l3 l4 l5 s0 : AV} {h : AH} : evL 95 111 [l0, l1, l2, l3, l4, l5] [s0] h = evL 95 112 [l0, l1, l2, l3, l4, l5] [I 0, s0] h := ev_go c95_111 rfl
theorem c95_112 : cd 95 112 = some (112, .invokevirtual 56, 3, 36, 0, 537) := rfl
theorem s95_112 {l0 l1 l2 l3 l4 l5 : AV} {s0 : Int} {s1 : Nat} {M : Mem} {P : PMem} (hk : kd s1 = 1) : evL 95 112 [l0, l1, l2, l3, l4, l5] [I s0, Rf s1] (Hp M P) = cont (evM 36 [Rf s1, I s0] (Hp M P)) (fun r h => evL 95 115 [l0, l1, l2, l3, l4, l5] (rl r []) h) := e_callV (av' := [I s0]) (rest := []) (c := 1) c95_112 rfl rfl rfl rfl rfl rfl rfl hk rfl
theorem c95_115 : cd 95 115 = some (115, .goto 25, 3, 0, 0, 0) := rfl
theorem s95_115 {l0 l1 l2 l3 l4 l5 s0 : AV} {h : AH} : evL 95 115 [l0, l1, l2, l3, l4, l5] [s0] h = evL 95 140 [l0, l1, l2, l3, l4, l5] [s0] h := ev_go c95_115 rfl
theorem c95_118 : cd 95 118 = some (118, .aload_n 0, 1, 0, 0, 0) := rfl
theorem s95_118 {l1 l2 l3 l4 l5 : AV} {l0 : Option Nat} {h : AH} : evL 95 118 [.inr (.inl l0), l1, l2, l3, l4, l5] [] h = evL 95 119 [.inr (.inl l0), l1, l2, l3, l4, l5] [.inr (.inl l0)] h := ev_go c95_118 rfl
theorem c95_119 : cd 95 119 = some (119, .getfield 12, 3, 7, 0, 233) := rfl
theorem s95_119 {l0 l1 l2 l3 l4 l5 : AV} {s0 : Nat} {M : Mem} {P : PMem} (hk : kd s0 = 7) : evL 95 119 [l0, l1, l2, l3, l4, l5] [Rf s0] (Hp M P) = evL 95 122 [l0, l1, l2, l3, l4, l5] [Rf (rfd s0 0)] (Hp M P) := e_getR c95_119 rfl hk
theorem c95_122 : cd 95 122 = some (122, .iload 4, 2, 0, 0, 0) := rfl
theorem s95_122 {l0 l1 l2 l3 l5 s0 : AV} {l4 : Int} {h : AH} : evL 95 122 [l0, l1, l2, l3, I l4, l5] [s0] h = evL 95 124 [l0, l1, l2, l3, I l4, l5] [I l4, s0] h := ev_go c95_122 rfl
theorem c95_124 : cd 95 124 = some (124, .aload_n 0, 1, 0, 0, 0) := rfl
theorem s95_124 {l1 l2 l3 l4 l5 s0 s1 : AV} {l0 : Option Nat} {h : AH} : evL 95 124 [.inr (.inl l0), l1, l2, l3, l4, l5] [s0, s1] h = evL 95 125 [.inr (.inl l0), l1, l2, l3, l4, l5] [.inr (.inl l0), s0, s1] h := ev_go c95_124 rfl
theorem c95_125 : cd 95 125 = some (125, .getfield 29, 3, 7, 3, 236) := rfl
theorem s95_125 {l0 l1 l2 l3 l4 l5 s1 s2 : AV} {s0 : Nat} {M : Mem} {P : PMem} (hk : kd s0 = 7) : evL 95 125 [l0, l1, l2, l3, l4, l5] [Rf s0, s1, s2] (Hp M P) = evL 95 128 [l0, l1, l2, l3, l4, l5] [Rf (rfd s0 3), s1, s2] (Hp M P) := e_getR c95_125 rfl hk
theorem c95_128 : cd 95 128 = some (128, .iload_n 3, 1, 0, 0, 0) := rfl
theorem s95_128 {l0 l1 l2 l4 l5 s0 s1 s2 : AV} {l3 : Int} {h : AH} : evL 95 128 [l0, l1, l2, I l3, l4, l5] [s0, s1, s2] h = evL 95 129 [l0, l1, l2, I l3, l4, l5] [I l3, s0, s1, s2] h := ev_go c95_128 rfl
theorem c95_129 : cd 95 129 = some (129, .iconst 1, 1, 0, 0, 0) := rfl
theorem s95_129 {l0 l1 l2 l3 l4 l5 s0 s1 s2 s3 : AV} {h : AH} : evL 95 129 [l0, l1, l2, l3, l4, l5] [s0, s1, s2, s3] h = evL 95 130 [l0, l1, l2, l3, l4, l5] [I 1, s0, s1, s2, s3] h := ev_go c95_129 rfl
theorem c95_130 : cd 95 130 = some (130, .iadd, 1, 0, 0, 0) := rfl
theorem s95_130 {l0 l1 l2 l3 l4 l5 s2 s3 s4 : AV} {s0 s1 : Int} {h : AH} : evL 95 130 [l0, l1, l2, l3, l4, l5] [I s0, I s1, s2, s3, s4] h = evL 95 131 [l0, l1, l2, l3, l4, l5] [I (ad s1 s0), s2, s3, s4] h := ev_go c95_130 rfl
theorem c95_131 : cd 95 131 = some (131, .invokevirtual 77, 3, 60, 0, 681) := rfl
theorem s95_131 {l0 l1 l2 l3 l4 l5 s2 s3 : AV} {s0 : Int} {s1 : Nat} {M : Mem} {P : PMem} (hk : kd s1 = 4) : evL 95 131 [l0, l1, l2, l3, l4, l5] [I s0, Rf s1, s2, s3] (Hp M P) = cont (evM 60 [Rf s1, I s0] (Hp M P)) (fun r h => evL 95 134 [l0, l1, l2, l3, l4, l5] (rl r [s2, s3]) h) := e_callV (av' := [I s0]) (rest := [s2, s3]) (c := 4) c95_131 rfl rfl rfl rfl rfl rfl rfl hk rfl
theorem c95_134 : cd 95 134 = some (134, .bipush 48, 2, 0, 0, 0) := rfl
theorem s95_134 {l0 l1 l2 l3 l4 l5 s0 s1 s2 : AV} {h : AH} : evL 95 134 [l0, l1, l2, l3, l4, l5] [s0, s1, s2] h = evL 95 136 [l0, l1, l2, l3, l4, l5] [I 48, s0, s1, s2] h := ev_go c95_134 rfl
theorem c95_136 : cd 95 136 = some (136, .isub, 1, 0, 0, 0) := rfl
theorem s95_136 {l0 l1 l2 l3 l4 l5 s2 s3 : AV} {s0 s1 : Int} {h : AH} : evL 95 136 [l0, l1, l2, l3, l4, l5] [I s0, I s1, s2, s3] h = evL 95 137 [l0, l1, l2, l3, l4, l5] [I (sb s1 s0), s2, s3] h := ev_go c95_136 rfl
theorem c95_137 : cd 95 137 = some (137, .invokevirtual 60, 3, 40, 0, 558) := rfl
theorem s95_137 {l0 l1 l2 l3 l4 l5 : AV} {s0 s1 : Int} {s2 : Nat} {M : Mem} {P : PMem} (hk : kd s2 = 1) : evL 95 137 [l0, l1, l2, l3, l4, l5] [I s0, I s1, Rf s2] (Hp M P) = cont (evM 40 [Rf s2, I s1, I s0] (Hp M P)) (fun r h => evL 95 140 [l0, l1, l2, l3, l4, l5] (rl r []) h) := e_callV (av' := [I s1, I s0]) (rest := []) (c := 1) c95_137 rfl rfl rfl rfl rfl rfl rfl hk rfl
theorem c95_140 : cd 95 140 = some (140, .istore 5, 2, 0, 0, 0) := rfl
theorem s95_140 {l0 l1 l2 l3 l4 l5 : AV} {s0 : Int} {h : AH} : evL 95 140 [l0, l1, l2, l3, l4, l5] [I s0] h = evL 95 142 [l0, l1, l2, l3, l4, I s0] [] h := ev_go c95_140 rfl
theorem c95_142 : cd 95 142 = some (142, .iload 5, 2, 0, 0, 0) := rfl
theorem s95_142 {l0 l1 l2 l3 l4 : AV} {l5 : Int} {h : AH} : evL 95 142 [l0, l1, l2, l3, l4, I l5] [] h = evL 95 144 [l0, l1, l2, l3, l4, I l5] [I l5] h := ev_go c95_142 rfl
theorem c95_144 : cd 95 144 = some (144, .bipush 10, 2, 0, 0, 0) := rfl
theorem s95_144 {l0 l1 l2 l3 l4 l5 s0 : AV} {h : AH} : evL 95 144 [l0, l1, l2, l3, l4, l5] [s0] h = evL 95 146 [l0, l1, l2, l3, l4, l5] [I 10, s0] h := ev_go c95_144 rfl
theorem c95_146 : cd 95 146 = some (146, .if_icmp .lt 9, 3, 0, 0, 0) := rfl
theorem s95_146 {l0 l1 l2 l3 l4 l5 : AV} {s0 s1 : Int} {h : AH} : evL 95 146 [l0, l1, l2, l3, l4, l5] [I s0, I s1] h = if s1 < s0 then evL 95 155 [l0, l1, l2, l3, l4, l5] [] h else evL 95 149 [l0, l1, l2, l3, l4, l5] [] h := e_icmp_lt c95_146 rfl rfl
theorem c95_149 : cd 95 149 = some (149, .iinc 1 1, 3, 0, 0, 0) := rfl
theorem s95_149 {l0 l2 l3 l4 l5 : AV} {l1 : Int} {h : AH} : evL 95 149 [l0, I l1, l2, l3, l4, l5] [] h = evL 95 152 [l0, I (ad l1 1), l2, l3, l4, l5] [] h := ev_go c95_149 rfl
theorem c95_152 : cd 95 152 = some (152, .goto 14, 3, 0, 0, 0) := rfl
theorem s95_152 {l0 l1 l2 l3 l4 l5 : AV} {h : AH} : evL 95 152 [l0, l1, l2, l3, l4, l5] [] h = evL 95 166 [l0, l1, l2, l3, l4, l5] [] h := ev_go c95_152 rfl
theorem c95_155 : cd 95 155 = some (155, .aload_n 0, 1, 0, 0, 0) := rfl
theorem s95_155 {l1 l2 l3 l4 l5 : AV} {l0 : Option Nat} {h : AH} : evL 95 155 [.inr (.inl l0), l1, l2, l3, l4, l5] [] h = evL 95 156 [.inr (.inl l0), l1, l2, l3, l4, l5] [.inr (.inl l0)] h := ev_go c95_155 rfl
theorem c95_156 : cd 95 156 = some (156, .iload 5, 2, 0, 0, 0) := rfl
theorem s95_156 {l0 l1 l2 l3 l4 s0 : AV} {l5 : Int} {h : AH} : evL 95 156 [l0, l1, l2, l3, l4, I l5] [s0] h = evL 95 158 [l0, l1, l2, l3, l4, I l5] [I l5, s0] h := ev_go c95_156 rfl
theorem c95_158 : cd 95 158 = some (158, .putfield 40, 3, 7, 6, 239) := rfl
theorem s95_158 {l0 l1 l2 l3 l4 l5 : AV} {s0 : Int} {s1 : Nat} {M : Mem} {P : PMem} (hk : kd s1 = 7) : evL 95 158 [l0, l1, l2, l3, l4, l5] [I s0, Rf s1] (Hp M P) = evL 95 161 [l0, l1, l2, l3, l4, l5] [] (Hp (wr M s1 6 s0) P) := e_putI c95_158 rfl hk
theorem c95_161 : cd 95 161 = some (161, .aload_n 0, 1, 0, 0, 0) := rfl
theorem s95_161 {l1 l2 l3 l4 l5 : AV} {l0 : Option Nat} {h : AH} : evL 95 161 [.inr (.inl l0), l1, l2, l3, l4, l5] [] h = evL 95 162 [.inr (.inl l0), l1, l2, l3, l4, l5] [.inr (.inl l0)] h := ev_go c95_161 rfl
theorem c95_162 : cd 95 162 = some (162, .iload_n 3, 1, 0, 0, 0) := rfl
theorem s95_162 {l0 l1 l2 l4 l5 s0 : AV} {l3 : Int} {h : AH} : evL 95 162 [l0, l1, l2, I l3, l4, l5] [s0] h = evL 95 163 [l0, l1, l2, I l3, l4, l5] [I l3, s0] h := ev_go c95_162 rfl
theorem c95_163 : cd 95 163 = some (163, .putfield 80, 3, 7, 7, 240) := rfl
theorem s95_163 {l0 l1 l2 l3 l4 l5 : AV} {s0 : Int} {s1 : Nat} {M : Mem} {P : PMem} (hk : kd s1 = 7) : evL 95 163 [l0, l1, l2, l3, l4, l5] [I s0, Rf s1] (Hp M P) = evL 95 166 [l0, l1, l2, l3, l4, l5] [] (Hp (wr M s1 7 s0) P) := e_putI c95_163 rfl hk
theorem c95_166 : cd 95 166 = some (166, .iinc 3 1, 3, 0, 0, 0) := rfl
theorem s95_166 {l0 l1 l2 l4 l5 : AV} {l3 : Int} {h : AH} : evL 95 166 [l0, l1, l2, I l3, l4, l5] [] h = evL 95 169 [l0, l1, l2, I (ad l3 1), l4, l5] [] h := ev_go c95_166 rfl
theorem c95_169 : cd 95 169 = some (169, .goto (-126), 3, 0, 0, 0) := rfl
theorem s95_169 {l0 l1 l2 l3 l4 l5 : AV} {h : AH} : evL 95 169 [l0, l1, l2, l3, l4, l5] [] h = evL 95 43 [l0, l1, l2, l3, l4, l5] [] h := ev_go c95_169 rfl
theorem c95_172 : cd 95 172 = some (172, .aload_n 0, 1, 0, 0, 0) := rfl
theorem s95_172 {l1 l2 l3 l4 l5 : AV} {l0 : Option Nat} {h : AH} : evL 95 172 [.inr (.inl l0), l1, l2, l3, l4, l5] [] h = evL 95 173 [.inr (.inl l0), l1, l2, l3, l4, l5] [.inr (.inl l0)] h := ev_go c95_172 rfl
theorem c95_173 : cd 95 173 = some (173, .getfield 29, 3, 7, 3, 236) := rfl
theorem s95_173 {l0 l1 l2 l3 l4 l5 : AV} {s0 : Nat} {M : Mem} {P : PMem} (hk : kd s0 = 7) : evL 95 173 [l0, l1, l2, l3, l4, l5] [Rf s0] (Hp M P) = evL 95 176 [l0, l1, l2, l3, l4, l5] [Rf (rfd s0 3)] (Hp M P) := e_getR c95_173 rfl hk
theorem c95_176 : cd 95 176 = some (176, .invokevirtual 68, 3, 62, 0, 652) := rfl
theorem s95_176 {l0 l1 l2 l3 l4 l5 : AV} {s0 : Nat} {M : Mem} {P : PMem} (hk : kd s0 = 4) : evL 95 176 [l0, l1, l2, l3, l4, l5] [Rf s0] (Hp M P) = cont (evM 62 [Rf s0] (Hp M P)) (fun r h => evL 95 179 [l0, l1, l2, l3, l4, l5] (rl r []) h) := e_callV (av' := []) (rest := []) (c := 4) c95_176 rfl rfl rfl rfl rfl rfl rfl hk rfl
theorem c95_179 : cd 95 179 = some (179, .pop, 1, 0, 0, 0) := rfl
theorem s95_179 {l0 l1 l2 l3 l4 l5 : AV} {s0 : Int} {h : AH} : evL 95 179 [l0, l1, l2, l3, l4, l5] [I s0] h = evL 95 180 [l0, l1, l2, l3, l4, l5] [] h := ev_go c95_179 rfl
theorem c95_180 : cd 95 180 = some (180, .iload_n 1, 1, 0, 0, 0) := rfl
theorem s95_180 {l0 l2 l3 l4 l5 : AV} {l1 : Int} {h : AH} : evL 95 180 [l0, I l1, l2, l3, l4, l5] [] h = evL 95 181 [l0, I l1, l2, l3, l4, l5] [I l1] h := ev_go c95_180 rfl
theorem c95_181 : cd 95 181 = some (181, .ireturn, 1, 0, 0, 0) := rfl
theorem s95_181 {l0 l1 l2 l3 l4 l5 : AV} {s0 : Int} {h : AH} : evL 95 181 [l0, l1, l2, l3, l4, l5] [I s0] h = some (some (I s0), h) := e_ret c95_181 rfl
/-! 96: TankDivers.why(I)I -/
theorem en96 {l0 l1 : AV} {h : AH} : evM 96 [l0, l1] h = evL 96 0 [l0, l1] [] h := rfl
theorem c96_0 : cd 96 0 = some (0, .iload_n 1, 1, 0, 0, 0) := rfl
theorem s96_0 {l0 : AV} {l1 : Int} {h : AH} : evL 96 0 [l0, I l1] [] h = evL 96 1 [l0, I l1] [I l1] h := ev_go c96_0 rfl
theorem c96_1 : cd 96 1 = some (1, .ifCond .lt 8, 3, 0, 0, 0) := rfl
theorem s96_1 {l0 l1 : AV} {s0 : Int} {h : AH} : evL 96 1 [l0, l1] [I s0] h = if s0 < 0 then evL 96 9 [l0, l1] [] h else evL 96 4 [l0, l1] [] h := e_if_lt c96_1 rfl rfl
theorem c96_4 : cd 96 4 = some (4, .iload_n 1, 1, 0, 0, 0) := rfl
theorem s96_4 {l0 : AV} {l1 : Int} {h : AH} : evL 96 4 [l0, I l1] [] h = evL 96 5 [l0, I l1] [I l1] h := ev_go c96_4 rfl
theorem c96_5 : cd 96 5 = some (5, .iconst 1, 1, 0, 0, 0) := rfl
theorem s96_5 {l0 l1 s0 : AV} {h : AH} : evL 96 5 [l0, l1] [s0] h = evL 96 6 [l0, l1] [I 1, s0] h := ev_go c96_5 rfl
theorem c96_6 : cd 96 6 = some (6, .if_icmp .le 5, 3, 0, 0, 0) := rfl
theorem s96_6 {l0 l1 : AV} {s0 s1 : Int} {h : AH} : evL 96 6 [l0, l1] [I s0, I s1] h = if s1 ≤ s0 then evL 96 11 [l0, l1] [] h else evL 96 9 [l0, l1] [] h := e_icmp_le c96_6 rfl rfl
theorem c96_9 : cd 96 9 = some (9, .iconst (-1), 1, 0, 0, 0) := rfl
theorem s96_9 {l0 l1 : AV} {h : AH} : evL 96 9 [l0, l1] [] h = evL 96 10 [l0, l1] [I (-1)] h := ev_go c96_9 rfl
theorem c96_10 : cd 96 10 = some (10, .ireturn, 1, 0, 0, 0) := rfl
theorem s96_10 {l0 l1 : AV} {s0 : Int} {h : AH} : evL 96 10 [l0, l1] [I s0] h = some (some (I s0), h) := e_ret c96_10 rfl
theorem c96_11 : cd 96 11 = some (11, .aload_n 0, 1, 0, 0, 0) := rfl
theorem s96_11 {l1 : AV} {l0 : Option Nat} {h : AH} : evL 96 11 [.inr (.inl l0), l1] [] h = evL 96 12 [.inr (.inl l0), l1] [.inr (.inl l0)] h := ev_go c96_11 rfl
theorem c96_12 : cd 96 12 = some (12, .getfield 40, 3, 7, 6, 239) := rfl
theorem s96_12 {l0 l1 : AV} {s0 : Nat} {M : Mem} {P : PMem} (hk : kd s0 = 7) : evL 96 12 [l0, l1] [Rf s0] (Hp M P) = evL 96 15 [l0, l1] [I (M s0 6)] (Hp M P) := e_getI c96_12 rfl hk
theorem c96_15 : cd 96 15 = some (15, .ifCond .ne 6, 3, 0, 0, 0) := rfl
theorem s96_15 {l0 l1 : AV} {s0 : Int} {h : AH} : evL 96 15 [l0, l1] [I s0] h = if s0 = 0 then evL 96 18 [l0, l1] [] h else evL 96 21 [l0, l1] [] h := e_if_ne c96_15 rfl rfl
theorem c96_18 : cd 96 18 = some (18, .bipush (-4), 2, 0, 0, 0) := rfl
theorem s96_18 {l0 l1 : AV} {h : AH} : evL 96 18 [l0, l1] [] h = evL 96 20 [l0, l1] [I (-4)] h := ev_go c96_18 rfl
theorem c96_20 : cd 96 20 = some (20, .ireturn, 1, 0, 0, 0) := rfl
theorem s96_20 {l0 l1 : AV} {s0 : Int} {h : AH} : evL 96 20 [l0, l1] [I s0] h = some (some (I s0), h) := e_ret c96_20 rfl
theorem c96_21 : cd 96 21 = some (21, .iload_n 1, 1, 0, 0, 0) := rfl
theorem s96_21 {l0 : AV} {l1 : Int} {h : AH} : evL 96 21 [l0, I l1] [] h = evL 96 22 [l0, I l1] [I l1] h := ev_go c96_21 rfl
theorem c96_22 : cd 96 22 = some (22, .ifCond .ne 10, 3, 0, 0, 0) := rfl
theorem s96_22 {l0 l1 : AV} {s0 : Int} {h : AH} : evL 96 22 [l0, l1] [I s0] h = if s0 = 0 then evL 96 25 [l0, l1] [] h else evL 96 32 [l0, l1] [] h := e_if_ne c96_22 rfl rfl
theorem c96_25 : cd 96 25 = some (25, .aload_n 0, 1, 0, 0, 0) := rfl
theorem s96_25 {l1 : AV} {l0 : Option Nat} {h : AH} : evL 96 25 [.inr (.inl l0), l1] [] h = evL 96 26 [.inr (.inl l0), l1] [.inr (.inl l0)] h := ev_go c96_25 rfl
theorem c96_26 : cd 96 26 = some (26, .getfield 40, 3, 7, 6, 239) := rfl
theorem s96_26 {l0 l1 : AV} {s0 : Nat} {M : Mem} {P : PMem} (hk : kd s0 = 7) : evL 96 26 [l0, l1] [Rf s0] (Hp M P) = evL 96 29 [l0, l1] [I (M s0 6)] (Hp M P) := e_getI c96_26 rfl hk
theorem c96_29 : cd 96 29 = some (29, .goto 7, 3, 0, 0, 0) := rfl
theorem s96_29 {l0 l1 s0 : AV} {h : AH} : evL 96 29 [l0, l1] [s0] h = evL 96 36 [l0, l1] [s0] h := ev_go c96_29 rfl
theorem c96_32 : cd 96 32 = some (32, .aload_n 0, 1, 0, 0, 0) := rfl
theorem s96_32 {l1 : AV} {l0 : Option Nat} {h : AH} : evL 96 32 [.inr (.inl l0), l1] [] h = evL 96 33 [.inr (.inl l0), l1] [.inr (.inl l0)] h := ev_go c96_32 rfl
theorem c96_33 : cd 96 33 = some (33, .getfield 80, 3, 7, 7, 240) := rfl
theorem s96_33 {l0 l1 : AV} {s0 : Nat} {M : Mem} {P : PMem} (hk : kd s0 = 7) : evL 96 33 [l0, l1] [Rf s0] (Hp M P) = evL 96 36 [l0, l1] [I (M s0 7)] (Hp M P) := e_getI c96_33 rfl hk
theorem c96_36 : cd 96 36 = some (36, .ireturn, 1, 0, 0, 0) := rfl
theorem s96_36 {l0 l1 : AV} {s0 : Int} {h : AH} : evL 96 36 [l0, l1] [I s0] h = some (some (I s0), h) := e_ret c96_36 rfl
/-! 97: TankDivers.diver(II)I -/
theorem en97 {l0 l1 l2 : AV} {h : AH} : evM 97 [l0, l1, l2] h = evL 97 0 [l0, l1, l2] [] h := rfl
theorem c97_0 : cd 97 0 = some (0, .aload_n 0, 1, 0, 0, 0) := rfl
theorem s97_0 {l1 l2 : AV} {l0 : Option Nat} {h : AH} : evL 97 0 [.inr (.inl l0), l1, l2] [] h = evL 97 1 [.inr (.inl l0), l1, l2] [.inr (.inl l0)] h := ev_go c97_0 rfl
theorem c97_1 : cd 97 1 = some (1, .getfield 12, 3, 7, 0, 233) := rfl
theorem s97_1 {l0 l1 l2 : AV} {s0 : Nat} {M : Mem} {P : PMem} (hk : kd s0 = 7) : evL 97 1 [l0, l1, l2] [Rf s0] (Hp M P) = evL 97 4 [l0, l1, l2] [Rf (rfd s0 0)] (Hp M P) := e_getR c97_1 rfl hk
theorem c97_4 : cd 97 4 = some (4, .getfield 83, 3, 1, 1, 116) := rfl
theorem s97_4 {l0 l1 l2 : AV} {s0 : Nat} {M : Mem} {P : PMem} (hk : kd s0 = 1) : evL 97 4 [l0, l1, l2] [Rf s0] (Hp M P) = evL 97 7 [l0, l1, l2] [Rf (rfd s0 1)] (Hp M P) := e_getR c97_4 rfl hk
theorem c97_7 : cd 97 7 = some (7, .iload_n 1, 1, 0, 0, 0) := rfl
theorem s97_7 {l0 l2 s0 : AV} {l1 : Int} {h : AH} : evL 97 7 [l0, I l1, l2] [s0] h = evL 97 8 [l0, I l1, l2] [I l1, s0] h := ev_go c97_7 rfl
theorem c97_8 : cd 97 8 = some (8, .invokevirtual 87, 3, 1, 0, 410) := rfl
theorem s97_8 {l0 l1 l2 : AV} {s0 : Int} {s1 : Nat} {M : Mem} {P : PMem} (hk : kd s1 = 0) : evL 97 8 [l0, l1, l2] [I s0, Rf s1] (Hp M P) = cont (evM 1 [Rf s1, I s0] (Hp M P)) (fun r h => evL 97 11 [l0, l1, l2] (rl r []) h) := e_callV (av' := [I s0]) (rest := []) (c := 0) c97_8 rfl rfl rfl rfl rfl rfl rfl hk rfl
theorem c97_11 : cd 97 11 = some (11, .ifCond .ne 5, 3, 0, 0, 0) := rfl
theorem s97_11 {l0 l1 l2 : AV} {s0 : Int} {h : AH} : evL 97 11 [l0, l1, l2] [I s0] h = if s0 = 0 then evL 97 14 [l0, l1, l2] [] h else evL 97 16 [l0, l1, l2] [] h := e_if_ne c97_11 rfl rfl
theorem c97_14 : cd 97 14 = some (14, .iconst (-1), 1, 0, 0, 0) := rfl
theorem s97_14 {l0 l1 l2 : AV} {h : AH} : evL 97 14 [l0, l1, l2] [] h = evL 97 15 [l0, l1, l2] [I (-1)] h := ev_go c97_14 rfl
theorem c97_15 : cd 97 15 = some (15, .ireturn, 1, 0, 0, 0) := rfl
theorem s97_15 {l0 l1 l2 : AV} {s0 : Int} {h : AH} : evL 97 15 [l0, l1, l2] [I s0] h = some (some (I s0), h) := e_ret c97_15 rfl
theorem c97_16 : cd 97 16 = some (16, .aload_n 0, 1, 0, 0, 0) := rfl
theorem s97_16 {l1 l2 : AV} {l0 : Option Nat} {h : AH} : evL 97 16 [.inr (.inl l0), l1, l2] [] h = evL 97 17 [.inr (.inl l0), l1, l2] [.inr (.inl l0)] h := ev_go c97_16 rfl
theorem c97_17 : cd 97 17 = some (17, .getfield 12, 3, 7, 0, 233) := rfl
theorem s97_17 {l0 l1 l2 : AV} {s0 : Nat} {M : Mem} {P : PMem} (hk : kd s0 = 7) : evL 97 17 [l0, l1, l2] [Rf s0] (Hp M P) = evL 97 20 [l0, l1, l2] [Rf (rfd s0 0)] (Hp M P) := e_getR c97_17 rfl hk
theorem c97_20 : cd 97 20 = some (20, .getfield 83, 3, 1, 1, 116) := rfl
theorem s97_20 {l0 l1 l2 : AV} {s0 : Nat} {M : Mem} {P : PMem} (hk : kd s0 = 1) : evL 97 20 [l0, l1, l2] [Rf s0] (Hp M P) = evL 97 23 [l0, l1, l2] [Rf (rfd s0 1)] (Hp M P) := e_getR c97_20 rfl hk
theorem c97_23 : cd 97 23 = some (23, .iload_n 1, 1, 0, 0, 0) := rfl
theorem s97_23 {l0 l2 s0 : AV} {l1 : Int} {h : AH} : evL 97 23 [l0, I l1, l2] [s0] h = evL 97 24 [l0, I l1, l2] [I l1, s0] h := ev_go c97_23 rfl
theorem c97_24 : cd 97 24 = some (24, .iload_n 2, 1, 0, 0, 0) := rfl
theorem s97_24 {l0 l1 s0 s1 : AV} {l2 : Int} {h : AH} : evL 97 24 [l0, l1, I l2] [s0, s1] h = evL 97 25 [l0, l1, I l2] [I l2, s0, s1] h := ev_go c97_24 rfl
theorem c97_25 : cd 97 25 = some (25, .invokevirtual 93, 3, 4, 0, 414) := rfl
theorem s97_25 {l0 l1 l2 : AV} {s0 s1 : Int} {s2 : Nat} {M : Mem} {P : PMem} (hk : kd s2 = 0) : evL 97 25 [l0, l1, l2] [I s0, I s1, Rf s2] (Hp M P) = cont (evM 4 [Rf s2, I s1, I s0] (Hp M P)) (fun r h => evL 97 28 [l0, l1, l2] (rl r []) h) := e_callV (av' := [I s1, I s0]) (rest := []) (c := 0) c97_25 rfl rfl rfl rfl rfl rfl rfl hk rfl
theorem c97_28 : cd 97 28 = some (28, .ireturn, 1, 0, 0, 0) := rfl
theorem s97_28 {l0 l1 l2 : AV} {s0 : Int} {h : AH} : evL 97 28 [l0, l1, l2] [I s0] h = some (some (I s0), h) := e_ret c97_28 rfl
/-! 98: TankDivers.stack(III)I -/
theorem en98 {l0 l1 l2 l3 : AV} {h : AH} : evM 98 [l0, l1, l2, l3] h = evL 98 0 [l0, l1, l2, l3, Db 0, Db 0] [] h := rfl
theorem c98_0 : cd 98 0 = some (0, .aload_n 0, 1, 0, 0, 0) := rfl
theorem s98_0 {l1 l2 l3 l4 l5 : AV} {l0 : Option Nat} {h : AH} : evL 98 0 [.inr (.inl l0), l1, l2, l3, l4, l5] [] h = evL 98 1 [.inr (.inl l0), l1, l2, l3, l4, l5] [.inr (.inl l0)] h := ev_go c98_0 rfl
theorem c98_1 : cd 98 1 = some (1, .getfield 12, 3, 7, 0, 233) := rfl
theorem s98_1 {l0 l1 l2 l3 l4 l5 : AV} {s0 : Nat} {M : Mem} {P : PMem} (hk : kd s0 = 7) : evL 98 1 [l0, l1, l2, l3, l4, l5] [Rf s0] (Hp M P) = evL 98 4 [l0, l1, l2, l3, l4, l5] [Rf (rfd s0 0)] (Hp M P) := e_getR c98_1 rfl hk
theorem c98_4 : cd 98 4 = some (4, .getfield 83, 3, 1, 1, 116) := rfl
theorem s98_4 {l0 l1 l2 l3 l4 l5 : AV} {s0 : Nat} {M : Mem} {P : PMem} (hk : kd s0 = 1) : evL 98 4 [l0, l1, l2, l3, l4, l5] [Rf s0] (Hp M P) = evL 98 7 [l0, l1, l2, l3, l4, l5] [Rf (rfd s0 1)] (Hp M P) := e_getR c98_4 rfl hk
theorem c98_7 : cd 98 7 = some (7, .iload_n 1, 1, 0, 0, 0) := rfl
theorem s98_7 {l0 l2 l3 l4 l5 s0 : AV} {l1 : Int} {h : AH} : evL 98 7 [l0, I l1, l2, l3, l4, l5] [s0] h = evL 98 8 [l0, I l1, l2, l3, l4, l5] [I l1, s0] h := ev_go c98_7 rfl
theorem c98_8 : cd 98 8 = some (8, .invokevirtual 87, 3, 1, 0, 410) := rfl
theorem s98_8 {l0 l1 l2 l3 l4 l5 : AV} {s0 : Int} {s1 : Nat} {M : Mem} {P : PMem} (hk : kd s1 = 0) : evL 98 8 [l0, l1, l2, l3, l4, l5] [I s0, Rf s1] (Hp M P) = cont (evM 1 [Rf s1, I s0] (Hp M P)) (fun r h => evL 98 11 [l0, l1, l2, l3, l4, l5] (rl r []) h) := e_callV (av' := [I s0]) (rest := []) (c := 0) c98_8 rfl rfl rfl rfl rfl rfl rfl hk rfl
theorem c98_11 : cd 98 11 = some (11, .ifCond .eq 16, 3, 0, 0, 0) := rfl
theorem s98_11 {l0 l1 l2 l3 l4 l5 : AV} {s0 : Int} {h : AH} : evL 98 11 [l0, l1, l2, l3, l4, l5] [I s0] h = if s0 = 0 then evL 98 27 [l0, l1, l2, l3, l4, l5] [] h else evL 98 14 [l0, l1, l2, l3, l4, l5] [] h := e_if_eq c98_11 rfl rfl
theorem c98_14 : cd 98 14 = some (14, .iload_n 2, 1, 0, 0, 0) := rfl
theorem s98_14 {l0 l1 l3 l4 l5 : AV} {l2 : Int} {h : AH} : evL 98 14 [l0, l1, I l2, l3, l4, l5] [] h = evL 98 15 [l0, l1, I l2, l3, l4, l5] [I l2] h := ev_go c98_14 rfl
theorem c98_15 : cd 98 15 = some (15, .ifCond .lt 12, 3, 0, 0, 0) := rfl
theorem s98_15 {l0 l1 l2 l3 l4 l5 : AV} {s0 : Int} {h : AH} : evL 98 15 [l0, l1, l2, l3, l4, l5] [I s0] h = if s0 < 0 then evL 98 27 [l0, l1, l2, l3, l4, l5] [] h else evL 98 18 [l0, l1, l2, l3, l4, l5] [] h := e_if_lt c98_15 rfl rfl
theorem c98_18 : cd 98 18 = some (18, .iload_n 3, 1, 0, 0, 0) := rfl
theorem s98_18 {l0 l1 l2 l4 l5 : AV} {l3 : Int} {h : AH} : evL 98 18 [l0, l1, l2, I l3, l4, l5] [] h = evL 98 19 [l0, l1, l2, I l3, l4, l5] [I l3] h := ev_go c98_18 rfl
theorem c98_19 : cd 98 19 = some (19, .ifCond .lt 8, 3, 0, 0, 0) := rfl
theorem s98_19 {l0 l1 l2 l3 l4 l5 : AV} {s0 : Int} {h : AH} : evL 98 19 [l0, l1, l2, l3, l4, l5] [I s0] h = if s0 < 0 then evL 98 27 [l0, l1, l2, l3, l4, l5] [] h else evL 98 22 [l0, l1, l2, l3, l4, l5] [] h := e_if_lt c98_19 rfl rfl
theorem c98_22 : cd 98 22 = some (22, .iload_n 3, 1, 0, 0, 0) := rfl
theorem s98_22 {l0 l1 l2 l4 l5 : AV} {l3 : Int} {h : AH} : evL 98 22 [l0, l1, l2, I l3, l4, l5] [] h = evL 98 23 [l0, l1, l2, I l3, l4, l5] [I l3] h := ev_go c98_22 rfl
theorem c98_23 : cd 98 23 = some (23, .iconst 3, 1, 0, 0, 0) := rfl
theorem s98_23 {l0 l1 l2 l3 l4 l5 s0 : AV} {h : AH} : evL 98 23 [l0, l1, l2, l3, l4, l5] [s0] h = evL 98 24 [l0, l1, l2, l3, l4, l5] [I 3, s0] h := ev_go c98_23 rfl
theorem c98_24 : cd 98 24 = some (24, .if_icmp .le 5, 3, 0, 0, 0) := rfl
theorem s98_24 {l0 l1 l2 l3 l4 l5 : AV} {s0 s1 : Int} {h : AH} : evL 98 24 [l0, l1, l2, l3, l4, l5] [I s0, I s1] h = if s1 ≤ s0 then evL 98 29 [l0, l1, l2, l3, l4, l5] [] h else evL 98 27 [l0, l1, l2, l3, l4, l5] [] h := e_icmp_le c98_24 rfl rfl
theorem c98_27 : cd 98 27 = some (27, .iconst (-1), 1, 0, 0, 0) := rfl
theorem s98_27 {l0 l1 l2 l3 l4 l5 : AV} {h : AH} : evL 98 27 [l0, l1, l2, l3, l4, l5] [] h = evL 98 28 [l0, l1, l2, l3, l4, l5] [I (-1)] h := ev_go c98_27 rfl
theorem c98_28 : cd 98 28 = some (28, .ireturn, 1, 0, 0, 0) := rfl
theorem s98_28 {l0 l1 l2 l3 l4 l5 : AV} {s0 : Int} {h : AH} : evL 98 28 [l0, l1, l2, l3, l4, l5] [I s0] h = some (some (I s0), h) := e_ret c98_28 rfl
theorem c98_29 : cd 98 29 = some (29, .iload_n 2, 1, 0, 0, 0) := rfl
theorem s98_29 {l0 l1 l3 l4 l5 : AV} {l2 : Int} {h : AH} : evL 98 29 [l0, l1, I l2, l3, l4, l5] [] h = evL 98 30 [l0, l1, I l2, l3, l4, l5] [I l2] h := ev_go c98_29 rfl
theorem c98_30 : cd 98 30 = some (30, .aload_n 0, 1, 0, 0, 0) := rfl
theorem s98_30 {l1 l2 l3 l4 l5 s0 : AV} {l0 : Option Nat} {h : AH} : evL 98 30 [.inr (.inl l0), l1, l2, l3, l4, l5] [s0] h = evL 98 31 [.inr (.inl l0), l1, l2, l3, l4, l5] [.inr (.inl l0), s0] h := ev_go c98_30 rfl
theorem c98_31 : cd 98 31 = some (31, .getfield 12, 3, 7, 0, 233) := rfl
theorem s98_31 {l0 l1 l2 l3 l4 l5 s1 : AV} {s0 : Nat} {M : Mem} {P : PMem} (hk : kd s0 = 7) : evL 98 31 [l0, l1, l2, l3, l4, l5] [Rf s0, s1] (Hp M P) = evL 98 34 [l0, l1, l2, l3, l4, l5] [Rf (rfd s0 0), s1] (Hp M P) := e_getR c98_31 rfl hk
theorem c98_34 : cd 98 34 = some (34, .getfield 83, 3, 1, 1, 116) := rfl
theorem s98_34 {l0 l1 l2 l3 l4 l5 s1 : AV} {s0 : Nat} {M : Mem} {P : PMem} (hk : kd s0 = 1) : evL 98 34 [l0, l1, l2, l3, l4, l5] [Rf s0, s1] (Hp M P) = evL 98 37 [l0, l1, l2, l3, l4, l5] [Rf (rfd s0 1), s1] (Hp M P) := e_getR c98_34 rfl hk
theorem c98_37 : cd 98 37 = some (37, .getfield 96, 3, 0, 3, 83) := rfl
theorem s98_37 {l0 l1 l2 l3 l4 l5 s1 : AV} {s0 : Nat} {M : Mem} {P : PMem} (hk : kd s0 = 0) : evL 98 37 [l0, l1, l2, l3, l4, l5] [Rf s0, s1] (Hp M P) = evL 98 40 [l0, l1, l2, l3, l4, l5] [Rf (rfd s0 3), s1] (Hp M P) := e_getR c98_37 rfl hk
theorem c98_40 : cd 98 40 = some (40, .iload_n 1, 1, 0, 0, 0) := rfl
theorem s98_40 {l0 l2 l3 l4 l5 s0 s1 : AV} {l1 : Int} {h : AH} : evL 98 40 [l0, I l1, l2, l3, l4, l5] [s0, s1] h = evL 98 41 [l0, I l1, l2, l3, l4, l5] [I l1, s0, s1] h := ev_go c98_40 rfl
theorem c98_41 : cd 98 41 = some (41, .invokevirtual 100, 3, 80, 0, 422) := rfl
theorem s98_41 {l0 l1 l2 l3 l4 l5 s2 : AV} {s0 : Int} {s1 : Nat} {M : Mem} {P : PMem} (hk : kd s1 = 6) : evL 98 41 [l0, l1, l2, l3, l4, l5] [I s0, Rf s1, s2] (Hp M P) = cont (evM 80 [Rf s1, I s0] (Hp M P)) (fun r h => evL 98 44 [l0, l1, l2, l3, l4, l5] (rl r [s2]) h) := e_callV (av' := [I s0]) (rest := [s2]) (c := 6) c98_41 rfl rfl rfl rfl rfl rfl rfl hk rfl
theorem c98_44 : cd 98 44 = some (44, .if_icmp .lt 6, 3, 0, 0, 0) := rfl
theorem s98_44 {l0 l1 l2 l3 l4 l5 : AV} {s0 s1 : Int} {h : AH} : evL 98 44 [l0, l1, l2, l3, l4, l5] [I s0, I s1] h = if s1 < s0 then evL 98 50 [l0, l1, l2, l3, l4, l5] [] h else evL 98 47 [l0, l1, l2, l3, l4, l5] [] h := e_icmp_lt c98_44 rfl rfl
theorem c98_47 : cd 98 47 = some (47, .bipush (-4), 2, 0, 0, 0) := rfl
theorem s98_47 {l0 l1 l2 l3 l4 l5 : AV} {h : AH} : evL 98 47 [l0, l1, l2, l3, l4, l5] [] h = evL 98 49 [l0, l1, l2, l3, l4, l5] [I (-4)] h := ev_go c98_47 rfl
theorem c98_49 : cd 98 49 = some (49, .ireturn, 1, 0, 0, 0) := rfl
theorem s98_49 {l0 l1 l2 l3 l4 l5 : AV} {s0 : Int} {h : AH} : evL 98 49 [l0, l1, l2, l3, l4, l5] [I s0] h = some (some (I s0), h) := e_ret c98_49 rfl
theorem c98_50 : cd 98 50 = some (50, .aload_n 0, 1, 0, 0, 0) := rfl
theorem s98_50 {l1 l2 l3 l4 l5 : AV} {l0 : Option Nat} {h : AH} : evL 98 50 [.inr (.inl l0), l1, l2, l3, l4, l5] [] h = evL 98 51 [.inr (.inl l0), l1, l2, l3, l4, l5] [.inr (.inl l0)] h := ev_go c98_50 rfl
theorem c98_51 : cd 98 51 = some (51, .getfield 12, 3, 7, 0, 233) := rfl
theorem s98_51 {l0 l1 l2 l3 l4 l5 : AV} {s0 : Nat} {M : Mem} {P : PMem} (hk : kd s0 = 7) : evL 98 51 [l0, l1, l2, l3, l4, l5] [Rf s0] (Hp M P) = evL 98 54 [l0, l1, l2, l3, l4, l5] [Rf (rfd s0 0)] (Hp M P) := e_getR c98_51 rfl hk
theorem c98_54 : cd 98 54 = some (54, .getfield 83, 3, 1, 1, 116) := rfl
theorem s98_54 {l0 l1 l2 l3 l4 l5 : AV} {s0 : Nat} {M : Mem} {P : PMem} (hk : kd s0 = 1) : evL 98 54 [l0, l1, l2, l3, l4, l5] [Rf s0] (Hp M P) = evL 98 57 [l0, l1, l2, l3, l4, l5] [Rf (rfd s0 1)] (Hp M P) := e_getR c98_54 rfl hk
theorem c98_57 : cd 98 57 = some (57, .iload_n 1, 1, 0, 0, 0) := rfl
theorem s98_57 {l0 l2 l3 l4 l5 s0 : AV} {l1 : Int} {h : AH} : evL 98 57 [l0, I l1, l2, l3, l4, l5] [s0] h = evL 98 58 [l0, I l1, l2, l3, l4, l5] [I l1, s0] h := ev_go c98_57 rfl
theorem c98_58 : cd 98 58 = some (58, .iload_n 2, 1, 0, 0, 0) := rfl
theorem s98_58 {l0 l1 l3 l4 l5 s0 s1 : AV} {l2 : Int} {h : AH} : evL 98 58 [l0, l1, I l2, l3, l4, l5] [s0, s1] h = evL 98 59 [l0, l1, I l2, l3, l4, l5] [I l2, s0, s1] h := ev_go c98_58 rfl
theorem c98_59 : cd 98 59 = some (59, .invokevirtual 105, 3, 6, 0, 423) := rfl
theorem s98_59 {l0 l1 l2 l3 l4 l5 : AV} {s0 s1 : Int} {s2 : Nat} {M : Mem} {P : PMem} (hk : kd s2 = 0) : evL 98 59 [l0, l1, l2, l3, l4, l5] [I s0, I s1, Rf s2] (Hp M P) = cont (evM 6 [Rf s2, I s1, I s0] (Hp M P)) (fun r h => evL 98 62 [l0, l1, l2, l3, l4, l5] (rl r []) h) := e_callV (av' := [I s1, I s0]) (rest := []) (c := 0) c98_59 rfl rfl rfl rfl rfl rfl rfl hk rfl
theorem c98_62 : cd 98 62 = some (62, .istore 4, 2, 0, 0, 0) := rfl
theorem s98_62 {l0 l1 l2 l3 l4 l5 : AV} {s0 : Int} {h : AH} : evL 98 62 [l0, l1, l2, l3, l4, l5] [I s0] h = evL 98 64 [l0, l1, l2, l3, I s0, l5] [] h := ev_go c98_62 rfl
theorem c98_64 : cd 98 64 = some (64, .iload 4, 2, 0, 0, 0) := rfl
theorem s98_64 {l0 l1 l2 l3 l5 : AV} {l4 : Int} {h : AH} : evL 98 64 [l0, l1, l2, l3, I l4, l5] [] h = evL 98 66 [l0, l1, l2, l3, I l4, l5] [I l4] h := ev_go c98_64 rfl
theorem c98_66 : cd 98 66 = some (66, .invokestatic 108, 3, 75, 0, 400) := rfl
theorem s98_66 {l0 l1 l2 l3 l4 l5 : AV} {s0 : Int} {M : Mem} {P : PMem} : evL 98 66 [l0, l1, l2, l3, l4, l5] [I s0] (Hp M P) = cont (evM 75 [I s0] (Hp M P)) (fun r h => evL 98 69 [l0, l1, l2, l3, l4, l5] (rl r []) h) := e_callS (av := [I s0]) (rest := []) c98_66 rfl rfl rfl rfl rfl rfl
theorem c98_69 : cd 98 69 = some (69, .istore 5, 2, 0, 0, 0) := rfl
theorem s98_69 {l0 l1 l2 l3 l4 l5 : AV} {s0 : Int} {h : AH} : evL 98 69 [l0, l1, l2, l3, l4, l5] [I s0] h = evL 98 71 [l0, l1, l2, l3, l4, I s0] [] h := ev_go c98_69 rfl
theorem c98_71 : cd 98 71 = some (71, .iload_n 3, 1, 0, 0, 0) := rfl
theorem s98_71 {l0 l1 l2 l4 l5 : AV} {l3 : Int} {h : AH} : evL 98 71 [l0, l1, l2, I l3, l4, l5] [] h = evL 98 72 [l0, l1, l2, I l3, l4, l5] [I l3] h := ev_go c98_71 rfl
theorem c98_72 : cd 98 72 = some (72, .ifCond .ne 6, 3, 0, 0, 0) := rfl
theorem s98_72 {l0 l1 l2 l3 l4 l5 : AV} {s0 : Int} {h : AH} : evL 98 72 [l0, l1, l2, l3, l4, l5] [I s0] h = if s0 = 0 then evL 98 75 [l0, l1, l2, l3, l4, l5] [] h else evL 98 78 [l0, l1, l2, l3, l4, l5] [] h := e_if_ne c98_72 rfl rfl
theorem c98_75 : cd 98 75 = some (75, .iload 5, 2, 0, 0, 0) := rfl
theorem s98_75 {l0 l1 l2 l3 l4 : AV} {l5 : Int} {h : AH} : evL 98 75 [l0, l1, l2, l3, l4, I l5] [] h = evL 98 77 [l0, l1, l2, l3, l4, I l5] [I l5] h := ev_go c98_75 rfl
theorem c98_77 : cd 98 77 = some (77, .ireturn, 1, 0, 0, 0) := rfl
theorem s98_77 {l0 l1 l2 l3 l4 l5 : AV} {s0 : Int} {h : AH} : evL 98 77 [l0, l1, l2, l3, l4, l5] [I s0] h = some (some (I s0), h) := e_ret c98_77 rfl
theorem c98_78 : cd 98 78 = some (78, .iload_n 3, 1, 0, 0, 0) := rfl
theorem s98_78 {l0 l1 l2 l4 l5 : AV} {l3 : Int} {h : AH} : evL 98 78 [l0, l1, l2, I l3, l4, l5] [] h = evL 98 79 [l0, l1, l2, I l3, l4, l5] [I l3] h := ev_go c98_78 rfl
theorem c98_79 : cd 98 79 = some (79, .iload 5, 2, 0, 0, 0) := rfl
theorem s98_79 {l0 l1 l2 l3 l4 s0 : AV} {l5 : Int} {h : AH} : evL 98 79 [l0, l1, l2, l3, l4, I l5] [s0] h = evL 98 81 [l0, l1, l2, l3, l4, I l5] [I l5, s0] h := ev_go c98_79 rfl
theorem c98_81 : cd 98 81 = some (81, .if_icmp .gt 14, 3, 0, 0, 0) := rfl
theorem s98_81 {l0 l1 l2 l3 l4 l5 : AV} {s0 s1 : Int} {h : AH} : evL 98 81 [l0, l1, l2, l3, l4, l5] [I s0, I s1] h = if s0 < s1 then evL 98 95 [l0, l1, l2, l3, l4, l5] [] h else evL 98 84 [l0, l1, l2, l3, l4, l5] [] h := e_icmp_gt c98_81 rfl rfl
theorem c98_84 : cd 98 84 = some (84, .iload 4, 2, 0, 0, 0) := rfl
theorem s98_84 {l0 l1 l2 l3 l5 : AV} {l4 : Int} {h : AH} : evL 98 84 [l0, l1, l2, l3, I l4, l5] [] h = evL 98 86 [l0, l1, l2, l3, I l4, l5] [I l4] h := ev_go c98_84 rfl
theorem c98_86 : cd 98 86 = some (86, .iload_n 3, 1, 0, 0, 0) := rfl
theorem s98_86 {l0 l1 l2 l4 l5 s0 : AV} {l3 : Int} {h : AH} : evL 98 86 [l0, l1, l2, I l3, l4, l5] [s0] h = evL 98 87 [l0, l1, l2, I l3, l4, l5] [I l3, s0] h := ev_go c98_86 rfl
theorem c98_87 : cd 98 87 = some (87, .iconst 1, 1, 0, 0, 0) := rfl
theorem s98_87 {l0 l1 l2 l3 l4 l5 s0 s1 : AV} {h : AH} : evL 98 87 [l0, l1, l2, l3, l4, l5] [s0, s1] h = evL 98 88 [l0, l1, l2, l3, l4, l5] [I 1, s0, s1] h := ev_go c98_87 rfl
theorem c98_88 : cd 98 88 = some (88, .isub, 1, 0, 0, 0) := rfl
theorem s98_88 {l0 l1 l2 l3 l4 l5 s2 : AV} {s0 s1 : Int} {h : AH} : evL 98 88 [l0, l1, l2, l3, l4, l5] [I s0, I s1, s2] h = evL 98 89 [l0, l1, l2, l3, l4, l5] [I (sb s1 s0), s2] h := ev_go c98_88 rfl
theorem c98_89 : cd 98 89 = some (89, .invokestatic 113, 3, 76, 0, 427) := rfl
theorem s98_89 {l0 l1 l2 l3 l4 l5 : AV} {s0 s1 : Int} {M : Mem} {P : PMem} : evL 98 89 [l0, l1, l2, l3, l4, l5] [I s0, I s1] (Hp M P) = cont (evM 76 [I s1, I s0] (Hp M P)) (fun r h => evL 98 92 [l0, l1, l2, l3, l4, l5] (rl r []) h) := e_callS (av := [I s1, I s0]) (rest := []) c98_89 rfl rfl rfl rfl rfl rfl
theorem c98_92 : cd 98 92 = some (92, .goto 5, 3, 0, 0, 0) := rfl
theorem s98_92 {l0 l1 l2 l3 l4 l5 s0 : AV} {h : AH} : evL 98 92 [l0, l1, l2, l3, l4, l5] [s0] h = evL 98 97 [l0, l1, l2, l3, l4, l5] [s0] h := ev_go c98_92 rfl
theorem c98_95 : cd 98 95 = some (95, .bipush (-4), 2, 0, 0, 0) := rfl
theorem s98_95 {l0 l1 l2 l3 l4 l5 : AV} {h : AH} : evL 98 95 [l0, l1, l2, l3, l4, l5] [] h = evL 98 97 [l0, l1, l2, l3, l4, l5] [I (-4)] h := ev_go c98_95 rfl
theorem c98_97 : cd 98 97 = some (97, .ireturn, 1, 0, 0, 0) := rfl
theorem s98_97 {l0 l1 l2 l3 l4 l5 : AV} {s0 : Int} {h : AH} : evL 98 97 [l0, l1, l2, l3, l4, l5] [I s0] h = some (some (I s0), h) := e_ret c98_97 rfl
/-! 99: TankDivers.space(II)I -/
theorem en99 {l0 l1 l2 : AV} {h : AH} : evM 99 [l0, l1, l2] h = evL 99 0 [l0, l1, l2] [] h := rfl
theorem c99_0 : cd 99 0 = some (0, .iload_n 1, 1, 0, 0, 0) := rfl
theorem s99_0 {l0 l2 : AV} {l1 : Int} {h : AH} : evL 99 0 [l0, I l1, l2] [] h = evL 99 1 [l0, I l1, l2] [I l1] h := ev_go c99_0 rfl
theorem c99_1 : cd 99 1 = some (1, .iconst 1, 1, 0, 0, 0) := rfl
theorem s99_1 {l0 l1 l2 s0 : AV} {h : AH} : evL 99 1 [l0, l1, l2] [s0] h = evL 99 2 [l0, l1, l2] [I 1, s0] h := ev_go c99_1 rfl
theorem c99_2 : cd 99 2 = some (2, .if_icmp .lt 17, 3, 0, 0, 0) := rfl
theorem s99_2 {l0 l1 l2 : AV} {s0 s1 : Int} {h : AH} : evL 99 2 [l0, l1, l2] [I s0, I s1] h = if s1 < s0 then evL 99 19 [l0, l1, l2] [] h else evL 99 5 [l0, l1, l2] [] h := e_icmp_lt c99_2 rfl rfl
theorem c99_5 : cd 99 5 = some (5, .iload_n 1, 1, 0, 0, 0) := rfl
theorem s99_5 {l0 l2 : AV} {l1 : Int} {h : AH} : evL 99 5 [l0, I l1, l2] [] h = evL 99 6 [l0, I l1, l2] [I l1] h := ev_go c99_5 rfl
theorem c99_6 : cd 99 6 = some (6, .aload_n 0, 1, 0, 0, 0) := rfl
theorem s99_6 {l1 l2 s0 : AV} {l0 : Option Nat} {h : AH} : evL 99 6 [.inr (.inl l0), l1, l2] [s0] h = evL 99 7 [.inr (.inl l0), l1, l2] [.inr (.inl l0), s0] h := ev_go c99_6 rfl
theorem c99_7 : cd 99 7 = some (7, .getfield 12, 3, 7, 0, 233) := rfl
theorem s99_7 {l0 l1 l2 s1 : AV} {s0 : Nat} {M : Mem} {P : PMem} (hk : kd s0 = 7) : evL 99 7 [l0, l1, l2] [Rf s0, s1] (Hp M P) = evL 99 10 [l0, l1, l2] [Rf (rfd s0 0), s1] (Hp M P) := e_getR c99_7 rfl hk
theorem c99_10 : cd 99 10 = some (10, .getfield 116, 3, 1, 0, 114) := rfl
theorem s99_10 {l0 l1 l2 s1 : AV} {s0 : Nat} {M : Mem} {P : PMem} (hk : kd s0 = 1) : evL 99 10 [l0, l1, l2] [Rf s0, s1] (Hp M P) = evL 99 13 [l0, l1, l2] [Rf (rfd s0 0), s1] (Hp M P) := e_getR c99_10 rfl hk
theorem c99_13 : cd 99 13 = some (13, .getfield 120, 3, 5, 1, 61) := rfl
theorem s99_13 {l0 l1 l2 s1 : AV} {s0 : Nat} {M : Mem} {P : PMem} (hk : kd s0 = 5) : evL 99 13 [l0, l1, l2] [Rf s0, s1] (Hp M P) = evL 99 16 [l0, l1, l2] [I (M s0 1), s1] (Hp M P) := e_getI c99_13 rfl hk
theorem c99_16 : cd 99 16 = some (16, .if_icmp .le 5, 3, 0, 0, 0) := rfl
theorem s99_16 {l0 l1 l2 : AV} {s0 s1 : Int} {h : AH} : evL 99 16 [l0, l1, l2] [I s0, I s1] h = if s1 ≤ s0 then evL 99 21 [l0, l1, l2] [] h else evL 99 19 [l0, l1, l2] [] h := e_icmp_le c99_16 rfl rfl
theorem c99_19 : cd 99 19 = some (19, .iconst (-1), 1, 0, 0, 0) := rfl
theorem s99_19 {l0 l1 l2 : AV} {h : AH} : evL 99 19 [l0, l1, l2] [] h = evL 99 20 [l0, l1, l2] [I (-1)] h := ev_go c99_19 rfl
theorem c99_20 : cd 99 20 = some (20, .ireturn, 1, 0, 0, 0) := rfl
theorem s99_20 {l0 l1 l2 : AV} {s0 : Int} {h : AH} : evL 99 20 [l0, l1, l2] [I s0] h = some (some (I s0), h) := e_ret c99_20 rfl
theorem c99_21 : cd 99 21 = some (21, .iload_n 2, 1, 0, 0, 0) := rfl
theorem s99_21 {l0 l1 : AV} {l2 : Int} {h : AH} : evL 99 21 [l0, l1, I l2] [] h = evL 99 22 [l0, l1, I l2] [I l2] h := ev_go c99_21 rfl
theorem c99_22 : cd 99 22 = some (22, .tableswitch 68 0 2 #[26, 41, 56], 26, 0, 0, 0) := rfl
theorem s99_22_0 {l0 l1 l2 : AV} {h : AH} : evL 99 22 [l0, l1, l2] [I 0] h = evL 99 48 [l0, l1, l2] [] h := ev_go c99_22 rfl
theorem s99_22_1 {l0 l1 l2 : AV} {h : AH} : evL 99 22 [l0, l1, l2] [I 1] h = evL 99 63 [l0, l1, l2] [] h := ev_go c99_22 rfl
theorem s99_22_2 {l0 l1 l2 : AV} {h : AH} : evL 99 22 [l0, l1, l2] [I 2] h = evL 99 78 [l0, l1, l2] [] h := ev_go c99_22 rfl
theorem s99_22_d {l0 l1 l2 : AV} {h : AH} {s0 : Int} (hx : s0 < 0 ∨ 2 < s0) : evL 99 22 [l0, l1, l2] [I s0] h = evL 99 90 [l0, l1, l2] [] h := ev_go c99_22 (if_pos hx)
theorem c99_48 : cd 99 48 = some (48, .aload_n 0, 1, 0, 0, 0) := rfl
theorem s99_48 {l1 l2 : AV} {l0 : Option Nat} {h : AH} : evL 99 48 [.inr (.inl l0), l1, l2] [] h = evL 99 49 [.inr (.inl l0), l1, l2] [.inr (.inl l0)] h := ev_go c99_48 rfl
theorem c99_49 : cd 99 49 = some (49, .getfield 12, 3, 7, 0, 233) := rfl
theorem s99_49 {l0 l1 l2 : AV} {s0 : Nat} {M : Mem} {P : PMem} (hk : kd s0 = 7) : evL 99 49 [l0, l1, l2] [Rf s0] (Hp M P) = evL 99 52 [l0, l1, l2] [Rf (rfd s0 0)] (Hp M P) := e_getR c99_49 rfl hk
theorem c99_52 : cd 99 52 = some (52, .getfield 116, 3, 1, 0, 114) := rfl
theorem s99_52 {l0 l1 l2 : AV} {s0 : Nat} {M : Mem} {P : PMem} (hk : kd s0 = 1) : evL 99 52 [l0, l1, l2] [Rf s0] (Hp M P) = evL 99 55 [l0, l1, l2] [Rf (rfd s0 0)] (Hp M P) := e_getR c99_52 rfl hk
theorem c99_55 : cd 99 55 = some (55, .iload_n 1, 1, 0, 0, 0) := rfl
theorem s99_55 {l0 l2 s0 : AV} {l1 : Int} {h : AH} : evL 99 55 [l0, I l1, l2] [s0] h = evL 99 56 [l0, I l1, l2] [I l1, s0] h := ev_go c99_55 rfl
theorem c99_56 : cd 99 56 = some (56, .invokevirtual 125, 3, 66, 0, 396) := rfl
theorem s99_56 {l0 l1 l2 : AV} {s0 : Int} {s1 : Nat} {M : Mem} {P : PMem} (hk : kd s1 = 5) : evL 99 56 [l0, l1, l2] [I s0, Rf s1] (Hp M P) = cont (evM 66 [Rf s1, I s0] (Hp M P)) (fun r h => evL 99 59 [l0, l1, l2] (rl r []) h) := e_callV (av' := [I s0]) (rest := []) (c := 5) c99_56 rfl rfl rfl rfl rfl rfl rfl hk rfl
theorem c99_59 : cd 99 59 = some (59, .invokestatic 108, 3, 75, 0, 400) := rfl
theorem s99_59 {l0 l1 l2 : AV} {s0 : Int} {M : Mem} {P : PMem} : evL 99 59 [l0, l1, l2] [I s0] (Hp M P) = cont (evM 75 [I s0] (Hp M P)) (fun r h => evL 99 62 [l0, l1, l2] (rl r []) h) := e_callS (av := [I s0]) (rest := []) c99_59 rfl rfl rfl rfl rfl rfl
theorem c99_62 : cd 99 62 = some (62, .ireturn, 1, 0, 0, 0) := rfl
theorem s99_62 {l0 l1 l2 : AV} {s0 : Int} {h : AH} : evL 99 62 [l0, l1, l2] [I s0] h = some (some (I s0), h) := e_ret c99_62 rfl
theorem c99_63 : cd 99 63 = some (63, .aload_n 0, 1, 0, 0, 0) := rfl
theorem s99_63 {l1 l2 : AV} {l0 : Option Nat} {h : AH} : evL 99 63 [.inr (.inl l0), l1, l2] [] h = evL 99 64 [.inr (.inl l0), l1, l2] [.inr (.inl l0)] h := ev_go c99_63 rfl
theorem c99_64 : cd 99 64 = some (64, .getfield 12, 3, 7, 0, 233) := rfl
theorem s99_64 {l0 l1 l2 : AV} {s0 : Nat} {M : Mem} {P : PMem} (hk : kd s0 = 7) : evL 99 64 [l0, l1, l2] [Rf s0] (Hp M P) = evL 99 67 [l0, l1, l2] [Rf (rfd s0 0)] (Hp M P) := e_getR c99_64 rfl hk
theorem c99_67 : cd 99 67 = some (67, .getfield 116, 3, 1, 0, 114) := rfl
theorem s99_67 {l0 l1 l2 : AV} {s0 : Nat} {M : Mem} {P : PMem} (hk : kd s0 = 1) : evL 99 67 [l0, l1, l2] [Rf s0] (Hp M P) = evL 99 70 [l0, l1, l2] [Rf (rfd s0 0)] (Hp M P) := e_getR c99_67 rfl hk
theorem c99_70 : cd 99 70 = some (70, .iload_n 1, 1, 0, 0, 0) := rfl
theorem s99_70 {l0 l2 s0 : AV} {l1 : Int} {h : AH} : evL 99 70 [l0, I l1, l2] [s0] h = evL 99 71 [l0, I l1, l2] [I l1, s0] h := ev_go c99_70 rfl
theorem c99_71 : cd 99 71 = some (71, .invokevirtual 125, 3, 66, 0, 396) := rfl
theorem s99_71 {l0 l1 l2 : AV} {s0 : Int} {s1 : Nat} {M : Mem} {P : PMem} (hk : kd s1 = 5) : evL 99 71 [l0, l1, l2] [I s0, Rf s1] (Hp M P) = cont (evM 66 [Rf s1, I s0] (Hp M P)) (fun r h => evL 99 74 [l0, l1, l2] (rl r []) h) := e_callV (av' := [I s0]) (rest := []) (c := 5) c99_71 rfl rfl rfl rfl rfl rfl rfl hk rfl
theorem c99_74 : cd 99 74 = some (74, .invokestatic 128, 3, 77, 0, 401) := rfl
theorem s99_74 {l0 l1 l2 : AV} {s0 : Int} {M : Mem} {P : PMem} : evL 99 74 [l0, l1, l2] [I s0] (Hp M P) = cont (evM 77 [I s0] (Hp M P)) (fun r h => evL 99 77 [l0, l1, l2] (rl r []) h) := e_callS (av := [I s0]) (rest := []) c99_74 rfl rfl rfl rfl rfl rfl
theorem c99_77 : cd 99 77 = some (77, .ireturn, 1, 0, 0, 0) := rfl
theorem s99_77 {l0 l1 l2 : AV} {s0 : Int} {h : AH} : evL 99 77 [l0, l1, l2] [I s0] h = some (some (I s0), h) := e_ret c99_77 rfl
theorem c99_78 : cd 99 78 = some (78, .aload_n 0, 1, 0, 0, 0) := rfl
theorem s99_78 {l1 l2 : AV} {l0 : Option Nat} {h : AH} : evL 99 78 [.inr (.inl l0), l1, l2] [] h = evL 99 79 [.inr (.inl l0), l1, l2] [.inr (.inl l0)] h := ev_go c99_78 rfl
theorem c99_79 : cd 99 79 = some (79, .getfield 12, 3, 7, 0, 233) := rfl
theorem s99_79 {l0 l1 l2 : AV} {s0 : Nat} {M : Mem} {P : PMem} (hk : kd s0 = 7) : evL 99 79 [l0, l1, l2] [Rf s0] (Hp M P) = evL 99 82 [l0, l1, l2] [Rf (rfd s0 0)] (Hp M P) := e_getR c99_79 rfl hk
theorem c99_82 : cd 99 82 = some (82, .getfield 83, 3, 1, 1, 116) := rfl
theorem s99_82 {l0 l1 l2 : AV} {s0 : Nat} {M : Mem} {P : PMem} (hk : kd s0 = 1) : evL 99 82 [l0, l1, l2] [Rf s0] (Hp M P) = evL 99 85 [l0, l1, l2] [Rf (rfd s0 1)] (Hp M P) := e_getR c99_82 rfl hk
theorem c99_85 : cd 99 85 = some (85, .iload_n 1, 1, 0, 0, 0) := rfl
theorem s99_85 {l0 l2 s0 : AV} {l1 : Int} {h : AH} : evL 99 85 [l0, I l1, l2] [s0] h = evL 99 86 [l0, I l1, l2] [I l1, s0] h := ev_go c99_85 rfl
theorem c99_86 : cd 99 86 = some (86, .invokevirtual 131, 3, 17, 0, 402) := rfl
theorem s99_86 {l0 l1 l2 : AV} {s0 : Int} {s1 : Nat} {M : Mem} {P : PMem} (hk : kd s1 = 0) : evL 99 86 [l0, l1, l2] [I s0, Rf s1] (Hp M P) = cont (evM 17 [Rf s1, I s0] (Hp M P)) (fun r h => evL 99 89 [l0, l1, l2] (rl r []) h) := e_callV (av' := [I s0]) (rest := []) (c := 0) c99_86 rfl rfl rfl rfl rfl rfl rfl hk rfl
theorem c99_89 : cd 99 89 = some (89, .ireturn, 1, 0, 0, 0) := rfl
theorem s99_89 {l0 l1 l2 : AV} {s0 : Int} {h : AH} : evL 99 89 [l0, l1, l2] [I s0] h = some (some (I s0), h) := e_ret c99_89 rfl
theorem c99_90 : cd 99 90 = some (90, .iconst (-1), 1, 0, 0, 0) := rfl
theorem s99_90 {l0 l1 l2 : AV} {h : AH} : evL 99 90 [l0, l1, l2] [] h = evL 99 91 [l0, l1, l2] [I (-1)] h := ev_go c99_90 rfl
theorem c99_91 : cd 99 91 = some (91, .ireturn, 1, 0, 0, 0) := rfl
theorem s99_91 {l0 l1 l2 : AV} {s0 : Int} {h : AH} : evL 99 91 [l0, l1, l2] [I s0] h = some (some (I s0), h) := e_ret c99_91 rfl
/-! 100: TankDivers.count(I)I -/
theorem en100 {l0 l1 : AV} {h : AH} : evM 100 [l0, l1] h = evL 100 0 [l0, l1] [] h := rfl
theorem c100_0 : cd 100 0 = some (0, .iload_n 1, 1, 0, 0, 0) := rfl
theorem s100_0 {l0 : AV} {l1 : Int} {h : AH} : evL 100 0 [l0, I l1] [] h = evL 100 1 [l0, I l1] [I l1] h := ev_go c100_0 rfl
theorem c100_1 : cd 100 1 = some (1, .tableswitch 262 0 15 #[79, 90, 101, 109, 132, 162, 170, 181, 192, 203, 214, 222, 230, 238, 246, 254], 79, 0, 0, 0) := rfl
theorem s100_1_0 {l0 l1 : AV} {h : AH} : evL 100 1 [l0, l1] [I 0] h = evL 100 80 [l0, l1] [] h := ev_go c100_1 rfl
theorem s100_1_1 {l0 l1 : AV} {h : AH} : evL 100 1 [l0, l1] [I 1] h = evL 100 91 [l0, l1] [] h := ev_go c100_1 rfl
theorem s100_1_2 {l0 l1 : AV} {h : AH} : evL 100 1 [l0, l1] [I 2] h = evL 100 102 [l0, l1] [] h := ev_go c100_1 rfl
theorem s100_1_3 {l0 l1 : AV} {h : AH} : evL 100 1 [l0, l1] [I 3] h = evL 100 110 [l0, l1] [] h := ev_go c100_1 rfl
theorem s100_1_4 {l0 l1 : AV} {h : AH} : evL 100 1 [l0, l1] [I 4] h = evL 100 133 [l0, l1] [] h := ev_go c100_1 rfl
theorem s100_1_5 {l0 l1 : AV} {h : AH} : evL 100 1 [l0, l1] [I 5] h = evL 100 163 [l0, l1] [] h := ev_go c100_1 rfl
theorem s100_1_6 {l0 l1 : AV} {h : AH} : evL 100 1 [l0, l1] [I 6] h = evL 100 171 [l0, l1] [] h := ev_go c100_1 rfl
theorem s100_1_7 {l0 l1 : AV} {h : AH} : evL 100 1 [l0, l1] [I 7] h = evL 100 182 [l0, l1] [] h := ev_go c100_1 rfl
theorem s100_1_8 {l0 l1 : AV} {h : AH} : evL 100 1 [l0, l1] [I 8] h = evL 100 193 [l0, l1] [] h := ev_go c100_1 rfl
theorem s100_1_9 {l0 l1 : AV} {h : AH} : evL 100 1 [l0, l1] [I 9] h = evL 100 204 [l0, l1] [] h := ev_go c100_1 rfl
theorem s100_1_10 {l0 l1 : AV} {h : AH} : evL 100 1 [l0, l1] [I 10] h = evL 100 215 [l0, l1] [] h := ev_go c100_1 rfl
theorem s100_1_11 {l0 l1 : AV} {h : AH} : evL 100 1 [l0, l1] [I 11] h = evL 100 223 [l0, l1] [] h := ev_go c100_1 rfl
theorem s100_1_12 {l0 l1 : AV} {h : AH} : evL 100 1 [l0, l1] [I 12] h = evL 100 231 [l0, l1] [] h := ev_go c100_1 rfl
theorem s100_1_13 {l0 l1 : AV} {h : AH} : evL 100 1 [l0, l1] [I 13] h = evL 100 239 [l0, l1] [] h := ev_go c100_1 rfl
theorem s100_1_14 {l0 l1 : AV} {h : AH} : evL 100 1 [l0, l1] [I 14] h = evL 100 247 [l0, l1] [] h := ev_go c100_1 rfl
theorem s100_1_15 {l0 l1 : AV} {h : AH} : evL 100 1 [l0, l1] [I 15] h = evL 100 255 [l0, l1] [] h := ev_go c100_1 rfl
theorem s100_1_d {l0 l1 : AV} {h : AH} {s0 : Int} (hx : s0 < 0 ∨ 15 < s0) : evL 100 1 [l0, l1] [I s0] h = evL 100 263 [l0, l1] [] h := ev_go c100_1 (if_pos hx)
theorem c100_80 : cd 100 80 = some (80, .aload_n 0, 1, 0, 0, 0) := rfl
theorem s100_80 {l1 : AV} {l0 : Option Nat} {h : AH} : evL 100 80 [.inr (.inl l0), l1] [] h = evL 100 81 [.inr (.inl l0), l1] [.inr (.inl l0)] h := ev_go c100_80 rfl
theorem c100_81 : cd 100 81 = some (81, .getfield 12, 3, 7, 0, 233) := rfl
theorem s100_81 {l0 l1 : AV} {s0 : Nat} {M : Mem} {P : PMem} (hk : kd s0 = 7) : evL 100 81 [l0, l1] [Rf s0] (Hp M P) = evL 100 84 [l0, l1] [Rf (rfd s0 0)] (Hp M P) := e_getR c100_81 rfl hk
theorem c100_84 : cd 100 84 = some (84, .getfield 83, 3, 1, 1, 116) := rfl
theorem s100_84 {l0 l1 : AV} {s0 : Nat} {M : Mem} {P : PMem} (hk : kd s0 = 1) : evL 100 84 [l0, l1] [Rf s0] (Hp M P) = evL 100 87 [l0, l1] [Rf (rfd s0 1)] (Hp M P) := e_getR c100_84 rfl hk
theorem c100_87 : cd 100 87 = some (87, .getfield 134, 3, 0, 8, 90) := rfl
theorem s100_87 {l0 l1 : AV} {s0 : Nat} {M : Mem} {P : PMem} (hk : kd s0 = 0) : evL 100 87 [l0, l1] [Rf s0] (Hp M P) = evL 100 90 [l0, l1] [I (M s0 8)] (Hp M P) := e_getI c100_87 rfl hk
theorem c100_90 : cd 100 90 = some (90, .ireturn, 1, 0, 0, 0) := rfl
theorem s100_90 {l0 l1 : AV} {s0 : Int} {h : AH} : evL 100 90 [l0, l1] [I s0] h = some (some (I s0), h) := e_ret c100_90 rfl
theorem c100_91 : cd 100 91 = some (91, .aload_n 0, 1, 0, 0, 0) := rfl
theorem s100_91 {l1 : AV} {l0 : Option Nat} {h : AH} : evL 100 91 [.inr (.inl l0), l1] [] h = evL 100 92 [.inr (.inl l0), l1] [.inr (.inl l0)] h := ev_go c100_91 rfl
theorem c100_92 : cd 100 92 = some (92, .getfield 12, 3, 7, 0, 233) := rfl
theorem s100_92 {l0 l1 : AV} {s0 : Nat} {M : Mem} {P : PMem} (hk : kd s0 = 7) : evL 100 92 [l0, l1] [Rf s0] (Hp M P) = evL 100 95 [l0, l1] [Rf (rfd s0 0)] (Hp M P) := e_getR c100_92 rfl hk
theorem c100_95 : cd 100 95 = some (95, .getfield 116, 3, 1, 0, 114) := rfl
theorem s100_95 {l0 l1 : AV} {s0 : Nat} {M : Mem} {P : PMem} (hk : kd s0 = 1) : evL 100 95 [l0, l1] [Rf s0] (Hp M P) = evL 100 98 [l0, l1] [Rf (rfd s0 0)] (Hp M P) := e_getR c100_95 rfl hk
theorem c100_98 : cd 100 98 = some (98, .getfield 120, 3, 5, 1, 61) := rfl
theorem s100_98 {l0 l1 : AV} {s0 : Nat} {M : Mem} {P : PMem} (hk : kd s0 = 5) : evL 100 98 [l0, l1] [Rf s0] (Hp M P) = evL 100 101 [l0, l1] [I (M s0 1)] (Hp M P) := e_getI c100_98 rfl hk
theorem c100_101 : cd 100 101 = some (101, .ireturn, 1, 0, 0, 0) := rfl
theorem s100_101 {l0 l1 : AV} {s0 : Int} {h : AH} : evL 100 101 [l0, l1] [I s0] h = some (some (I s0), h) := e_ret c100_101 rfl
theorem c100_102 : cd 100 102 = some (102, .aload_n 0, 1, 0, 0, 0) := rfl
theorem s100_102 {l1 : AV} {l0 : Option Nat} {h : AH} : evL 100 102 [.inr (.inl l0), l1] [] h = evL 100 103 [.inr (.inl l0), l1] [.inr (.inl l0)] h := ev_go c100_102 rfl
theorem c100_103 : cd 100 103 = some (103, .getfield 12, 3, 7, 0, 233) := rfl
theorem s100_103 {l0 l1 : AV} {s0 : Nat} {M : Mem} {P : PMem} (hk : kd s0 = 7) : evL 100 103 [l0, l1] [Rf s0] (Hp M P) = evL 100 106 [l0, l1] [Rf (rfd s0 0)] (Hp M P) := e_getR c100_103 rfl hk
theorem c100_106 : cd 100 106 = some (106, .getfield 137, 3, 1, 4, 121) := rfl
theorem s100_106 {l0 l1 : AV} {s0 : Nat} {M : Mem} {P : PMem} (hk : kd s0 = 1) : evL 100 106 [l0, l1] [Rf s0] (Hp M P) = evL 100 109 [l0, l1] [I (M s0 4)] (Hp M P) := e_getI c100_106 rfl hk
theorem c100_109 : cd 100 109 = some (109, .ireturn, 1, 0, 0, 0) := rfl
theorem s100_109 {l0 l1 : AV} {s0 : Int} {h : AH} : evL 100 109 [l0, l1] [I s0] h = some (some (I s0), h) := e_ret c100_109 rfl
theorem c100_110 : cd 100 110 = some (110, .aload_n 0, 1, 0, 0, 0) := rfl
theorem s100_110 {l1 : AV} {l0 : Option Nat} {h : AH} : evL 100 110 [.inr (.inl l0), l1] [] h = evL 100 111 [.inr (.inl l0), l1] [.inr (.inl l0)] h := ev_go c100_110 rfl
theorem c100_111 : cd 100 111 = some (111, .getfield 12, 3, 7, 0, 233) := rfl
theorem s100_111 {l0 l1 : AV} {s0 : Nat} {M : Mem} {P : PMem} (hk : kd s0 = 7) : evL 100 111 [l0, l1] [Rf s0] (Hp M P) = evL 100 114 [l0, l1] [Rf (rfd s0 0)] (Hp M P) := e_getR c100_111 rfl hk
theorem c100_114 : cd 100 114 = some (114, .invokevirtual 140, 3, 30, 0, 262) := rfl
theorem s100_114 {l0 l1 : AV} {s0 : Nat} {M : Mem} {P : PMem} (hk : kd s0 = 1) : evL 100 114 [l0, l1] [Rf s0] (Hp M P) = cont (evM 30 [Rf s0] (Hp M P)) (fun r h => evL 100 117 [l0, l1] (rl r []) h) := e_callV (av' := []) (rest := []) (c := 1) c100_114 rfl rfl rfl rfl rfl rfl rfl hk rfl
theorem c100_117 : cd 100 117 = some (117, .ifCond .eq 8, 3, 0, 0, 0) := rfl
theorem s100_117 {l0 l1 : AV} {s0 : Int} {h : AH} : evL 100 117 [l0, l1] [I s0] h = if s0 = 0 then evL 100 125 [l0, l1] [] h else evL 100 120 [l0, l1] [] h := e_if_eq c100_117 rfl rfl
theorem c100_120 : cd 100 120 = some (120, .bipush (-4), 2, 0, 0, 0) := rfl
theorem s100_120 {l0 l1 : AV} {h : AH} : evL 100 120 [l0, l1] [] h = evL 100 122 [l0, l1] [I (-4)] h := ev_go c100_120 rfl
theorem c100_122 : cd 100 122 = some (122, .goto 10, 3, 0, 0, 0) := rfl
theorem s100_122 {l0 l1 s0 : AV} {h : AH} : evL 100 122 [l0, l1] [s0] h = evL 100 132 [l0, l1] [s0] h := ev_go c100_122 rfl
theorem c100_125 : cd 100 125 = some (125, .aload_n 0, 1, 0, 0, 0) := rfl
theorem s100_125 {l1 : AV} {l0 : Option Nat} {h : AH} : evL 100 125 [.inr (.inl l0), l1] [] h = evL 100 126 [.inr (.inl l0), l1] [.inr (.inl l0)] h := ev_go c100_125 rfl
theorem c100_126 : cd 100 126 = some (126, .getfield 12, 3, 7, 0, 233) := rfl
theorem s100_126 {l0 l1 : AV} {s0 : Nat} {M : Mem} {P : PMem} (hk : kd s0 = 7) : evL 100 126 [l0, l1] [Rf s0] (Hp M P) = evL 100 129 [l0, l1] [Rf (rfd s0 0)] (Hp M P) := e_getR c100_126 rfl hk
theorem c100_129 : cd 100 129 = some (129, .getfield 144, 3, 1, 5, 123) := rfl
theorem s100_129 {l0 l1 : AV} {s0 : Nat} {M : Mem} {P : PMem} (hk : kd s0 = 1) : evL 100 129 [l0, l1] [Rf s0] (Hp M P) = evL 100 132 [l0, l1] [I (M s0 5)] (Hp M P) := e_getI c100_129 rfl hk
theorem c100_132 : cd 100 132 = some (132, .ireturn, 1, 0, 0, 0) := rfl
theorem s100_132 {l0 l1 : AV} {s0 : Int} {h : AH} : evL 100 132 [l0, l1] [I s0] h = some (some (I s0), h) := e_ret c100_132 rfl
theorem c100_133 : cd 100 133 = some (133, .aload_n 0, 1, 0, 0, 0) := rfl
theorem s100_133 {l1 : AV} {l0 : Option Nat} {h : AH} : evL 100 133 [.inr (.inl l0), l1] [] h = evL 100 134 [.inr (.inl l0), l1] [.inr (.inl l0)] h := ev_go c100_133 rfl
theorem c100_134 : cd 100 134 = some (134, .getfield 12, 3, 7, 0, 233) := rfl
theorem s100_134 {l0 l1 : AV} {s0 : Nat} {M : Mem} {P : PMem} (hk : kd s0 = 7) : evL 100 134 [l0, l1] [Rf s0] (Hp M P) = evL 100 137 [l0, l1] [Rf (rfd s0 0)] (Hp M P) := e_getR c100_134 rfl hk
theorem c100_137 : cd 100 137 = some (137, .invokevirtual 140, 3, 30, 0, 262) := rfl
theorem s100_137 {l0 l1 : AV} {s0 : Nat} {M : Mem} {P : PMem} (hk : kd s0 = 1) : evL 100 137 [l0, l1] [Rf s0] (Hp M P) = cont (evM 30 [Rf s0] (Hp M P)) (fun r h => evL 100 140 [l0, l1] (rl r []) h) := e_callV (av' := []) (rest := []) (c := 1) c100_137 rfl rfl rfl rfl rfl rfl rfl hk rfl
theorem c100_140 : cd 100 140 = some (140, .ifCond .eq 7, 3, 0, 0, 0) := rfl
theorem s100_140 {l0 l1 : AV} {s0 : Int} {h : AH} : evL 100 140 [l0, l1] [I s0] h = if s0 = 0 then evL 100 147 [l0, l1] [] h else evL 100 143 [l0, l1] [] h := e_if_eq c100_140 rfl rfl
theorem c100_143 : cd 100 143 = some (143, .iconst 2, 1, 0, 0, 0) := rfl
theorem s100_143 {l0 l1 : AV} {h : AH} : evL 100 143 [l0, l1] [] h = evL 100 144 [l0, l1] [I 2] h := ev_go c100_143 rfl
theorem c100_144 : cd 100 144 = some (144, .goto 18, 3, 0, 0, 0) := rfl
theorem s100_144 {l0 l1 s0 : AV} {h : AH} : evL 100 144 [l0, l1] [s0] h = evL 100 162 [l0, l1] [s0] h := ev_go c100_144 rfl
theorem c100_147 : cd 100 147 = some (147, .aload_n 0, 1, 0, 0, 0) := rfl
theorem s100_147 {l1 : AV} {l0 : Option Nat} {h : AH} : evL 100 147 [.inr (.inl l0), l1] [] h = evL 100 148 [.inr (.inl l0), l1] [.inr (.inl l0)] h := ev_go c100_147 rfl
theorem c100_148 : cd 100 148 = some (148, .getfield 12, 3, 7, 0, 233) := rfl
theorem s100_148 {l0 l1 : AV} {s0 : Nat} {M : Mem} {P : PMem} (hk : kd s0 = 7) : evL 100 148 [l0, l1] [Rf s0] (Hp M P) = evL 100 151 [l0, l1] [Rf (rfd s0 0)] (Hp M P) := e_getR c100_148 rfl hk
theorem c100_151 : cd 100 151 = some (151, .getfield 147, 3, 1, 6, 125) := rfl
theorem s100_151 {l0 l1 : AV} {s0 : Nat} {M : Mem} {P : PMem} (hk : kd s0 = 1) : evL 100 151 [l0, l1] [Rf s0] (Hp M P) = evL 100 154 [l0, l1] [I (M s0 6)] (Hp M P) := e_getI c100_151 rfl hk
theorem c100_154 : cd 100 154 = some (154, .ifCond .eq 7, 3, 0, 0, 0) := rfl
theorem s100_154 {l0 l1 : AV} {s0 : Int} {h : AH} : evL 100 154 [l0, l1] [I s0] h = if s0 = 0 then evL 100 161 [l0, l1] [] h else evL 100 157 [l0, l1] [] h := e_if_eq c100_154 rfl rfl
theorem c100_157 : cd 100 157 = some (157, .iconst 1, 1, 0, 0, 0) := rfl
theorem s100_157 {l0 l1 : AV} {h : AH} : evL 100 157 [l0, l1] [] h = evL 100 158 [l0, l1] [I 1] h := ev_go c100_157 rfl
theorem c100_158 : cd 100 158 = some (158, .goto 4, 3, 0, 0, 0) := rfl
theorem s100_158 {l0 l1 s0 : AV} {h : AH} : evL 100 158 [l0, l1] [s0] h = evL 100 162 [l0, l1] [s0] h := ev_go c100_158 rfl
theorem c100_161 : cd 100 161 = some (161, .iconst 0, 1, 0, 0, 0) := rfl
theorem s100_161 {l0 l1 : AV} {h : AH} : evL 100 161 [l0, l1] [] h = evL 100 162 [l0, l1] [I 0] h := ev_go c100_161 rfl
theorem c100_162 : cd 100 162 = some (162, .ireturn, 1, 0, 0, 0) := rfl
theorem s100_162 {l0 l1 : AV} {s0 : Int} {h : AH} : evL 100 162 [l0, l1] [I s0] h = some (some (I s0), h) := e_ret c100_162 rfl
theorem c100_163 : cd 100 163 = some (163, .aload_n 0, 1, 0, 0, 0) := rfl
theorem s100_163 {l1 : AV} {l0 : Option Nat} {h : AH} : evL 100 163 [.inr (.inl l0), l1] [] h = evL 100 164 [.inr (.inl l0), l1] [.inr (.inl l0)] h := ev_go c100_163 rfl
theorem c100_164 : cd 100 164 = some (164, .getfield 12, 3, 7, 0, 233) := rfl
theorem s100_164 {l0 l1 : AV} {s0 : Nat} {M : Mem} {P : PMem} (hk : kd s0 = 7) : evL 100 164 [l0, l1] [Rf s0] (Hp M P) = evL 100 167 [l0, l1] [Rf (rfd s0 0)] (Hp M P) := e_getR c100_164 rfl hk
theorem c100_167 : cd 100 167 = some (167, .getfield 151, 3, 1, 7, 127) := rfl
theorem s100_167 {l0 l1 : AV} {s0 : Nat} {M : Mem} {P : PMem} (hk : kd s0 = 1) : evL 100 167 [l0, l1] [Rf s0] (Hp M P) = evL 100 170 [l0, l1] [I (M s0 7)] (Hp M P) := e_getI c100_167 rfl hk
theorem c100_170 : cd 100 170 = some (170, .ireturn, 1, 0, 0, 0) := rfl
theorem s100_170 {l0 l1 : AV} {s0 : Int} {h : AH} : evL 100 170 [l0, l1] [I s0] h = some (some (I s0), h) := e_ret c100_170 rfl
theorem c100_171 : cd 100 171 = some (171, .aload_n 0, 1, 0, 0, 0) := rfl
theorem s100_171 {l1 : AV} {l0 : Option Nat} {h : AH} : evL 100 171 [.inr (.inl l0), l1] [] h = evL 100 172 [.inr (.inl l0), l1] [.inr (.inl l0)] h := ev_go c100_171 rfl
theorem c100_172 : cd 100 172 = some (172, .getfield 12, 3, 7, 0, 233) := rfl
theorem s100_172 {l0 l1 : AV} {s0 : Nat} {M : Mem} {P : PMem} (hk : kd s0 = 7) : evL 100 172 [l0, l1] [Rf s0] (Hp M P) = evL 100 175 [l0, l1] [Rf (rfd s0 0)] (Hp M P) := e_getR c100_172 rfl hk
theorem c100_175 : cd 100 175 = some (175, .getfield 116, 3, 1, 0, 114) := rfl
theorem s100_175 {l0 l1 : AV} {s0 : Nat} {M : Mem} {P : PMem} (hk : kd s0 = 1) : evL 100 175 [l0, l1] [Rf s0] (Hp M P) = evL 100 178 [l0, l1] [Rf (rfd s0 0)] (Hp M P) := e_getR c100_175 rfl hk
theorem c100_178 : cd 100 178 = some (178, .invokevirtual 154, 3, 69, 0, 266) := rfl
theorem s100_178 {l0 l1 : AV} {s0 : Nat} {M : Mem} {P : PMem} (hk : kd s0 = 5) : evL 100 178 [l0, l1] [Rf s0] (Hp M P) = cont (evM 69 [Rf s0] (Hp M P)) (fun r h => evL 100 181 [l0, l1] (rl r []) h) := e_callV (av' := []) (rest := []) (c := 5) c100_178 rfl rfl rfl rfl rfl rfl rfl hk rfl
theorem c100_181 : cd 100 181 = some (181, .ireturn, 1, 0, 0, 0) := rfl
theorem s100_181 {l0 l1 : AV} {s0 : Int} {h : AH} : evL 100 181 [l0, l1] [I s0] h = some (some (I s0), h) := e_ret c100_181 rfl
theorem c100_182 : cd 100 182 = some (182, .aload_n 0, 1, 0, 0, 0) := rfl
theorem s100_182 {l1 : AV} {l0 : Option Nat} {h : AH} : evL 100 182 [.inr (.inl l0), l1] [] h = evL 100 183 [.inr (.inl l0), l1] [.inr (.inl l0)] h := ev_go c100_182 rfl
theorem c100_183 : cd 100 183 = some (183, .getfield 12, 3, 7, 0, 233) := rfl
theorem s100_183 {l0 l1 : AV} {s0 : Nat} {M : Mem} {P : PMem} (hk : kd s0 = 7) : evL 100 183 [l0, l1] [Rf s0] (Hp M P) = evL 100 186 [l0, l1] [Rf (rfd s0 0)] (Hp M P) := e_getR c100_183 rfl hk
theorem c100_186 : cd 100 186 = some (186, .getfield 116, 3, 1, 0, 114) := rfl
theorem s100_186 {l0 l1 : AV} {s0 : Nat} {M : Mem} {P : PMem} (hk : kd s0 = 1) : evL 100 186 [l0, l1] [Rf s0] (Hp M P) = evL 100 189 [l0, l1] [Rf (rfd s0 0)] (Hp M P) := e_getR c100_186 rfl hk
theorem c100_189 : cd 100 189 = some (189, .invokevirtual 157, 3, 71, 0, 274) := rfl
theorem s100_189 {l0 l1 : AV} {s0 : Nat} {M : Mem} {P : PMem} (hk : kd s0 = 5) : evL 100 189 [l0, l1] [Rf s0] (Hp M P) = cont (evM 71 [Rf s0] (Hp M P)) (fun r h => evL 100 192 [l0, l1] (rl r []) h) := e_callV (av' := []) (rest := []) (c := 5) c100_189 rfl rfl rfl rfl rfl rfl rfl hk rfl
theorem c100_192 : cd 100 192 = some (192, .ireturn, 1, 0, 0, 0) := rfl
theorem s100_192 {l0 l1 : AV} {s0 : Int} {h : AH} : evL 100 192 [l0, l1] [I s0] h = some (some (I s0), h) := e_ret c100_192 rfl
theorem c100_193 : cd 100 193 = some (193, .aload_n 0, 1, 0, 0, 0) := rfl
theorem s100_193 {l1 : AV} {l0 : Option Nat} {h : AH} : evL 100 193 [.inr (.inl l0), l1] [] h = evL 100 194 [.inr (.inl l0), l1] [.inr (.inl l0)] h := ev_go c100_193 rfl
theorem c100_194 : cd 100 194 = some (194, .getfield 12, 3, 7, 0, 233) := rfl
theorem s100_194 {l0 l1 : AV} {s0 : Nat} {M : Mem} {P : PMem} (hk : kd s0 = 7) : evL 100 194 [l0, l1] [Rf s0] (Hp M P) = evL 100 197 [l0, l1] [Rf (rfd s0 0)] (Hp M P) := e_getR c100_194 rfl hk
theorem c100_197 : cd 100 197 = some (197, .getfield 83, 3, 1, 1, 116) := rfl
theorem s100_197 {l0 l1 : AV} {s0 : Nat} {M : Mem} {P : PMem} (hk : kd s0 = 1) : evL 100 197 [l0, l1] [Rf s0] (Hp M P) = evL 100 200 [l0, l1] [Rf (rfd s0 1)] (Hp M P) := e_getR c100_197 rfl hk
theorem c100_200 : cd 100 200 = some (200, .invokevirtual 160, 3, 12, 0, 284) := rfl
theorem s100_200 {l0 l1 : AV} {s0 : Nat} {M : Mem} {P : PMem} (hk : kd s0 = 0) : evL 100 200 [l0, l1] [Rf s0] (Hp M P) = cont (evM 12 [Rf s0] (Hp M P)) (fun r h => evL 100 203 [l0, l1] (rl r []) h) := e_callV (av' := []) (rest := []) (c := 0) c100_200 rfl rfl rfl rfl rfl rfl rfl hk rfl
theorem c100_203 : cd 100 203 = some (203, .ireturn, 1, 0, 0, 0) := rfl
theorem s100_203 {l0 l1 : AV} {s0 : Int} {h : AH} : evL 100 203 [l0, l1] [I s0] h = some (some (I s0), h) := e_ret c100_203 rfl
theorem c100_204 : cd 100 204 = some (204, .aload_n 0, 1, 0, 0, 0) := rfl
theorem s100_204 {l1 : AV} {l0 : Option Nat} {h : AH} : evL 100 204 [.inr (.inl l0), l1] [] h = evL 100 205 [.inr (.inl l0), l1] [.inr (.inl l0)] h := ev_go c100_204 rfl
theorem c100_205 : cd 100 205 = some (205, .getfield 12, 3, 7, 0, 233) := rfl
theorem s100_205 {l0 l1 : AV} {s0 : Nat} {M : Mem} {P : PMem} (hk : kd s0 = 7) : evL 100 205 [l0, l1] [Rf s0] (Hp M P) = evL 100 208 [l0, l1] [Rf (rfd s0 0)] (Hp M P) := e_getR c100_205 rfl hk
theorem c100_208 : cd 100 208 = some (208, .getfield 83, 3, 1, 1, 116) := rfl
theorem s100_208 {l0 l1 : AV} {s0 : Nat} {M : Mem} {P : PMem} (hk : kd s0 = 1) : evL 100 208 [l0, l1] [Rf s0] (Hp M P) = evL 100 211 [l0, l1] [Rf (rfd s0 1)] (Hp M P) := e_getR c100_208 rfl hk
theorem c100_211 : cd 100 211 = some (211, .invokevirtual 163, 3, 14, 0, 297) := rfl
theorem s100_211 {l0 l1 : AV} {s0 : Nat} {M : Mem} {P : PMem} (hk : kd s0 = 0) : evL 100 211 [l0, l1] [Rf s0] (Hp M P) = cont (evM 14 [Rf s0] (Hp M P)) (fun r h => evL 100 214 [l0, l1] (rl r []) h) := e_callV (av' := []) (rest := []) (c := 0) c100_211 rfl rfl rfl rfl rfl rfl rfl hk rfl
theorem c100_214 : cd 100 214 = some (214, .ireturn, 1, 0, 0, 0) := rfl
theorem s100_214 {l0 l1 : AV} {s0 : Int} {h : AH} : evL 100 214 [l0, l1] [I s0] h = some (some (I s0), h) := e_ret c100_214 rfl
theorem c100_215 : cd 100 215 = some (215, .aload_n 0, 1, 0, 0, 0) := rfl
theorem s100_215 {l1 : AV} {l0 : Option Nat} {h : AH} : evL 100 215 [.inr (.inl l0), l1] [] h = evL 100 216 [.inr (.inl l0), l1] [.inr (.inl l0)] h := ev_go c100_215 rfl
theorem c100_216 : cd 100 216 = some (216, .getfield 12, 3, 7, 0, 233) := rfl
theorem s100_216 {l0 l1 : AV} {s0 : Nat} {M : Mem} {P : PMem} (hk : kd s0 = 7) : evL 100 216 [l0, l1] [Rf s0] (Hp M P) = evL 100 219 [l0, l1] [Rf (rfd s0 0)] (Hp M P) := e_getR c100_216 rfl hk
theorem c100_219 : cd 100 219 = some (219, .invokevirtual 166, 3, 33, 0, 305) := rfl
theorem s100_219 {l0 l1 : AV} {s0 : Nat} {M : Mem} {P : PMem} (hk : kd s0 = 1) : evL 100 219 [l0, l1] [Rf s0] (Hp M P) = cont (evM 33 [Rf s0] (Hp M P)) (fun r h => evL 100 222 [l0, l1] (rl r []) h) := e_callV (av' := []) (rest := []) (c := 1) c100_219 rfl rfl rfl rfl rfl rfl rfl hk rfl
theorem c100_222 : cd 100 222 = some (222, .ireturn, 1, 0, 0, 0) := rfl
theorem s100_222 {l0 l1 : AV} {s0 : Int} {h : AH} : evL 100 222 [l0, l1] [I s0] h = some (some (I s0), h) := e_ret c100_222 rfl
theorem c100_223 : cd 100 223 = some (223, .aload_n 0, 1, 0, 0, 0) := rfl
theorem s100_223 {l1 : AV} {l0 : Option Nat} {h : AH} : evL 100 223 [.inr (.inl l0), l1] [] h = evL 100 224 [.inr (.inl l0), l1] [.inr (.inl l0)] h := ev_go c100_223 rfl
theorem c100_224 : cd 100 224 = some (224, .getfield 12, 3, 7, 0, 233) := rfl
theorem s100_224 {l0 l1 : AV} {s0 : Nat} {M : Mem} {P : PMem} (hk : kd s0 = 7) : evL 100 224 [l0, l1] [Rf s0] (Hp M P) = evL 100 227 [l0, l1] [Rf (rfd s0 0)] (Hp M P) := e_getR c100_224 rfl hk
theorem c100_227 : cd 100 227 = some (227, .getfield 169, 3, 1, 8, 129) := rfl
theorem s100_227 {l0 l1 : AV} {s0 : Nat} {M : Mem} {P : PMem} (hk : kd s0 = 1) : evL 100 227 [l0, l1] [Rf s0] (Hp M P) = evL 100 230 [l0, l1] [I (M s0 8)] (Hp M P) := e_getI c100_227 rfl hk
theorem c100_230 : cd 100 230 = some (230, .ireturn, 1, 0, 0, 0) := rfl
theorem s100_230 {l0 l1 : AV} {s0 : Int} {h : AH} : evL 100 230 [l0, l1] [I s0] h = some (some (I s0), h) := e_ret c100_230 rfl
theorem c100_231 : cd 100 231 = some (231, .aload_n 0, 1, 0, 0, 0) := rfl
theorem s100_231 {l1 : AV} {l0 : Option Nat} {h : AH} : evL 100 231 [.inr (.inl l0), l1] [] h = evL 100 232 [.inr (.inl l0), l1] [.inr (.inl l0)] h := ev_go c100_231 rfl
theorem c100_232 : cd 100 232 = some (232, .getfield 12, 3, 7, 0, 233) := rfl
theorem s100_232 {l0 l1 : AV} {s0 : Nat} {M : Mem} {P : PMem} (hk : kd s0 = 7) : evL 100 232 [l0, l1] [Rf s0] (Hp M P) = evL 100 235 [l0, l1] [Rf (rfd s0 0)] (Hp M P) := e_getR c100_232 rfl hk
theorem c100_235 : cd 100 235 = some (235, .getfield 172, 3, 1, 9, 131) := rfl
theorem s100_235 {l0 l1 : AV} {s0 : Nat} {M : Mem} {P : PMem} (hk : kd s0 = 1) : evL 100 235 [l0, l1] [Rf s0] (Hp M P) = evL 100 238 [l0, l1] [I (M s0 9)] (Hp M P) := e_getI c100_235 rfl hk
theorem c100_238 : cd 100 238 = some (238, .ireturn, 1, 0, 0, 0) := rfl
theorem s100_238 {l0 l1 : AV} {s0 : Int} {h : AH} : evL 100 238 [l0, l1] [I s0] h = some (some (I s0), h) := e_ret c100_238 rfl
theorem c100_239 : cd 100 239 = some (239, .aload_n 0, 1, 0, 0, 0) := rfl
theorem s100_239 {l1 : AV} {l0 : Option Nat} {h : AH} : evL 100 239 [.inr (.inl l0), l1] [] h = evL 100 240 [.inr (.inl l0), l1] [.inr (.inl l0)] h := ev_go c100_239 rfl
theorem c100_240 : cd 100 240 = some (240, .getfield 12, 3, 7, 0, 233) := rfl
theorem s100_240 {l0 l1 : AV} {s0 : Nat} {M : Mem} {P : PMem} (hk : kd s0 = 7) : evL 100 240 [l0, l1] [Rf s0] (Hp M P) = evL 100 243 [l0, l1] [Rf (rfd s0 0)] (Hp M P) := e_getR c100_240 rfl hk
theorem c100_243 : cd 100 243 = some (243, .getfield 175, 3, 1, 3, 119) := rfl
theorem s100_243 {l0 l1 : AV} {s0 : Nat} {M : Mem} {P : PMem} (hk : kd s0 = 1) : evL 100 243 [l0, l1] [Rf s0] (Hp M P) = evL 100 246 [l0, l1] [I (M s0 3)] (Hp M P) := e_getI c100_243 rfl hk
theorem c100_246 : cd 100 246 = some (246, .ireturn, 1, 0, 0, 0) := rfl
theorem s100_246 {l0 l1 : AV} {s0 : Int} {h : AH} : evL 100 246 [l0, l1] [I s0] h = some (some (I s0), h) := e_ret c100_246 rfl
theorem c100_247 : cd 100 247 = some (247, .aload_n 0, 1, 0, 0, 0) := rfl
theorem s100_247 {l1 : AV} {l0 : Option Nat} {h : AH} : evL 100 247 [.inr (.inl l0), l1] [] h = evL 100 248 [.inr (.inl l0), l1] [.inr (.inl l0)] h := ev_go c100_247 rfl
theorem c100_248 : cd 100 248 = some (248, .getfield 29, 3, 7, 3, 236) := rfl
theorem s100_248 {l0 l1 : AV} {s0 : Nat} {M : Mem} {P : PMem} (hk : kd s0 = 7) : evL 100 248 [l0, l1] [Rf s0] (Hp M P) = evL 100 251 [l0, l1] [Rf (rfd s0 3)] (Hp M P) := e_getR c100_248 rfl hk
theorem c100_251 : cd 100 251 = some (251, .invokevirtual 74, 3, 59, 0, 324) := rfl
theorem s100_251 {l0 l1 : AV} {s0 : Nat} {M : Mem} {P : PMem} (hk : kd s0 = 4) : evL 100 251 [l0, l1] [Rf s0] (Hp M P) = cont (evM 59 [Rf s0] (Hp M P)) (fun r h => evL 100 254 [l0, l1] (rl r []) h) := e_callV (av' := []) (rest := []) (c := 4) c100_251 rfl rfl rfl rfl rfl rfl rfl hk rfl
theorem c100_254 : cd 100 254 = some (254, .ireturn, 1, 0, 0, 0) := rfl
theorem s100_254 {l0 l1 : AV} {s0 : Int} {h : AH} : evL 100 254 [l0, l1] [I s0] h = some (some (I s0), h) := e_ret c100_254 rfl
theorem c100_255 : cd 100 255 = some (255, .aload_n 0, 1, 0, 0, 0) := rfl
theorem s100_255 {l1 : AV} {l0 : Option Nat} {h : AH} : evL 100 255 [.inr (.inl l0), l1] [] h = evL 100 256 [.inr (.inl l0), l1] [.inr (.inl l0)] h := ev_go c100_255 rfl
theorem c100_256 : cd 100 256 = some (256, .getfield 22, 3, 7, 2, 235) := rfl
theorem s100_256 {l0 l1 : AV} {s0 : Nat} {M : Mem} {P : PMem} (hk : kd s0 = 7) : evL 100 256 [l0, l1] [Rf s0] (Hp M P) = evL 100 259 [l0, l1] [Rf (rfd s0 2)] (Hp M P) := e_getR c100_256 rfl hk
theorem c100_259 : cd 100 259 = some (259, .invokevirtual 178, 3, 47, 0, 328) := rfl
theorem s100_259 {l0 l1 : AV} {s0 : Nat} {M : Mem} {P : PMem} (hk : kd s0 = 2) : evL 100 259 [l0, l1] [Rf s0] (Hp M P) = cont (evM 47 [Rf s0] (Hp M P)) (fun r h => evL 100 262 [l0, l1] (rl r []) h) := e_callV (av' := []) (rest := []) (c := 2) c100_259 rfl rfl rfl rfl rfl rfl rfl hk rfl
theorem c100_262 : cd 100 262 = some (262, .ireturn, 1, 0, 0, 0) := rfl
theorem s100_262 {l0 l1 : AV} {s0 : Int} {h : AH} : evL 100 262 [l0, l1] [I s0] h = some (some (I s0), h) := e_ret c100_262 rfl
theorem c100_263 : cd 100 263 = some (263, .iconst (-1), 1, 0, 0, 0) := rfl
theorem s100_263 {l0 l1 : AV} {h : AH} : evL 100 263 [l0, l1] [] h = evL 100 264 [l0, l1] [I (-1)] h := ev_go c100_263 rfl
theorem c100_264 : cd 100 264 = some (264, .ireturn, 1, 0, 0, 0) := rfl
theorem s100_264 {l0 l1 : AV} {s0 : Int} {h : AH} : evL 100 264 [l0, l1] [I s0] h = some (some (I s0), h) := e_ret c100_264 rfl
/-! 101: TankDivers.leader()I -/
theorem en101 {l0 : AV} {h : AH} : evM 101 [l0] h = evL 101 0 [l0] [] h := rfl
theorem c101_0 : cd 101 0 = some (0, .aload_n 0, 1, 0, 0, 0) := rfl
theorem s101_0 {l0 : Option Nat} {h : AH} : evL 101 0 [.inr (.inl l0)] [] h = evL 101 1 [.inr (.inl l0)] [.inr (.inl l0)] h := ev_go c101_0 rfl
theorem c101_1 : cd 101 1 = some (1, .getfield 12, 3, 7, 0, 233) := rfl
theorem s101_1 {l0 : AV} {s0 : Nat} {M : Mem} {P : PMem} (hk : kd s0 = 7) : evL 101 1 [l0] [Rf s0] (Hp M P) = evL 101 4 [l0] [Rf (rfd s0 0)] (Hp M P) := e_getR c101_1 rfl hk
theorem c101_4 : cd 101 4 = some (4, .getfield 83, 3, 1, 1, 116) := rfl
theorem s101_4 {l0 : AV} {s0 : Nat} {M : Mem} {P : PMem} (hk : kd s0 = 1) : evL 101 4 [l0] [Rf s0] (Hp M P) = evL 101 7 [l0] [Rf (rfd s0 1)] (Hp M P) := e_getR c101_4 rfl hk
theorem c101_7 : cd 101 7 = some (7, .invokevirtual 180, 3, 21, 0, 435) := rfl
theorem s101_7 {l0 : AV} {s0 : Nat} {M : Mem} {P : PMem} (hk : kd s0 = 0) : evL 101 7 [l0] [Rf s0] (Hp M P) = cont (evM 21 [Rf s0] (Hp M P)) (fun r h => evL 101 10 [l0] (rl r []) h) := e_callV (av' := []) (rest := []) (c := 0) c101_7 rfl rfl rfl rfl rfl rfl rfl hk rfl
theorem c101_10 : cd 101 10 = some (10, .ireturn, 1, 0, 0, 0) := rfl
theorem s101_10 {l0 : AV} {s0 : Int} {h : AH} : evL 101 10 [l0] [I s0] h = some (some (I s0), h) := e_ret c101_10 rfl
/-! 102: TankDivers.chances(IZI)I -/
theorem en102 {l0 l1 l2 l3 : AV} {h : AH} : evM 102 [l0, l1, l2, l3] h = evL 102 0 [l0, l1, l2, l3] [] h := rfl
theorem c102_0 : cd 102 0 = some (0, .iload_n 1, 1, 0, 0, 0) := rfl
theorem s102_0 {l0 l2 l3 : AV} {l1 : Int} {h : AH} : evL 102 0 [l0, I l1, l2, l3] [] h = evL 102 1 [l0, I l1, l2, l3] [I l1] h := ev_go c102_0 rfl
theorem c102_1 : cd 102 1 = some (1, .ifCond .lt 26, 3, 0, 0, 0) := rfl
theorem s102_1 {l0 l1 l2 l3 : AV} {s0 : Int} {h : AH} : evL 102 1 [l0, l1, l2, l3] [I s0] h = if s0 < 0 then evL 102 27 [l0, l1, l2, l3] [] h else evL 102 4 [l0, l1, l2, l3] [] h := e_if_lt c102_1 rfl rfl
theorem c102_4 : cd 102 4 = some (4, .iload_n 1, 1, 0, 0, 0) := rfl
theorem s102_4 {l0 l2 l3 : AV} {l1 : Int} {h : AH} : evL 102 4 [l0, I l1, l2, l3] [] h = evL 102 5 [l0, I l1, l2, l3] [I l1] h := ev_go c102_4 rfl
theorem c102_5 : cd 102 5 = some (5, .aload_n 0, 1, 0, 0, 0) := rfl
theorem s102_5 {l1 l2 l3 s0 : AV} {l0 : Option Nat} {h : AH} : evL 102 5 [.inr (.inl l0), l1, l2, l3] [s0] h = evL 102 6 [.inr (.inl l0), l1, l2, l3] [.inr (.inl l0), s0] h := ev_go c102_5 rfl
theorem c102_6 : cd 102 6 = some (6, .getfield 12, 3, 7, 0, 233) := rfl
theorem s102_6 {l0 l1 l2 l3 s1 : AV} {s0 : Nat} {M : Mem} {P : PMem} (hk : kd s0 = 7) : evL 102 6 [l0, l1, l2, l3] [Rf s0, s1] (Hp M P) = evL 102 9 [l0, l1, l2, l3] [Rf (rfd s0 0), s1] (Hp M P) := e_getR c102_6 rfl hk
theorem c102_9 : cd 102 9 = some (9, .getfield 116, 3, 1, 0, 114) := rfl
theorem s102_9 {l0 l1 l2 l3 s1 : AV} {s0 : Nat} {M : Mem} {P : PMem} (hk : kd s0 = 1) : evL 102 9 [l0, l1, l2, l3] [Rf s0, s1] (Hp M P) = evL 102 12 [l0, l1, l2, l3] [Rf (rfd s0 0), s1] (Hp M P) := e_getR c102_9 rfl hk
theorem c102_12 : cd 102 12 = some (12, .getfield 120, 3, 5, 1, 61) := rfl
theorem s102_12 {l0 l1 l2 l3 s1 : AV} {s0 : Nat} {M : Mem} {P : PMem} (hk : kd s0 = 5) : evL 102 12 [l0, l1, l2, l3] [Rf s0, s1] (Hp M P) = evL 102 15 [l0, l1, l2, l3] [I (M s0 1), s1] (Hp M P) := e_getI c102_12 rfl hk
theorem c102_15 : cd 102 15 = some (15, .if_icmp .gt 12, 3, 0, 0, 0) := rfl
theorem s102_15 {l0 l1 l2 l3 : AV} {s0 s1 : Int} {h : AH} : evL 102 15 [l0, l1, l2, l3] [I s0, I s1] h = if s0 < s1 then evL 102 27 [l0, l1, l2, l3] [] h else evL 102 18 [l0, l1, l2, l3] [] h := e_icmp_gt c102_15 rfl rfl
theorem c102_18 : cd 102 18 = some (18, .iload_n 3, 1, 0, 0, 0) := rfl
theorem s102_18 {l0 l1 l2 : AV} {l3 : Int} {h : AH} : evL 102 18 [l0, l1, l2, I l3] [] h = evL 102 19 [l0, l1, l2, I l3] [I l3] h := ev_go c102_18 rfl
theorem c102_19 : cd 102 19 = some (19, .ifCond .lt 8, 3, 0, 0, 0) := rfl
theorem s102_19 {l0 l1 l2 l3 : AV} {s0 : Int} {h : AH} : evL 102 19 [l0, l1, l2, l3] [I s0] h = if s0 < 0 then evL 102 27 [l0, l1, l2, l3] [] h else evL 102 22 [l0, l1, l2, l3] [] h := e_if_lt c102_19 rfl rfl
theorem c102_22 : cd 102 22 = some (22, .iload_n 3, 1, 0, 0, 0) := rfl
theorem s102_22 {l0 l1 l2 : AV} {l3 : Int} {h : AH} : evL 102 22 [l0, l1, l2, I l3] [] h = evL 102 23 [l0, l1, l2, I l3] [I l3] h := ev_go c102_22 rfl
theorem c102_23 : cd 102 23 = some (23, .iconst 1, 1, 0, 0, 0) := rfl
theorem s102_23 {l0 l1 l2 l3 s0 : AV} {h : AH} : evL 102 23 [l0, l1, l2, l3] [s0] h = evL 102 24 [l0, l1, l2, l3] [I 1, s0] h := ev_go c102_23 rfl
theorem c102_24 : cd 102 24 = some (24, .if_icmp .le 5, 3, 0, 0, 0) := rfl
theorem s102_24 {l0 l1 l2 l3 : AV} {s0 s1 : Int} {h : AH} : evL 102 24 [l0, l1, l2, l3] [I s0, I s1] h = if s1 ≤ s0 then evL 102 29 [l0, l1, l2, l3] [] h else evL 102 27 [l0, l1, l2, l3] [] h := e_icmp_le c102_24 rfl rfl
theorem c102_27 : cd 102 27 = some (27, .iconst (-1), 1, 0, 0, 0) := rfl
theorem s102_27 {l0 l1 l2 l3 : AV} {h : AH} : evL 102 27 [l0, l1, l2, l3] [] h = evL 102 28 [l0, l1, l2, l3] [I (-1)] h := ev_go c102_27 rfl
theorem c102_28 : cd 102 28 = some (28, .ireturn, 1, 0, 0, 0) := rfl
theorem s102_28 {l0 l1 l2 l3 : AV} {s0 : Int} {h : AH} : evL 102 28 [l0, l1, l2, l3] [I s0] h = some (some (I s0), h) := e_ret c102_28 rfl
theorem c102_29 : cd 102 29 = some (29, .aload_n 0, 1, 0, 0, 0) := rfl
theorem s102_29 {l1 l2 l3 : AV} {l0 : Option Nat} {h : AH} : evL 102 29 [.inr (.inl l0), l1, l2, l3] [] h = evL 102 30 [.inr (.inl l0), l1, l2, l3] [.inr (.inl l0)] h := ev_go c102_29 rfl
theorem c102_30 : cd 102 30 = some (30, .getfield 12, 3, 7, 0, 233) := rfl
theorem s102_30 {l0 l1 l2 l3 : AV} {s0 : Nat} {M : Mem} {P : PMem} (hk : kd s0 = 7) : evL 102 30 [l0, l1, l2, l3] [Rf s0] (Hp M P) = evL 102 33 [l0, l1, l2, l3] [Rf (rfd s0 0)] (Hp M P) := e_getR c102_30 rfl hk
theorem c102_33 : cd 102 33 = some (33, .iload_n 2, 1, 0, 0, 0) := rfl
theorem s102_33 {l0 l1 l3 s0 : AV} {l2 : Int} {h : AH} : evL 102 33 [l0, l1, I l2, l3] [s0] h = evL 102 34 [l0, l1, I l2, l3] [I l2, s0] h := ev_go c102_33 rfl
theorem c102_34 : cd 102 34 = some (34, .invokevirtual 183, 3, 34, 0, 458) := rfl
theorem s102_34 {l0 l1 l2 l3 : AV} {s0 : Int} {s1 : Nat} {M : Mem} {P : PMem} (hk : kd s1 = 1) : evL 102 34 [l0, l1, l2, l3] [I s0, Rf s1] (Hp M P) = cont (evM 34 [Rf s1, I s0] (Hp M P)) (fun r h => evL 102 37 [l0, l1, l2, l3] (rl r []) h) := e_callV (av' := [I s0]) (rest := []) (c := 1) c102_34 rfl rfl rfl rfl rfl rfl rfl hk rfl
theorem c102_37 : cd 102 37 = some (37, .ifCond .eq 6, 3, 0, 0, 0) := rfl
theorem s102_37 {l0 l1 l2 l3 : AV} {s0 : Int} {h : AH} : evL 102 37 [l0, l1, l2, l3] [I s0] h = if s0 = 0 then evL 102 43 [l0, l1, l2, l3] [] h else evL 102 40 [l0, l1, l2, l3] [] h := e_if_eq c102_37 rfl rfl
theorem c102_40 : cd 102 40 = some (40, .bipush (-2), 2, 0, 0, 0) := rfl
theorem s102_40 {l0 l1 l2 l3 : AV} {h : AH} : evL 102 40 [l0, l1, l2, l3] [] h = evL 102 42 [l0, l1, l2, l3] [I (-2)] h := ev_go c102_40 rfl
theorem c102_42 : cd 102 42 = some (42, .ireturn, 1, 0, 0, 0) := rfl
theorem s102_42 {l0 l1 l2 l3 : AV} {s0 : Int} {h : AH} : evL 102 42 [l0, l1, l2, l3] [I s0] h = some (some (I s0), h) := e_ret c102_42 rfl
theorem c102_43 : cd 102 43 = some (43, .iload_n 3, 1, 0, 0, 0) := rfl
theorem s102_43 {l0 l1 l2 : AV} {l3 : Int} {h : AH} : evL 102 43 [l0, l1, l2, I l3] [] h = evL 102 44 [l0, l1, l2, I l3] [I l3] h := ev_go c102_43 rfl
theorem c102_44 : cd 102 44 = some (44, .ifCond .ne 19, 3, 0, 0, 0) := rfl
theorem s102_44 {l0 l1 l2 l3 : AV} {s0 : Int} {h : AH} : evL 102 44 [l0, l1, l2, l3] [I s0] h = if s0 = 0 then evL 102 47 [l0, l1, l2, l3] [] h else evL 102 63 [l0, l1, l2, l3] [] h := e_if_ne c102_44 rfl rfl
theorem c102_47 : cd 102 47 = some (47, .aload_n 0, 1, 0, 0, 0) := rfl
theorem s102_47 {l1 l2 l3 : AV} {l0 : Option Nat} {h : AH} : evL 102 47 [.inr (.inl l0), l1, l2, l3] [] h = evL 102 48 [.inr (.inl l0), l1, l2, l3] [.inr (.inl l0)] h := ev_go c102_47 rfl
theorem c102_48 : cd 102 48 = some (48, .getfield 36, 3, 7, 4, 237) := rfl
theorem s102_48 {l0 l1 l2 l3 : AV} {s0 : Nat} {M : Mem} {P : PMem} (hk : kd s0 = 7) : evL 102 48 [l0, l1, l2, l3] [Rf s0] (Hp M P) = evL 102 51 [l0, l1, l2, l3] [Rf (rfd s0 4)] (Hp M P) := e_getR c102_48 rfl hk
theorem c102_51 : cd 102 51 = some (51, .aload_n 0, 1, 0, 0, 0) := rfl
theorem s102_51 {l1 l2 l3 s0 : AV} {l0 : Option Nat} {h : AH} : evL 102 51 [.inr (.inl l0), l1, l2, l3] [s0] h = evL 102 52 [.inr (.inl l0), l1, l2, l3] [.inr (.inl l0), s0] h := ev_go c102_51 rfl
theorem c102_52 : cd 102 52 = some (52, .getfield 12, 3, 7, 0, 233) := rfl
theorem s102_52 {l0 l1 l2 l3 s1 : AV} {s0 : Nat} {M : Mem} {P : PMem} (hk : kd s0 = 7) : evL 102 52 [l0, l1, l2, l3] [Rf s0, s1] (Hp M P) = evL 102 55 [l0, l1, l2, l3] [Rf (rfd s0 0), s1] (Hp M P) := e_getR c102_52 rfl hk
theorem c102_55 : cd 102 55 = some (55, .iload_n 1, 1, 0, 0, 0) := rfl
theorem s102_55 {l0 l2 l3 s0 s1 : AV} {l1 : Int} {h : AH} : evL 102 55 [l0, I l1, l2, l3] [s0, s1] h = evL 102 56 [l0, I l1, l2, l3] [I l1, s0, s1] h := ev_go c102_55 rfl
theorem c102_56 : cd 102 56 = some (56, .iload_n 2, 1, 0, 0, 0) := rfl
theorem s102_56 {l0 l1 l3 s0 s1 s2 : AV} {l2 : Int} {h : AH} : evL 102 56 [l0, l1, I l2, l3] [s0, s1, s2] h = evL 102 57 [l0, l1, I l2, l3] [I l2, s0, s1, s2] h := ev_go c102_56 rfl
theorem c102_57 : cd 102 57 = some (57, .invokevirtual 186, 3, 53, 0, 472) := rfl
theorem s102_57 {l0 l1 l2 l3 : AV} {s0 s1 : Int} {s2 s3 : Nat} {M : Mem} {P : PMem} (hk : kd s3 = 3) : evL 102 57 [l0, l1, l2, l3] [I s0, I s1, Rf s2, Rf s3] (Hp M P) = cont (evM 53 [Rf s3, Rf s2, I s1, I s0] (Hp M P)) (fun r h => evL 102 60 [l0, l1, l2, l3] (rl r []) h) := e_callV (av' := [Rf s2, I s1, I s0]) (rest := []) (c := 3) c102_57 rfl rfl rfl rfl rfl rfl rfl hk rfl
theorem c102_60 : cd 102 60 = some (60, .goto 16, 3, 0, 0, 0) := rfl
theorem s102_60 {l0 l1 l2 l3 s0 : AV} {h : AH} : evL 102 60 [l0, l1, l2, l3] [s0] h = evL 102 76 [l0, l1, l2, l3] [s0] h := ev_go c102_60 rfl
theorem c102_63 : cd 102 63 = some (63, .aload_n 0, 1, 0, 0, 0) := rfl
theorem s102_63 {l1 l2 l3 : AV} {l0 : Option Nat} {h : AH} : evL 102 63 [.inr (.inl l0), l1, l2, l3] [] h = evL 102 64 [.inr (.inl l0), l1, l2, l3] [.inr (.inl l0)] h := ev_go c102_63 rfl
theorem c102_64 : cd 102 64 = some (64, .getfield 36, 3, 7, 4, 237) := rfl
theorem s102_64 {l0 l1 l2 l3 : AV} {s0 : Nat} {M : Mem} {P : PMem} (hk : kd s0 = 7) : evL 102 64 [l0, l1, l2, l3] [Rf s0] (Hp M P) = evL 102 67 [l0, l1, l2, l3] [Rf (rfd s0 4)] (Hp M P) := e_getR c102_64 rfl hk
theorem c102_67 : cd 102 67 = some (67, .aload_n 0, 1, 0, 0, 0) := rfl
theorem s102_67 {l1 l2 l3 s0 : AV} {l0 : Option Nat} {h : AH} : evL 102 67 [.inr (.inl l0), l1, l2, l3] [s0] h = evL 102 68 [.inr (.inl l0), l1, l2, l3] [.inr (.inl l0), s0] h := ev_go c102_67 rfl
theorem c102_68 : cd 102 68 = some (68, .getfield 12, 3, 7, 0, 233) := rfl
theorem s102_68 {l0 l1 l2 l3 s1 : AV} {s0 : Nat} {M : Mem} {P : PMem} (hk : kd s0 = 7) : evL 102 68 [l0, l1, l2, l3] [Rf s0, s1] (Hp M P) = evL 102 71 [l0, l1, l2, l3] [Rf (rfd s0 0), s1] (Hp M P) := e_getR c102_68 rfl hk
theorem c102_71 : cd 102 71 = some (71, .iload_n 1, 1, 0, 0, 0) := rfl
theorem s102_71 {l0 l2 l3 s0 s1 : AV} {l1 : Int} {h : AH} : evL 102 71 [l0, I l1, l2, l3] [s0, s1] h = evL 102 72 [l0, I l1, l2, l3] [I l1, s0, s1] h := ev_go c102_71 rfl
theorem c102_72 : cd 102 72 = some (72, .iload_n 2, 1, 0, 0, 0) := rfl
theorem s102_72 {l0 l1 l3 s0 s1 s2 : AV} {l2 : Int} {h : AH} : evL 102 72 [l0, l1, I l2, l3] [s0, s1, s2] h = evL 102 73 [l0, l1, I l2, l3] [I l2, s0, s1, s2] h := ev_go c102_72 rfl
theorem c102_73 : cd 102 73 = some (73, .invokevirtual 190, 3, 54, 0, 494) := rfl
theorem s102_73 {l0 l1 l2 l3 : AV} {s0 s1 : Int} {s2 s3 : Nat} {M : Mem} {P : PMem} (hk : kd s3 = 3) : evL 102 73 [l0, l1, l2, l3] [I s0, I s1, Rf s2, Rf s3] (Hp M P) = cont (evM 54 [Rf s3, Rf s2, I s1, I s0] (Hp M P)) (fun r h => evL 102 76 [l0, l1, l2, l3] (rl r []) h) := e_callV (av' := [Rf s2, I s1, I s0]) (rest := []) (c := 3) c102_73 rfl rfl rfl rfl rfl rfl rfl hk rfl
theorem c102_76 : cd 102 76 = some (76, .ireturn, 1, 0, 0, 0) := rfl
theorem s102_76 {l0 l1 l2 l3 : AV} {s0 : Int} {h : AH} : evL 102 76 [l0, l1, l2, l3] [I s0] h = some (some (I s0), h) := e_ret c102_76 rfl
/-! 103: TankDivers.homeward(I)I -/
theorem en103 {l0 l1 : AV} {h : AH} : evM 103 [l0, l1] h = evL 103 0 [l0, l1] [] h := rfl
theorem c103_0 : cd 103 0 = some (0, .iload_n 1, 1, 0, 0, 0) := rfl
theorem s103_0 {l0 : AV} {l1 : Int} {h : AH} : evL 103 0 [l0, I l1] [] h = evL 103 1 [l0, I l1] [I l1] h := ev_go c103_0 rfl
theorem c103_1 : cd 103 1 = some (1, .iconst 1, 1, 0, 0, 0) := rfl
theorem s103_1 {l0 l1 s0 : AV} {h : AH} : evL 103 1 [l0, l1] [s0] h = evL 103 2 [l0, l1] [I 1, s0] h := ev_go c103_1 rfl
theorem c103_2 : cd 103 2 = some (2, .if_icmp .lt 9, 3, 0, 0, 0) := rfl
theorem s103_2 {l0 l1 : AV} {s0 s1 : Int} {h : AH} : evL 103 2 [l0, l1] [I s0, I s1] h = if s1 < s0 then evL 103 11 [l0, l1] [] h else evL 103 5 [l0, l1] [] h := e_icmp_lt c103_2 rfl rfl
theorem c103_5 : cd 103 5 = some (5, .iload_n 1, 1, 0, 0, 0) := rfl
theorem s103_5 {l0 : AV} {l1 : Int} {h : AH} : evL 103 5 [l0, I l1] [] h = evL 103 6 [l0, I l1] [I l1] h := ev_go c103_5 rfl
theorem c103_6 : cd 103 6 = some (6, .bipush 6, 2, 0, 0, 0) := rfl
theorem s103_6 {l0 l1 s0 : AV} {h : AH} : evL 103 6 [l0, l1] [s0] h = evL 103 8 [l0, l1] [I 6, s0] h := ev_go c103_6 rfl
theorem c103_8 : cd 103 8 = some (8, .if_icmp .le 5, 3, 0, 0, 0) := rfl
theorem s103_8 {l0 l1 : AV} {s0 s1 : Int} {h : AH} : evL 103 8 [l0, l1] [I s0, I s1] h = if s1 ≤ s0 then evL 103 13 [l0, l1] [] h else evL 103 11 [l0, l1] [] h := e_icmp_le c103_8 rfl rfl
theorem c103_11 : cd 103 11 = some (11, .iconst (-1), 1, 0, 0, 0) := rfl
theorem s103_11 {l0 l1 : AV} {h : AH} : evL 103 11 [l0, l1] [] h = evL 103 12 [l0, l1] [I (-1)] h := ev_go c103_11 rfl
theorem c103_12 : cd 103 12 = some (12, .ireturn, 1, 0, 0, 0) := rfl
theorem s103_12 {l0 l1 : AV} {s0 : Int} {h : AH} : evL 103 12 [l0, l1] [I s0] h = some (some (I s0), h) := e_ret c103_12 rfl
theorem c103_13 : cd 103 13 = some (13, .aload_n 0, 1, 0, 0, 0) := rfl
theorem s103_13 {l1 : AV} {l0 : Option Nat} {h : AH} : evL 103 13 [.inr (.inl l0), l1] [] h = evL 103 14 [.inr (.inl l0), l1] [.inr (.inl l0)] h := ev_go c103_13 rfl
theorem c103_14 : cd 103 14 = some (14, .getfield 12, 3, 7, 0, 233) := rfl
theorem s103_14 {l0 l1 : AV} {s0 : Nat} {M : Mem} {P : PMem} (hk : kd s0 = 7) : evL 103 14 [l0, l1] [Rf s0] (Hp M P) = evL 103 17 [l0, l1] [Rf (rfd s0 0)] (Hp M P) := e_getR c103_14 rfl hk
theorem c103_17 : cd 103 17 = some (17, .iconst 0, 1, 0, 0, 0) := rfl
theorem s103_17 {l0 l1 s0 : AV} {h : AH} : evL 103 17 [l0, l1] [s0] h = evL 103 18 [l0, l1] [I 0, s0] h := ev_go c103_17 rfl
theorem c103_18 : cd 103 18 = some (18, .invokevirtual 183, 3, 34, 0, 458) := rfl
theorem s103_18 {l0 l1 : AV} {s0 : Int} {s1 : Nat} {M : Mem} {P : PMem} (hk : kd s1 = 1) : evL 103 18 [l0, l1] [I s0, Rf s1] (Hp M P) = cont (evM 34 [Rf s1, I s0] (Hp M P)) (fun r h => evL 103 21 [l0, l1] (rl r []) h) := e_callV (av' := [I s0]) (rest := []) (c := 1) c103_18 rfl rfl rfl rfl rfl rfl rfl hk rfl
theorem c103_21 : cd 103 21 = some (21, .ifCond .ne 13, 3, 0, 0, 0) := rfl
theorem s103_21 {l0 l1 : AV} {s0 : Int} {h : AH} : evL 103 21 [l0, l1] [I s0] h = if s0 = 0 then evL 103 24 [l0, l1] [] h else evL 103 34 [l0, l1] [] h := e_if_ne c103_21 rfl rfl
theorem c103_24 : cd 103 24 = some (24, .aload_n 0, 1, 0, 0, 0) := rfl
theorem s103_24 {l1 : AV} {l0 : Option Nat} {h : AH} : evL 103 24 [.inr (.inl l0), l1] [] h = evL 103 25 [.inr (.inl l0), l1] [.inr (.inl l0)] h := ev_go c103_24 rfl
theorem c103_25 : cd 103 25 = some (25, .getfield 12, 3, 7, 0, 233) := rfl
theorem s103_25 {l0 l1 : AV} {s0 : Nat} {M : Mem} {P : PMem} (hk : kd s0 = 7) : evL 103 25 [l0, l1] [Rf s0] (Hp M P) = evL 103 28 [l0, l1] [Rf (rfd s0 0)] (Hp M P) := e_getR c103_25 rfl hk
theorem c103_28 : cd 103 28 = some (28, .invokevirtual 193, 3, 31, 0, 508) := rfl
theorem s103_28 {l0 l1 : AV} {s0 : Nat} {M : Mem} {P : PMem} (hk : kd s0 = 1) : evL 103 28 [l0, l1] [Rf s0] (Hp M P) = cont (evM 31 [Rf s0] (Hp M P)) (fun r h => evL 103 31 [l0, l1] (rl r []) h) := e_callV (av' := []) (rest := []) (c := 1) c103_28 rfl rfl rfl rfl rfl rfl rfl hk rfl
theorem c103_31 : cd 103 31 = some (31, .ifCond .ne 6, 3, 0, 0, 0) := rfl
theorem s103_31 {l0 l1 : AV} {s0 : Int} {h : AH} : evL 103 31 [l0, l1] [I s0] h = if s0 = 0 then evL 103 34 [l0, l1] [] h else evL 103 37 [l0, l1] [] h := e_if_ne c103_31 rfl rfl
theorem c103_34 : cd 103 34 = some (34, .bipush (-2), 2, 0, 0, 0) := rfl
theorem s103_34 {l0 l1 : AV} {h : AH} : evL 103 34 [l0, l1] [] h = evL 103 36 [l0, l1] [I (-2)] h := ev_go c103_34 rfl
theorem c103_36 : cd 103 36 = some (36, .ireturn, 1, 0, 0, 0) := rfl
theorem s103_36 {l0 l1 : AV} {s0 : Int} {h : AH} : evL 103 36 [l0, l1] [I s0] h = some (some (I s0), h) := e_ret c103_36 rfl
theorem c103_37 : cd 103 37 = some (37, .aload_n 0, 1, 0, 0, 0) := rfl
theorem s103_37 {l1 : AV} {l0 : Option Nat} {h : AH} : evL 103 37 [.inr (.inl l0), l1] [] h = evL 103 38 [.inr (.inl l0), l1] [.inr (.inl l0)] h := ev_go c103_37 rfl
theorem c103_38 : cd 103 38 = some (38, .getfield 36, 3, 7, 4, 237) := rfl
theorem s103_38 {l0 l1 : AV} {s0 : Nat} {M : Mem} {P : PMem} (hk : kd s0 = 7) : evL 103 38 [l0, l1] [Rf s0] (Hp M P) = evL 103 41 [l0, l1] [Rf (rfd s0 4)] (Hp M P) := e_getR c103_38 rfl hk
theorem c103_41 : cd 103 41 = some (41, .aload_n 0, 1, 0, 0, 0) := rfl
theorem s103_41 {l1 s0 : AV} {l0 : Option Nat} {h : AH} : evL 103 41 [.inr (.inl l0), l1] [s0] h = evL 103 42 [.inr (.inl l0), l1] [.inr (.inl l0), s0] h := ev_go c103_41 rfl
theorem c103_42 : cd 103 42 = some (42, .getfield 12, 3, 7, 0, 233) := rfl
theorem s103_42 {l0 l1 s1 : AV} {s0 : Nat} {M : Mem} {P : PMem} (hk : kd s0 = 7) : evL 103 42 [l0, l1] [Rf s0, s1] (Hp M P) = evL 103 45 [l0, l1] [Rf (rfd s0 0), s1] (Hp M P) := e_getR c103_42 rfl hk
theorem c103_45 : cd 103 45 = some (45, .iload_n 1, 1, 0, 0, 0) := rfl
theorem s103_45 {l0 s0 s1 : AV} {l1 : Int} {h : AH} : evL 103 45 [l0, I l1] [s0, s1] h = evL 103 46 [l0, I l1] [I l1, s0, s1] h := ev_go c103_45 rfl
theorem c103_46 : cd 103 46 = some (46, .invokevirtual 196, 3, 56, 0, 509) := rfl
theorem s103_46 {l0 l1 : AV} {s0 : Int} {s1 s2 : Nat} {M : Mem} {P : PMem} (hk : kd s2 = 3) : evL 103 46 [l0, l1] [I s0, Rf s1, Rf s2] (Hp M P) = cont (evM 56 [Rf s2, Rf s1, I s0] (Hp M P)) (fun r h => evL 103 49 [l0, l1] (rl r []) h) := e_callV (av' := [Rf s1, I s0]) (rest := []) (c := 3) c103_46 rfl rfl rfl rfl rfl rfl rfl hk rfl
theorem c103_49 : cd 103 49 = some (49, .ireturn, 1, 0, 0, 0) := rfl
theorem s103_49 {l0 l1 : AV} {s0 : Int} {h : AH} : evL 103 49 [l0, l1] [I s0] h = some (some (I s0), h) := e_ret c103_49 rfl
/-! 104: TankDivers.used()I -/
theorem en104 {l0 : AV} {h : AH} : evM 104 [l0] h = evL 104 0 [l0] [] h := rfl
theorem c104_0 : cd 104 0 = some (0, .aload_n 0, 1, 0, 0, 0) := rfl
theorem s104_0 {l0 : Option Nat} {h : AH} : evL 104 0 [.inr (.inl l0)] [] h = evL 104 1 [.inr (.inl l0)] [.inr (.inl l0)] h := ev_go c104_0 rfl
theorem c104_1 : cd 104 1 = some (1, .getfield 12, 3, 7, 0, 233) := rfl
theorem s104_1 {l0 : AV} {s0 : Nat} {M : Mem} {P : PMem} (hk : kd s0 = 7) : evL 104 1 [l0] [Rf s0] (Hp M P) = evL 104 4 [l0] [Rf (rfd s0 0)] (Hp M P) := e_getR c104_1 rfl hk
theorem c104_4 : cd 104 4 = some (4, .getfield 83, 3, 1, 1, 116) := rfl
theorem s104_4 {l0 : AV} {s0 : Nat} {M : Mem} {P : PMem} (hk : kd s0 = 1) : evL 104 4 [l0] [Rf s0] (Hp M P) = evL 104 7 [l0] [Rf (rfd s0 1)] (Hp M P) := e_getR c104_4 rfl hk
theorem c104_7 : cd 104 7 = some (7, .invokevirtual 200, 3, 13, 0, 443) := rfl
theorem s104_7 {l0 : AV} {s0 : Nat} {M : Mem} {P : PMem} (hk : kd s0 = 0) : evL 104 7 [l0] [Rf s0] (Hp M P) = cont (evM 13 [Rf s0] (Hp M P)) (fun r h => evL 104 10 [l0] (rl r []) h) := e_callV (av' := []) (rest := []) (c := 0) c104_7 rfl rfl rfl rfl rfl rfl rfl hk rfl
theorem c104_10 : cd 104 10 = some (10, .ireturn, 1, 0, 0, 0) := rfl
theorem s104_10 {l0 : AV} {s0 : Int} {h : AH} : evL 104 10 [l0] [I s0] h = some (some (I s0), h) := e_ret c104_10 rfl
/-! 106: TankDivers.undo()I -/
theorem en106 {l0 : AV} {h : AH} : evM 106 [l0] h = evL 106 0 [l0] [] h := rfl
theorem c106_0 : cd 106 0 = some (0, .aload_n 0, 1, 0, 0, 0) := rfl
theorem s106_0 {l0 : Option Nat} {h : AH} : evL 106 0 [.inr (.inl l0)] [] h = evL 106 1 [.inr (.inl l0)] [.inr (.inl l0)] h := ev_go c106_0 rfl
theorem c106_1 : cd 106 1 = some (1, .getfield 22, 3, 7, 2, 235) := rfl
theorem s106_1 {l0 : AV} {s0 : Nat} {M : Mem} {P : PMem} (hk : kd s0 = 7) : evL 106 1 [l0] [Rf s0] (Hp M P) = evL 106 4 [l0] [Rf (rfd s0 2)] (Hp M P) := e_getR c106_1 rfl hk
theorem c106_4 : cd 106 4 = some (4, .aload_n 0, 1, 0, 0, 0) := rfl
theorem s106_4 {s0 : AV} {l0 : Option Nat} {h : AH} : evL 106 4 [.inr (.inl l0)] [s0] h = evL 106 5 [.inr (.inl l0)] [.inr (.inl l0), s0] h := ev_go c106_4 rfl
theorem c106_5 : cd 106 5 = some (5, .getfield 12, 3, 7, 0, 233) := rfl
theorem s106_5 {l0 s1 : AV} {s0 : Nat} {M : Mem} {P : PMem} (hk : kd s0 = 7) : evL 106 5 [l0] [Rf s0, s1] (Hp M P) = evL 106 8 [l0] [Rf (rfd s0 0), s1] (Hp M P) := e_getR c106_5 rfl hk
theorem c106_8 : cd 106 8 = some (8, .invokevirtual 203, 3, 50, 0, 336) := rfl
theorem s106_8 {l0 : AV} {s0 s1 : Nat} {M : Mem} {P : PMem} (hk : kd s1 = 2) : evL 106 8 [l0] [Rf s0, Rf s1] (Hp M P) = cont (evM 50 [Rf s1, Rf s0] (Hp M P)) (fun r h => evL 106 11 [l0] (rl r []) h) := e_callV (av' := [Rf s0]) (rest := []) (c := 2) c106_8 rfl rfl rfl rfl rfl rfl rfl hk rfl
theorem c106_11 : cd 106 11 = some (11, .ireturn, 1, 0, 0, 0) := rfl
theorem s106_11 {l0 : AV} {s0 : Int} {h : AH} : evL 106 11 [l0] [I s0] h = some (some (I s0), h) := e_ret c106_11 rfl
/-! 107: TankDivers.save()I -/
theorem en107 {l0 : AV} {h : AH} : evM 107 [l0] h = evL 107 0 [l0] [] h := rfl
theorem c107_0 : cd 107 0 = some (0, .aload_n 0, 1, 0, 0, 0) := rfl
theorem s107_0 {l0 : Option Nat} {h : AH} : evL 107 0 [.inr (.inl l0)] [] h = evL 107 1 [.inr (.inl l0)] [.inr (.inl l0)] h := ev_go c107_0 rfl
theorem c107_1 : cd 107 1 = some (1, .getfield 16, 3, 7, 1, 234) := rfl
theorem s107_1 {l0 : AV} {s0 : Nat} {M : Mem} {P : PMem} (hk : kd s0 = 7) : evL 107 1 [l0] [Rf s0] (Hp M P) = evL 107 4 [l0] [Rf (rfd s0 1)] (Hp M P) := e_getR c107_1 rfl hk
theorem c107_4 : cd 107 4 = some (4, .aload_n 0, 1, 0, 0, 0) := rfl
theorem s107_4 {s0 : AV} {l0 : Option Nat} {h : AH} : evL 107 4 [.inr (.inl l0)] [s0] h = evL 107 5 [.inr (.inl l0)] [.inr (.inl l0), s0] h := ev_go c107_4 rfl
theorem c107_5 : cd 107 5 = some (5, .getfield 12, 3, 7, 0, 233) := rfl
theorem s107_5 {l0 s1 : AV} {s0 : Nat} {M : Mem} {P : PMem} (hk : kd s0 = 7) : evL 107 5 [l0] [Rf s0, s1] (Hp M P) = evL 107 8 [l0] [Rf (rfd s0 0), s1] (Hp M P) := e_getR c107_5 rfl hk
theorem c107_8 : cd 107 8 = some (8, .invokevirtual 207, 3, 45, 0, 366) := rfl
theorem s107_8 {l0 : AV} {s0 s1 : Nat} {M : Mem} {P : PMem} (hk : kd s1 = 1) : evL 107 8 [l0] [Rf s0, Rf s1] (Hp M P) = cont (evM 45 [Rf s1, Rf s0] (Hp M P)) (fun r h => evL 107 11 [l0] (rl r []) h) := e_callV (av' := [Rf s0]) (rest := []) (c := 1) c107_8 rfl rfl rfl rfl rfl rfl rfl hk rfl
theorem c107_11 : cd 107 11 = some (11, .aload_n 0, 1, 0, 0, 0) := rfl
theorem s107_11 {l0 : Option Nat} {h : AH} : evL 107 11 [.inr (.inl l0)] [] h = evL 107 12 [.inr (.inl l0)] [.inr (.inl l0)] h := ev_go c107_11 rfl
theorem c107_12 : cd 107 12 = some (12, .iconst 1, 1, 0, 0, 0) := rfl
theorem s107_12 {l0 s0 : AV} {h : AH} : evL 107 12 [l0] [s0] h = evL 107 13 [l0] [I 1, s0] h := ev_go c107_12 rfl
theorem c107_13 : cd 107 13 = some (13, .putfield 210, 3, 7, 5, 238) := rfl
theorem s107_13 {l0 : AV} {s0 : Int} {s1 : Nat} {M : Mem} {P : PMem} (hk : kd s1 = 7) (hz : s0 = 0 ∨ s0 = 1) : evL 107 13 [l0] [I s0, Rf s1] (Hp M P) = evL 107 16 [l0] [] (Hp (wr M s1 5 s0) P) := e_putZ c107_13 rfl hk hz
theorem c107_16 : cd 107 16 = some (16, .aload_n 0, 1, 0, 0, 0) := rfl
theorem s107_16 {l0 : Option Nat} {h : AH} : evL 107 16 [.inr (.inl l0)] [] h = evL 107 17 [.inr (.inl l0)] [.inr (.inl l0)] h := ev_go c107_16 rfl
theorem c107_17 : cd 107 17 = some (17, .getfield 12, 3, 7, 0, 233) := rfl
theorem s107_17 {l0 : AV} {s0 : Nat} {M : Mem} {P : PMem} (hk : kd s0 = 7) : evL 107 17 [l0] [Rf s0] (Hp M P) = evL 107 20 [l0] [Rf (rfd s0 0)] (Hp M P) := e_getR c107_17 rfl hk
theorem c107_20 : cd 107 20 = some (20, .getfield 137, 3, 1, 4, 121) := rfl
theorem s107_20 {l0 : AV} {s0 : Nat} {M : Mem} {P : PMem} (hk : kd s0 = 1) : evL 107 20 [l0] [Rf s0] (Hp M P) = evL 107 23 [l0] [I (M s0 4)] (Hp M P) := e_getI c107_20 rfl hk
theorem c107_23 : cd 107 23 = some (23, .ireturn, 1, 0, 0, 0) := rfl
theorem s107_23 {l0 : AV} {s0 : Int} {h : AH} : evL 107 23 [l0] [I s0] h = some (some (I s0), h) := e_ret c107_23 rfl
/-! 108: TankDivers.restore()I -/
theorem en108 {l0 : AV} {h : AH} : evM 108 [l0] h = evL 108 0 [l0] [] h := rfl
theorem c108_0 : cd 108 0 = some (0, .aload_n 0, 1, 0, 0, 0) := rfl
theorem s108_0 {l0 : Option Nat} {h : AH} : evL 108 0 [.inr (.inl l0)] [] h = evL 108 1 [.inr (.inl l0)] [.inr (.inl l0)] h := ev_go c108_0 rfl
theorem c108_1 : cd 108 1 = some (1, .getfield 210, 3, 7, 5, 238) := rfl
theorem s108_1 {l0 : AV} {s0 : Nat} {M : Mem} {P : PMem} (hk : kd s0 = 7) : evL 108 1 [l0] [Rf s0] (Hp M P) = evL 108 4 [l0] [I (M s0 5)] (Hp M P) := e_getI c108_1 rfl hk
theorem c108_4 : cd 108 4 = some (4, .ifCond .ne 6, 3, 0, 0, 0) := rfl
theorem s108_4 {l0 : AV} {s0 : Int} {h : AH} : evL 108 4 [l0] [I s0] h = if s0 = 0 then evL 108 7 [l0] [] h else evL 108 10 [l0] [] h := e_if_ne c108_4 rfl rfl
theorem c108_7 : cd 108 7 = some (7, .bipush (-2), 2, 0, 0, 0) := rfl
theorem s108_7 {l0 : AV} {h : AH} : evL 108 7 [l0] [] h = evL 108 9 [l0] [I (-2)] h := ev_go c108_7 rfl
theorem c108_9 : cd 108 9 = some (9, .ireturn, 1, 0, 0, 0) := rfl
theorem s108_9 {l0 : AV} {s0 : Int} {h : AH} : evL 108 9 [l0] [I s0] h = some (some (I s0), h) := e_ret c108_9 rfl
theorem c108_10 : cd 108 10 = some (10, .aload_n 0, 1, 0, 0, 0) := rfl
theorem s108_10 {l0 : Option Nat} {h : AH} : evL 108 10 [.inr (.inl l0)] [] h = evL 108 11 [.inr (.inl l0)] [.inr (.inl l0)] h := ev_go c108_10 rfl
theorem c108_11 : cd 108 11 = some (11, .getfield 22, 3, 7, 2, 235) := rfl
theorem s108_11 {l0 : AV} {s0 : Nat} {M : Mem} {P : PMem} (hk : kd s0 = 7) : evL 108 11 [l0] [Rf s0] (Hp M P) = evL 108 14 [l0] [Rf (rfd s0 2)] (Hp M P) := e_getR c108_11 rfl hk
theorem c108_14 : cd 108 14 = some (14, .aload_n 0, 1, 0, 0, 0) := rfl
theorem s108_14 {s0 : AV} {l0 : Option Nat} {h : AH} : evL 108 14 [.inr (.inl l0)] [s0] h = evL 108 15 [.inr (.inl l0)] [.inr (.inl l0), s0] h := ev_go c108_14 rfl
theorem c108_15 : cd 108 15 = some (15, .getfield 12, 3, 7, 0, 233) := rfl
theorem s108_15 {l0 s1 : AV} {s0 : Nat} {M : Mem} {P : PMem} (hk : kd s0 = 7) : evL 108 15 [l0] [Rf s0, s1] (Hp M P) = evL 108 18 [l0] [Rf (rfd s0 0), s1] (Hp M P) := e_getR c108_15 rfl hk
theorem c108_18 : cd 108 18 = some (18, .invokevirtual 48, 3, 48, 0, 371) := rfl
theorem s108_18 {l0 : AV} {s0 s1 : Nat} {M : Mem} {P : PMem} (hk : kd s1 = 2) : evL 108 18 [l0] [Rf s0, Rf s1] (Hp M P) = cont (evM 48 [Rf s1, Rf s0] (Hp M P)) (fun r h => evL 108 21 [l0] (rl r []) h) := e_callV (av' := [Rf s0]) (rest := []) (c := 2) c108_18 rfl rfl rfl rfl rfl rfl rfl hk rfl
theorem c108_21 : cd 108 21 = some (21, .aload_n 0, 1, 0, 0, 0) := rfl
theorem s108_21 {l0 : Option Nat} {h : AH} : evL 108 21 [.inr (.inl l0)] [] h = evL 108 22 [.inr (.inl l0)] [.inr (.inl l0)] h := ev_go c108_21 rfl
theorem c108_22 : cd 108 22 = some (22, .getfield 12, 3, 7, 0, 233) := rfl
theorem s108_22 {l0 : AV} {s0 : Nat} {M : Mem} {P : PMem} (hk : kd s0 = 7) : evL 108 22 [l0] [Rf s0] (Hp M P) = evL 108 25 [l0] [Rf (rfd s0 0)] (Hp M P) := e_getR c108_22 rfl hk
theorem c108_25 : cd 108 25 = some (25, .aload_n 0, 1, 0, 0, 0) := rfl
theorem s108_25 {s0 : AV} {l0 : Option Nat} {h : AH} : evL 108 25 [.inr (.inl l0)] [s0] h = evL 108 26 [.inr (.inl l0)] [.inr (.inl l0), s0] h := ev_go c108_25 rfl
theorem c108_26 : cd 108 26 = some (26, .getfield 16, 3, 7, 1, 234) := rfl
theorem s108_26 {l0 s1 : AV} {s0 : Nat} {M : Mem} {P : PMem} (hk : kd s0 = 7) : evL 108 26 [l0] [Rf s0, s1] (Hp M P) = evL 108 29 [l0] [Rf (rfd s0 1), s1] (Hp M P) := e_getR c108_26 rfl hk
theorem c108_29 : cd 108 29 = some (29, .invokevirtual 207, 3, 45, 0, 366) := rfl
theorem s108_29 {l0 : AV} {s0 s1 : Nat} {M : Mem} {P : PMem} (hk : kd s1 = 1) : evL 108 29 [l0] [Rf s0, Rf s1] (Hp M P) = cont (evM 45 [Rf s1, Rf s0] (Hp M P)) (fun r h => evL 108 32 [l0] (rl r []) h) := e_callV (av' := [Rf s0]) (rest := []) (c := 1) c108_29 rfl rfl rfl rfl rfl rfl rfl hk rfl
theorem c108_32 : cd 108 32 = some (32, .aload_n 0, 1, 0, 0, 0) := rfl
theorem s108_32 {l0 : Option Nat} {h : AH} : evL 108 32 [.inr (.inl l0)] [] h = evL 108 33 [.inr (.inl l0)] [.inr (.inl l0)] h := ev_go c108_32 rfl
theorem c108_33 : cd 108 33 = some (33, .getfield 12, 3, 7, 0, 233) := rfl
theorem s108_33 {l0 : AV} {s0 : Nat} {M : Mem} {P : PMem} (hk : kd s0 = 7) : evL 108 33 [l0] [Rf s0] (Hp M P) = evL 108 36 [l0] [Rf (rfd s0 0)] (Hp M P) := e_getR c108_33 rfl hk
theorem c108_36 : cd 108 36 = some (36, .getfield 137, 3, 1, 4, 121) := rfl
theorem s108_36 {l0 : AV} {s0 : Nat} {M : Mem} {P : PMem} (hk : kd s0 = 1) : evL 108 36 [l0] [Rf s0] (Hp M P) = evL 108 39 [l0] [I (M s0 4)] (Hp M P) := e_getI c108_36 rfl hk
theorem c108_39 : cd 108 39 = some (39, .ireturn, 1, 0, 0, 0) := rfl
theorem s108_39 {l0 : AV} {s0 : Int} {h : AH} : evL 108 39 [l0] [I s0] h = some (some (I s0), h) := e_ret c108_39 rfl
