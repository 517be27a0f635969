/-! ===== equations, on ===== -/
/-! 142: TankDiversModel.endsRound()V -/
theorem en142 {l0 : AV} {h : AH} : evM 142 [l0] h = evL 142 0 [l0, Db 0, Db 0, Db 0, Db 0] [] h := rfl
theorem c142_0 : cd 142 0 = some (0, .aload_n 0, 1, 0, 0, 0) := rfl
theorem s142_0 {l1 l2 l3 l4 : AV} {l0 : Option Nat} {h : AH} : evL 142 0 [.inr (.inl l0), l1, l2, l3, l4] [] h = evL 142 1 [.inr (.inl l0), l1, l2, l3, l4] [.inr (.inl l0)] h := ev_go c142_0 rfl
theorem c142_1 : cd 142 1 = some (1, .iconst 0, 1, 0, 0, 0) := rfl
theorem s142_1 {l0 l1 l2 l3 l4 s0 : AV} {h : AH} : evL 142 1 [l0, l1, l2, l3, l4] [s0] h = evL 142 2 [l0, l1, l2, l3, l4] [I 0, s0] h := ev_go c142_1 rfl
theorem c142_2 : cd 142 2 = some (2, .invokevirtual 111, 3, 139, 0, 858) := rfl
theorem s142_2 {l0 l1 l2 l3 l4 : AV} {s0 : Int} {s1 : Nat} {M : Mem} {P : PMem} (hk : kd s1 = 8) : evL 142 2 [l0, l1, l2, l3, l4] [I s0, Rf s1] (Hp M P) = cont (evM 139 [Rf s1, I s0] (Hp M P)) (fun r h => evL 142 5 [l0, l1, l2, l3, l4] (rl r []) h) := e_callV (av' := [I s0]) (rest := []) (c := 8) c142_2 rfl rfl rfl rfl rfl rfl rfl hk rfl
theorem c142_5 : cd 142 5 = some (5, .istore_n 1, 1, 0, 0, 0) := rfl
theorem s142_5 {l0 l1 l2 l3 l4 : AV} {s0 : Int} {h : AH} : evL 142 5 [l0, l1, l2, l3, l4] [I s0] h = evL 142 6 [l0, I s0, l2, l3, l4] [] h := ev_go c142_5 rfl
theorem c142_6 : cd 142 6 = some (6, .aload_n 0, 1, 0, 0, 0) := rfl
theorem s142_6 {l1 l2 l3 l4 : AV} {l0 : Option Nat} {h : AH} : evL 142 6 [.inr (.inl l0), l1, l2, l3, l4] [] h = evL 142 7 [.inr (.inl l0), l1, l2, l3, l4] [.inr (.inl l0)] h := ev_go c142_6 rfl
theorem c142_7 : cd 142 7 = some (7, .iconst 0, 1, 0, 0, 0) := rfl
theorem s142_7 {l0 l1 l2 l3 l4 s0 : AV} {h : AH} : evL 142 7 [l0, l1, l2, l3, l4] [s0] h = evL 142 8 [l0, l1, l2, l3, l4] [I 0, s0] h := ev_go c142_7 rfl
theorem c142_8 : cd 142 8 = some (8, .putfield 108, 3, 8, 10, 735) := rfl
theorem s142_8 {l0 l1 l2 l3 l4 : AV} {s0 : Int} {s1 : Nat} {M : Mem} {P : PMem} (hk : kd s1 = 8) : evL 142 8 [l0, l1, l2, l3, l4] [I s0, Rf s1] (Hp M P) = evL 142 11 [l0, l1, l2, l3, l4] [] (Hp (wr M s1 10 s0) P) := e_putI c142_8 rfl hk
theorem c142_11 : cd 142 11 = some (11, .iconst 0, 1, 0, 0, 0) := rfl
theorem s142_11 {l0 l1 l2 l3 l4 : AV} {h : AH} : evL 142 11 [l0, l1, l2, l3, l4] [] h = evL 142 12 [l0, l1, l2, l3, l4] [I 0] h := ev_go c142_11 rfl
theorem c142_12 : cd 142 12 = some (12, .istore_n 2, 1, 0, 0, 0) := rfl
theorem s142_12 {l0 l1 l2 l3 l4 : AV} {s0 : Int} {h : AH} : evL 142 12 [l0, l1, l2, l3, l4] [I s0] h = evL 142 13 [l0, l1, I s0, l3, l4] [] h := ev_go c142_12 rfl
theorem c142_13 : cd 142 13 = some (13, .iconst 0, 1, 0, 0, 0) := rfl
theorem s142_13 {l0 l1 l2 l3 l4 : AV} {h : AH} : evL 142 13 [l0, l1, l2, l3, l4] [] h = evL 142 14 [l0, l1, l2, l3, l4] [I 0] h := ev_go c142_13 rfl
theorem c142_14 : cd 142 14 = some (14, .istore_n 3, 1, 0, 0, 0) := rfl
theorem s142_14 {l0 l1 l2 l3 l4 : AV} {s0 : Int} {h : AH} : evL 142 14 [l0, l1, l2, l3, l4] [I s0] h = evL 142 15 [l0, l1, l2, I s0, l4] [] h := ev_go c142_14 rfl
theorem c142_15 : cd 142 15 = some (15, .iload_n 3, 1, 0, 0, 0) := rfl
theorem s142_15 {l0 l1 l2 l4 : AV} {l3 : Int} {h : AH} : evL 142 15 [l0, l1, l2, I l3, l4] [] h = evL 142 16 [l0, l1, l2, I l3, l4] [I l3] h := ev_go c142_15 rfl
theorem c142_16 : cd 142 16 = some (16, .aload_n 0, 1, 0, 0, 0) := rfl
theorem s142_16 {l1 l2 l3 l4 s0 : AV} {l0 : Option Nat} {h : AH} : evL 142 16 [.inr (.inl l0), l1, l2, l3, l4] [s0] h = evL 142 17 [.inr (.inl l0), l1, l2, l3, l4] [.inr (.inl l0), s0] h := ev_go c142_16 rfl
theorem c142_17 : cd 142 17 = some (17, .getfield 7, 3, 8, 0, 725) := rfl
theorem s142_17 {l0 l1 l2 l3 l4 s1 : AV} {s0 : Nat} {M : Mem} {P : PMem} (hk : kd s0 = 8) : evL 142 17 [l0, l1, l2, l3, l4] [Rf s0, s1] (Hp M P) = evL 142 20 [l0, l1, l2, l3, l4] [Rf (rfd s0 0), s1] (Hp M P) := e_getR c142_17 rfl hk
theorem c142_20 : cd 142 20 = some (20, .iconst 0, 1, 0, 0, 0) := rfl
theorem s142_20 {l0 l1 l2 l3 l4 s0 s1 : AV} {h : AH} : evL 142 20 [l0, l1, l2, l3, l4] [s0, s1] h = evL 142 21 [l0, l1, l2, l3, l4] [I 0, s0, s1] h := ev_go c142_20 rfl
theorem c142_21 : cd 142 21 = some (21, .iaload, 1, 0, 0, 0) := rfl
theorem s142_21 {l0 l1 l2 l3 l4 s2 : AV} {s0 : Int} {s1 : Nat} {M : Mem} {P : PMem} (hk : kd s1 = 100) (h0 : 0 ≤ s0) (hn : s0.toNat < ln s1) : evL 142 21 [l0, l1, l2, l3, l4] [I s0, Rf s1, s2] (Hp M P) = evL 142 22 [l0, l1, l2, l3, l4] [I (M s1 s0.toNat), s2] (Hp M P) := e_iald c142_21 hk h0 hn
theorem c142_22 : cd 142 22 = some (22, .if_icmp .ge 67, 3, 0, 0, 0) := rfl
theorem s142_22 {l0 l1 l2 l3 l4 : AV} {s0 s1 : Int} {h : AH} : evL 142 22 [l0, l1, l2, l3, l4] [I s0, I s1] h = if s0 ≤ s1 then evL 142 89 [l0, l1, l2, l3, l4] [] h else evL 142 25 [l0, l1, l2, l3, l4] [] h := e_icmp_ge c142_22 rfl rfl
theorem c142_25 : cd 142 25 = some (25, .aload_n 0, 1, 0, 0, 0) := rfl
theorem s142_25 {l1 l2 l3 l4 : AV} {l0 : Option Nat} {h : AH} : evL 142 25 [.inr (.inl l0), l1, l2, l3, l4] [] h = evL 142 26 [.inr (.inl l0), l1, l2, l3, l4] [.inr (.inl l0)] h := ev_go c142_25 rfl
theorem c142_26 : cd 142 26 = some (26, .iload_n 2, 1, 0, 0, 0) := rfl
theorem s142_26 {l0 l1 l3 l4 s0 : AV} {l2 : Int} {h : AH} : evL 142 26 [l0, l1, I l2, l3, l4] [s0] h = evL 142 27 [l0, l1, I l2, l3, l4] [I l2, s0] h := ev_go c142_26 rfl
theorem c142_27 : cd 142 27 = some (27, .invokevirtual 111, 3, 139, 0, 858) := rfl
theorem s142_27 {l0 l1 l2 l3 l4 : AV} {s0 : Int} {s1 : Nat} {M : Mem} {P : PMem} (hk : kd s1 = 8) : evL 142 27 [l0, l1, l2, l3, l4] [I s0, Rf s1] (Hp M P) = cont (evM 139 [Rf s1, I s0] (Hp M P)) (fun r h => evL 142 30 [l0, l1, l2, l3, l4] (rl r []) h) := e_callV (av' := [I s0]) (rest := []) (c := 8) c142_27 rfl rfl rfl rfl rfl rfl rfl hk rfl
theorem c142_30 : cd 142 30 = some (30, .istore 4, 2, 0, 0, 0) := rfl
theorem s142_30 {l0 l1 l2 l3 l4 : AV} {s0 : Int} {h : AH} : evL 142 30 [l0, l1, l2, l3, l4] [I s0] h = evL 142 32 [l0, l1, l2, l3, I s0] [] h := ev_go c142_30 rfl
theorem c142_32 : cd 142 32 = some (32, .iload_n 2, 1, 0, 0, 0) := rfl
theorem s142_32 {l0 l1 l3 l4 : AV} {l2 : Int} {h : AH} : evL 142 32 [l0, l1, I l2, l3, l4] [] h = evL 142 33 [l0, l1, I l2, l3, l4] [I l2] h := ev_go c142_32 rfl
theorem c142_33 : cd 142 33 = some (33, .iconst 1, 1, 0, 0, 0) := rfl
theorem s142_33 {l0 l1 l2 l3 l4 s0 : AV} {h : AH} : evL 142 33 [l0, l1, l2, l3, l4] [s0] h = evL 142 34 [l0, l1, l2, l3, l4] [I 1, s0] h := ev_go c142_33 rfl
theorem c142_34 : cd 142 34 = some (34, .iload 4, 2, 0, 0, 0) := rfl
theorem s142_34 {l0 l1 l2 l3 s0 s1 : AV} {l4 : Int} {h : AH} : evL 142 34 [l0, l1, l2, l3, I l4] [s0, s1] h = evL 142 36 [l0, l1, l2, l3, I l4] [I l4, s0, s1] h := ev_go c142_34 rfl
theorem c142_36 : cd 142 36 = some (36, .ishl, 1, 0, 0, 0) := rfl
theorem s142_36 {l0 l1 l2 l3 l4 s2 : AV} {s0 s1 : Int} {h : AH} : evL 142 36 [l0, l1, l2, l3, l4] [I s0, I s1, s2] h = evL 142 37 [l0, l1, l2, l3, l4] [I (shl s1 s0), s2] h := ev_go c142_36 rfl
theorem c142_37 : cd 142 37 = some (37, .ior, 1, 0, 0, 0) := rfl
theorem s142_37 {l0 l1 l2 l3 l4 : AV} {s0 s1 : Int} {h : AH} : evL 142 37 [l0, l1, l2, l3, l4] [I s0, I s1] h = evL 142 38 [l0, l1, l2, l3, l4] [I (orr s1 s0)] h := ev_go c142_37 rfl
theorem c142_38 : cd 142 38 = some (38, .istore_n 2, 1, 0, 0, 0) := rfl
theorem s142_38 {l0 l1 l2 l3 l4 : AV} {s0 : Int} {h : AH} : evL 142 38 [l0, l1, l2, l3, l4] [I s0] h = evL 142 39 [l0, l1, I s0, l3, l4] [] h := ev_go c142_38 rfl
theorem c142_39 : cd 142 39 = some (39, .aload_n 0, 1, 0, 0, 0) := rfl
theorem s142_39 {l1 l2 l3 l4 : AV} {l0 : Option Nat} {h : AH} : evL 142 39 [.inr (.inl l0), l1, l2, l3, l4] [] h = evL 142 40 [.inr (.inl l0), l1, l2, l3, l4] [.inr (.inl l0)] h := ev_go c142_39 rfl
theorem c142_40 : cd 142 40 = some (40, .iload 4, 2, 0, 0, 0) := rfl
theorem s142_40 {l0 l1 l2 l3 s0 : AV} {l4 : Int} {h : AH} : evL 142 40 [l0, l1, l2, l3, I l4] [s0] h = evL 142 42 [l0, l1, l2, l3, I l4] [I l4, s0] h := ev_go c142_40 rfl
theorem c142_42 : cd 142 42 = some (42, .iconst 2, 1, 0, 0, 0) := rfl
theorem s142_42 {l0 l1 l2 l3 l4 s0 s1 : AV} {h : AH} : evL 142 42 [l0, l1, l2, l3, l4] [s0, s1] h = evL 142 43 [l0, l1, l2, l3, l4] [I 2, s0, s1] h := ev_go c142_42 rfl
theorem c142_43 : cd 142 43 = some (43, .invokevirtual 54, 3, 116, 0, 806) := rfl
theorem s142_43 {l0 l1 l2 l3 l4 : AV} {s0 s1 : Int} {s2 : Nat} {M : Mem} {P : PMem} (hk : kd s2 = 8) : evL 142 43 [l0, l1, l2, l3, l4] [I s0, I s1, Rf s2] (Hp M P) = cont (evM 116 [Rf s2, I s1, I s0] (Hp M P)) (fun r h => evL 142 46 [l0, l1, l2, l3, l4] (rl r []) h) := e_callV (av' := [I s1, I s0]) (rest := []) (c := 8) c142_43 rfl rfl rfl rfl rfl rfl rfl hk rfl
theorem c142_46 : cd 142 46 = some (46, .iconst 1, 1, 0, 0, 0) := rfl
theorem s142_46 {l0 l1 l2 l3 l4 s0 : AV} {h : AH} : evL 142 46 [l0, l1, l2, l3, l4] [s0] h = evL 142 47 [l0, l1, l2, l3, l4] [I 1, s0] h := ev_go c142_46 rfl
theorem c142_47 : cd 142 47 = some (47, .if_icmp .ne 12, 3, 0, 0, 0) := rfl
theorem s142_47 {l0 l1 l2 l3 l4 : AV} {s0 s1 : Int} {h : AH} : evL 142 47 [l0, l1, l2, l3, l4] [I s0, I s1] h = if s1 = s0 then evL 142 50 [l0, l1, l2, l3, l4] [] h else evL 142 59 [l0, l1, l2, l3, l4] [] h := e_icmp_ne c142_47 rfl rfl
theorem c142_50 : cd 142 50 = some (50, .aload_n 0, 1, 0, 0, 0) := rfl
theorem s142_50 {l1 l2 l3 l4 : AV} {l0 : Option Nat} {h : AH} : evL 142 50 [.inr (.inl l0), l1, l2, l3, l4] [] h = evL 142 51 [.inr (.inl l0), l1, l2, l3, l4] [.inr (.inl l0)] h := ev_go c142_50 rfl
theorem c142_51 : cd 142 51 = some (51, .iload 4, 2, 0, 0, 0) := rfl
theorem s142_51 {l0 l1 l2 l3 s0 : AV} {l4 : Int} {h : AH} : evL 142 51 [l0, l1, l2, l3, I l4] [s0] h = evL 142 53 [l0, l1, l2, l3, I l4] [I l4, s0] h := ev_go c142_51 rfl
theorem c142_53 : cd 142 53 = some (53, .invokevirtual 114, 3, 138, 0, 862) := rfl
theorem s142_53 {l0 l1 l2 l3 l4 : AV} {s0 : Int} {s1 : Nat} {M : Mem} {P : PMem} (hk : kd s1 = 8) : evL 142 53 [l0, l1, l2, l3, l4] [I s0, Rf s1] (Hp M P) = cont (evM 138 [Rf s1, I s0] (Hp M P)) (fun r h => evL 142 56 [l0, l1, l2, l3, l4] (rl r []) h) := e_callV (av' := [I s0]) (rest := []) (c := 8) c142_53 rfl rfl rfl rfl rfl rfl rfl hk rfl
theorem c142_56 : cd 142 56 = some (56, .goto 27, 3, 0, 0, 0) := rfl
theorem s142_56 {l0 l1 l2 l3 l4 : AV} {h : AH} : evL 142 56 [l0, l1, l2, l3, l4] [] h = evL 142 83 [l0, l1, l2, l3, l4] [] h := ev_go c142_56 rfl
theorem c142_59 : cd 142 59 = some (59, .aload_n 0, 1, 0, 0, 0) := rfl
theorem s142_59 {l1 l2 l3 l4 : AV} {l0 : Option Nat} {h : AH} : evL 142 59 [.inr (.inl l0), l1, l2, l3, l4] [] h = evL 142 60 [.inr (.inl l0), l1, l2, l3, l4] [.inr (.inl l0)] h := ev_go c142_59 rfl
theorem c142_60 : cd 142 60 = some (60, .iload 4, 2, 0, 0, 0) := rfl
theorem s142_60 {l0 l1 l2 l3 s0 : AV} {l4 : Int} {h : AH} : evL 142 60 [l0, l1, l2, l3, I l4] [s0] h = evL 142 62 [l0, l1, l2, l3, I l4] [I l4, s0] h := ev_go c142_60 rfl
theorem c142_62 : cd 142 62 = some (62, .invokevirtual 118, 3, 141, 0, 883) := rfl
theorem s142_62 {l0 l1 l2 l3 l4 : AV} {s0 : Int} {s1 : Nat} {M : Mem} {P : PMem} (hk : kd s1 = 8) : evL 142 62 [l0, l1, l2, l3, l4] [I s0, Rf s1] (Hp M P) = cont (evM 141 [Rf s1, I s0] (Hp M P)) (fun r h => evL 142 65 [l0, l1, l2, l3, l4] (rl r []) h) := e_callV (av' := [I s0]) (rest := []) (c := 8) c142_62 rfl rfl rfl rfl rfl rfl rfl hk rfl
theorem c142_65 : cd 142 65 = some (65, .aload_n 0, 1, 0, 0, 0) := rfl
theorem s142_65 {l1 l2 l3 l4 : AV} {l0 : Option Nat} {h : AH} : evL 142 65 [.inr (.inl l0), l1, l2, l3, l4] [] h = evL 142 66 [.inr (.inl l0), l1, l2, l3, l4] [.inr (.inl l0)] h := ev_go c142_65 rfl
theorem c142_66 : cd 142 66 = some (66, .iload 4, 2, 0, 0, 0) := rfl
theorem s142_66 {l0 l1 l2 l3 s0 : AV} {l4 : Int} {h : AH} : evL 142 66 [l0, l1, l2, l3, I l4] [s0] h = evL 142 68 [l0, l1, l2, l3, I l4] [I l4, s0] h := ev_go c142_66 rfl
theorem c142_68 : cd 142 68 = some (68, .bipush 12, 2, 0, 0, 0) := rfl
theorem s142_68 {l0 l1 l2 l3 l4 s0 s1 : AV} {h : AH} : evL 142 68 [l0, l1, l2, l3, l4] [s0, s1] h = evL 142 70 [l0, l1, l2, l3, l4] [I 12, s0, s1] h := ev_go c142_68 rfl
theorem c142_70 : cd 142 70 = some (70, .aload_n 0, 1, 0, 0, 0) := rfl
theorem s142_70 {l1 l2 l3 l4 s0 s1 s2 : AV} {l0 : Option Nat} {h : AH} : evL 142 70 [.inr (.inl l0), l1, l2, l3, l4] [s0, s1, s2] h = evL 142 71 [.inr (.inl l0), l1, l2, l3, l4] [.inr (.inl l0), s0, s1, s2] h := ev_go c142_70 rfl
theorem c142_71 : cd 142 71 = some (71, .iload 4, 2, 0, 0, 0) := rfl
theorem s142_71 {l0 l1 l2 l3 s0 s1 s2 s3 : AV} {l4 : Int} {h : AH} : evL 142 71 [l0, l1, l2, l3, I l4] [s0, s1, s2, s3] h = evL 142 73 [l0, l1, l2, l3, I l4] [I l4, s0, s1, s2, s3] h := ev_go c142_71 rfl
theorem c142_73 : cd 142 73 = some (73, .bipush 12, 2, 0, 0, 0) := rfl
theorem s142_73 {l0 l1 l2 l3 l4 s0 s1 s2 s3 s4 : AV} {h : AH} : evL 142 73 [l0, l1, l2, l3, l4] [s0, s1, s2, s3, s4] h = evL 142 75 [l0, l1, l2, l3, l4] [I 12, s0, s1, s2, s3, s4] h := ev_go c142_73 rfl
theorem c142_75 : cd 142 75 = some (75, .invokevirtual 54, 3, 116, 0, 806) := rfl
theorem s142_75 {l0 l1 l2 l3 l4 s3 s4 s5 : AV} {s0 s1 : Int} {s2 : Nat} {M : Mem} {P : PMem} (hk : kd s2 = 8) : evL 142 75 [l0, l1, l2, l3, l4] [I s0, I s1, Rf s2, s3, s4, s5] (Hp M P) = cont (evM 116 [Rf s2, I s1, I s0] (Hp M P)) (fun r h => evL 142 78 [l0, l1, l2, l3, l4] (rl r [s3, s4, s5]) h) := e_callV (av' := [I s1, I s0]) (rest := [s3, s4, s5]) (c := 8) c142_75 rfl rfl rfl rfl rfl rfl rfl hk rfl
theorem c142_78 : cd 142 78 = some (78, .iconst 1, 1, 0, 0, 0) := rfl
theorem s142_78 {l0 l1 l2 l3 l4 s0 s1 s2 s3 : AV} {h : AH} : evL 142 78 [l0, l1, l2, l3, l4] [s0, s1, s2, s3] h = evL 142 79 [l0, l1, l2, l3, l4] [I 1, s0, s1, s2, s3] h := ev_go c142_78 rfl
theorem c142_79 : cd 142 79 = some (79, .iadd, 1, 0, 0, 0) := rfl
theorem s142_79 {l0 l1 l2 l3 l4 s2 s3 s4 : AV} {s0 s1 : Int} {h : AH} : evL 142 79 [l0, l1, l2, l3, l4] [I s0, I s1, s2, s3, s4] h = evL 142 80 [l0, l1, l2, l3, l4] [I (ad s1 s0), s2, s3, s4] h := ev_go c142_79 rfl
theorem c142_80 : cd 142 80 = some (80, .invokevirtual 69, 3, 117, 0, 721) := rfl
theorem s142_80 {l0 l1 l2 l3 l4 : AV} {s0 s1 s2 : Int} {s3 : Nat} {M : Mem} {P : PMem} (hk : kd s3 = 8) : evL 142 80 [l0, l1, l2, l3, l4] [I s0, I s1, I s2, Rf s3] (Hp M P) = cont (evM 117 [Rf s3, I s2, I s1, I s0] (Hp M P)) (fun r h => evL 142 83 [l0, l1, l2, l3, l4] (rl r []) h) := e_callV (av' := [I s2, I s1, I s0]) (rest := []) (c := 8) c142_80 rfl rfl rfl rfl rfl rfl rfl hk rfl
theorem c142_83 : cd 142 83 = some (83, .iinc 3 1, 3, 0, 0, 0) := rfl
theorem s142_83 {l0 l1 l2 l4 : AV} {l3 : Int} {h : AH} : evL 142 83 [l0, l1, l2, I l3, l4] [] h = evL 142 86 [l0, l1, l2, I (ad l3 1), l4] [] h := ev_go c142_83 rfl
theorem c142_86 : cd 142 86 = some (86, .goto (-71), 3, 0, 0, 0) := rfl
theorem s142_86 {l0 l1 l2 l3 l4 : AV} {h : AH} : evL 142 86 [l0, l1, l2, l3, l4] [] h = evL 142 15 [l0, l1, l2, l3, l4] [] h := ev_go c142_86 rfl
theorem c142_89 : cd 142 89 = some (89, .aload_n 0, 1, 0, 0, 0) := rfl
theorem s142_89 {l1 l2 l3 l4 : AV} {l0 : Option Nat} {h : AH} : evL 142 89 [.inr (.inl l0), l1, l2, l3, l4] [] h = evL 142 90 [.inr (.inl l0), l1, l2, l3, l4] [.inr (.inl l0)] h := ev_go c142_89 rfl
theorem c142_90 : cd 142 90 = some (90, .invokevirtual 121, 3, 140, 0, 887) := rfl
theorem s142_90 {l0 l1 l2 l3 l4 : AV} {s0 : Nat} {M : Mem} {P : PMem} (hk : kd s0 = 8) : evL 142 90 [l0, l1, l2, l3, l4] [Rf s0] (Hp M P) = cont (evM 140 [Rf s0] (Hp M P)) (fun r h => evL 142 93 [l0, l1, l2, l3, l4] (rl r []) h) := e_callV (av' := []) (rest := []) (c := 8) c142_90 rfl rfl rfl rfl rfl rfl rfl hk rfl
theorem c142_93 : cd 142 93 = some (93, .iconst 0, 1, 0, 0, 0) := rfl
theorem s142_93 {l0 l1 l2 l3 l4 : AV} {h : AH} : evL 142 93 [l0, l1, l2, l3, l4] [] h = evL 142 94 [l0, l1, l2, l3, l4] [I 0] h := ev_go c142_93 rfl
theorem c142_94 : cd 142 94 = some (94, .istore_n 3, 1, 0, 0, 0) := rfl
theorem s142_94 {l0 l1 l2 l3 l4 : AV} {s0 : Int} {h : AH} : evL 142 94 [l0, l1, l2, l3, l4] [I s0] h = evL 142 95 [l0, l1, l2, I s0, l4] [] h := ev_go c142_94 rfl
theorem c142_95 : cd 142 95 = some (95, .iload_n 3, 1, 0, 0, 0) := rfl
theorem s142_95 {l0 l1 l2 l4 : AV} {l3 : Int} {h : AH} : evL 142 95 [l0, l1, l2, I l3, l4] [] h = evL 142 96 [l0, l1, l2, I l3, l4] [I l3] h := ev_go c142_95 rfl
theorem c142_96 : cd 142 96 = some (96, .aload_n 0, 1, 0, 0, 0) := rfl
theorem s142_96 {l1 l2 l3 l4 s0 : AV} {l0 : Option Nat} {h : AH} : evL 142 96 [.inr (.inl l0), l1, l2, l3, l4] [s0] h = evL 142 97 [.inr (.inl l0), l1, l2, l3, l4] [.inr (.inl l0), s0] h := ev_go c142_96 rfl
theorem c142_97 : cd 142 97 = some (97, .getfield 108, 3, 8, 10, 735) := rfl
theorem s142_97 {l0 l1 l2 l3 l4 s1 : AV} {s0 : Nat} {M : Mem} {P : PMem} (hk : kd s0 = 8) : evL 142 97 [l0, l1, l2, l3, l4] [Rf s0, s1] (Hp M P) = evL 142 100 [l0, l1, l2, l3, l4] [I (M s0 10), s1] (Hp M P) := e_getI c142_97 rfl hk
theorem c142_100 : cd 142 100 = some (100, .if_icmp .ge 62, 3, 0, 0, 0) := rfl
theorem s142_100 {l0 l1 l2 l3 l4 : AV} {s0 s1 : Int} {h : AH} : evL 142 100 [l0, l1, l2, l3, l4] [I s0, I s1] h = if s0 ≤ s1 then evL 142 162 [l0, l1, l2, l3, l4] [] h else evL 142 103 [l0, l1, l2, l3, l4] [] h := e_icmp_ge c142_100 rfl rfl
theorem c142_103 : cd 142 103 = some (103, .aload_n 0, 1, 0, 0, 0) := rfl
theorem s142_103 {l1 l2 l3 l4 : AV} {l0 : Option Nat} {h : AH} : evL 142 103 [.inr (.inl l0), l1, l2, l3, l4] [] h = evL 142 104 [.inr (.inl l0), l1, l2, l3, l4] [.inr (.inl l0)] h := ev_go c142_103 rfl
theorem c142_104 : cd 142 104 = some (104, .getfield 7, 3, 8, 0, 725) := rfl
theorem s142_104 {l0 l1 l2 l3 l4 : AV} {s0 : Nat} {M : Mem} {P : PMem} (hk : kd s0 = 8) : evL 142 104 [l0, l1, l2, l3, l4] [Rf s0] (Hp M P) = evL 142 107 [l0, l1, l2, l3, l4] [Rf (rfd s0 0)] (Hp M P) := e_getR c142_104 rfl hk
theorem c142_107 : cd 142 107 = some (107, .bipush 8, 2, 0, 0, 0) := rfl
theorem s142_107 {l0 l1 l2 l3 l4 s0 : AV} {h : AH} : evL 142 107 [l0, l1, l2, l3, l4] [s0] h = evL 142 109 [l0, l1, l2, l3, l4] [I 8, s0] h := ev_go c142_107 rfl
theorem c142_109 : cd 142 109 = some (109, .dup2, 1, 0, 0, 0) := rfl
theorem s142_109 {l0 l1 l2 l3 l4 : AV} {s0 : Int} {s1 : Option Nat} {h : AH} : evL 142 109 [l0, l1, l2, l3, l4] [I s0, .inr (.inl s1)] h = evL 142 110 [l0, l1, l2, l3, l4] [I s0, .inr (.inl s1), I s0, .inr (.inl s1)] h := ev_go c142_109 rfl
theorem c142_110 : cd 142 110 = some (110, .iaload, 1, 0, 0, 0) := rfl
theorem s142_110 {l0 l1 l2 l3 l4 s2 s3 : AV} {s0 : Int} {s1 : Nat} {M : Mem} {P : PMem} (hk : kd s1 = 100) (h0 : 0 ≤ s0) (hn : s0.toNat < ln s1) : evL 142 110 [l0, l1, l2, l3, l4] [I s0, Rf s1, s2, s3] (Hp M P) = evL 142 111 [l0, l1, l2, l3, l4] [I (M s1 s0.toNat), s2, s3] (Hp M P) := e_iald c142_110 hk h0 hn
theorem c142_111 : cd 142 111 = some (111, .iload_n 3, 1, 0, 0, 0) := rfl
theorem s142_111 {l0 l1 l2 l4 s0 s1 s2 : AV} {l3 : Int} {h : AH} : evL 142 111 [l0, l1, l2, I l3, l4] [s0, s1, s2] h = evL 142 112 [l0, l1, l2, I l3, l4] [I l3, s0, s1, s2] h := ev_go c142_111 rfl
theorem c142_112 : cd 142 112 = some (112, .iconst 3, 1, 0, 0, 0) := rfl
theorem s142_112 {l0 l1 l2 l3 l4 s0 s1 s2 s3 : AV} {h : AH} : evL 142 112 [l0, l1, l2, l3, l4] [s0, s1, s2, s3] h = evL 142 113 [l0, l1, l2, l3, l4] [I 3, s0, s1, s2, s3] h := ev_go c142_112 rfl
theorem c142_113 : cd 142 113 = some (113, .irem, 1, 0, 0, 0) := rfl
theorem s142_113 {l0 l1 l2 l3 l4 s2 s3 s4 : AV} {s0 s1 : Int} {h : AH} (hd : s0 ≠ 0) : evL 142 113 [l0, l1, l2, l3, l4] [I s0, I s1, s2, s3, s4] h = evL 142 114 [l0, l1, l2, l3, l4] [I (rm s1 s0), s2, s3, s4] h := ev_go c142_113 (if_pos hd)
theorem c142_114 : cd 142 114 = some (114, .ifCond .ne 7, 3, 0, 0, 0) := rfl
theorem s142_114 {l0 l1 l2 l3 l4 s1 s2 s3 : AV} {s0 : Int} {h : AH} : evL 142 114 [l0, l1, l2, l3, l4] [I s0, s1, s2, s3] h = if s0 = 0 then evL 142 117 [l0, l1, l2, l3, l4] [s1, s2, s3] h else evL 142 121 [l0, l1, l2, l3, l4] [s1, s2, s3] h := e_if_ne c142_114 rfl rfl
theorem c142_117 : cd 142 117 = some (117, .iconst 1, 1, 0, 0, 0) := rfl
theorem s142_117 {l0 l1 l2 l3 l4 s0 s1 s2 : AV} {h : AH} : evL 142 117 [l0, l1, l2, l3, l4] [s0, s1, s2] h = evL 142 118 [l0, l1, l2, l3, l4] [I 1, s0, s1, s2] h := ev_go c142_117 rfl
theorem c142_118 : cd 142 118 = some (118, .goto 4, 3, 0, 0, 0) := rfl
theorem s142_118 {l0 l1 l2 l3 l4 s0 s1 s2 s3 : AV} {h : AH} : evL 142 118 [l0, l1, l2, l3, l4] [s0, s1, s2, s3] h = evL 142 122 [l0, l1, l2, l3, l4] [s0, s1, s2, s3] h := ev_go c142_118 rfl
theorem c142_121 : cd 142 121 = some (121, .iconst 0, 1, 0, 0, 0) := rfl
theorem s142_121 {l0 l1 l2 l3 l4 s0 s1 s2 : AV} {h : AH} : evL 142 121 [l0, l1, l2, l3, l4] [s0, s1, s2] h = evL 142 122 [l0, l1, l2, l3, l4] [I 0, s0, s1, s2] h := ev_go c142_121 rfl
theorem c142_122 : cd 142 122 = some (122, .iadd, 1, 0, 0, 0) := rfl
theorem s142_122 {l0 l1 l2 l3 l4 s2 s3 : AV} {s0 s1 : Int} {h : AH} : evL 142 122 [l0, l1, l2, l3, l4] [I s0, I s1, s2, s3] h = evL 142 123 [l0, l1, l2, l3, l4] [I (ad s1 s0), s2, s3] h := ev_go c142_122 rfl
theorem c142_123 : cd 142 123 = some (123, .iastore, 1, 0, 0, 0) := rfl
theorem s142_123 {l0 l1 l2 l3 l4 : AV} {s0 s1 : Int} {s2 : Nat} {M : Mem} {P : PMem} (hk : kd s2 = 100) (h0 : 0 ≤ s1) (hn : s1.toNat < ln s2) : evL 142 123 [l0, l1, l2, l3, l4] [I s0, I s1, Rf s2] (Hp M P) = evL 142 124 [l0, l1, l2, l3, l4] [] (Hp (wr M s2 s1.toNat s0) P) := e_iast c142_123 hk h0 hn
theorem c142_124 : cd 142 124 = some (124, .aload_n 0, 1, 0, 0, 0) := rfl
theorem s142_124 {l1 l2 l3 l4 : AV} {l0 : Option Nat} {h : AH} : evL 142 124 [.inr (.inl l0), l1, l2, l3, l4] [] h = evL 142 125 [.inr (.inl l0), l1, l2, l3, l4] [.inr (.inl l0)] h := ev_go c142_124 rfl
theorem c142_125 : cd 142 125 = some (125, .getfield 7, 3, 8, 0, 725) := rfl
theorem s142_125 {l0 l1 l2 l3 l4 : AV} {s0 : Nat} {M : Mem} {P : PMem} (hk : kd s0 = 8) : evL 142 125 [l0, l1, l2, l3, l4] [Rf s0] (Hp M P) = evL 142 128 [l0, l1, l2, l3, l4] [Rf (rfd s0 0)] (Hp M P) := e_getR c142_125 rfl hk
theorem c142_128 : cd 142 128 = some (128, .bipush 9, 2, 0, 0, 0) := rfl
theorem s142_128 {l0 l1 l2 l3 l4 s0 : AV} {h : AH} : evL 142 128 [l0, l1, l2, l3, l4] [s0] h = evL 142 130 [l0, l1, l2, l3, l4] [I 9, s0] h := ev_go c142_128 rfl
theorem c142_130 : cd 142 130 = some (130, .aload_n 0, 1, 0, 0, 0) := rfl
theorem s142_130 {l1 l2 l3 l4 s0 s1 : AV} {l0 : Option Nat} {h : AH} : evL 142 130 [.inr (.inl l0), l1, l2, l3, l4] [s0, s1] h = evL 142 131 [.inr (.inl l0), l1, l2, l3, l4] [.inr (.inl l0), s0, s1] h := ev_go c142_130 rfl
theorem c142_131 : cd 142 131 = some (131, .getfield 7, 3, 8, 0, 725) := rfl
theorem s142_131 {l0 l1 l2 l3 l4 s1 s2 : AV} {s0 : Nat} {M : Mem} {P : PMem} (hk : kd s0 = 8) : evL 142 131 [l0, l1, l2, l3, l4] [Rf s0, s1, s2] (Hp M P) = evL 142 134 [l0, l1, l2, l3, l4] [Rf (rfd s0 0), s1, s2] (Hp M P) := e_getR c142_131 rfl hk
theorem c142_134 : cd 142 134 = some (134, .bipush 8, 2, 0, 0, 0) := rfl
theorem s142_134 {l0 l1 l2 l3 l4 s0 s1 s2 : AV} {h : AH} : evL 142 134 [l0, l1, l2, l3, l4] [s0, s1, s2] h = evL 142 136 [l0, l1, l2, l3, l4] [I 8, s0, s1, s2] h := ev_go c142_134 rfl
theorem c142_136 : cd 142 136 = some (136, .iaload, 1, 0, 0, 0) := rfl
theorem s142_136 {l0 l1 l2 l3 l4 s2 s3 : AV} {s0 : Int} {s1 : Nat} {M : Mem} {P : PMem} (hk : kd s1 = 100) (h0 : 0 ≤ s0) (hn : s0.toNat < ln s1) : evL 142 136 [l0, l1, l2, l3, l4] [I s0, Rf s1, s2, s3] (Hp M P) = evL 142 137 [l0, l1, l2, l3, l4] [I (M s1 s0.toNat), s2, s3] (Hp M P) := e_iald c142_136 hk h0 hn
theorem c142_137 : cd 142 137 = some (137, .iadd, 1, 0, 0, 0) := rfl
theorem s142_137 {l0 l1 l2 l3 l4 s2 : AV} {s0 s1 : Int} {h : AH} : evL 142 137 [l0, l1, l2, l3, l4] [I s0, I s1, s2] h = evL 142 138 [l0, l1, l2, l3, l4] [I (ad s1 s0), s2] h := ev_go c142_137 rfl
theorem c142_138 : cd 142 138 = some (138, .iconst 1, 1, 0, 0, 0) := rfl
theorem s142_138 {l0 l1 l2 l3 l4 s0 s1 : AV} {h : AH} : evL 142 138 [l0, l1, l2, l3, l4] [s0, s1] h = evL 142 139 [l0, l1, l2, l3, l4] [I 1, s0, s1] h := ev_go c142_138 rfl
theorem c142_139 : cd 142 139 = some (139, .isub, 1, 0, 0, 0) := rfl
theorem s142_139 {l0 l1 l2 l3 l4 s2 : AV} {s0 s1 : Int} {h : AH} : evL 142 139 [l0, l1, l2, l3, l4] [I s0, I s1, s2] h = evL 142 140 [l0, l1, l2, l3, l4] [I (sb s1 s0), s2] h := ev_go c142_139 rfl
theorem c142_140 : cd 142 140 = some (140, .dup2, 1, 0, 0, 0) := rfl
theorem s142_140 {l0 l1 l2 l3 l4 : AV} {s0 : Int} {s1 : Option Nat} {h : AH} : evL 142 140 [l0, l1, l2, l3, l4] [I s0, .inr (.inl s1)] h = evL 142 141 [l0, l1, l2, l3, l4] [I s0, .inr (.inl s1), I s0, .inr (.inl s1)] h := ev_go c142_140 rfl
theorem c142_141 : cd 142 141 = some (141, .iaload, 1, 0, 0, 0) := rfl
theorem s142_141 {l0 l1 l2 l3 l4 s2 s3 : AV} {s0 : Int} {s1 : Nat} {M : Mem} {P : PMem} (hk : kd s1 = 100) (h0 : 0 ≤ s0) (hn : s0.toNat < ln s1) : evL 142 141 [l0, l1, l2, l3, l4] [I s0, Rf s1, s2, s3] (Hp M P) = evL 142 142 [l0, l1, l2, l3, l4] [I (M s1 s0.toNat), s2, s3] (Hp M P) := e_iald c142_141 hk h0 hn
theorem c142_142 : cd 142 142 = some (142, .aload_n 0, 1, 0, 0, 0) := rfl
theorem s142_142 {l1 l2 l3 l4 s0 s1 s2 : AV} {l0 : Option Nat} {h : AH} : evL 142 142 [.inr (.inl l0), l1, l2, l3, l4] [s0, s1, s2] h = evL 142 143 [.inr (.inl l0), l1, l2, l3, l4] [.inr (.inl l0), s0, s1, s2] h := ev_go c142_142 rfl
theorem c142_143 : cd 142 143 = some (143, .getfield 22, 3, 8, 9, 734) := rfl
theorem s142_143 {l0 l1 l2 l3 l4 s1 s2 s3 : AV} {s0 : Nat} {M : Mem} {P : PMem} (hk : kd s0 = 8) : evL 142 143 [l0, l1, l2, l3, l4] [Rf s0, s1, s2, s3] (Hp M P) = evL 142 146 [l0, l1, l2, l3, l4] [Rf (rfd s0 9), s1, s2, s3] (Hp M P) := e_getR c142_143 rfl hk
theorem c142_146 : cd 142 146 = some (146, .iload_n 3, 1, 0, 0, 0) := rfl
theorem s142_146 {l0 l1 l2 l4 s0 s1 s2 s3 : AV} {l3 : Int} {h : AH} : evL 142 146 [l0, l1, l2, I l3, l4] [s0, s1, s2, s3] h = evL 142 147 [l0, l1, l2, I l3, l4] [I l3, s0, s1, s2, s3] h := ev_go c142_146 rfl
theorem c142_147 : cd 142 147 = some (147, .iaload, 1, 0, 0, 0) := rfl
theorem s142_147 {l0 l1 l2 l3 l4 s2 s3 s4 : AV} {s0 : Int} {s1 : Nat} {M : Mem} {P : PMem} (hk : kd s1 = 100) (h0 : 0 ≤ s0) (hn : s0.toNat < ln s1) : evL 142 147 [l0, l1, l2, l3, l4] [I s0, Rf s1, s2, s3, s4] (Hp M P) = evL 142 148 [l0, l1, l2, l3, l4] [I (M s1 s0.toNat), s2, s3, s4] (Hp M P) := e_iald c142_147 hk h0 hn
theorem c142_148 : cd 142 148 = some (148, .iconst 5, 1, 0, 0, 0) := rfl
theorem s142_148 {l0 l1 l2 l3 l4 s0 s1 s2 s3 : AV} {h : AH} : evL 142 148 [l0, l1, l2, l3, l4] [s0, s1, s2, s3] h = evL 142 149 [l0, l1, l2, l3, l4] [I 5, s0, s1, s2, s3] h := ev_go c142_148 rfl
theorem c142_149 : cd 142 149 = some (149, .iload_n 3, 1, 0, 0, 0) := rfl
theorem s142_149 {l0 l1 l2 l4 s0 s1 s2 s3 s4 : AV} {l3 : Int} {h : AH} : evL 142 149 [l0, l1, l2, I l3, l4] [s0, s1, s2, s3, s4] h = evL 142 150 [l0, l1, l2, I l3, l4] [I l3, s0, s1, s2, s3, s4] h := ev_go c142_149 rfl
theorem c142_150 : cd 142 150 = some (150, .iconst 3, 1, 0, 0, 0) := rfl
theorem s142_150 {l0 l1 l2 l3 l4 s0 s1 s2 s3 s4 s5 : AV} {h : AH} : evL 142 150 [l0, l1, l2, l3, l4] [s0, s1, s2, s3, s4, s5] h = evL 142 151 [l0, l1, l2, l3, l4] [I 3, s0, s1, s2, s3, s4, s5] h := ev_go c142_150 rfl
theorem c142_151 : cd 142 151 = some (151, .irem, 1, 0, 0, 0) := rfl
theorem s142_151 {l0 l1 l2 l3 l4 s2 s3 s4 s5 s6 : AV} {s0 s1 : Int} {h : AH} (hd : s0 ≠ 0) : evL 142 151 [l0, l1, l2, l3, l4] [I s0, I s1, s2, s3, s4, s5, s6] h = evL 142 152 [l0, l1, l2, l3, l4] [I (rm s1 s0), s2, s3, s4, s5, s6] h := ev_go c142_151 (if_pos hd)
theorem c142_152 : cd 142 152 = some (152, .imul, 1, 0, 0, 0) := rfl
theorem s142_152 {l0 l1 l2 l3 l4 s2 s3 s4 s5 : AV} {s0 s1 : Int} {h : AH} : evL 142 152 [l0, l1, l2, l3, l4] [I s0, I s1, s2, s3, s4, s5] h = evL 142 153 [l0, l1, l2, l3, l4] [I (ml s1 s0), s2, s3, s4, s5] h := ev_go c142_152 rfl
theorem c142_153 : cd 142 153 = some (153, .ishl, 1, 0, 0, 0) := rfl
theorem s142_153 {l0 l1 l2 l3 l4 s2 s3 s4 : AV} {s0 s1 : Int} {h : AH} : evL 142 153 [l0, l1, l2, l3, l4] [I s0, I s1, s2, s3, s4] h = evL 142 154 [l0, l1, l2, l3, l4] [I (shl s1 s0), s2, s3, s4] h := ev_go c142_153 rfl
theorem c142_154 : cd 142 154 = some (154, .ior, 1, 0, 0, 0) := rfl
theorem s142_154 {l0 l1 l2 l3 l4 s2 s3 : AV} {s0 s1 : Int} {h : AH} : evL 142 154 [l0, l1, l2, l3, l4] [I s0, I s1, s2, s3] h = evL 142 155 [l0, l1, l2, l3, l4] [I (orr s1 s0), s2, s3] h := ev_go c142_154 rfl
theorem c142_155 : cd 142 155 = some (155, .iastore, 1, 0, 0, 0) := rfl
theorem s142_155 {l0 l1 l2 l3 l4 : AV} {s0 s1 : Int} {s2 : Nat} {M : Mem} {P : PMem} (hk : kd s2 = 100) (h0 : 0 ≤ s1) (hn : s1.toNat < ln s2) : evL 142 155 [l0, l1, l2, l3, l4] [I s0, I s1, Rf s2] (Hp M P) = evL 142 156 [l0, l1, l2, l3, l4] [] (Hp (wr M s2 s1.toNat s0) P) := e_iast c142_155 hk h0 hn
theorem c142_156 : cd 142 156 = some (156, .iinc 3 1, 3, 0, 0, 0) := rfl
theorem s142_156 {l0 l1 l2 l4 : AV} {l3 : Int} {h : AH} : evL 142 156 [l0, l1, l2, I l3, l4] [] h = evL 142 159 [l0, l1, l2, I (ad l3 1), l4] [] h := ev_go c142_156 rfl
theorem c142_159 : cd 142 159 = some (159, .goto (-64), 3, 0, 0, 0) := rfl
theorem s142_159 {l0 l1 l2 l3 l4 : AV} {h : AH} : evL 142 159 [l0, l1, l2, l3, l4] [] h = evL 142 95 [l0, l1, l2, l3, l4] [] h := ev_go c142_159 rfl
theorem c142_162 : cd 142 162 = some (162, .aload_n 0, 1, 0, 0, 0) := rfl
theorem s142_162 {l1 l2 l3 l4 : AV} {l0 : Option Nat} {h : AH} : evL 142 162 [.inr (.inl l0), l1, l2, l3, l4] [] h = evL 142 163 [.inr (.inl l0), l1, l2, l3, l4] [.inr (.inl l0)] h := ev_go c142_162 rfl
theorem c142_163 : cd 142 163 = some (163, .getfield 7, 3, 8, 0, 725) := rfl
theorem s142_163 {l0 l1 l2 l3 l4 : AV} {s0 : Nat} {M : Mem} {P : PMem} (hk : kd s0 = 8) : evL 142 163 [l0, l1, l2, l3, l4] [Rf s0] (Hp M P) = evL 142 166 [l0, l1, l2, l3, l4] [Rf (rfd s0 0)] (Hp M P) := e_getR c142_163 rfl hk
theorem c142_166 : cd 142 166 = some (166, .iconst 1, 1, 0, 0, 0) := rfl
theorem s142_166 {l0 l1 l2 l3 l4 s0 : AV} {h : AH} : evL 142 166 [l0, l1, l2, l3, l4] [s0] h = evL 142 167 [l0, l1, l2, l3, l4] [I 1, s0] h := ev_go c142_166 rfl
theorem c142_167 : cd 142 167 = some (167, .dup2, 1, 0, 0, 0) := rfl
theorem s142_167 {l0 l1 l2 l3 l4 : AV} {s0 : Int} {s1 : Option Nat} {h : AH} : evL 142 167 [l0, l1, l2, l3, l4] [I s0, .inr (.inl s1)] h = evL 142 168 [l0, l1, l2, l3, l4] [I s0, .inr (.inl s1), I s0, .inr (.inl s1)] h := ev_go c142_167 rfl
theorem c142_168 : cd 142 168 = some (168, .iaload, 1, 0, 0, 0) := rfl
theorem s142_168 {l0 l1 l2 l3 l4 s2 s3 : AV} {s0 : Int} {s1 : Nat} {M : Mem} {P : PMem} (hk : kd s1 = 100) (h0 : 0 ≤ s0) (hn : s0.toNat < ln s1) : evL 142 168 [l0, l1, l2, l3, l4] [I s0, Rf s1, s2, s3] (Hp M P) = evL 142 169 [l0, l1, l2, l3, l4] [I (M s1 s0.toNat), s2, s3] (Hp M P) := e_iald c142_168 hk h0 hn
theorem c142_169 : cd 142 169 = some (169, .iconst 1, 1, 0, 0, 0) := rfl
theorem s142_169 {l0 l1 l2 l3 l4 s0 s1 s2 : AV} {h : AH} : evL 142 169 [l0, l1, l2, l3, l4] [s0, s1, s2] h = evL 142 170 [l0, l1, l2, l3, l4] [I 1, s0, s1, s2] h := ev_go c142_169 rfl
theorem c142_170 : cd 142 170 = some (170, .iadd, 1, 0, 0, 0) := rfl
theorem s142_170 {l0 l1 l2 l3 l4 s2 s3 : AV} {s0 s1 : Int} {h : AH} : evL 142 170 [l0, l1, l2, l3, l4] [I s0, I s1, s2, s3] h = evL 142 171 [l0, l1, l2, l3, l4] [I (ad s1 s0), s2, s3] h := ev_go c142_170 rfl
theorem c142_171 : cd 142 171 = some (171, .iastore, 1, 0, 0, 0) := rfl
theorem s142_171 {l0 l1 l2 l3 l4 : AV} {s0 s1 : Int} {s2 : Nat} {M : Mem} {P : PMem} (hk : kd s2 = 100) (h0 : 0 ≤ s1) (hn : s1.toNat < ln s2) : evL 142 171 [l0, l1, l2, l3, l4] [I s0, I s1, Rf s2] (Hp M P) = evL 142 172 [l0, l1, l2, l3, l4] [] (Hp (wr M s2 s1.toNat s0) P) := e_iast c142_171 hk h0 hn
theorem c142_172 : cd 142 172 = some (172, .aload_n 0, 1, 0, 0, 0) := rfl
theorem s142_172 {l1 l2 l3 l4 : AV} {l0 : Option Nat} {h : AH} : evL 142 172 [.inr (.inl l0), l1, l2, l3, l4] [] h = evL 142 173 [.inr (.inl l0), l1, l2, l3, l4] [.inr (.inl l0)] h := ev_go c142_172 rfl
theorem c142_173 : cd 142 173 = some (173, .invokevirtual 77, 3, 128, 0, 717) := rfl
theorem s142_173 {l0 l1 l2 l3 l4 : AV} {s0 : Nat} {M : Mem} {P : PMem} (hk : kd s0 = 8) : evL 142 173 [l0, l1, l2, l3, l4] [Rf s0] (Hp M P) = cont (evM 128 [Rf s0] (Hp M P)) (fun r h => evL 142 176 [l0, l1, l2, l3, l4] (rl r []) h) := e_callV (av' := []) (rest := []) (c := 8) c142_173 rfl rfl rfl rfl rfl rfl rfl hk rfl
theorem c142_176 : cd 142 176 = some (176, .aload_n 0, 1, 0, 0, 0) := rfl
theorem s142_176 {l1 l2 l3 l4 : AV} {l0 : Option Nat} {h : AH} : evL 142 176 [.inr (.inl l0), l1, l2, l3, l4] [] h = evL 142 177 [.inr (.inl l0), l1, l2, l3, l4] [.inr (.inl l0)] h := ev_go c142_176 rfl
theorem c142_177 : cd 142 177 = some (177, .getfield 7, 3, 8, 0, 725) := rfl
theorem s142_177 {l0 l1 l2 l3 l4 : AV} {s0 : Nat} {M : Mem} {P : PMem} (hk : kd s0 = 8) : evL 142 177 [l0, l1, l2, l3, l4] [Rf s0] (Hp M P) = evL 142 180 [l0, l1, l2, l3, l4] [Rf (rfd s0 0)] (Hp M P) := e_getR c142_177 rfl hk
theorem c142_180 : cd 142 180 = some (180, .iconst 2, 1, 0, 0, 0) := rfl
theorem s142_180 {l0 l1 l2 l3 l4 s0 : AV} {h : AH} : evL 142 180 [l0, l1, l2, l3, l4] [s0] h = evL 142 181 [l0, l1, l2, l3, l4] [I 2, s0] h := ev_go c142_180 rfl
theorem c142_181 : cd 142 181 = some (181, .aload_n 0, 1, 0, 0, 0) := rfl
theorem s142_181 {l1 l2 l3 l4 s0 s1 : AV} {l0 : Option Nat} {h : AH} : evL 142 181 [.inr (.inl l0), l1, l2, l3, l4] [s0, s1] h = evL 142 182 [.inr (.inl l0), l1, l2, l3, l4] [.inr (.inl l0), s0, s1] h := ev_go c142_181 rfl
theorem c142_182 : cd 142 182 = some (182, .getfield 7, 3, 8, 0, 725) := rfl
theorem s142_182 {l0 l1 l2 l3 l4 s1 s2 : AV} {s0 : Nat} {M : Mem} {P : PMem} (hk : kd s0 = 8) : evL 142 182 [l0, l1, l2, l3, l4] [Rf s0, s1, s2] (Hp M P) = evL 142 185 [l0, l1, l2, l3, l4] [Rf (rfd s0 0), s1, s2] (Hp M P) := e_getR c142_182 rfl hk
theorem c142_185 : cd 142 185 = some (185, .iconst 1, 1, 0, 0, 0) := rfl
theorem s142_185 {l0 l1 l2 l3 l4 s0 s1 s2 : AV} {h : AH} : evL 142 185 [l0, l1, l2, l3, l4] [s0, s1, s2] h = evL 142 186 [l0, l1, l2, l3, l4] [I 1, s0, s1, s2] h := ev_go c142_185 rfl
theorem c142_186 : cd 142 186 = some (186, .iaload, 1, 0, 0, 0) := rfl
theorem s142_186 {l0 l1 l2 l3 l4 s2 s3 : AV} {s0 : Int} {s1 : Nat} {M : Mem} {P : PMem} (hk : kd s1 = 100) (h0 : 0 ≤ s0) (hn : s0.toNat < ln s1) : evL 142 186 [l0, l1, l2, l3, l4] [I s0, Rf s1, s2, s3] (Hp M P) = evL 142 187 [l0, l1, l2, l3, l4] [I (M s1 s0.toNat), s2, s3] (Hp M P) := e_iald c142_186 hk h0 hn
theorem c142_187 : cd 142 187 = some (187, .iconst 3, 1, 0, 0, 0) := rfl
theorem s142_187 {l0 l1 l2 l3 l4 s0 s1 s2 : AV} {h : AH} : evL 142 187 [l0, l1, l2, l3, l4] [s0, s1, s2] h = evL 142 188 [l0, l1, l2, l3, l4] [I 3, s0, s1, s2] h := ev_go c142_187 rfl
theorem c142_188 : cd 142 188 = some (188, .if_icmp .ne 7, 3, 0, 0, 0) := rfl
theorem s142_188 {l0 l1 l2 l3 l4 s2 s3 : AV} {s0 s1 : Int} {h : AH} : evL 142 188 [l0, l1, l2, l3, l4] [I s0, I s1, s2, s3] h = if s1 = s0 then evL 142 191 [l0, l1, l2, l3, l4] [s2, s3] h else evL 142 195 [l0, l1, l2, l3, l4] [s2, s3] h := e_icmp_ne c142_188 rfl rfl
theorem c142_191 : cd 142 191 = some (191, .iconst 0, 1, 0, 0, 0) := rfl
theorem s142_191 {l0 l1 l2 l3 l4 s0 s1 : AV} {h : AH} : evL 142 191 [l0, l1, l2, l3, l4] [s0, s1] h = evL 142 192 [l0, l1, l2, l3, l4] [I 0, s0, s1] h := ev_go c142_191 rfl
theorem c142_192 : cd 142 192 = some (192, .goto 4, 3, 0, 0, 0) := rfl
theorem s142_192 {l0 l1 l2 l3 l4 s0 s1 s2 : AV} {h : AH} : evL 142 192 [l0, l1, l2, l3, l4] [s0, s1, s2] h = evL 142 196 [l0, l1, l2, l3, l4] [s0, s1, s2] h := ev_go c142_192 rfl
theorem c142_195 : cd 142 195 = some (195, .iload_n 1, 1, 0, 0, 0) := rfl
theorem s142_195 {l0 l2 l3 l4 s0 s1 : AV} {l1 : Int} {h : AH} : evL 142 195 [l0, I l1, l2, l3, l4] [s0, s1] h = evL 142 196 [l0, I l1, l2, l3, l4] [I l1, s0, s1] h := ev_go c142_195 rfl
theorem c142_196 : cd 142 196 = some (196, .iastore, 1, 0, 0, 0) := rfl
theorem s142_196 {l0 l1 l2 l3 l4 : AV} {s0 s1 : Int} {s2 : Nat} {M : Mem} {P : PMem} (hk : kd s2 = 100) (h0 : 0 ≤ s1) (hn : s1.toNat < ln s2) : evL 142 196 [l0, l1, l2, l3, l4] [I s0, I s1, Rf s2] (Hp M P) = evL 142 197 [l0, l1, l2, l3, l4] [] (Hp (wr M s2 s1.toNat s0) P) := e_iast c142_196 hk h0 hn
theorem c142_197 : cd 142 197 = some (197, .aload_n 0, 1, 0, 0, 0) := rfl
theorem s142_197 {l1 l2 l3 l4 : AV} {l0 : Option Nat} {h : AH} : evL 142 197 [.inr (.inl l0), l1, l2, l3, l4] [] h = evL 142 198 [.inr (.inl l0), l1, l2, l3, l4] [.inr (.inl l0)] h := ev_go c142_197 rfl
theorem c142_198 : cd 142 198 = some (198, .getfield 7, 3, 8, 0, 725) := rfl
theorem s142_198 {l0 l1 l2 l3 l4 : AV} {s0 : Nat} {M : Mem} {P : PMem} (hk : kd s0 = 8) : evL 142 198 [l0, l1, l2, l3, l4] [Rf s0] (Hp M P) = evL 142 201 [l0, l1, l2, l3, l4] [Rf (rfd s0 0)] (Hp M P) := e_getR c142_198 rfl hk
theorem c142_201 : cd 142 201 = some (201, .iconst 3, 1, 0, 0, 0) := rfl
theorem s142_201 {l0 l1 l2 l3 l4 s0 : AV} {h : AH} : evL 142 201 [l0, l1, l2, l3, l4] [s0] h = evL 142 202 [l0, l1, l2, l3, l4] [I 3, s0] h := ev_go c142_201 rfl
theorem c142_202 : cd 142 202 = some (202, .aload_n 0, 1, 0, 0, 0) := rfl
theorem s142_202 {l1 l2 l3 l4 s0 s1 : AV} {l0 : Option Nat} {h : AH} : evL 142 202 [.inr (.inl l0), l1, l2, l3, l4] [s0, s1] h = evL 142 203 [.inr (.inl l0), l1, l2, l3, l4] [.inr (.inl l0), s0, s1] h := ev_go c142_202 rfl
theorem c142_203 : cd 142 203 = some (203, .getfield 7, 3, 8, 0, 725) := rfl
theorem s142_203 {l0 l1 l2 l3 l4 s1 s2 : AV} {s0 : Nat} {M : Mem} {P : PMem} (hk : kd s0 = 8) : evL 142 203 [l0, l1, l2, l3, l4] [Rf s0, s1, s2] (Hp M P) = evL 142 206 [l0, l1, l2, l3, l4] [Rf (rfd s0 0), s1, s2] (Hp M P) := e_getR c142_203 rfl hk
theorem c142_206 : cd 142 206 = some (206, .iconst 1, 1, 0, 0, 0) := rfl
theorem s142_206 {l0 l1 l2 l3 l4 s0 s1 s2 : AV} {h : AH} : evL 142 206 [l0, l1, l2, l3, l4] [s0, s1, s2] h = evL 142 207 [l0, l1, l2, l3, l4] [I 1, s0, s1, s2] h := ev_go c142_206 rfl
theorem c142_207 : cd 142 207 = some (207, .iaload, 1, 0, 0, 0) := rfl
theorem s142_207 {l0 l1 l2 l3 l4 s2 s3 : AV} {s0 : Int} {s1 : Nat} {M : Mem} {P : PMem} (hk : kd s1 = 100) (h0 : 0 ≤ s0) (hn : s0.toNat < ln s1) : evL 142 207 [l0, l1, l2, l3, l4] [I s0, Rf s1, s2, s3] (Hp M P) = evL 142 208 [l0, l1, l2, l3, l4] [I (M s1 s0.toNat), s2, s3] (Hp M P) := e_iald c142_207 hk h0 hn
theorem c142_208 : cd 142 208 = some (208, .iconst 3, 1, 0, 0, 0) := rfl
theorem s142_208 {l0 l1 l2 l3 l4 s0 s1 s2 : AV} {h : AH} : evL 142 208 [l0, l1, l2, l3, l4] [s0, s1, s2] h = evL 142 209 [l0, l1, l2, l3, l4] [I 3, s0, s1, s2] h := ev_go c142_208 rfl
theorem c142_209 : cd 142 209 = some (209, .if_icmp .ne 7, 3, 0, 0, 0) := rfl
theorem s142_209 {l0 l1 l2 l3 l4 s2 s3 : AV} {s0 s1 : Int} {h : AH} : evL 142 209 [l0, l1, l2, l3, l4] [I s0, I s1, s2, s3] h = if s1 = s0 then evL 142 212 [l0, l1, l2, l3, l4] [s2, s3] h else evL 142 216 [l0, l1, l2, l3, l4] [s2, s3] h := e_icmp_ne c142_209 rfl rfl
theorem c142_212 : cd 142 212 = some (212, .iconst 2, 1, 0, 0, 0) := rfl
theorem s142_212 {l0 l1 l2 l3 l4 s0 s1 : AV} {h : AH} : evL 142 212 [l0, l1, l2, l3, l4] [s0, s1] h = evL 142 213 [l0, l1, l2, l3, l4] [I 2, s0, s1] h := ev_go c142_212 rfl
theorem c142_213 : cd 142 213 = some (213, .goto 4, 3, 0, 0, 0) := rfl
theorem s142_213 {l0 l1 l2 l3 l4 s0 s1 s2 : AV} {h : AH} : evL 142 213 [l0, l1, l2, l3, l4] [s0, s1, s2] h = evL 142 217 [l0, l1, l2, l3, l4] [s0, s1, s2] h := ev_go c142_213 rfl
theorem c142_216 : cd 142 216 = some (216, .iconst 0, 1, 0, 0, 0) := rfl
theorem s142_216 {l0 l1 l2 l3 l4 s0 s1 : AV} {h : AH} : evL 142 216 [l0, l1, l2, l3, l4] [s0, s1] h = evL 142 217 [l0, l1, l2, l3, l4] [I 0, s0, s1] h := ev_go c142_216 rfl
theorem c142_217 : cd 142 217 = some (217, .iastore, 1, 0, 0, 0) := rfl
theorem s142_217 {l0 l1 l2 l3 l4 : AV} {s0 s1 : Int} {s2 : Nat} {M : Mem} {P : PMem} (hk : kd s2 = 100) (h0 : 0 ≤ s1) (hn : s1.toNat < ln s2) : evL 142 217 [l0, l1, l2, l3, l4] [I s0, I s1, Rf s2] (Hp M P) = evL 142 218 [l0, l1, l2, l3, l4] [] (Hp (wr M s2 s1.toNat s0) P) := e_iast c142_217 hk h0 hn
theorem c142_218 : cd 142 218 = some (218, .return_, 1, 0, 0, 0) := rfl
theorem s142_218 {l0 l1 l2 l3 l4 : AV} {h : AH} : evL 142 218 [l0, l1, l2, l3, l4] [] h = some (none, h) := e_ret c142_218 rfl
/-! 143: TankDiversModel.goTake()I -/
theorem en143 {l0 : AV} {h : AH} : evM 143 [l0] h = evL 143 0 [l0, Db 0, Db 0, Db 0, Db 0] [] h := rfl
theorem c143_0 : cd 143 0 = some (0, .aload_n 0, 1, 0, 0, 0) := rfl
theorem s143_0 {l1 l2 l3 l4 : AV} {l0 : Option Nat} {h : AH} : evL 143 0 [.inr (.inl l0), l1, l2, l3, l4] [] h = evL 143 1 [.inr (.inl l0), l1, l2, l3, l4] [.inr (.inl l0)] h := ev_go c143_0 rfl
theorem c143_1 : cd 143 1 = some (1, .getfield 7, 3, 8, 0, 725) := rfl
theorem s143_1 {l0 l1 l2 l3 l4 : AV} {s0 : Nat} {M : Mem} {P : PMem} (hk : kd s0 = 8) : evL 143 1 [l0, l1, l2, l3, l4] [Rf s0] (Hp M P) = evL 143 4 [l0, l1, l2, l3, l4] [Rf (rfd s0 0)] (Hp M P) := e_getR c143_1 rfl hk
theorem c143_4 : cd 143 4 = some (4, .iconst 2, 1, 0, 0, 0) := rfl
theorem s143_4 {l0 l1 l2 l3 l4 s0 : AV} {h : AH} : evL 143 4 [l0, l1, l2, l3, l4] [s0] h = evL 143 5 [l0, l1, l2, l3, l4] [I 2, s0] h := ev_go c143_4 rfl
theorem c143_5 : cd 143 5 = some (5, .iaload, 1, 0, 0, 0) := rfl
theorem s143_5 {l0 l1 l2 l3 l4 : AV} {s0 : Int} {s1 : Nat} {M : Mem} {P : PMem} (hk : kd s1 = 100) (h0 : 0 ≤ s0) (hn : s0.toNat < ln s1) : evL 143 5 [l0, l1, l2, l3, l4] [I s0, Rf s1] (Hp M P) = evL 143 6 [l0, l1, l2, l3, l4] [I (M s1 s0.toNat)] (Hp M P) := e_iald c143_5 hk h0 hn
theorem c143_6 : cd 143 6 = some (6, .istore_n 1, 1, 0, 0, 0) := rfl
theorem s143_6 {l0 l1 l2 l3 l4 : AV} {s0 : Int} {h : AH} : evL 143 6 [l0, l1, l2, l3, l4] [I s0] h = evL 143 7 [l0, I s0, l2, l3, l4] [] h := ev_go c143_6 rfl
theorem c143_7 : cd 143 7 = some (7, .aload_n 0, 1, 0, 0, 0) := rfl
theorem s143_7 {l1 l2 l3 l4 : AV} {l0 : Option Nat} {h : AH} : evL 143 7 [.inr (.inl l0), l1, l2, l3, l4] [] h = evL 143 8 [.inr (.inl l0), l1, l2, l3, l4] [.inr (.inl l0)] h := ev_go c143_7 rfl
theorem c143_8 : cd 143 8 = some (8, .iload_n 1, 1, 0, 0, 0) := rfl
theorem s143_8 {l0 l2 l3 l4 s0 : AV} {l1 : Int} {h : AH} : evL 143 8 [l0, I l1, l2, l3, l4] [s0] h = evL 143 9 [l0, I l1, l2, l3, l4] [I l1, s0] h := ev_go c143_8 rfl
theorem c143_9 : cd 143 9 = some (9, .iconst 0, 1, 0, 0, 0) := rfl
theorem s143_9 {l0 l1 l2 l3 l4 s0 s1 : AV} {h : AH} : evL 143 9 [l0, l1, l2, l3, l4] [s0, s1] h = evL 143 10 [l0, l1, l2, l3, l4] [I 0, s0, s1] h := ev_go c143_9 rfl
theorem c143_10 : cd 143 10 = some (10, .invokevirtual 54, 3, 116, 0, 806) := rfl
theorem s143_10 {l0 l1 l2 l3 l4 : AV} {s0 s1 : Int} {s2 : Nat} {M : Mem} {P : PMem} (hk : kd s2 = 8) : evL 143 10 [l0, l1, l2, l3, l4] [I s0, I s1, Rf s2] (Hp M P) = cont (evM 116 [Rf s2, I s1, I s0] (Hp M P)) (fun r h => evL 143 13 [l0, l1, l2, l3, l4] (rl r []) h) := e_callV (av' := [I s1, I s0]) (rest := []) (c := 8) c143_10 rfl rfl rfl rfl rfl rfl rfl hk rfl
theorem c143_13 : cd 143 13 = some (13, .istore_n 2, 1, 0, 0, 0) := rfl
theorem s143_13 {l0 l1 l2 l3 l4 : AV} {s0 : Int} {h : AH} : evL 143 13 [l0, l1, l2, l3, l4] [I s0] h = evL 143 14 [l0, l1, I s0, l3, l4] [] h := ev_go c143_13 rfl
theorem c143_14 : cd 143 14 = some (14, .aload_n 0, 1, 0, 0, 0) := rfl
theorem s143_14 {l1 l2 l3 l4 : AV} {l0 : Option Nat} {h : AH} : evL 143 14 [.inr (.inl l0), l1, l2, l3, l4] [] h = evL 143 15 [.inr (.inl l0), l1, l2, l3, l4] [.inr (.inl l0)] h := ev_go c143_14 rfl
theorem c143_15 : cd 143 15 = some (15, .invokevirtual 124, 3, 135, 0, 838) := rfl
theorem s143_15 {l0 l1 l2 l3 l4 : AV} {s0 : Nat} {M : Mem} {P : PMem} (hk : kd s0 = 8) : evL 143 15 [l0, l1, l2, l3, l4] [Rf s0] (Hp M P) = cont (evM 135 [Rf s0] (Hp M P)) (fun r h => evL 143 18 [l0, l1, l2, l3, l4] (rl r []) h) := e_callV (av' := []) (rest := []) (c := 8) c143_15 rfl rfl rfl rfl rfl rfl rfl hk rfl
theorem c143_18 : cd 143 18 = some (18, .istore_n 3, 1, 0, 0, 0) := rfl
theorem s143_18 {l0 l1 l2 l3 l4 : AV} {s0 : Int} {h : AH} : evL 143 18 [l0, l1, l2, l3, l4] [I s0] h = evL 143 19 [l0, l1, l2, I s0, l4] [] h := ev_go c143_18 rfl
theorem c143_19 : cd 143 19 = some (19, .iload_n 3, 1, 0, 0, 0) := rfl
theorem s143_19 {l0 l1 l2 l4 : AV} {l3 : Int} {h : AH} : evL 143 19 [l0, l1, l2, I l3, l4] [] h = evL 143 20 [l0, l1, l2, I l3, l4] [I l3] h := ev_go c143_19 rfl
theorem c143_20 : cd 143 20 = some (20, .ifCond .le 7, 3, 0, 0, 0) := rfl
theorem s143_20 {l0 l1 l2 l3 l4 : AV} {s0 : Int} {h : AH} : evL 143 20 [l0, l1, l2, l3, l4] [I s0] h = if s0 ≤ 0 then evL 143 27 [l0, l1, l2, l3, l4] [] h else evL 143 23 [l0, l1, l2, l3, l4] [] h := e_if_le c143_20 rfl rfl
theorem c143_23 : cd 143 23 = some (23, .iload_n 3, 1, 0, 0, 0) := rfl
theorem s143_23 {l0 l1 l2 l4 : AV} {l3 : Int} {h : AH} : evL 143 23 [l0, l1, l2, I l3, l4] [] h = evL 143 24 [l0, l1, l2, I l3, l4] [I l3] h := ev_go c143_23 rfl
theorem c143_24 : cd 143 24 = some (24, .goto 41, 3, 0, 0, 0) := rfl
theorem s143_24 {l0 l1 l2 l3 l4 s0 : AV} {h : AH} : evL 143 24 [l0, l1, l2, l3, l4] [s0] h = evL 143 65 [l0, l1, l2, l3, l4] [s0] h := ev_go c143_24 rfl
theorem c143_27 : cd 143 27 = some (27, .iload_n 2, 1, 0, 0, 0) := rfl
theorem s143_27 {l0 l1 l3 l4 : AV} {l2 : Int} {h : AH} : evL 143 27 [l0, l1, I l2, l3, l4] [] h = evL 143 28 [l0, l1, I l2, l3, l4] [I l2] h := ev_go c143_27 rfl
theorem c143_28 : cd 143 28 = some (28, .ifCond .ne 7, 3, 0, 0, 0) := rfl
theorem s143_28 {l0 l1 l2 l3 l4 : AV} {s0 : Int} {h : AH} : evL 143 28 [l0, l1, l2, l3, l4] [I s0] h = if s0 = 0 then evL 143 31 [l0, l1, l2, l3, l4] [] h else evL 143 35 [l0, l1, l2, l3, l4] [] h := e_if_ne c143_28 rfl rfl
theorem c143_31 : cd 143 31 = some (31, .iconst 5, 1, 0, 0, 0) := rfl
theorem s143_31 {l0 l1 l2 l3 l4 : AV} {h : AH} : evL 143 31 [l0, l1, l2, l3, l4] [] h = evL 143 32 [l0, l1, l2, l3, l4] [I 5] h := ev_go c143_31 rfl
theorem c143_32 : cd 143 32 = some (32, .goto 33, 3, 0, 0, 0) := rfl
theorem s143_32 {l0 l1 l2 l3 l4 s0 : AV} {h : AH} : evL 143 32 [l0, l1, l2, l3, l4] [s0] h = evL 143 65 [l0, l1, l2, l3, l4] [s0] h := ev_go c143_32 rfl
theorem c143_35 : cd 143 35 = some (35, .aload_n 0, 1, 0, 0, 0) := rfl
theorem s143_35 {l1 l2 l3 l4 : AV} {l0 : Option Nat} {h : AH} : evL 143 35 [.inr (.inl l0), l1, l2, l3, l4] [] h = evL 143 36 [.inr (.inl l0), l1, l2, l3, l4] [.inr (.inl l0)] h := ev_go c143_35 rfl
theorem c143_36 : cd 143 36 = some (36, .iload_n 2, 1, 0, 0, 0) := rfl
theorem s143_36 {l0 l1 l3 l4 s0 : AV} {l2 : Int} {h : AH} : evL 143 36 [l0, l1, I l2, l3, l4] [s0] h = evL 143 37 [l0, l1, I l2, l3, l4] [I l2, s0] h := ev_go c143_36 rfl
theorem c143_37 : cd 143 37 = some (37, .invokevirtual 63, 3, 119, 0, 842) := rfl
theorem s143_37 {l0 l1 l2 l3 l4 : AV} {s0 : Int} {s1 : Nat} {M : Mem} {P : PMem} (hk : kd s1 = 8) : evL 143 37 [l0, l1, l2, l3, l4] [I s0, Rf s1] (Hp M P) = cont (evM 119 [Rf s1, I s0] (Hp M P)) (fun r h => evL 143 40 [l0, l1, l2, l3, l4] (rl r []) h) := e_callV (av' := [I s0]) (rest := []) (c := 8) c143_37 rfl rfl rfl rfl rfl rfl rfl hk rfl
theorem c143_40 : cd 143 40 = some (40, .ifCond .ne 8, 3, 0, 0, 0) := rfl
theorem s143_40 {l0 l1 l2 l3 l4 : AV} {s0 : Int} {h : AH} : evL 143 40 [l0, l1, l2, l3, l4] [I s0] h = if s0 = 0 then evL 143 43 [l0, l1, l2, l3, l4] [] h else evL 143 48 [l0, l1, l2, l3, l4] [] h := e_if_ne c143_40 rfl rfl
theorem c143_43 : cd 143 43 = some (43, .bipush 6, 2, 0, 0, 0) := rfl
theorem s143_43 {l0 l1 l2 l3 l4 : AV} {h : AH} : evL 143 43 [l0, l1, l2, l3, l4] [] h = evL 143 45 [l0, l1, l2, l3, l4] [I 6] h := ev_go c143_43 rfl
theorem c143_45 : cd 143 45 = some (45, .goto 20, 3, 0, 0, 0) := rfl
theorem s143_45 {l0 l1 l2 l3 l4 s0 : AV} {h : AH} : evL 143 45 [l0, l1, l2, l3, l4] [s0] h = evL 143 65 [l0, l1, l2, l3, l4] [s0] h := ev_go c143_45 rfl
theorem c143_48 : cd 143 48 = some (48, .aload_n 0, 1, 0, 0, 0) := rfl
theorem s143_48 {l1 l2 l3 l4 : AV} {l0 : Option Nat} {h : AH} : evL 143 48 [.inr (.inl l0), l1, l2, l3, l4] [] h = evL 143 49 [.inr (.inl l0), l1, l2, l3, l4] [.inr (.inl l0)] h := ev_go c143_48 rfl
theorem c143_49 : cd 143 49 = some (49, .iload_n 1, 1, 0, 0, 0) := rfl
theorem s143_49 {l0 l2 l3 l4 s0 : AV} {l1 : Int} {h : AH} : evL 143 49 [l0, I l1, l2, l3, l4] [s0] h = evL 143 50 [l0, I l1, l2, l3, l4] [I l1, s0] h := ev_go c143_49 rfl
theorem c143_50 : cd 143 50 = some (50, .iconst 3, 1, 0, 0, 0) := rfl
theorem s143_50 {l0 l1 l2 l3 l4 s0 s1 : AV} {h : AH} : evL 143 50 [l0, l1, l2, l3, l4] [s0, s1] h = evL 143 51 [l0, l1, l2, l3, l4] [I 3, s0, s1] h := ev_go c143_50 rfl
theorem c143_51 : cd 143 51 = some (51, .invokevirtual 54, 3, 116, 0, 806) := rfl
theorem s143_51 {l0 l1 l2 l3 l4 : AV} {s0 s1 : Int} {s2 : Nat} {M : Mem} {P : PMem} (hk : kd s2 = 8) : evL 143 51 [l0, l1, l2, l3, l4] [I s0, I s1, Rf s2] (Hp M P) = cont (evM 116 [Rf s2, I s1, I s0] (Hp M P)) (fun r h => evL 143 54 [l0, l1, l2, l3, l4] (rl r []) h) := e_callV (av' := [I s1, I s0]) (rest := []) (c := 8) c143_51 rfl rfl rfl rfl rfl rfl rfl hk rfl
theorem c143_54 : cd 143 54 = some (54, .bipush 6, 2, 0, 0, 0) := rfl
theorem s143_54 {l0 l1 l2 l3 l4 s0 : AV} {h : AH} : evL 143 54 [l0, l1, l2, l3, l4] [s0] h = evL 143 56 [l0, l1, l2, l3, l4] [I 6, s0] h := ev_go c143_54 rfl
theorem c143_56 : cd 143 56 = some (56, .if_icmp .ne 8, 3, 0, 0, 0) := rfl
theorem s143_56 {l0 l1 l2 l3 l4 : AV} {s0 s1 : Int} {h : AH} : evL 143 56 [l0, l1, l2, l3, l4] [I s0, I s1] h = if s1 = s0 then evL 143 59 [l0, l1, l2, l3, l4] [] h else evL 143 64 [l0, l1, l2, l3, l4] [] h := e_icmp_ne c143_56 rfl rfl
theorem c143_59 : cd 143 59 = some (59, .bipush 8, 2, 0, 0, 0) := rfl
theorem s143_59 {l0 l1 l2 l3 l4 : AV} {h : AH} : evL 143 59 [l0, l1, l2, l3, l4] [] h = evL 143 61 [l0, l1, l2, l3, l4] [I 8] h := ev_go c143_59 rfl
theorem c143_61 : cd 143 61 = some (61, .goto 4, 3, 0, 0, 0) := rfl
theorem s143_61 {l0 l1 l2 l3 l4 s0 : AV} {h : AH} : evL 143 61 [l0, l1, l2, l3, l4] [s0] h = evL 143 65 [l0, l1, l2, l3, l4] [s0] h := ev_go c143_61 rfl
theorem c143_64 : cd 143 64 = some (64, .iconst 0, 1, 0, 0, 0) := rfl
theorem s143_64 {l0 l1 l2 l3 l4 : AV} {h : AH} : evL 143 64 [l0, l1, l2, l3, l4] [] h = evL 143 65 [l0, l1, l2, l3, l4] [I 0] h := ev_go c143_64 rfl
theorem c143_65 : cd 143 65 = some (65, .istore_n 3, 1, 0, 0, 0) := rfl
theorem s143_65 {l0 l1 l2 l3 l4 : AV} {s0 : Int} {h : AH} : evL 143 65 [l0, l1, l2, l3, l4] [I s0] h = evL 143 66 [l0, l1, l2, I s0, l4] [] h := ev_go c143_65 rfl
theorem c143_66 : cd 143 66 = some (66, .iload_n 3, 1, 0, 0, 0) := rfl
theorem s143_66 {l0 l1 l2 l4 : AV} {l3 : Int} {h : AH} : evL 143 66 [l0, l1, l2, I l3, l4] [] h = evL 143 67 [l0, l1, l2, I l3, l4] [I l3] h := ev_go c143_66 rfl
theorem c143_67 : cd 143 67 = some (67, .ifCond .le 9, 3, 0, 0, 0) := rfl
theorem s143_67 {l0 l1 l2 l3 l4 : AV} {s0 : Int} {h : AH} : evL 143 67 [l0, l1, l2, l3, l4] [I s0] h = if s0 ≤ 0 then evL 143 76 [l0, l1, l2, l3, l4] [] h else evL 143 70 [l0, l1, l2, l3, l4] [] h := e_if_le c143_67 rfl rfl
theorem c143_70 : cd 143 70 = some (70, .aload_n 0, 1, 0, 0, 0) := rfl
theorem s143_70 {l1 l2 l3 l4 : AV} {l0 : Option Nat} {h : AH} : evL 143 70 [.inr (.inl l0), l1, l2, l3, l4] [] h = evL 143 71 [.inr (.inl l0), l1, l2, l3, l4] [.inr (.inl l0)] h := ev_go c143_70 rfl
theorem c143_71 : cd 143 71 = some (71, .iload_n 3, 1, 0, 0, 0) := rfl
theorem s143_71 {l0 l1 l2 l4 s0 : AV} {l3 : Int} {h : AH} : evL 143 71 [l0, l1, l2, I l3, l4] [s0] h = evL 143 72 [l0, l1, l2, I l3, l4] [I l3, s0] h := ev_go c143_71 rfl
theorem c143_72 : cd 143 72 = some (72, .invokevirtual 88, 3, 130, 0, 810) := rfl
theorem s143_72 {l0 l1 l2 l3 l4 : AV} {s0 : Int} {s1 : Nat} {M : Mem} {P : PMem} (hk : kd s1 = 8) : evL 143 72 [l0, l1, l2, l3, l4] [I s0, Rf s1] (Hp M P) = cont (evM 130 [Rf s1, I s0] (Hp M P)) (fun r h => evL 143 75 [l0, l1, l2, l3, l4] (rl r []) h) := e_callV (av' := [I s0]) (rest := []) (c := 8) c143_72 rfl rfl rfl rfl rfl rfl rfl hk rfl
theorem c143_75 : cd 143 75 = some (75, .ireturn, 1, 0, 0, 0) := rfl
theorem s143_75 {l0 l1 l2 l3 l4 : AV} {s0 : Int} {h : AH} : evL 143 75 [l0, l1, l2, l3, l4] [I s0] h = some (some (I s0), h) := e_ret c143_75 rfl
theorem c143_76 : cd 143 76 = some (76, .aload_n 0, 1, 0, 0, 0) := rfl
theorem s143_76 {l1 l2 l3 l4 : AV} {l0 : Option Nat} {h : AH} : evL 143 76 [.inr (.inl l0), l1, l2, l3, l4] [] h = evL 143 77 [.inr (.inl l0), l1, l2, l3, l4] [.inr (.inl l0)] h := ev_go c143_76 rfl
theorem c143_77 : cd 143 77 = some (77, .iload_n 1, 1, 0, 0, 0) := rfl
theorem s143_77 {l0 l2 l3 l4 s0 : AV} {l1 : Int} {h : AH} : evL 143 77 [l0, I l1, l2, l3, l4] [s0] h = evL 143 78 [l0, I l1, l2, l3, l4] [I l1, s0] h := ev_go c143_77 rfl
theorem c143_78 : cd 143 78 = some (78, .iconst 3, 1, 0, 0, 0) := rfl
theorem s143_78 {l0 l1 l2 l3 l4 s0 s1 : AV} {h : AH} : evL 143 78 [l0, l1, l2, l3, l4] [s0, s1] h = evL 143 79 [l0, l1, l2, l3, l4] [I 3, s0, s1] h := ev_go c143_78 rfl
theorem c143_79 : cd 143 79 = some (79, .invokevirtual 54, 3, 116, 0, 806) := rfl
theorem s143_79 {l0 l1 l2 l3 l4 : AV} {s0 s1 : Int} {s2 : Nat} {M : Mem} {P : PMem} (hk : kd s2 = 8) : evL 143 79 [l0, l1, l2, l3, l4] [I s0, I s1, Rf s2] (Hp M P) = cont (evM 116 [Rf s2, I s1, I s0] (Hp M P)) (fun r h => evL 143 82 [l0, l1, l2, l3, l4] (rl r []) h) := e_callV (av' := [I s1, I s0]) (rest := []) (c := 8) c143_79 rfl rfl rfl rfl rfl rfl rfl hk rfl
theorem c143_82 : cd 143 82 = some (82, .istore 4, 2, 0, 0, 0) := rfl
theorem s143_82 {l0 l1 l2 l3 l4 : AV} {s0 : Int} {h : AH} : evL 143 82 [l0, l1, l2, l3, l4] [I s0] h = evL 143 84 [l0, l1, l2, l3, I s0] [] h := ev_go c143_82 rfl
theorem c143_84 : cd 143 84 = some (84, .aload_n 0, 1, 0, 0, 0) := rfl
theorem s143_84 {l1 l2 l3 l4 : AV} {l0 : Option Nat} {h : AH} : evL 143 84 [.inr (.inl l0), l1, l2, l3, l4] [] h = evL 143 85 [.inr (.inl l0), l1, l2, l3, l4] [.inr (.inl l0)] h := ev_go c143_84 rfl
theorem c143_85 : cd 143 85 = some (85, .iload_n 1, 1, 0, 0, 0) := rfl
theorem s143_85 {l0 l2 l3 l4 s0 : AV} {l1 : Int} {h : AH} : evL 143 85 [l0, I l1, l2, l3, l4] [s0] h = evL 143 86 [l0, I l1, l2, l3, l4] [I l1, s0] h := ev_go c143_85 rfl
theorem c143_86 : cd 143 86 = some (86, .iconst 4, 1, 0, 0, 0) := rfl
theorem s143_86 {l0 l1 l2 l3 l4 s0 s1 : AV} {h : AH} : evL 143 86 [l0, l1, l2, l3, l4] [s0, s1] h = evL 143 87 [l0, l1, l2, l3, l4] [I 4, s0, s1] h := ev_go c143_86 rfl
theorem c143_87 : cd 143 87 = some (87, .iload 4, 2, 0, 0, 0) := rfl
theorem s143_87 {l0 l1 l2 l3 s0 s1 s2 : AV} {l4 : Int} {h : AH} : evL 143 87 [l0, l1, l2, l3, I l4] [s0, s1, s2] h = evL 143 89 [l0, l1, l2, l3, I l4] [I l4, s0, s1, s2] h := ev_go c143_87 rfl
theorem c143_89 : cd 143 89 = some (89, .iadd, 1, 0, 0, 0) := rfl
theorem s143_89 {l0 l1 l2 l3 l4 s2 s3 : AV} {s0 s1 : Int} {h : AH} : evL 143 89 [l0, l1, l2, l3, l4] [I s0, I s1, s2, s3] h = evL 143 90 [l0, l1, l2, l3, l4] [I (ad s1 s0), s2, s3] h := ev_go c143_89 rfl
theorem c143_90 : cd 143 90 = some (90, .aload_n 0, 1, 0, 0, 0) := rfl
theorem s143_90 {l1 l2 l3 l4 s0 s1 s2 : AV} {l0 : Option Nat} {h : AH} : evL 143 90 [.inr (.inl l0), l1, l2, l3, l4] [s0, s1, s2] h = evL 143 91 [.inr (.inl l0), l1, l2, l3, l4] [.inr (.inl l0), s0, s1, s2] h := ev_go c143_90 rfl
theorem c143_91 : cd 143 91 = some (91, .iload_n 2, 1, 0, 0, 0) := rfl
theorem s143_91 {l0 l1 l3 l4 s0 s1 s2 s3 : AV} {l2 : Int} {h : AH} : evL 143 91 [l0, l1, I l2, l3, l4] [s0, s1, s2, s3] h = evL 143 92 [l0, l1, I l2, l3, l4] [I l2, s0, s1, s2, s3] h := ev_go c143_91 rfl
theorem c143_92 : cd 143 92 = some (92, .invokevirtual 63, 3, 119, 0, 842) := rfl
theorem s143_92 {l0 l1 l2 l3 l4 s2 s3 s4 : AV} {s0 : Int} {s1 : Nat} {M : Mem} {P : PMem} (hk : kd s1 = 8) : evL 143 92 [l0, l1, l2, l3, l4] [I s0, Rf s1, s2, s3, s4] (Hp M P) = cont (evM 119 [Rf s1, I s0] (Hp M P)) (fun r h => evL 143 95 [l0, l1, l2, l3, l4] (rl r [s2, s3, s4]) h) := e_callV (av' := [I s0]) (rest := [s2, s3, s4]) (c := 8) c143_92 rfl rfl rfl rfl rfl rfl rfl hk rfl
theorem c143_95 : cd 143 95 = some (95, .invokevirtual 69, 3, 117, 0, 721) := rfl
theorem s143_95 {l0 l1 l2 l3 l4 : AV} {s0 s1 s2 : Int} {s3 : Nat} {M : Mem} {P : PMem} (hk : kd s3 = 8) : evL 143 95 [l0, l1, l2, l3, l4] [I s0, I s1, I s2, Rf s3] (Hp M P) = cont (evM 117 [Rf s3, I s2, I s1, I s0] (Hp M P)) (fun r h => evL 143 98 [l0, l1, l2, l3, l4] (rl r []) h) := e_callV (av' := [I s2, I s1, I s0]) (rest := []) (c := 8) c143_95 rfl rfl rfl rfl rfl rfl rfl hk rfl
theorem c143_98 : cd 143 98 = some (98, .aload_n 0, 1, 0, 0, 0) := rfl
theorem s143_98 {l1 l2 l3 l4 : AV} {l0 : Option Nat} {h : AH} : evL 143 98 [.inr (.inl l0), l1, l2, l3, l4] [] h = evL 143 99 [.inr (.inl l0), l1, l2, l3, l4] [.inr (.inl l0)] h := ev_go c143_98 rfl
theorem c143_99 : cd 143 99 = some (99, .iload_n 1, 1, 0, 0, 0) := rfl
theorem s143_99 {l0 l2 l3 l4 s0 : AV} {l1 : Int} {h : AH} : evL 143 99 [l0, I l1, l2, l3, l4] [s0] h = evL 143 100 [l0, I l1, l2, l3, l4] [I l1, s0] h := ev_go c143_99 rfl
theorem c143_100 : cd 143 100 = some (100, .iconst 3, 1, 0, 0, 0) := rfl
theorem s143_100 {l0 l1 l2 l3 l4 s0 s1 : AV} {h : AH} : evL 143 100 [l0, l1, l2, l3, l4] [s0, s1] h = evL 143 101 [l0, l1, l2, l3, l4] [I 3, s0, s1] h := ev_go c143_100 rfl
theorem c143_101 : cd 143 101 = some (101, .iload 4, 2, 0, 0, 0) := rfl
theorem s143_101 {l0 l1 l2 l3 s0 s1 s2 : AV} {l4 : Int} {h : AH} : evL 143 101 [l0, l1, l2, l3, I l4] [s0, s1, s2] h = evL 143 103 [l0, l1, l2, l3, I l4] [I l4, s0, s1, s2] h := ev_go c143_101 rfl
theorem c143_103 : cd 143 103 = some (103, .iconst 1, 1, 0, 0, 0) := rfl
theorem s143_103 {l0 l1 l2 l3 l4 s0 s1 s2 s3 : AV} {h : AH} : evL 143 103 [l0, l1, l2, l3, l4] [s0, s1, s2, s3] h = evL 143 104 [l0, l1, l2, l3, l4] [I 1, s0, s1, s2, s3] h := ev_go c143_103 rfl
theorem c143_104 : cd 143 104 = some (104, .iadd, 1, 0, 0, 0) := rfl
theorem s143_104 {l0 l1 l2 l3 l4 s2 s3 s4 : AV} {s0 s1 : Int} {h : AH} : evL 143 104 [l0, l1, l2, l3, l4] [I s0, I s1, s2, s3, s4] h = evL 143 105 [l0, l1, l2, l3, l4] [I (ad s1 s0), s2, s3, s4] h := ev_go c143_104 rfl
theorem c143_105 : cd 143 105 = some (105, .invokevirtual 69, 3, 117, 0, 721) := rfl
theorem s143_105 {l0 l1 l2 l3 l4 : AV} {s0 s1 s2 : Int} {s3 : Nat} {M : Mem} {P : PMem} (hk : kd s3 = 8) : evL 143 105 [l0, l1, l2, l3, l4] [I s0, I s1, I s2, Rf s3] (Hp M P) = cont (evM 117 [Rf s3, I s2, I s1, I s0] (Hp M P)) (fun r h => evL 143 108 [l0, l1, l2, l3, l4] (rl r []) h) := e_callV (av' := [I s2, I s1, I s0]) (rest := []) (c := 8) c143_105 rfl rfl rfl rfl rfl rfl rfl hk rfl
theorem c143_108 : cd 143 108 = some (108, .aload_n 0, 1, 0, 0, 0) := rfl
theorem s143_108 {l1 l2 l3 l4 : AV} {l0 : Option Nat} {h : AH} : evL 143 108 [.inr (.inl l0), l1, l2, l3, l4] [] h = evL 143 109 [.inr (.inl l0), l1, l2, l3, l4] [.inr (.inl l0)] h := ev_go c143_108 rfl
theorem c143_109 : cd 143 109 = some (109, .getfield 7, 3, 8, 0, 725) := rfl
theorem s143_109 {l0 l1 l2 l3 l4 : AV} {s0 : Nat} {M : Mem} {P : PMem} (hk : kd s0 = 8) : evL 143 109 [l0, l1, l2, l3, l4] [Rf s0] (Hp M P) = evL 143 112 [l0, l1, l2, l3, l4] [Rf (rfd s0 0)] (Hp M P) := e_getR c143_109 rfl hk
theorem c143_112 : cd 143 112 = some (112, .bipush 9, 2, 0, 0, 0) := rfl
theorem s143_112 {l0 l1 l2 l3 l4 s0 : AV} {h : AH} : evL 143 112 [l0, l1, l2, l3, l4] [s0] h = evL 143 114 [l0, l1, l2, l3, l4] [I 9, s0] h := ev_go c143_112 rfl
theorem c143_114 : cd 143 114 = some (114, .iload_n 2, 1, 0, 0, 0) := rfl
theorem s143_114 {l0 l1 l3 l4 s0 s1 : AV} {l2 : Int} {h : AH} : evL 143 114 [l0, l1, I l2, l3, l4] [s0, s1] h = evL 143 115 [l0, l1, I l2, l3, l4] [I l2, s0, s1] h := ev_go c143_114 rfl
theorem c143_115 : cd 143 115 = some (115, .iadd, 1, 0, 0, 0) := rfl
theorem s143_115 {l0 l1 l2 l3 l4 s2 : AV} {s0 s1 : Int} {h : AH} : evL 143 115 [l0, l1, l2, l3, l4] [I s0, I s1, s2] h = evL 143 116 [l0, l1, l2, l3, l4] [I (ad s1 s0), s2] h := ev_go c143_115 rfl
theorem c143_116 : cd 143 116 = some (116, .iconst 1, 1, 0, 0, 0) := rfl
theorem s143_116 {l0 l1 l2 l3 l4 s0 s1 : AV} {h : AH} : evL 143 116 [l0, l1, l2, l3, l4] [s0, s1] h = evL 143 117 [l0, l1, l2, l3, l4] [I 1, s0, s1] h := ev_go c143_116 rfl
theorem c143_117 : cd 143 117 = some (117, .isub, 1, 0, 0, 0) := rfl
theorem s143_117 {l0 l1 l2 l3 l4 s2 : AV} {s0 s1 : Int} {h : AH} : evL 143 117 [l0, l1, l2, l3, l4] [I s0, I s1, s2] h = evL 143 118 [l0, l1, l2, l3, l4] [I (sb s1 s0), s2] h := ev_go c143_117 rfl
theorem c143_118 : cd 143 118 = some (118, .iconst 0, 1, 0, 0, 0) := rfl
theorem s143_118 {l0 l1 l2 l3 l4 s0 s1 : AV} {h : AH} : evL 143 118 [l0, l1, l2, l3, l4] [s0, s1] h = evL 143 119 [l0, l1, l2, l3, l4] [I 0, s0, s1] h := ev_go c143_118 rfl
theorem c143_119 : cd 143 119 = some (119, .iastore, 1, 0, 0, 0) := rfl
theorem s143_119 {l0 l1 l2 l3 l4 : AV} {s0 s1 : Int} {s2 : Nat} {M : Mem} {P : PMem} (hk : kd s2 = 100) (h0 : 0 ≤ s1) (hn : s1.toNat < ln s2) : evL 143 119 [l0, l1, l2, l3, l4] [I s0, I s1, Rf s2] (Hp M P) = evL 143 120 [l0, l1, l2, l3, l4] [] (Hp (wr M s2 s1.toNat s0) P) := e_iast c143_119 hk h0 hn
theorem c143_120 : cd 143 120 = some (120, .aload_n 0, 1, 0, 0, 0) := rfl
theorem s143_120 {l1 l2 l3 l4 : AV} {l0 : Option Nat} {h : AH} : evL 143 120 [.inr (.inl l0), l1, l2, l3, l4] [] h = evL 143 121 [.inr (.inl l0), l1, l2, l3, l4] [.inr (.inl l0)] h := ev_go c143_120 rfl
theorem c143_121 : cd 143 121 = some (121, .invokevirtual 127, 3, 137, 0, 846) := rfl
theorem s143_121 {l0 l1 l2 l3 l4 : AV} {s0 : Nat} {M : Mem} {P : PMem} (hk : kd s0 = 8) : evL 143 121 [l0, l1, l2, l3, l4] [Rf s0] (Hp M P) = cont (evM 137 [Rf s0] (Hp M P)) (fun r h => evL 143 124 [l0, l1, l2, l3, l4] (rl r []) h) := e_callV (av' := []) (rest := []) (c := 8) c143_121 rfl rfl rfl rfl rfl rfl rfl hk rfl
theorem c143_124 : cd 143 124 = some (124, .bipush 11, 2, 0, 0, 0) := rfl
theorem s143_124 {l0 l1 l2 l3 l4 : AV} {h : AH} : evL 143 124 [l0, l1, l2, l3, l4] [] h = evL 143 126 [l0, l1, l2, l3, l4] [I 11] h := ev_go c143_124 rfl
theorem c143_126 : cd 143 126 = some (126, .iload 4, 2, 0, 0, 0) := rfl
theorem s143_126 {l0 l1 l2 l3 s0 : AV} {l4 : Int} {h : AH} : evL 143 126 [l0, l1, l2, l3, I l4] [s0] h = evL 143 128 [l0, l1, l2, l3, I l4] [I l4, s0] h := ev_go c143_126 rfl
theorem c143_128 : cd 143 128 = some (128, .iadd, 1, 0, 0, 0) := rfl
theorem s143_128 {l0 l1 l2 l3 l4 : AV} {s0 s1 : Int} {h : AH} : evL 143 128 [l0, l1, l2, l3, l4] [I s0, I s1] h = evL 143 129 [l0, l1, l2, l3, l4] [I (ad s1 s0)] h := ev_go c143_128 rfl
theorem c143_129 : cd 143 129 = some (129, .ireturn, 1, 0, 0, 0) := rfl
theorem s143_129 {l0 l1 l2 l3 l4 : AV} {s0 : Int} {h : AH} : evL 143 129 [l0, l1, l2, l3, l4] [I s0] h = some (some (I s0), h) := e_ret c143_129 rfl
/-! 144: TankDiversModel.goLay(I)I -/
theorem en144 {l0 l1 : AV} {h : AH} : evM 144 [l0, l1] h = evL 144 0 [l0, l1, Db 0, Db 0, Db 0, Db 0, Db 0] [] h := rfl
theorem c144_0 : cd 144 0 = some (0, .aload_n 0, 1, 0, 0, 0) := rfl
theorem s144_0 {l1 l2 l3 l4 l5 l6 : AV} {l0 : Option Nat} {h : AH} : evL 144 0 [.inr (.inl l0), l1, l2, l3, l4, l5, l6] [] h = evL 144 1 [.inr (.inl l0), l1, l2, l3, l4, l5, l6] [.inr (.inl l0)] h := ev_go c144_0 rfl
theorem c144_1 : cd 144 1 = some (1, .getfield 7, 3, 8, 0, 725) := rfl
theorem s144_1 {l0 l1 l2 l3 l4 l5 l6 : AV} {s0 : Nat} {M : Mem} {P : PMem} (hk : kd s0 = 8) : evL 144 1 [l0, l1, l2, l3, l4, l5, l6] [Rf s0] (Hp M P) = evL 144 4 [l0, l1, l2, l3, l4, l5, l6] [Rf (rfd s0 0)] (Hp M P) := e_getR c144_1 rfl hk
theorem c144_4 : cd 144 4 = some (4, .iconst 2, 1, 0, 0, 0) := rfl
theorem s144_4 {l0 l1 l2 l3 l4 l5 l6 s0 : AV} {h : AH} : evL 144 4 [l0, l1, l2, l3, l4, l5, l6] [s0] h = evL 144 5 [l0, l1, l2, l3, l4, l5, l6] [I 2, s0] h := ev_go c144_4 rfl
theorem c144_5 : cd 144 5 = some (5, .iaload, 1, 0, 0, 0) := rfl
theorem s144_5 {l0 l1 l2 l3 l4 l5 l6 : AV} {s0 : Int} {s1 : Nat} {M : Mem} {P : PMem} (hk : kd s1 = 100) (h0 : 0 ≤ s0) (hn : s0.toNat < ln s1) : evL 144 5 [l0, l1, l2, l3, l4, l5, l6] [I s0, Rf s1] (Hp M P) = evL 144 6 [l0, l1, l2, l3, l4, l5, l6] [I (M s1 s0.toNat)] (Hp M P) := e_iald c144_5 hk h0 hn
theorem c144_6 : cd 144 6 = some (6, .istore_n 2, 1, 0, 0, 0) := rfl
theorem s144_6 {l0 l1 l2 l3 l4 l5 l6 : AV} {s0 : Int} {h : AH} : evL 144 6 [l0, l1, l2, l3, l4, l5, l6] [I s0] h = evL 144 7 [l0, l1, I s0, l3, l4, l5, l6] [] h := ev_go c144_6 rfl
theorem c144_7 : cd 144 7 = some (7, .aload_n 0, 1, 0, 0, 0) := rfl
theorem s144_7 {l1 l2 l3 l4 l5 l6 : AV} {l0 : Option Nat} {h : AH} : evL 144 7 [.inr (.inl l0), l1, l2, l3, l4, l5, l6] [] h = evL 144 8 [.inr (.inl l0), l1, l2, l3, l4, l5, l6] [.inr (.inl l0)] h := ev_go c144_7 rfl
theorem c144_8 : cd 144 8 = some (8, .iload_n 2, 1, 0, 0, 0) := rfl
theorem s144_8 {l0 l1 l3 l4 l5 l6 s0 : AV} {l2 : Int} {h : AH} : evL 144 8 [l0, l1, I l2, l3, l4, l5, l6] [s0] h = evL 144 9 [l0, l1, I l2, l3, l4, l5, l6] [I l2, s0] h := ev_go c144_8 rfl
theorem c144_9 : cd 144 9 = some (9, .iconst 0, 1, 0, 0, 0) := rfl
theorem s144_9 {l0 l1 l2 l3 l4 l5 l6 s0 s1 : AV} {h : AH} : evL 144 9 [l0, l1, l2, l3, l4, l5, l6] [s0, s1] h = evL 144 10 [l0, l1, l2, l3, l4, l5, l6] [I 0, s0, s1] h := ev_go c144_9 rfl
theorem c144_10 : cd 144 10 = some (10, .invokevirtual 54, 3, 116, 0, 806) := rfl
theorem s144_10 {l0 l1 l2 l3 l4 l5 l6 : AV} {s0 s1 : Int} {s2 : Nat} {M : Mem} {P : PMem} (hk : kd s2 = 8) : evL 144 10 [l0, l1, l2, l3, l4, l5, l6] [I s0, I s1, Rf s2] (Hp M P) = cont (evM 116 [Rf s2, I s1, I s0] (Hp M P)) (fun r h => evL 144 13 [l0, l1, l2, l3, l4, l5, l6] (rl r []) h) := e_callV (av' := [I s1, I s0]) (rest := []) (c := 8) c144_10 rfl rfl rfl rfl rfl rfl rfl hk rfl
theorem c144_13 : cd 144 13 = some (13, .istore_n 3, 1, 0, 0, 0) := rfl
theorem s144_13 {l0 l1 l2 l3 l4 l5 l6 : AV} {s0 : Int} {h : AH} : evL 144 13 [l0, l1, l2, l3, l4, l5, l6] [I s0] h = evL 144 14 [l0, l1, l2, I s0, l4, l5, l6] [] h := ev_go c144_13 rfl
theorem c144_14 : cd 144 14 = some (14, .aload_n 0, 1, 0, 0, 0) := rfl
theorem s144_14 {l1 l2 l3 l4 l5 l6 : AV} {l0 : Option Nat} {h : AH} : evL 144 14 [.inr (.inl l0), l1, l2, l3, l4, l5, l6] [] h = evL 144 15 [.inr (.inl l0), l1, l2, l3, l4, l5, l6] [.inr (.inl l0)] h := ev_go c144_14 rfl
theorem c144_15 : cd 144 15 = some (15, .invokevirtual 124, 3, 135, 0, 838) := rfl
theorem s144_15 {l0 l1 l2 l3 l4 l5 l6 : AV} {s0 : Nat} {M : Mem} {P : PMem} (hk : kd s0 = 8) : evL 144 15 [l0, l1, l2, l3, l4, l5, l6] [Rf s0] (Hp M P) = cont (evM 135 [Rf s0] (Hp M P)) (fun r h => evL 144 18 [l0, l1, l2, l3, l4, l5, l6] (rl r []) h) := e_callV (av' := []) (rest := []) (c := 8) c144_15 rfl rfl rfl rfl rfl rfl rfl hk rfl
theorem c144_18 : cd 144 18 = some (18, .istore 4, 2, 0, 0, 0) := rfl
theorem s144_18 {l0 l1 l2 l3 l4 l5 l6 : AV} {s0 : Int} {h : AH} : evL 144 18 [l0, l1, l2, l3, l4, l5, l6] [I s0] h = evL 144 20 [l0, l1, l2, l3, I s0, l5, l6] [] h := ev_go c144_18 rfl
theorem c144_20 : cd 144 20 = some (20, .iload 4, 2, 0, 0, 0) := rfl
theorem s144_20 {l0 l1 l2 l3 l5 l6 : AV} {l4 : Int} {h : AH} : evL 144 20 [l0, l1, l2, l3, I l4, l5, l6] [] h = evL 144 22 [l0, l1, l2, l3, I l4, l5, l6] [I l4] h := ev_go c144_20 rfl
theorem c144_22 : cd 144 22 = some (22, .ifCond .le 8, 3, 0, 0, 0) := rfl
theorem s144_22 {l0 l1 l2 l3 l4 l5 l6 : AV} {s0 : Int} {h : AH} : evL 144 22 [l0, l1, l2, l3, l4, l5, l6] [I s0] h = if s0 ≤ 0 then evL 144 30 [l0, l1, l2, l3, l4, l5, l6] [] h else evL 144 25 [l0, l1, l2, l3, l4, l5, l6] [] h := e_if_le c144_22 rfl rfl
theorem c144_25 : cd 144 25 = some (25, .iload 4, 2, 0, 0, 0) := rfl
theorem s144_25 {l0 l1 l2 l3 l5 l6 : AV} {l4 : Int} {h : AH} : evL 144 25 [l0, l1, l2, l3, I l4, l5, l6] [] h = evL 144 27 [l0, l1, l2, l3, I l4, l5, l6] [I l4] h := ev_go c144_25 rfl
theorem c144_27 : cd 144 27 = some (27, .goto 46, 3, 0, 0, 0) := rfl
theorem s144_27 {l0 l1 l2 l3 l4 l5 l6 s0 : AV} {h : AH} : evL 144 27 [l0, l1, l2, l3, l4, l5, l6] [s0] h = evL 144 73 [l0, l1, l2, l3, l4, l5, l6] [s0] h := ev_go c144_27 rfl
theorem c144_30 : cd 144 30 = some (30, .iload_n 3, 1, 0, 0, 0) := rfl
theorem s144_30 {l0 l1 l2 l4 l5 l6 : AV} {l3 : Int} {h : AH} : evL 144 30 [l0, l1, l2, I l3, l4, l5, l6] [] h = evL 144 31 [l0, l1, l2, I l3, l4, l5, l6] [I l3] h := ev_go c144_30 rfl
theorem c144_31 : cd 144 31 = some (31, .ifCond .ne 7, 3, 0, 0, 0) := rfl
theorem s144_31 {l0 l1 l2 l3 l4 l5 l6 : AV} {s0 : Int} {h : AH} : evL 144 31 [l0, l1, l2, l3, l4, l5, l6] [I s0] h = if s0 = 0 then evL 144 34 [l0, l1, l2, l3, l4, l5, l6] [] h else evL 144 38 [l0, l1, l2, l3, l4, l5, l6] [] h := e_if_ne c144_31 rfl rfl
theorem c144_34 : cd 144 34 = some (34, .iconst 5, 1, 0, 0, 0) := rfl
theorem s144_34 {l0 l1 l2 l3 l4 l5 l6 : AV} {h : AH} : evL 144 34 [l0, l1, l2, l3, l4, l5, l6] [] h = evL 144 35 [l0, l1, l2, l3, l4, l5, l6] [I 5] h := ev_go c144_34 rfl
theorem c144_35 : cd 144 35 = some (35, .goto 38, 3, 0, 0, 0) := rfl
theorem s144_35 {l0 l1 l2 l3 l4 l5 l6 s0 : AV} {h : AH} : evL 144 35 [l0, l1, l2, l3, l4, l5, l6] [s0] h = evL 144 73 [l0, l1, l2, l3, l4, l5, l6] [s0] h := ev_go c144_35 rfl
theorem c144_38 : cd 144 38 = some (38, .iload_n 1, 1, 0, 0, 0) := rfl
theorem s144_38 {l0 l2 l3 l4 l5 l6 : AV} {l1 : Int} {h : AH} : evL 144 38 [l0, I l1, l2, l3, l4, l5, l6] [] h = evL 144 39 [l0, I l1, l2, l3, l4, l5, l6] [I l1] h := ev_go c144_38 rfl
theorem c144_39 : cd 144 39 = some (39, .iconst 0, 1, 0, 0, 0) := rfl
theorem s144_39 {l0 l1 l2 l3 l4 l5 l6 s0 : AV} {h : AH} : evL 144 39 [l0, l1, l2, l3, l4, l5, l6] [s0] h = evL 144 40 [l0, l1, l2, l3, l4, l5, l6] [I 0, s0] h := ev_go c144_39 rfl
theorem c144_40 : cd 144 40 = some (40, .aload_n 0, 1, 0, 0, 0) := rfl
theorem s144_40 {l1 l2 l3 l4 l5 l6 s0 s1 : AV} {l0 : Option Nat} {h : AH} : evL 144 40 [.inr (.inl l0), l1, l2, l3, l4, l5, l6] [s0, s1] h = evL 144 41 [.inr (.inl l0), l1, l2, l3, l4, l5, l6] [.inr (.inl l0), s0, s1] h := ev_go c144_40 rfl
theorem c144_41 : cd 144 41 = some (41, .iload_n 2, 1, 0, 0, 0) := rfl
theorem s144_41 {l0 l1 l3 l4 l5 l6 s0 s1 s2 : AV} {l2 : Int} {h : AH} : evL 144 41 [l0, l1, I l2, l3, l4, l5, l6] [s0, s1, s2] h = evL 144 42 [l0, l1, I l2, l3, l4, l5, l6] [I l2, s0, s1, s2] h := ev_go c144_41 rfl
theorem c144_42 : cd 144 42 = some (42, .iconst 3, 1, 0, 0, 0) := rfl
theorem s144_42 {l0 l1 l2 l3 l4 l5 l6 s0 s1 s2 s3 : AV} {h : AH} : evL 144 42 [l0, l1, l2, l3, l4, l5, l6] [s0, s1, s2, s3] h = evL 144 43 [l0, l1, l2, l3, l4, l5, l6] [I 3, s0, s1, s2, s3] h := ev_go c144_42 rfl
theorem c144_43 : cd 144 43 = some (43, .invokevirtual 54, 3, 116, 0, 806) := rfl
theorem s144_43 {l0 l1 l2 l3 l4 l5 l6 s3 s4 : AV} {s0 s1 : Int} {s2 : Nat} {M : Mem} {P : PMem} (hk : kd s2 = 8) : evL 144 43 [l0, l1, l2, l3, l4, l5, l6] [I s0, I s1, Rf s2, s3, s4] (Hp M P) = cont (evM 116 [Rf s2, I s1, I s0] (Hp M P)) (fun r h => evL 144 46 [l0, l1, l2, l3, l4, l5, l6] (rl r [s3, s4]) h) := e_callV (av' := [I s1, I s0]) (rest := [s3, s4]) (c := 8) c144_43 rfl rfl rfl rfl rfl rfl rfl hk rfl
theorem c144_46 : cd 144 46 = some (46, .iconst 1, 1, 0, 0, 0) := rfl
theorem s144_46 {l0 l1 l2 l3 l4 l5 l6 s0 s1 s2 : AV} {h : AH} : evL 144 46 [l0, l1, l2, l3, l4, l5, l6] [s0, s1, s2] h = evL 144 47 [l0, l1, l2, l3, l4, l5, l6] [I 1, s0, s1, s2] h := ev_go c144_46 rfl
theorem c144_47 : cd 144 47 = some (47, .isub, 1, 0, 0, 0) := rfl
theorem s144_47 {l0 l1 l2 l3 l4 l5 l6 s2 s3 : AV} {s0 s1 : Int} {h : AH} : evL 144 47 [l0, l1, l2, l3, l4, l5, l6] [I s0, I s1, s2, s3] h = evL 144 48 [l0, l1, l2, l3, l4, l5, l6] [I (sb s1 s0), s2, s3] h := ev_go c144_47 rfl
theorem c144_48 : cd 144 48 = some (48, .invokestatic 50, 3, 110, 0, 784) := rfl
theorem s144_48 {l0 l1 l2 l3 l4 l5 l6 : AV} {s0 s1 s2 : Int} {M : Mem} {P : PMem} : evL 144 48 [l0, l1, l2, l3, l4, l5, l6] [I s0, I s1, I s2] (Hp M P) = cont (evM 110 [I s2, I s1, I s0] (Hp M P)) (fun r h => evL 144 51 [l0, l1, l2, l3, l4, l5, l6] (rl r []) h) := e_callS (av := [I s2, I s1, I s0]) (rest := []) c144_48 rfl rfl rfl rfl rfl rfl
theorem c144_51 : cd 144 51 = some (51, .ifCond .ne 8, 3, 0, 0, 0) := rfl
theorem s144_51 {l0 l1 l2 l3 l4 l5 l6 : AV} {s0 : Int} {h : AH} : evL 144 51 [l0, l1, l2, l3, l4, l5, l6] [I s0] h = if s0 = 0 then evL 144 54 [l0, l1, l2, l3, l4, l5, l6] [] h else evL 144 59 [l0, l1, l2, l3, l4, l5, l6] [] h := e_if_ne c144_51 rfl rfl
theorem c144_54 : cd 144 54 = some (54, .bipush 6, 2, 0, 0, 0) := rfl
theorem s144_54 {l0 l1 l2 l3 l4 l5 l6 : AV} {h : AH} : evL 144 54 [l0, l1, l2, l3, l4, l5, l6] [] h = evL 144 56 [l0, l1, l2, l3, l4, l5, l6] [I 6] h := ev_go c144_54 rfl
theorem c144_56 : cd 144 56 = some (56, .goto 17, 3, 0, 0, 0) := rfl
theorem s144_56 {l0 l1 l2 l3 l4 l5 l6 s0 : AV} {h : AH} : evL 144 56 [l0, l1, l2, l3, l4, l5, l6] [s0] h = evL 144 73 [l0, l1, l2, l3, l4, l5, l6] [s0] h := ev_go c144_56 rfl
theorem c144_59 : cd 144 59 = some (59, .aload_n 0, 1, 0, 0, 0) := rfl
theorem s144_59 {l1 l2 l3 l4 l5 l6 : AV} {l0 : Option Nat} {h : AH} : evL 144 59 [.inr (.inl l0), l1, l2, l3, l4, l5, l6] [] h = evL 144 60 [.inr (.inl l0), l1, l2, l3, l4, l5, l6] [.inr (.inl l0)] h := ev_go c144_59 rfl
theorem c144_60 : cd 144 60 = some (60, .iload_n 3, 1, 0, 0, 0) := rfl
theorem s144_60 {l0 l1 l2 l4 l5 l6 s0 : AV} {l3 : Int} {h : AH} : evL 144 60 [l0, l1, l2, I l3, l4, l5, l6] [s0] h = evL 144 61 [l0, l1, l2, I l3, l4, l5, l6] [I l3, s0] h := ev_go c144_60 rfl
theorem c144_61 : cd 144 61 = some (61, .invokevirtual 63, 3, 119, 0, 842) := rfl
theorem s144_61 {l0 l1 l2 l3 l4 l5 l6 : AV} {s0 : Int} {s1 : Nat} {M : Mem} {P : PMem} (hk : kd s1 = 8) : evL 144 61 [l0, l1, l2, l3, l4, l5, l6] [I s0, Rf s1] (Hp M P) = cont (evM 119 [Rf s1, I s0] (Hp M P)) (fun r h => evL 144 64 [l0, l1, l2, l3, l4, l5, l6] (rl r []) h) := e_callV (av' := [I s0]) (rest := []) (c := 8) c144_61 rfl rfl rfl rfl rfl rfl rfl hk rfl
theorem c144_64 : cd 144 64 = some (64, .ifCond .le 8, 3, 0, 0, 0) := rfl
theorem s144_64 {l0 l1 l2 l3 l4 l5 l6 : AV} {s0 : Int} {h : AH} : evL 144 64 [l0, l1, l2, l3, l4, l5, l6] [I s0] h = if s0 ≤ 0 then evL 144 72 [l0, l1, l2, l3, l4, l5, l6] [] h else evL 144 67 [l0, l1, l2, l3, l4, l5, l6] [] h := e_if_le c144_64 rfl rfl
theorem c144_67 : cd 144 67 = some (67, .bipush 7, 2, 0, 0, 0) := rfl
theorem s144_67 {l0 l1 l2 l3 l4 l5 l6 : AV} {h : AH} : evL 144 67 [l0, l1, l2, l3, l4, l5, l6] [] h = evL 144 69 [l0, l1, l2, l3, l4, l5, l6] [I 7] h := ev_go c144_67 rfl
theorem c144_69 : cd 144 69 = some (69, .goto 4, 3, 0, 0, 0) := rfl
theorem s144_69 {l0 l1 l2 l3 l4 l5 l6 s0 : AV} {h : AH} : evL 144 69 [l0, l1, l2, l3, l4, l5, l6] [s0] h = evL 144 73 [l0, l1, l2, l3, l4, l5, l6] [s0] h := ev_go c144_69 rfl
theorem c144_72 : cd 144 72 = some (72, .iconst 0, 1, 0, 0, 0) := rfl
theorem s144_72 {l0 l1 l2 l3 l4 l5 l6 : AV} {h : AH} : evL 144 72 [l0, l1, l2, l3, l4, l5, l6] [] h = evL 144 73 [l0, l1, l2, l3, l4, l5, l6] [I 0] h := ev_go c144_72 rfl
theorem c144_73 : cd 144 73 = some (73, .istore 4, 2, 0, 0, 0) := rfl
theorem s144_73 {l0 l1 l2 l3 l4 l5 l6 : AV} {s0 : Int} {h : AH} : evL 144 73 [l0, l1, l2, l3, l4, l5, l6] [I s0] h = evL 144 75 [l0, l1, l2, l3, I s0, l5, l6] [] h := ev_go c144_73 rfl
theorem c144_75 : cd 144 75 = some (75, .iload 4, 2, 0, 0, 0) := rfl
theorem s144_75 {l0 l1 l2 l3 l5 l6 : AV} {l4 : Int} {h : AH} : evL 144 75 [l0, l1, l2, l3, I l4, l5, l6] [] h = evL 144 77 [l0, l1, l2, l3, I l4, l5, l6] [I l4] h := ev_go c144_75 rfl
theorem c144_77 : cd 144 77 = some (77, .ifCond .le 10, 3, 0, 0, 0) := rfl
theorem s144_77 {l0 l1 l2 l3 l4 l5 l6 : AV} {s0 : Int} {h : AH} : evL 144 77 [l0, l1, l2, l3, l4, l5, l6] [I s0] h = if s0 ≤ 0 then evL 144 87 [l0, l1, l2, l3, l4, l5, l6] [] h else evL 144 80 [l0, l1, l2, l3, l4, l5, l6] [] h := e_if_le c144_77 rfl rfl
theorem c144_80 : cd 144 80 = some (80, .aload_n 0, 1, 0, 0, 0) := rfl
theorem s144_80 {l1 l2 l3 l4 l5 l6 : AV} {l0 : Option Nat} {h : AH} : evL 144 80 [.inr (.inl l0), l1, l2, l3, l4, l5, l6] [] h = evL 144 81 [.inr (.inl l0), l1, l2, l3, l4, l5, l6] [.inr (.inl l0)] h := ev_go c144_80 rfl
theorem c144_81 : cd 144 81 = some (81, .iload 4, 2, 0, 0, 0) := rfl
theorem s144_81 {l0 l1 l2 l3 l5 l6 s0 : AV} {l4 : Int} {h : AH} : evL 144 81 [l0, l1, l2, l3, I l4, l5, l6] [s0] h = evL 144 83 [l0, l1, l2, l3, I l4, l5, l6] [I l4, s0] h := ev_go c144_81 rfl
theorem c144_83 : cd 144 83 = some (83, .invokevirtual 88, 3, 130, 0, 810) := rfl
theorem s144_83 {l0 l1 l2 l3 l4 l5 l6 : AV} {s0 : Int} {s1 : Nat} {M : Mem} {P : PMem} (hk : kd s1 = 8) : evL 144 83 [l0, l1, l2, l3, l4, l5, l6] [I s0, Rf s1] (Hp M P) = cont (evM 130 [Rf s1, I s0] (Hp M P)) (fun r h => evL 144 86 [l0, l1, l2, l3, l4, l5, l6] (rl r []) h) := e_callV (av' := [I s0]) (rest := []) (c := 8) c144_83 rfl rfl rfl rfl rfl rfl rfl hk rfl
theorem c144_86 : cd 144 86 = some (86, .ireturn, 1, 0, 0, 0) := rfl
theorem s144_86 {l0 l1 l2 l3 l4 l5 l6 : AV} {s0 : Int} {h : AH} : evL 144 86 [l0, l1, l2, l3, l4, l5, l6] [I s0] h = some (some (I s0), h) := e_ret c144_86 rfl
theorem c144_87 : cd 144 87 = some (87, .aload_n 0, 1, 0, 0, 0) := rfl
theorem s144_87 {l1 l2 l3 l4 l5 l6 : AV} {l0 : Option Nat} {h : AH} : evL 144 87 [.inr (.inl l0), l1, l2, l3, l4, l5, l6] [] h = evL 144 88 [.inr (.inl l0), l1, l2, l3, l4, l5, l6] [.inr (.inl l0)] h := ev_go c144_87 rfl
theorem c144_88 : cd 144 88 = some (88, .getfield 7, 3, 8, 0, 725) := rfl
theorem s144_88 {l0 l1 l2 l3 l4 l5 l6 : AV} {s0 : Nat} {M : Mem} {P : PMem} (hk : kd s0 = 8) : evL 144 88 [l0, l1, l2, l3, l4, l5, l6] [Rf s0] (Hp M P) = evL 144 91 [l0, l1, l2, l3, l4, l5, l6] [Rf (rfd s0 0)] (Hp M P) := e_getR c144_88 rfl hk
theorem c144_91 : cd 144 91 = some (91, .bipush 9, 2, 0, 0, 0) := rfl
theorem s144_91 {l0 l1 l2 l3 l4 l5 l6 s0 : AV} {h : AH} : evL 144 91 [l0, l1, l2, l3, l4, l5, l6] [s0] h = evL 144 93 [l0, l1, l2, l3, l4, l5, l6] [I 9, s0] h := ev_go c144_91 rfl
theorem c144_93 : cd 144 93 = some (93, .iload_n 3, 1, 0, 0, 0) := rfl
theorem s144_93 {l0 l1 l2 l4 l5 l6 s0 s1 : AV} {l3 : Int} {h : AH} : evL 144 93 [l0, l1, l2, I l3, l4, l5, l6] [s0, s1] h = evL 144 94 [l0, l1, l2, I l3, l4, l5, l6] [I l3, s0, s1] h := ev_go c144_93 rfl
theorem c144_94 : cd 144 94 = some (94, .iadd, 1, 0, 0, 0) := rfl
theorem s144_94 {l0 l1 l2 l3 l4 l5 l6 s2 : AV} {s0 s1 : Int} {h : AH} : evL 144 94 [l0, l1, l2, l3, l4, l5, l6] [I s0, I s1, s2] h = evL 144 95 [l0, l1, l2, l3, l4, l5, l6] [I (ad s1 s0), s2] h := ev_go c144_94 rfl
theorem c144_95 : cd 144 95 = some (95, .iconst 1, 1, 0, 0, 0) := rfl
theorem s144_95 {l0 l1 l2 l3 l4 l5 l6 s0 s1 : AV} {h : AH} : evL 144 95 [l0, l1, l2, l3, l4, l5, l6] [s0, s1] h = evL 144 96 [l0, l1, l2, l3, l4, l5, l6] [I 1, s0, s1] h := ev_go c144_95 rfl
theorem c144_96 : cd 144 96 = some (96, .isub, 1, 0, 0, 0) := rfl
theorem s144_96 {l0 l1 l2 l3 l4 l5 l6 s2 : AV} {s0 s1 : Int} {h : AH} : evL 144 96 [l0, l1, l2, l3, l4, l5, l6] [I s0, I s1, s2] h = evL 144 97 [l0, l1, l2, l3, l4, l5, l6] [I (sb s1 s0), s2] h := ev_go c144_96 rfl
theorem c144_97 : cd 144 97 = some (97, .aload_n 0, 1, 0, 0, 0) := rfl
theorem s144_97 {l1 l2 l3 l4 l5 l6 s0 s1 : AV} {l0 : Option Nat} {h : AH} : evL 144 97 [.inr (.inl l0), l1, l2, l3, l4, l5, l6] [s0, s1] h = evL 144 98 [.inr (.inl l0), l1, l2, l3, l4, l5, l6] [.inr (.inl l0), s0, s1] h := ev_go c144_97 rfl
theorem c144_98 : cd 144 98 = some (98, .iload_n 2, 1, 0, 0, 0) := rfl
theorem s144_98 {l0 l1 l3 l4 l5 l6 s0 s1 s2 : AV} {l2 : Int} {h : AH} : evL 144 98 [l0, l1, I l2, l3, l4, l5, l6] [s0, s1, s2] h = evL 144 99 [l0, l1, I l2, l3, l4, l5, l6] [I l2, s0, s1, s2] h := ev_go c144_98 rfl
theorem c144_99 : cd 144 99 = some (99, .iconst 4, 1, 0, 0, 0) := rfl
theorem s144_99 {l0 l1 l2 l3 l4 l5 l6 s0 s1 s2 s3 : AV} {h : AH} : evL 144 99 [l0, l1, l2, l3, l4, l5, l6] [s0, s1, s2, s3] h = evL 144 100 [l0, l1, l2, l3, l4, l5, l6] [I 4, s0, s1, s2, s3] h := ev_go c144_99 rfl
theorem c144_100 : cd 144 100 = some (100, .iload_n 1, 1, 0, 0, 0) := rfl
theorem s144_100 {l0 l2 l3 l4 l5 l6 s0 s1 s2 s3 s4 : AV} {l1 : Int} {h : AH} : evL 144 100 [l0, I l1, l2, l3, l4, l5, l6] [s0, s1, s2, s3, s4] h = evL 144 101 [l0, I l1, l2, l3, l4, l5, l6] [I l1, s0, s1, s2, s3, s4] h := ev_go c144_100 rfl
theorem c144_101 : cd 144 101 = some (101, .iadd, 1, 0, 0, 0) := rfl
theorem s144_101 {l0 l1 l2 l3 l4 l5 l6 s2 s3 s4 s5 : AV} {s0 s1 : Int} {h : AH} : evL 144 101 [l0, l1, l2, l3, l4, l5, l6] [I s0, I s1, s2, s3, s4, s5] h = evL 144 102 [l0, l1, l2, l3, l4, l5, l6] [I (ad s1 s0), s2, s3, s4, s5] h := ev_go c144_101 rfl
theorem c144_102 : cd 144 102 = some (102, .invokevirtual 54, 3, 116, 0, 806) := rfl
theorem s144_102 {l0 l1 l2 l3 l4 l5 l6 s3 s4 : AV} {s0 s1 : Int} {s2 : Nat} {M : Mem} {P : PMem} (hk : kd s2 = 8) : evL 144 102 [l0, l1, l2, l3, l4, l5, l6] [I s0, I s1, Rf s2, s3, s4] (Hp M P) = cont (evM 116 [Rf s2, I s1, I s0] (Hp M P)) (fun r h => evL 144 105 [l0, l1, l2, l3, l4, l5, l6] (rl r [s3, s4]) h) := e_callV (av' := [I s1, I s0]) (rest := [s3, s4]) (c := 8) c144_102 rfl rfl rfl rfl rfl rfl rfl hk rfl
theorem c144_105 : cd 144 105 = some (105, .iastore, 1, 0, 0, 0) := rfl
theorem s144_105 {l0 l1 l2 l3 l4 l5 l6 : AV} {s0 s1 : Int} {s2 : Nat} {M : Mem} {P : PMem} (hk : kd s2 = 100) (h0 : 0 ≤ s1) (hn : s1.toNat < ln s2) : evL 144 105 [l0, l1, l2, l3, l4, l5, l6] [I s0, I s1, Rf s2] (Hp M P) = evL 144 106 [l0, l1, l2, l3, l4, l5, l6] [] (Hp (wr M s2 s1.toNat s0) P) := e_iast c144_105 hk h0 hn
theorem c144_106 : cd 144 106 = some (106, .aload_n 0, 1, 0, 0, 0) := rfl
theorem s144_106 {l1 l2 l3 l4 l5 l6 : AV} {l0 : Option Nat} {h : AH} : evL 144 106 [.inr (.inl l0), l1, l2, l3, l4, l5, l6] [] h = evL 144 107 [.inr (.inl l0), l1, l2, l3, l4, l5, l6] [.inr (.inl l0)] h := ev_go c144_106 rfl
theorem c144_107 : cd 144 107 = some (107, .iload_n 2, 1, 0, 0, 0) := rfl
theorem s144_107 {l0 l1 l3 l4 l5 l6 s0 : AV} {l2 : Int} {h : AH} : evL 144 107 [l0, l1, I l2, l3, l4, l5, l6] [s0] h = evL 144 108 [l0, l1, I l2, l3, l4, l5, l6] [I l2, s0] h := ev_go c144_107 rfl
theorem c144_108 : cd 144 108 = some (108, .iconst 3, 1, 0, 0, 0) := rfl
theorem s144_108 {l0 l1 l2 l3 l4 l5 l6 s0 s1 : AV} {h : AH} : evL 144 108 [l0, l1, l2, l3, l4, l5, l6] [s0, s1] h = evL 144 109 [l0, l1, l2, l3, l4, l5, l6] [I 3, s0, s1] h := ev_go c144_108 rfl
theorem c144_109 : cd 144 109 = some (109, .invokevirtual 54, 3, 116, 0, 806) := rfl
theorem s144_109 {l0 l1 l2 l3 l4 l5 l6 : AV} {s0 s1 : Int} {s2 : Nat} {M : Mem} {P : PMem} (hk : kd s2 = 8) : evL 144 109 [l0, l1, l2, l3, l4, l5, l6] [I s0, I s1, Rf s2] (Hp M P) = cont (evM 116 [Rf s2, I s1, I s0] (Hp M P)) (fun r h => evL 144 112 [l0, l1, l2, l3, l4, l5, l6] (rl r []) h) := e_callV (av' := [I s1, I s0]) (rest := []) (c := 8) c144_109 rfl rfl rfl rfl rfl rfl rfl hk rfl
theorem c144_112 : cd 144 112 = some (112, .iconst 1, 1, 0, 0, 0) := rfl
theorem s144_112 {l0 l1 l2 l3 l4 l5 l6 s0 : AV} {h : AH} : evL 144 112 [l0, l1, l2, l3, l4, l5, l6] [s0] h = evL 144 113 [l0, l1, l2, l3, l4, l5, l6] [I 1, s0] h := ev_go c144_112 rfl
theorem c144_113 : cd 144 113 = some (113, .isub, 1, 0, 0, 0) := rfl
theorem s144_113 {l0 l1 l2 l3 l4 l5 l6 : AV} {s0 s1 : Int} {h : AH} : evL 144 113 [l0, l1, l2, l3, l4, l5, l6] [I s0, I s1] h = evL 144 114 [l0, l1, l2, l3, l4, l5, l6] [I (sb s1 s0)] h := ev_go c144_113 rfl
theorem c144_114 : cd 144 114 = some (114, .istore 5, 2, 0, 0, 0) := rfl
theorem s144_114 {l0 l1 l2 l3 l4 l5 l6 : AV} {s0 : Int} {h : AH} : evL 144 114 [l0, l1, l2, l3, l4, l5, l6] [I s0] h = evL 144 116 [l0, l1, l2, l3, l4, I s0, l6] [] h := ev_go c144_114 rfl
theorem c144_116 : cd 144 116 = some (116, .iload_n 1, 1, 0, 0, 0) := rfl
theorem s144_116 {l0 l2 l3 l4 l5 l6 : AV} {l1 : Int} {h : AH} : evL 144 116 [l0, I l1, l2, l3, l4, l5, l6] [] h = evL 144 117 [l0, I l1, l2, l3, l4, l5, l6] [I l1] h := ev_go c144_116 rfl
theorem c144_117 : cd 144 117 = some (117, .istore 6, 2, 0, 0, 0) := rfl
theorem s144_117 {l0 l1 l2 l3 l4 l5 l6 : AV} {s0 : Int} {h : AH} : evL 144 117 [l0, l1, l2, l3, l4, l5, l6] [I s0] h = evL 144 119 [l0, l1, l2, l3, l4, l5, I s0] [] h := ev_go c144_117 rfl
theorem c144_119 : cd 144 119 = some (119, .iload 6, 2, 0, 0, 0) := rfl
theorem s144_119 {l0 l1 l2 l3 l4 l5 : AV} {l6 : Int} {h : AH} : evL 144 119 [l0, l1, l2, l3, l4, l5, I l6] [] h = evL 144 121 [l0, l1, l2, l3, l4, l5, I l6] [I l6] h := ev_go c144_119 rfl
theorem c144_121 : cd 144 121 = some (121, .iload 5, 2, 0, 0, 0) := rfl
theorem s144_121 {l0 l1 l2 l3 l4 l6 s0 : AV} {l5 : Int} {h : AH} : evL 144 121 [l0, l1, l2, l3, l4, I l5, l6] [s0] h = evL 144 123 [l0, l1, l2, l3, l4, I l5, l6] [I l5, s0] h := ev_go c144_121 rfl
theorem c144_123 : cd 144 123 = some (123, .if_icmp .ge 29, 3, 0, 0, 0) := rfl
theorem s144_123 {l0 l1 l2 l3 l4 l5 l6 : AV} {s0 s1 : Int} {h : AH} : evL 144 123 [l0, l1, l2, l3, l4, l5, l6] [I s0, I s1] h = if s0 ≤ s1 then evL 144 152 [l0, l1, l2, l3, l4, l5, l6] [] h else evL 144 126 [l0, l1, l2, l3, l4, l5, l6] [] h := e_icmp_ge c144_123 rfl rfl
theorem c144_126 : cd 144 126 = some (126, .aload_n 0, 1, 0, 0, 0) := rfl
theorem s144_126 {l1 l2 l3 l4 l5 l6 : AV} {l0 : Option Nat} {h : AH} : evL 144 126 [.inr (.inl l0), l1, l2, l3, l4, l5, l6] [] h = evL 144 127 [.inr (.inl l0), l1, l2, l3, l4, l5, l6] [.inr (.inl l0)] h := ev_go c144_126 rfl
theorem c144_127 : cd 144 127 = some (127, .iload_n 2, 1, 0, 0, 0) := rfl
theorem s144_127 {l0 l1 l3 l4 l5 l6 s0 : AV} {l2 : Int} {h : AH} : evL 144 127 [l0, l1, I l2, l3, l4, l5, l6] [s0] h = evL 144 128 [l0, l1, I l2, l3, l4, l5, l6] [I l2, s0] h := ev_go c144_127 rfl
theorem c144_128 : cd 144 128 = some (128, .iconst 4, 1, 0, 0, 0) := rfl
theorem s144_128 {l0 l1 l2 l3 l4 l5 l6 s0 s1 : AV} {h : AH} : evL 144 128 [l0, l1, l2, l3, l4, l5, l6] [s0, s1] h = evL 144 129 [l0, l1, l2, l3, l4, l5, l6] [I 4, s0, s1] h := ev_go c144_128 rfl
theorem c144_129 : cd 144 129 = some (129, .iload 6, 2, 0, 0, 0) := rfl
theorem s144_129 {l0 l1 l2 l3 l4 l5 s0 s1 s2 : AV} {l6 : Int} {h : AH} : evL 144 129 [l0, l1, l2, l3, l4, l5, I l6] [s0, s1, s2] h = evL 144 131 [l0, l1, l2, l3, l4, l5, I l6] [I l6, s0, s1, s2] h := ev_go c144_129 rfl
theorem c144_131 : cd 144 131 = some (131, .iadd, 1, 0, 0, 0) := rfl
theorem s144_131 {l0 l1 l2 l3 l4 l5 l6 s2 s3 : AV} {s0 s1 : Int} {h : AH} : evL 144 131 [l0, l1, l2, l3, l4, l5, l6] [I s0, I s1, s2, s3] h = evL 144 132 [l0, l1, l2, l3, l4, l5, l6] [I (ad s1 s0), s2, s3] h := ev_go c144_131 rfl
theorem c144_132 : cd 144 132 = some (132, .aload_n 0, 1, 0, 0, 0) := rfl
theorem s144_132 {l1 l2 l3 l4 l5 l6 s0 s1 s2 : AV} {l0 : Option Nat} {h : AH} : evL 144 132 [.inr (.inl l0), l1, l2, l3, l4, l5, l6] [s0, s1, s2] h = evL 144 133 [.inr (.inl l0), l1, l2, l3, l4, l5, l6] [.inr (.inl l0), s0, s1, s2] h := ev_go c144_132 rfl
theorem c144_133 : cd 144 133 = some (133, .iload_n 2, 1, 0, 0, 0) := rfl
theorem s144_133 {l0 l1 l3 l4 l5 l6 s0 s1 s2 s3 : AV} {l2 : Int} {h : AH} : evL 144 133 [l0, l1, I l2, l3, l4, l5, l6] [s0, s1, s2, s3] h = evL 144 134 [l0, l1, I l2, l3, l4, l5, l6] [I l2, s0, s1, s2, s3] h := ev_go c144_133 rfl
theorem c144_134 : cd 144 134 = some (134, .iconst 4, 1, 0, 0, 0) := rfl
theorem s144_134 {l0 l1 l2 l3 l4 l5 l6 s0 s1 s2 s3 s4 : AV} {h : AH} : evL 144 134 [l0, l1, l2, l3, l4, l5, l6] [s0, s1, s2, s3, s4] h = evL 144 135 [l0, l1, l2, l3, l4, l5, l6] [I 4, s0, s1, s2, s3, s4] h := ev_go c144_134 rfl
theorem c144_135 : cd 144 135 = some (135, .iload 6, 2, 0, 0, 0) := rfl
theorem s144_135 {l0 l1 l2 l3 l4 l5 s0 s1 s2 s3 s4 s5 : AV} {l6 : Int} {h : AH} : evL 144 135 [l0, l1, l2, l3, l4, l5, I l6] [s0, s1, s2, s3, s4, s5] h = evL 144 137 [l0, l1, l2, l3, l4, l5, I l6] [I l6, s0, s1, s2, s3, s4, s5] h := ev_go c144_135 rfl
theorem c144_137 : cd 144 137 = some (137, .iadd, 1, 0, 0, 0) := rfl
theorem s144_137 {l0 l1 l2 l3 l4 l5 l6 s2 s3 s4 s5 s6 : AV} {s0 s1 : Int} {h : AH} : evL 144 137 [l0, l1, l2, l3, l4, l5, l6] [I s0, I s1, s2, s3, s4, s5, s6] h = evL 144 138 [l0, l1, l2, l3, l4, l5, l6] [I (ad s1 s0), s2, s3, s4, s5, s6] h := ev_go c144_137 rfl
theorem c144_138 : cd 144 138 = some (138, .iconst 1, 1, 0, 0, 0) := rfl
theorem s144_138 {l0 l1 l2 l3 l4 l5 l6 s0 s1 s2 s3 s4 s5 : AV} {h : AH} : evL 144 138 [l0, l1, l2, l3, l4, l5, l6] [s0, s1, s2, s3, s4, s5] h = evL 144 139 [l0, l1, l2, l3, l4, l5, l6] [I 1, s0, s1, s2, s3, s4, s5] h := ev_go c144_138 rfl
theorem c144_139 : cd 144 139 = some (139, .iadd, 1, 0, 0, 0) := rfl
theorem s144_139 {l0 l1 l2 l3 l4 l5 l6 s2 s3 s4 s5 s6 : AV} {s0 s1 : Int} {h : AH} : evL 144 139 [l0, l1, l2, l3, l4, l5, l6] [I s0, I s1, s2, s3, s4, s5, s6] h = evL 144 140 [l0, l1, l2, l3, l4, l5, l6] [I (ad s1 s0), s2, s3, s4, s5, s6] h := ev_go c144_139 rfl
theorem c144_140 : cd 144 140 = some (140, .invokevirtual 54, 3, 116, 0, 806) := rfl
theorem s144_140 {l0 l1 l2 l3 l4 l5 l6 s3 s4 s5 : AV} {s0 s1 : Int} {s2 : Nat} {M : Mem} {P : PMem} (hk : kd s2 = 8) : evL 144 140 [l0, l1, l2, l3, l4, l5, l6] [I s0, I s1, Rf s2, s3, s4, s5] (Hp M P) = cont (evM 116 [Rf s2, I s1, I s0] (Hp M P)) (fun r h => evL 144 143 [l0, l1, l2, l3, l4, l5, l6] (rl r [s3, s4, s5]) h) := e_callV (av' := [I s1, I s0]) (rest := [s3, s4, s5]) (c := 8) c144_140 rfl rfl rfl rfl rfl rfl rfl hk rfl
theorem c144_143 : cd 144 143 = some (143, .invokevirtual 69, 3, 117, 0, 721) := rfl
theorem s144_143 {l0 l1 l2 l3 l4 l5 l6 : AV} {s0 s1 s2 : Int} {s3 : Nat} {M : Mem} {P : PMem} (hk : kd s3 = 8) : evL 144 143 [l0, l1, l2, l3, l4, l5, l6] [I s0, I s1, I s2, Rf s3] (Hp M P) = cont (evM 117 [Rf s3, I s2, I s1, I s0] (Hp M P)) (fun r h => evL 144 146 [l0, l1, l2, l3, l4, l5, l6] (rl r []) h) := e_callV (av' := [I s2, I s1, I s0]) (rest := []) (c := 8) c144_143 rfl rfl rfl rfl rfl rfl rfl hk rfl
theorem c144_146 : cd 144 146 = some (146, .iinc 6 1, 3, 0, 0, 0) := rfl
theorem s144_146 {l0 l1 l2 l3 l4 l5 : AV} {l6 : Int} {h : AH} : evL 144 146 [l0, l1, l2, l3, l4, l5, I l6] [] h = evL 144 149 [l0, l1, l2, l3, l4, l5, I (ad l6 1)] [] h := ev_go c144_146 rfl
theorem c144_149 : cd 144 149 = some (149, .goto (-30), 3, 0, 0, 0) := rfl
theorem s144_149 {l0 l1 l2 l3 l4 l5 l6 : AV} {h : AH} : evL 144 149 [l0, l1, l2, l3, l4, l5, l6] [] h = evL 144 119 [l0, l1, l2, l3, l4, l5, l6] [] h := ev_go c144_149 rfl
theorem c144_152 : cd 144 152 = some (152, .aload_n 0, 1, 0, 0, 0) := rfl
theorem s144_152 {l1 l2 l3 l4 l5 l6 : AV} {l0 : Option Nat} {h : AH} : evL 144 152 [.inr (.inl l0), l1, l2, l3, l4, l5, l6] [] h = evL 144 153 [.inr (.inl l0), l1, l2, l3, l4, l5, l6] [.inr (.inl l0)] h := ev_go c144_152 rfl
theorem c144_153 : cd 144 153 = some (153, .iload_n 2, 1, 0, 0, 0) := rfl
theorem s144_153 {l0 l1 l3 l4 l5 l6 s0 : AV} {l2 : Int} {h : AH} : evL 144 153 [l0, l1, I l2, l3, l4, l5, l6] [s0] h = evL 144 154 [l0, l1, I l2, l3, l4, l5, l6] [I l2, s0] h := ev_go c144_153 rfl
theorem c144_154 : cd 144 154 = some (154, .iconst 4, 1, 0, 0, 0) := rfl
theorem s144_154 {l0 l1 l2 l3 l4 l5 l6 s0 s1 : AV} {h : AH} : evL 144 154 [l0, l1, l2, l3, l4, l5, l6] [s0, s1] h = evL 144 155 [l0, l1, l2, l3, l4, l5, l6] [I 4, s0, s1] h := ev_go c144_154 rfl
theorem c144_155 : cd 144 155 = some (155, .iload 5, 2, 0, 0, 0) := rfl
theorem s144_155 {l0 l1 l2 l3 l4 l6 s0 s1 s2 : AV} {l5 : Int} {h : AH} : evL 144 155 [l0, l1, l2, l3, l4, I l5, l6] [s0, s1, s2] h = evL 144 157 [l0, l1, l2, l3, l4, I l5, l6] [I l5, s0, s1, s2] h := ev_go c144_155 rfl
theorem c144_157 : cd 144 157 = some (157, .iadd, 1, 0, 0, 0) := rfl
theorem s144_157 {l0 l1 l2 l3 l4 l5 l6 s2 s3 : AV} {s0 s1 : Int} {h : AH} : evL 144 157 [l0, l1, l2, l3, l4, l5, l6] [I s0, I s1, s2, s3] h = evL 144 158 [l0, l1, l2, l3, l4, l5, l6] [I (ad s1 s0), s2, s3] h := ev_go c144_157 rfl
theorem c144_158 : cd 144 158 = some (158, .iconst 0, 1, 0, 0, 0) := rfl
theorem s144_158 {l0 l1 l2 l3 l4 l5 l6 s0 s1 s2 : AV} {h : AH} : evL 144 158 [l0, l1, l2, l3, l4, l5, l6] [s0, s1, s2] h = evL 144 159 [l0, l1, l2, l3, l4, l5, l6] [I 0, s0, s1, s2] h := ev_go c144_158 rfl
theorem c144_159 : cd 144 159 = some (159, .invokevirtual 69, 3, 117, 0, 721) := rfl
theorem s144_159 {l0 l1 l2 l3 l4 l5 l6 : AV} {s0 s1 s2 : Int} {s3 : Nat} {M : Mem} {P : PMem} (hk : kd s3 = 8) : evL 144 159 [l0, l1, l2, l3, l4, l5, l6] [I s0, I s1, I s2, Rf s3] (Hp M P) = cont (evM 117 [Rf s3, I s2, I s1, I s0] (Hp M P)) (fun r h => evL 144 162 [l0, l1, l2, l3, l4, l5, l6] (rl r []) h) := e_callV (av' := [I s2, I s1, I s0]) (rest := []) (c := 8) c144_159 rfl rfl rfl rfl rfl rfl rfl hk rfl
theorem c144_162 : cd 144 162 = some (162, .aload_n 0, 1, 0, 0, 0) := rfl
theorem s144_162 {l1 l2 l3 l4 l5 l6 : AV} {l0 : Option Nat} {h : AH} : evL 144 162 [.inr (.inl l0), l1, l2, l3, l4, l5, l6] [] h = evL 144 163 [.inr (.inl l0), l1, l2, l3, l4, l5, l6] [.inr (.inl l0)] h := ev_go c144_162 rfl
theorem c144_163 : cd 144 163 = some (163, .iload_n 2, 1, 0, 0, 0) := rfl
theorem s144_163 {l0 l1 l3 l4 l5 l6 s0 : AV} {l2 : Int} {h : AH} : evL 144 163 [l0, l1, I l2, l3, l4, l5, l6] [s0] h = evL 144 164 [l0, l1, I l2, l3, l4, l5, l6] [I l2, s0] h := ev_go c144_163 rfl
theorem c144_164 : cd 144 164 = some (164, .iconst 3, 1, 0, 0, 0) := rfl
theorem s144_164 {l0 l1 l2 l3 l4 l5 l6 s0 s1 : AV} {h : AH} : evL 144 164 [l0, l1, l2, l3, l4, l5, l6] [s0, s1] h = evL 144 165 [l0, l1, l2, l3, l4, l5, l6] [I 3, s0, s1] h := ev_go c144_164 rfl
theorem c144_165 : cd 144 165 = some (165, .iload 5, 2, 0, 0, 0) := rfl
theorem s144_165 {l0 l1 l2 l3 l4 l6 s0 s1 s2 : AV} {l5 : Int} {h : AH} : evL 144 165 [l0, l1, l2, l3, l4, I l5, l6] [s0, s1, s2] h = evL 144 167 [l0, l1, l2, l3, l4, I l5, l6] [I l5, s0, s1, s2] h := ev_go c144_165 rfl
theorem c144_167 : cd 144 167 = some (167, .invokevirtual 69, 3, 117, 0, 721) := rfl
theorem s144_167 {l0 l1 l2 l3 l4 l5 l6 : AV} {s0 s1 s2 : Int} {s3 : Nat} {M : Mem} {P : PMem} (hk : kd s3 = 8) : evL 144 167 [l0, l1, l2, l3, l4, l5, l6] [I s0, I s1, I s2, Rf s3] (Hp M P) = cont (evM 117 [Rf s3, I s2, I s1, I s0] (Hp M P)) (fun r h => evL 144 170 [l0, l1, l2, l3, l4, l5, l6] (rl r []) h) := e_callV (av' := [I s2, I s1, I s0]) (rest := []) (c := 8) c144_167 rfl rfl rfl rfl rfl rfl rfl hk rfl
theorem c144_170 : cd 144 170 = some (170, .aload_n 0, 1, 0, 0, 0) := rfl
theorem s144_170 {l1 l2 l3 l4 l5 l6 : AV} {l0 : Option Nat} {h : AH} : evL 144 170 [.inr (.inl l0), l1, l2, l3, l4, l5, l6] [] h = evL 144 171 [.inr (.inl l0), l1, l2, l3, l4, l5, l6] [.inr (.inl l0)] h := ev_go c144_170 rfl
theorem c144_171 : cd 144 171 = some (171, .invokevirtual 127, 3, 137, 0, 846) := rfl
theorem s144_171 {l0 l1 l2 l3 l4 l5 l6 : AV} {s0 : Nat} {M : Mem} {P : PMem} (hk : kd s0 = 8) : evL 144 171 [l0, l1, l2, l3, l4, l5, l6] [Rf s0] (Hp M P) = cont (evM 137 [Rf s0] (Hp M P)) (fun r h => evL 144 174 [l0, l1, l2, l3, l4, l5, l6] (rl r []) h) := e_callV (av' := []) (rest := []) (c := 8) c144_171 rfl rfl rfl rfl rfl rfl rfl hk rfl
theorem c144_174 : cd 144 174 = some (174, .bipush 10, 2, 0, 0, 0) := rfl
theorem s144_174 {l0 l1 l2 l3 l4 l5 l6 : AV} {h : AH} : evL 144 174 [l0, l1, l2, l3, l4, l5, l6] [] h = evL 144 176 [l0, l1, l2, l3, l4, l5, l6] [I 10] h := ev_go c144_174 rfl
theorem c144_176 : cd 144 176 = some (176, .iload 5, 2, 0, 0, 0) := rfl
theorem s144_176 {l0 l1 l2 l3 l4 l6 s0 : AV} {l5 : Int} {h : AH} : evL 144 176 [l0, l1, l2, l3, l4, I l5, l6] [s0] h = evL 144 178 [l0, l1, l2, l3, l4, I l5, l6] [I l5, s0] h := ev_go c144_176 rfl
theorem c144_178 : cd 144 178 = some (178, .iadd, 1, 0, 0, 0) := rfl
theorem s144_178 {l0 l1 l2 l3 l4 l5 l6 : AV} {s0 s1 : Int} {h : AH} : evL 144 178 [l0, l1, l2, l3, l4, l5, l6] [I s0, I s1] h = evL 144 179 [l0, l1, l2, l3, l4, l5, l6] [I (ad s1 s0)] h := ev_go c144_178 rfl
theorem c144_179 : cd 144 179 = some (179, .ireturn, 1, 0, 0, 0) := rfl
theorem s144_179 {l0 l1 l2 l3 l4 l5 l6 : AV} {s0 : Int} {h : AH} : evL 144 179 [l0, l1, l2, l3, l4, l5, l6] [I s0] h = some (some (I s0), h) := e_ret c144_179 rfl
/-! 145: TankDiversModel.goNothing()I -/
theorem en145 {l0 : AV} {h : AH} : evM 145 [l0] h = evL 145 0 [l0, Db 0] [] h := rfl
theorem c145_0 : cd 145 0 = some (0, .aload_n 0, 1, 0, 0, 0) := rfl
theorem s145_0 {l1 : AV} {l0 : Option Nat} {h : AH} : evL 145 0 [.inr (.inl l0), l1] [] h = evL 145 1 [.inr (.inl l0), l1] [.inr (.inl l0)] h := ev_go c145_0 rfl
theorem c145_1 : cd 145 1 = some (1, .invokevirtual 124, 3, 135, 0, 838) := rfl
theorem s145_1 {l0 l1 : AV} {s0 : Nat} {M : Mem} {P : PMem} (hk : kd s0 = 8) : evL 145 1 [l0, l1] [Rf s0] (Hp M P) = cont (evM 135 [Rf s0] (Hp M P)) (fun r h => evL 145 4 [l0, l1] (rl r []) h) := e_callV (av' := []) (rest := []) (c := 8) c145_1 rfl rfl rfl rfl rfl rfl rfl hk rfl
theorem c145_4 : cd 145 4 = some (4, .istore_n 1, 1, 0, 0, 0) := rfl
theorem s145_4 {l0 l1 : AV} {s0 : Int} {h : AH} : evL 145 4 [l0, l1] [I s0] h = evL 145 5 [l0, I s0] [] h := ev_go c145_4 rfl
theorem c145_5 : cd 145 5 = some (5, .iload_n 1, 1, 0, 0, 0) := rfl
theorem s145_5 {l0 : AV} {l1 : Int} {h : AH} : evL 145 5 [l0, I l1] [] h = evL 145 6 [l0, I l1] [I l1] h := ev_go c145_5 rfl
theorem c145_6 : cd 145 6 = some (6, .ifCond .le 9, 3, 0, 0, 0) := rfl
theorem s145_6 {l0 l1 : AV} {s0 : Int} {h : AH} : evL 145 6 [l0, l1] [I s0] h = if s0 ≤ 0 then evL 145 15 [l0, l1] [] h else evL 145 9 [l0, l1] [] h := e_if_le c145_6 rfl rfl
theorem c145_9 : cd 145 9 = some (9, .aload_n 0, 1, 0, 0, 0) := rfl
theorem s145_9 {l1 : AV} {l0 : Option Nat} {h : AH} : evL 145 9 [.inr (.inl l0), l1] [] h = evL 145 10 [.inr (.inl l0), l1] [.inr (.inl l0)] h := ev_go c145_9 rfl
theorem c145_10 : cd 145 10 = some (10, .iload_n 1, 1, 0, 0, 0) := rfl
theorem s145_10 {l0 s0 : AV} {l1 : Int} {h : AH} : evL 145 10 [l0, I l1] [s0] h = evL 145 11 [l0, I l1] [I l1, s0] h := ev_go c145_10 rfl
theorem c145_11 : cd 145 11 = some (11, .invokevirtual 88, 3, 130, 0, 810) := rfl
theorem s145_11 {l0 l1 : AV} {s0 : Int} {s1 : Nat} {M : Mem} {P : PMem} (hk : kd s1 = 8) : evL 145 11 [l0, l1] [I s0, Rf s1] (Hp M P) = cont (evM 130 [Rf s1, I s0] (Hp M P)) (fun r h => evL 145 14 [l0, l1] (rl r []) h) := e_callV (av' := [I s0]) (rest := []) (c := 8) c145_11 rfl rfl rfl rfl rfl rfl rfl hk rfl
theorem c145_14 : cd 145 14 = some (14, .ireturn, 1, 0, 0, 0) := rfl
theorem s145_14 {l0 l1 : AV} {s0 : Int} {h : AH} : evL 145 14 [l0, l1] [I s0] h = some (some (I s0), h) := e_ret c145_14 rfl
theorem c145_15 : cd 145 15 = some (15, .aload_n 0, 1, 0, 0, 0) := rfl
theorem s145_15 {l1 : AV} {l0 : Option Nat} {h : AH} : evL 145 15 [.inr (.inl l0), l1] [] h = evL 145 16 [.inr (.inl l0), l1] [.inr (.inl l0)] h := ev_go c145_15 rfl
theorem c145_16 : cd 145 16 = some (16, .invokevirtual 127, 3, 137, 0, 846) := rfl
theorem s145_16 {l0 l1 : AV} {s0 : Nat} {M : Mem} {P : PMem} (hk : kd s0 = 8) : evL 145 16 [l0, l1] [Rf s0] (Hp M P) = cont (evM 137 [Rf s0] (Hp M P)) (fun r h => evL 145 19 [l0, l1] (rl r []) h) := e_callV (av' := []) (rest := []) (c := 8) c145_16 rfl rfl rfl rfl rfl rfl rfl hk rfl
theorem c145_19 : cd 145 19 = some (19, .bipush 10, 2, 0, 0, 0) := rfl
theorem s145_19 {l0 l1 : AV} {h : AH} : evL 145 19 [l0, l1] [] h = evL 145 21 [l0, l1] [I 10] h := ev_go c145_19 rfl
theorem c145_21 : cd 145 21 = some (21, .ireturn, 1, 0, 0, 0) := rfl
theorem s145_21 {l0 l1 : AV} {s0 : Int} {h : AH} : evL 145 21 [l0, l1] [I s0] h = some (some (I s0), h) := e_ret c145_21 rfl
/-! 146: TankDiversModel.begin(II)I -/
theorem en146 {l0 l1 l2 : AV} {h : AH} : evM 146 [l0, l1, l2] h = evL 146 0 [l0, l1, l2] [] h := rfl
theorem c146_0 : cd 146 0 = some (0, .iload_n 1, 1, 0, 0, 0) := rfl
theorem s146_0 {l0 l2 : AV} {l1 : Int} {h : AH} : evL 146 0 [l0, I l1, l2] [] h = evL 146 1 [l0, I l1, l2] [I l1] h := ev_go c146_0 rfl
theorem c146_1 : cd 146 1 = some (1, .iconst 2, 1, 0, 0, 0) := rfl
theorem s146_1 {l0 l1 l2 s0 : AV} {h : AH} : evL 146 1 [l0, l1, l2] [s0] h = evL 146 2 [l0, l1, l2] [I 2, s0] h := ev_go c146_1 rfl
theorem c146_2 : cd 146 2 = some (2, .iconst 4, 1, 0, 0, 0) := rfl
theorem s146_2 {l0 l1 l2 s0 s1 : AV} {h : AH} : evL 146 2 [l0, l1, l2] [s0, s1] h = evL 146 3 [l0, l1, l2] [I 4, s0, s1] h := ev_go c146_2 rfl
theorem c146_3 : cd 146 3 = some (3, .invokestatic 50, 3, 110, 0, 784) := rfl
theorem s146_3 {l0 l1 l2 : AV} {s0 s1 s2 : Int} {M : Mem} {P : PMem} : evL 146 3 [l0, l1, l2] [I s0, I s1, I s2] (Hp M P) = cont (evM 110 [I s2, I s1, I s0] (Hp M P)) (fun r h => evL 146 6 [l0, l1, l2] (rl r []) h) := e_callS (av := [I s2, I s1, I s0]) (rest := []) c146_3 rfl rfl rfl rfl rfl rfl
theorem c146_6 : cd 146 6 = some (6, .ifCond .eq 14, 3, 0, 0, 0) := rfl
theorem s146_6 {l0 l1 l2 : AV} {s0 : Int} {h : AH} : evL 146 6 [l0, l1, l2] [I s0] h = if s0 = 0 then evL 146 20 [l0, l1, l2] [] h else evL 146 9 [l0, l1, l2] [] h := e_if_eq c146_6 rfl rfl
theorem c146_9 : cd 146 9 = some (9, .iload_n 2, 1, 0, 0, 0) := rfl
theorem s146_9 {l0 l1 : AV} {l2 : Int} {h : AH} : evL 146 9 [l0, l1, I l2] [] h = evL 146 10 [l0, l1, I l2] [I l2] h := ev_go c146_9 rfl
theorem c146_10 : cd 146 10 = some (10, .iconst 0, 1, 0, 0, 0) := rfl
theorem s146_10 {l0 l1 l2 s0 : AV} {h : AH} : evL 146 10 [l0, l1, l2] [s0] h = evL 146 11 [l0, l1, l2] [I 0, s0] h := ev_go c146_10 rfl
theorem c146_11 : cd 146 11 = some (11, .sipush 9999, 3, 0, 0, 0) := rfl
theorem s146_11 {l0 l1 l2 s0 s1 : AV} {h : AH} : evL 146 11 [l0, l1, l2] [s0, s1] h = evL 146 14 [l0, l1, l2] [I 9999, s0, s1] h := ev_go c146_11 rfl
theorem c146_14 : cd 146 14 = some (14, .invokestatic 50, 3, 110, 0, 784) := rfl
theorem s146_14 {l0 l1 l2 : AV} {s0 s1 s2 : Int} {M : Mem} {P : PMem} : evL 146 14 [l0, l1, l2] [I s0, I s1, I s2] (Hp M P) = cont (evM 110 [I s2, I s1, I s0] (Hp M P)) (fun r h => evL 146 17 [l0, l1, l2] (rl r []) h) := e_callS (av := [I s2, I s1, I s0]) (rest := []) c146_14 rfl rfl rfl rfl rfl rfl
theorem c146_17 : cd 146 17 = some (17, .ifCond .ne 5, 3, 0, 0, 0) := rfl
theorem s146_17 {l0 l1 l2 : AV} {s0 : Int} {h : AH} : evL 146 17 [l0, l1, l2] [I s0] h = if s0 = 0 then evL 146 20 [l0, l1, l2] [] h else evL 146 22 [l0, l1, l2] [] h := e_if_ne c146_17 rfl rfl
theorem c146_20 : cd 146 20 = some (20, .iconst (-1), 1, 0, 0, 0) := rfl
theorem s146_20 {l0 l1 l2 : AV} {h : AH} : evL 146 20 [l0, l1, l2] [] h = evL 146 21 [l0, l1, l2] [I (-1)] h := ev_go c146_20 rfl
theorem c146_21 : cd 146 21 = some (21, .ireturn, 1, 0, 0, 0) := rfl
theorem s146_21 {l0 l1 l2 : AV} {s0 : Int} {h : AH} : evL 146 21 [l0, l1, l2] [I s0] h = some (some (I s0), h) := e_ret c146_21 rfl
theorem c146_22 : cd 146 22 = some (22, .aload_n 0, 1, 0, 0, 0) := rfl
theorem s146_22 {l1 l2 : AV} {l0 : Option Nat} {h : AH} : evL 146 22 [.inr (.inl l0), l1, l2] [] h = evL 146 23 [.inr (.inl l0), l1, l2] [.inr (.inl l0)] h := ev_go c146_22 rfl
theorem c146_23 : cd 146 23 = some (23, .invokevirtual 130, 3, 112, 0, 787) := rfl
theorem s146_23 {l0 l1 l2 : AV} {s0 : Nat} {M : Mem} {P : PMem} (hk : kd s0 = 8) : evL 146 23 [l0, l1, l2] [Rf s0] (Hp M P) = cont (evM 112 [Rf s0] (Hp M P)) (fun r h => evL 146 26 [l0, l1, l2] (rl r []) h) := e_callV (av' := []) (rest := []) (c := 8) c146_23 rfl rfl rfl rfl rfl rfl rfl hk rfl
theorem c146_26 : cd 146 26 = some (26, .aload_n 0, 1, 0, 0, 0) := rfl
theorem s146_26 {l1 l2 : AV} {l0 : Option Nat} {h : AH} : evL 146 26 [.inr (.inl l0), l1, l2] [] h = evL 146 27 [.inr (.inl l0), l1, l2] [.inr (.inl l0)] h := ev_go c146_26 rfl
theorem c146_27 : cd 146 27 = some (27, .iload_n 1, 1, 0, 0, 0) := rfl
theorem s146_27 {l0 l2 s0 : AV} {l1 : Int} {h : AH} : evL 146 27 [l0, I l1, l2] [s0] h = evL 146 28 [l0, I l1, l2] [I l1, s0] h := ev_go c146_27 rfl
theorem c146_28 : cd 146 28 = some (28, .iload_n 2, 1, 0, 0, 0) := rfl
theorem s146_28 {l0 l1 s0 s1 : AV} {l2 : Int} {h : AH} : evL 146 28 [l0, l1, I l2] [s0, s1] h = evL 146 29 [l0, l1, I l2] [I l2, s0, s1] h := ev_go c146_28 rfl
theorem c146_29 : cd 146 29 = some (29, .invokevirtual 31, 3, 129, 0, 709) := rfl
theorem s146_29 {l0 l1 l2 : AV} {s0 s1 : Int} {s2 : Nat} {M : Mem} {P : PMem} (hk : kd s2 = 8) : evL 146 29 [l0, l1, l2] [I s0, I s1, Rf s2] (Hp M P) = cont (evM 129 [Rf s2, I s1, I s0] (Hp M P)) (fun r h => evL 146 32 [l0, l1, l2] (rl r []) h) := e_callV (av' := [I s1, I s0]) (rest := []) (c := 8) c146_29 rfl rfl rfl rfl rfl rfl rfl hk rfl
theorem c146_32 : cd 146 32 = some (32, .ireturn, 1, 0, 0, 0) := rfl
theorem s146_32 {l0 l1 l2 : AV} {s0 : Int} {h : AH} : evL 146 32 [l0, l1, l2] [I s0] h = some (some (I s0), h) := e_ret c146_32 rfl
/-! 147: TankDiversModel.move(Z)I -/
theorem en147 {l0 l1 : AV} {h : AH} : evM 147 [l0, l1] h = evL 147 0 [l0, l1] [] h := rfl
theorem c147_0 : cd 147 0 = some (0, .aload_n 0, 1, 0, 0, 0) := rfl
theorem s147_0 {l1 : AV} {l0 : Option Nat} {h : AH} : evL 147 0 [.inr (.inl l0), l1] [] h = evL 147 1 [.inr (.inl l0), l1] [.inr (.inl l0)] h := ev_go c147_0 rfl
theorem c147_1 : cd 147 1 = some (1, .invokevirtual 130, 3, 112, 0, 787) := rfl
theorem s147_1 {l0 l1 : AV} {s0 : Nat} {M : Mem} {P : PMem} (hk : kd s0 = 8) : evL 147 1 [l0, l1] [Rf s0] (Hp M P) = cont (evM 112 [Rf s0] (Hp M P)) (fun r h => evL 147 4 [l0, l1] (rl r []) h) := e_callV (av' := []) (rest := []) (c := 8) c147_1 rfl rfl rfl rfl rfl rfl rfl hk rfl
theorem c147_4 : cd 147 4 = some (4, .aload_n 0, 1, 0, 0, 0) := rfl
theorem s147_4 {l1 : AV} {l0 : Option Nat} {h : AH} : evL 147 4 [.inr (.inl l0), l1] [] h = evL 147 5 [.inr (.inl l0), l1] [.inr (.inl l0)] h := ev_go c147_4 rfl
theorem c147_5 : cd 147 5 = some (5, .iload_n 1, 1, 0, 0, 0) := rfl
theorem s147_5 {l0 s0 : AV} {l1 : Int} {h : AH} : evL 147 5 [l0, I l1] [s0] h = evL 147 6 [l0, I l1] [I l1, s0] h := ev_go c147_5 rfl
theorem c147_6 : cd 147 6 = some (6, .invokevirtual 133, 3, 134, 0, 798) := rfl
theorem s147_6 {l0 l1 : AV} {s0 : Int} {s1 : Nat} {M : Mem} {P : PMem} (hk : kd s1 = 8) : evL 147 6 [l0, l1] [I s0, Rf s1] (Hp M P) = cont (evM 134 [Rf s1, I s0] (Hp M P)) (fun r h => evL 147 9 [l0, l1] (rl r []) h) := e_callV (av' := [I s0]) (rest := []) (c := 8) c147_6 rfl rfl rfl rfl rfl rfl rfl hk rfl
theorem c147_9 : cd 147 9 = some (9, .ireturn, 1, 0, 0, 0) := rfl
theorem s147_9 {l0 l1 : AV} {s0 : Int} {h : AH} : evL 147 9 [l0, l1] [I s0] h = some (some (I s0), h) := e_ret c147_9 rfl
/-! 148: TankDiversModel.take()I -/
theorem en148 {l0 : AV} {h : AH} : evM 148 [l0] h = evL 148 0 [l0] [] h := rfl
theorem c148_0 : cd 148 0 = some (0, .aload_n 0, 1, 0, 0, 0) := rfl
theorem s148_0 {l0 : Option Nat} {h : AH} : evL 148 0 [.inr (.inl l0)] [] h = evL 148 1 [.inr (.inl l0)] [.inr (.inl l0)] h := ev_go c148_0 rfl
theorem c148_1 : cd 148 1 = some (1, .invokevirtual 130, 3, 112, 0, 787) := rfl
theorem s148_1 {l0 : AV} {s0 : Nat} {M : Mem} {P : PMem} (hk : kd s0 = 8) : evL 148 1 [l0] [Rf s0] (Hp M P) = cont (evM 112 [Rf s0] (Hp M P)) (fun r h => evL 148 4 [l0] (rl r []) h) := e_callV (av' := []) (rest := []) (c := 8) c148_1 rfl rfl rfl rfl rfl rfl rfl hk rfl
theorem c148_4 : cd 148 4 = some (4, .aload_n 0, 1, 0, 0, 0) := rfl
theorem s148_4 {l0 : Option Nat} {h : AH} : evL 148 4 [.inr (.inl l0)] [] h = evL 148 5 [.inr (.inl l0)] [.inr (.inl l0)] h := ev_go c148_4 rfl
theorem c148_5 : cd 148 5 = some (5, .invokevirtual 136, 3, 143, 0, 834) := rfl
theorem s148_5 {l0 : AV} {s0 : Nat} {M : Mem} {P : PMem} (hk : kd s0 = 8) : evL 148 5 [l0] [Rf s0] (Hp M P) = cont (evM 143 [Rf s0] (Hp M P)) (fun r h => evL 148 8 [l0] (rl r []) h) := e_callV (av' := []) (rest := []) (c := 8) c148_5 rfl rfl rfl rfl rfl rfl rfl hk rfl
theorem c148_8 : cd 148 8 = some (8, .ireturn, 1, 0, 0, 0) := rfl
theorem s148_8 {l0 : AV} {s0 : Int} {h : AH} : evL 148 8 [l0] [I s0] h = some (some (I s0), h) := e_ret c148_8 rfl
/-! 149: TankDiversModel.lay(I)I -/
theorem en149 {l0 l1 : AV} {h : AH} : evM 149 [l0, l1] h = evL 149 0 [l0, l1] [] h := rfl
theorem c149_0 : cd 149 0 = some (0, .aload_n 0, 1, 0, 0, 0) := rfl
theorem s149_0 {l1 : AV} {l0 : Option Nat} {h : AH} : evL 149 0 [.inr (.inl l0), l1] [] h = evL 149 1 [.inr (.inl l0), l1] [.inr (.inl l0)] h := ev_go c149_0 rfl
theorem c149_1 : cd 149 1 = some (1, .invokevirtual 130, 3, 112, 0, 787) := rfl
theorem s149_1 {l0 l1 : AV} {s0 : Nat} {M : Mem} {P : PMem} (hk : kd s0 = 8) : evL 149 1 [l0, l1] [Rf s0] (Hp M P) = cont (evM 112 [Rf s0] (Hp M P)) (fun r h => evL 149 4 [l0, l1] (rl r []) h) := e_callV (av' := []) (rest := []) (c := 8) c149_1 rfl rfl rfl rfl rfl rfl rfl hk rfl
theorem c149_4 : cd 149 4 = some (4, .aload_n 0, 1, 0, 0, 0) := rfl
theorem s149_4 {l1 : AV} {l0 : Option Nat} {h : AH} : evL 149 4 [.inr (.inl l0), l1] [] h = evL 149 5 [.inr (.inl l0), l1] [.inr (.inl l0)] h := ev_go c149_4 rfl
theorem c149_5 : cd 149 5 = some (5, .iload_n 1, 1, 0, 0, 0) := rfl
theorem s149_5 {l0 s0 : AV} {l1 : Int} {h : AH} : evL 149 5 [l0, I l1] [s0] h = evL 149 6 [l0, I l1] [I l1, s0] h := ev_go c149_5 rfl
theorem c149_6 : cd 149 6 = some (6, .invokevirtual 139, 3, 144, 0, 895) := rfl
theorem s149_6 {l0 l1 : AV} {s0 : Int} {s1 : Nat} {M : Mem} {P : PMem} (hk : kd s1 = 8) : evL 149 6 [l0, l1] [I s0, Rf s1] (Hp M P) = cont (evM 144 [Rf s1, I s0] (Hp M P)) (fun r h => evL 149 9 [l0, l1] (rl r []) h) := e_callV (av' := [I s0]) (rest := []) (c := 8) c149_6 rfl rfl rfl rfl rfl rfl rfl hk rfl
theorem c149_9 : cd 149 9 = some (9, .ireturn, 1, 0, 0, 0) := rfl
theorem s149_9 {l0 l1 : AV} {s0 : Int} {h : AH} : evL 149 9 [l0, l1] [I s0] h = some (some (I s0), h) := e_ret c149_9 rfl
/-! 150: TankDiversModel.nothing()I -/
theorem en150 {l0 : AV} {h : AH} : evM 150 [l0] h = evL 150 0 [l0] [] h := rfl
theorem c150_0 : cd 150 0 = some (0, .aload_n 0, 1, 0, 0, 0) := rfl
theorem s150_0 {l0 : Option Nat} {h : AH} : evL 150 0 [.inr (.inl l0)] [] h = evL 150 1 [.inr (.inl l0)] [.inr (.inl l0)] h := ev_go c150_0 rfl
theorem c150_1 : cd 150 1 = some (1, .invokevirtual 130, 3, 112, 0, 787) := rfl
theorem s150_1 {l0 : AV} {s0 : Nat} {M : Mem} {P : PMem} (hk : kd s0 = 8) : evL 150 1 [l0] [Rf s0] (Hp M P) = cont (evM 112 [Rf s0] (Hp M P)) (fun r h => evL 150 4 [l0] (rl r []) h) := e_callV (av' := []) (rest := []) (c := 8) c150_1 rfl rfl rfl rfl rfl rfl rfl hk rfl
theorem c150_4 : cd 150 4 = some (4, .aload_n 0, 1, 0, 0, 0) := rfl
theorem s150_4 {l0 : Option Nat} {h : AH} : evL 150 4 [.inr (.inl l0)] [] h = evL 150 5 [.inr (.inl l0)] [.inr (.inl l0)] h := ev_go c150_4 rfl
theorem c150_5 : cd 150 5 = some (5, .invokevirtual 142, 3, 145, 0, 903) := rfl
theorem s150_5 {l0 : AV} {s0 : Nat} {M : Mem} {P : PMem} (hk : kd s0 = 8) : evL 150 5 [l0] [Rf s0] (Hp M P) = cont (evM 145 [Rf s0] (Hp M P)) (fun r h => evL 150 8 [l0] (rl r []) h) := e_callV (av' := []) (rest := []) (c := 8) c150_5 rfl rfl rfl rfl rfl rfl rfl hk rfl
theorem c150_8 : cd 150 8 = some (8, .ireturn, 1, 0, 0, 0) := rfl
theorem s150_8 {l0 : AV} {s0 : Int} {h : AH} : evL 150 8 [l0] [I s0] h = some (some (I s0), h) := e_ret c150_8 rfl
/-! 151: TankDiversModel.append(I)I -/
theorem en151 {l0 l1 : AV} {h : AH} : evM 151 [l0, l1] h = evL 151 0 [l0, l1] [] h := rfl
theorem c151_0 : cd 151 0 = some (0, .iload_n 1, 1, 0, 0, 0) := rfl
theorem s151_0 {l0 : AV} {l1 : Int} {h : AH} : evL 151 0 [l0, I l1] [] h = evL 151 1 [l0, I l1] [I l1] h := ev_go c151_0 rfl
theorem c151_1 : cd 151 1 = some (1, .bipush 33, 2, 0, 0, 0) := rfl
theorem s151_1 {l0 l1 s0 : AV} {h : AH} : evL 151 1 [l0, l1] [s0] h = evL 151 3 [l0, l1] [I 33, s0] h := ev_go c151_1 rfl
theorem c151_3 : cd 151 3 = some (3, .bipush 126, 2, 0, 0, 0) := rfl
theorem s151_3 {l0 l1 s0 s1 : AV} {h : AH} : evL 151 3 [l0, l1] [s0, s1] h = evL 151 5 [l0, l1] [I 126, s0, s1] h := ev_go c151_3 rfl
theorem c151_5 : cd 151 5 = some (5, .invokestatic 50, 3, 110, 0, 784) := rfl
theorem s151_5 {l0 l1 : AV} {s0 s1 s2 : Int} {M : Mem} {P : PMem} : evL 151 5 [l0, l1] [I s0, I s1, I s2] (Hp M P) = cont (evM 110 [I s2, I s1, I s0] (Hp M P)) (fun r h => evL 151 8 [l0, l1] (rl r []) h) := e_callS (av := [I s2, I s1, I s0]) (rest := []) c151_5 rfl rfl rfl rfl rfl rfl
theorem c151_8 : cd 151 8 = some (8, .ifCond .ne 5, 3, 0, 0, 0) := rfl
theorem s151_8 {l0 l1 : AV} {s0 : Int} {h : AH} : evL 151 8 [l0, l1] [I s0] h = if s0 = 0 then evL 151 11 [l0, l1] [] h else evL 151 13 [l0, l1] [] h := e_if_ne c151_8 rfl rfl
theorem c151_11 : cd 151 11 = some (11, .iconst (-1), 1, 0, 0, 0) := rfl
theorem s151_11 {l0 l1 : AV} {h : AH} : evL 151 11 [l0, l1] [] h = evL 151 12 [l0, l1] [I (-1)] h := ev_go c151_11 rfl
theorem c151_12 : cd 151 12 = some (12, .ireturn, 1, 0, 0, 0) := rfl
theorem s151_12 {l0 l1 : AV} {s0 : Int} {h : AH} : evL 151 12 [l0, l1] [I s0] h = some (some (I s0), h) := e_ret c151_12 rfl
theorem c151_13 : cd 151 13 = some (13, .aload_n 0, 1, 0, 0, 0) := rfl
theorem s151_13 {l1 : AV} {l0 : Option Nat} {h : AH} : evL 151 13 [.inr (.inl l0), l1] [] h = evL 151 14 [.inr (.inl l0), l1] [.inr (.inl l0)] h := ev_go c151_13 rfl
theorem c151_14 : cd 151 14 = some (14, .getfield 145, 3, 8, 6, 731) := rfl
theorem s151_14 {l0 l1 : AV} {s0 : Nat} {M : Mem} {P : PMem} (hk : kd s0 = 8) : evL 151 14 [l0, l1] [Rf s0] (Hp M P) = evL 151 17 [l0, l1] [I (M s0 6)] (Hp M P) := e_getI c151_14 rfl hk
theorem c151_17 : cd 151 17 = some (17, .bipush 60, 2, 0, 0, 0) := rfl
theorem s151_17 {l0 l1 s0 : AV} {h : AH} : evL 151 17 [l0, l1] [s0] h = evL 151 19 [l0, l1] [I 60, s0] h := ev_go c151_17 rfl
theorem c151_19 : cd 151 19 = some (19, .if_icmp .ne 6, 3, 0, 0, 0) := rfl
theorem s151_19 {l0 l1 : AV} {s0 s1 : Int} {h : AH} : evL 151 19 [l0, l1] [I s0, I s1] h = if s1 = s0 then evL 151 22 [l0, l1] [] h else evL 151 25 [l0, l1] [] h := e_icmp_ne c151_19 rfl rfl
theorem c151_22 : cd 151 22 = some (22, .bipush (-3), 2, 0, 0, 0) := rfl
theorem s151_22 {l0 l1 : AV} {h : AH} : evL 151 22 [l0, l1] [] h = evL 151 24 [l0, l1] [I (-3)] h := ev_go c151_22 rfl
theorem c151_24 : cd 151 24 = some (24, .ireturn, 1, 0, 0, 0) := rfl
theorem s151_24 {l0 l1 : AV} {s0 : Int} {h : AH} : evL 151 24 [l0, l1] [I s0] h = some (some (I s0), h) := e_ret c151_24 rfl
theorem c151_25 : cd 151 25 = some (25, .aload_n 0, 1, 0, 0, 0) := rfl
theorem s151_25 {l1 : AV} {l0 : Option Nat} {h : AH} : evL 151 25 [.inr (.inl l0), l1] [] h = evL 151 26 [.inr (.inl l0), l1] [.inr (.inl l0)] h := ev_go c151_25 rfl
theorem c151_26 : cd 151 26 = some (26, .getfield 19, 3, 8, 5, 730) := rfl
theorem s151_26 {l0 l1 : AV} {s0 : Nat} {M : Mem} {P : PMem} (hk : kd s0 = 8) : evL 151 26 [l0, l1] [Rf s0] (Hp M P) = evL 151 29 [l0, l1] [Rf (rfd s0 5)] (Hp M P) := e_getR c151_26 rfl hk
theorem c151_29 : cd 151 29 = some (29, .aload_n 0, 1, 0, 0, 0) := rfl
theorem s151_29 {l1 s0 : AV} {l0 : Option Nat} {h : AH} : evL 151 29 [.inr (.inl l0), l1] [s0] h = evL 151 30 [.inr (.inl l0), l1] [.inr (.inl l0), s0] h := ev_go c151_29 rfl
theorem c151_30 : cd 151 30 = some (30, .getfield 145, 3, 8, 6, 731) := rfl
theorem s151_30 {l0 l1 s1 : AV} {s0 : Nat} {M : Mem} {P : PMem} (hk : kd s0 = 8) : evL 151 30 [l0, l1] [Rf s0, s1] (Hp M P) = evL 151 33 [l0, l1] [I (M s0 6), s1] (Hp M P) := e_getI c151_30 rfl hk
theorem c151_33 : cd 151 33 = some (33, .iload_n 1, 1, 0, 0, 0) := rfl
theorem s151_33 {l0 s0 s1 : AV} {l1 : Int} {h : AH} : evL 151 33 [l0, I l1] [s0, s1] h = evL 151 34 [l0, I l1] [I l1, s0, s1] h := ev_go c151_33 rfl
theorem c151_34 : cd 151 34 = some (34, .iastore, 1, 0, 0, 0) := rfl
theorem s151_34 {l0 l1 : AV} {s0 s1 : Int} {s2 : Nat} {M : Mem} {P : PMem} (hk : kd s2 = 100) (h0 : 0 ≤ s1) (hn : s1.toNat < ln s2) : evL 151 34 [l0, l1] [I s0, I s1, Rf s2] (Hp M P) = evL 151 35 [l0, l1] [] (Hp (wr M s2 s1.toNat s0) P) := e_iast c151_34 hk h0 hn
theorem c151_35 : cd 151 35 = some (35, .aload_n 0, 1, 0, 0, 0) := rfl
theorem s151_35 {l1 : AV} {l0 : Option Nat} {h : AH} : evL 151 35 [.inr (.inl l0), l1] [] h = evL 151 36 [.inr (.inl l0), l1] [.inr (.inl l0)] h := ev_go c151_35 rfl
theorem c151_36 : cd 151 36 = some (36, .dup, 1, 0, 0, 0) := rfl
theorem s151_36 {l0 l1 : AV} {s0 : Option Nat} {h : AH} : evL 151 36 [l0, l1] [.inr (.inl s0)] h = evL 151 37 [l0, l1] [.inr (.inl s0), .inr (.inl s0)] h := ev_go c151_36 rfl
theorem c151_37 : cd 151 37 = some (37, .getfield 145, 3, 8, 6, 731) := rfl
theorem s151_37 {l0 l1 s1 : AV} {s0 : Nat} {M : Mem} {P : PMem} (hk : kd s0 = 8) : evL 151 37 [l0, l1] [Rf s0, s1] (Hp M P) = evL 151 40 [l0, l1] [I (M s0 6), s1] (Hp M P) := e_getI c151_37 rfl hk
theorem c151_40 : cd 151 40 = some (40, .iconst 1, 1, 0, 0, 0) := rfl
theorem s151_40 {l0 l1 s0 s1 : AV} {h : AH} : evL 151 40 [l0, l1] [s0, s1] h = evL 151 41 [l0, l1] [I 1, s0, s1] h := ev_go c151_40 rfl
theorem c151_41 : cd 151 41 = some (41, .iadd, 1, 0, 0, 0) := rfl
theorem s151_41 {l0 l1 s2 : AV} {s0 s1 : Int} {h : AH} : evL 151 41 [l0, l1] [I s0, I s1, s2] h = evL 151 42 [l0, l1] [I (ad s1 s0), s2] h := ev_go c151_41 rfl
theorem c151_42 : cd 151 42 = some (42, .putfield 145, 3, 8, 6, 731) := rfl
theorem s151_42 {l0 l1 : AV} {s0 : Int} {s1 : Nat} {M : Mem} {P : PMem} (hk : kd s1 = 8) : evL 151 42 [l0, l1] [I s0, Rf s1] (Hp M P) = evL 151 45 [l0, l1] [] (Hp (wr M s1 6 s0) P) := e_putI c151_42 rfl hk
theorem c151_45 : cd 151 45 = some (45, .aload_n 0, 1, 0, 0, 0) := rfl
theorem s151_45 {l1 : AV} {l0 : Option Nat} {h : AH} : evL 151 45 [.inr (.inl l0), l1] [] h = evL 151 46 [.inr (.inl l0), l1] [.inr (.inl l0)] h := ev_go c151_45 rfl
theorem c151_46 : cd 151 46 = some (46, .getfield 145, 3, 8, 6, 731) := rfl
theorem s151_46 {l0 l1 : AV} {s0 : Nat} {M : Mem} {P : PMem} (hk : kd s0 = 8) : evL 151 46 [l0, l1] [Rf s0] (Hp M P) = evL 151 49 [l0, l1] [I (M s0 6)] (Hp M P) := e_getI c151_46 rfl hk
theorem c151_49 : cd 151 49 = some (49, .ireturn, 1, 0, 0, 0) := rfl
theorem s151_49 {l0 l1 : AV} {s0 : Int} {h : AH} : evL 151 49 [l0, l1] [I s0] h = some (some (I s0), h) := e_ret c151_49 rfl
/-! 152: TankDiversModel.clear()I -/
theorem en152 {l0 : AV} {h : AH} : evM 152 [l0] h = evL 152 0 [l0, Db 0] [] h := rfl
theorem c152_0 : cd 152 0 = some (0, .aload_n 0, 1, 0, 0, 0) := rfl
theorem s152_0 {l1 : AV} {l0 : Option Nat} {h : AH} : evL 152 0 [.inr (.inl l0), l1] [] h = evL 152 1 [.inr (.inl l0), l1] [.inr (.inl l0)] h := ev_go c152_0 rfl
theorem c152_1 : cd 152 1 = some (1, .getfield 145, 3, 8, 6, 731) := rfl
theorem s152_1 {l0 l1 : AV} {s0 : Nat} {M : Mem} {P : PMem} (hk : kd s0 = 8) : evL 152 1 [l0, l1] [Rf s0] (Hp M P) = evL 152 4 [l0, l1] [I (M s0 6)] (Hp M P) := e_getI c152_1 rfl hk
theorem c152_4 : cd 152 4 = some (4, .istore_n 1, 1, 0, 0, 0) := rfl
theorem s152_4 {l0 l1 : AV} {s0 : Int} {h : AH} : evL 152 4 [l0, l1] [I s0] h = evL 152 5 [l0, I s0] [] h := ev_go c152_4 rfl
theorem c152_5 : cd 152 5 = some (5, .aload_n 0, 1, 0, 0, 0) := rfl
theorem s152_5 {l1 : AV} {l0 : Option Nat} {h : AH} : evL 152 5 [.inr (.inl l0), l1] [] h = evL 152 6 [.inr (.inl l0), l1] [.inr (.inl l0)] h := ev_go c152_5 rfl
theorem c152_6 : cd 152 6 = some (6, .iconst 0, 1, 0, 0, 0) := rfl
theorem s152_6 {l0 l1 s0 : AV} {h : AH} : evL 152 6 [l0, l1] [s0] h = evL 152 7 [l0, l1] [I 0, s0] h := ev_go c152_6 rfl
theorem c152_7 : cd 152 7 = some (7, .putfield 145, 3, 8, 6, 731) := rfl
theorem s152_7 {l0 l1 : AV} {s0 : Int} {s1 : Nat} {M : Mem} {P : PMem} (hk : kd s1 = 8) : evL 152 7 [l0, l1] [I s0, Rf s1] (Hp M P) = evL 152 10 [l0, l1] [] (Hp (wr M s1 6 s0) P) := e_putI c152_7 rfl hk
theorem c152_10 : cd 152 10 = some (10, .iload_n 1, 1, 0, 0, 0) := rfl
theorem s152_10 {l0 : AV} {l1 : Int} {h : AH} : evL 152 10 [l0, I l1] [] h = evL 152 11 [l0, I l1] [I l1] h := ev_go c152_10 rfl
theorem c152_11 : cd 152 11 = some (11, .ireturn, 1, 0, 0, 0) := rfl
theorem s152_11 {l0 l1 : AV} {s0 : Int} {h : AH} : evL 152 11 [l0, l1] [I s0] h = some (some (I s0), h) := e_ret c152_11 rfl
/-! 153: TankDiversModel.here()I -/
theorem en153 {l0 : AV} {h : AH} : evM 153 [l0] h = evL 153 0 [l0] [] h := rfl
theorem c153_0 : cd 153 0 = some (0, .aload_n 0, 1, 0, 0, 0) := rfl
theorem s153_0 {l0 : Option Nat} {h : AH} : evL 153 0 [.inr (.inl l0)] [] h = evL 153 1 [.inr (.inl l0)] [.inr (.inl l0)] h := ev_go c153_0 rfl
theorem c153_1 : cd 153 1 = some (1, .getfield 148, 3, 8, 11, 736) := rfl
theorem s153_1 {l0 : AV} {s0 : Nat} {M : Mem} {P : PMem} (hk : kd s0 = 8) : evL 153 1 [l0] [Rf s0] (Hp M P) = evL 153 4 [l0] [I (M s0 11)] (Hp M P) := e_getI c153_1 rfl hk
theorem c153_4 : cd 153 4 = some (4, .aload_n 0, 1, 0, 0, 0) := rfl
theorem s153_4 {s0 : AV} {l0 : Option Nat} {h : AH} : evL 153 4 [.inr (.inl l0)] [s0] h = evL 153 5 [.inr (.inl l0)] [.inr (.inl l0), s0] h := ev_go c153_4 rfl
theorem c153_5 : cd 153 5 = some (5, .getfield 145, 3, 8, 6, 731) := rfl
theorem s153_5 {l0 s1 : AV} {s0 : Nat} {M : Mem} {P : PMem} (hk : kd s0 = 8) : evL 153 5 [l0] [Rf s0, s1] (Hp M P) = evL 153 8 [l0] [I (M s0 6), s1] (Hp M P) := e_getI c153_5 rfl hk
theorem c153_8 : cd 153 8 = some (8, .if_icmp .ge 15, 3, 0, 0, 0) := rfl
theorem s153_8 {l0 : AV} {s0 s1 : Int} {h : AH} : evL 153 8 [l0] [I s0, I s1] h = if s0 ≤ s1 then evL 153 23 [l0] [] h else evL 153 11 [l0] [] h := e_icmp_ge c153_8 rfl rfl
theorem c153_11 : cd 153 11 = some (11, .aload_n 0, 1, 0, 0, 0) := rfl
theorem s153_11 {l0 : Option Nat} {h : AH} : evL 153 11 [.inr (.inl l0)] [] h = evL 153 12 [.inr (.inl l0)] [.inr (.inl l0)] h := ev_go c153_11 rfl
theorem c153_12 : cd 153 12 = some (12, .getfield 19, 3, 8, 5, 730) := rfl
theorem s153_12 {l0 : AV} {s0 : Nat} {M : Mem} {P : PMem} (hk : kd s0 = 8) : evL 153 12 [l0] [Rf s0] (Hp M P) = evL 153 15 [l0] [Rf (rfd s0 5)] (Hp M P) := e_getR c153_12 rfl hk
theorem c153_15 : cd 153 15 = some (15, .aload_n 0, 1, 0, 0, 0) := rfl
theorem s153_15 {s0 : AV} {l0 : Option Nat} {h : AH} : evL 153 15 [.inr (.inl l0)] [s0] h = evL 153 16 [.inr (.inl l0)] [.inr (.inl l0), s0] h := ev_go c153_15 rfl
theorem c153_16 : cd 153 16 = some (16, .getfield 148, 3, 8, 11, 736) := rfl
theorem s153_16 {l0 s1 : AV} {s0 : Nat} {M : Mem} {P : PMem} (hk : kd s0 = 8) : evL 153 16 [l0] [Rf s0, s1] (Hp M P) = evL 153 19 [l0] [I (M s0 11), s1] (Hp M P) := e_getI c153_16 rfl hk
theorem c153_19 : cd 153 19 = some (19, .iaload, 1, 0, 0, 0) := rfl
theorem s153_19 {l0 : AV} {s0 : Int} {s1 : Nat} {M : Mem} {P : PMem} (hk : kd s1 = 100) (h0 : 0 ≤ s0) (hn : s0.toNat < ln s1) : evL 153 19 [l0] [I s0, Rf s1] (Hp M P) = evL 153 20 [l0] [I (M s1 s0.toNat)] (Hp M P) := e_iald c153_19 hk h0 hn
theorem c153_20 : cd 153 20 = some (20, .goto 4, 3, 0, 0, 0) := rfl
theorem s153_20 {l0 s0 : AV} {h : AH} : evL 153 20 [l0] [s0] h = evL 153 24 [l0] [s0] h := ev_go c153_20 rfl
theorem c153_23 : cd 153 23 = some (23, .iconst 0, 1, 0, 0, 0) := rfl
theorem s153_23 {l0 : AV} {h : AH} : evL 153 23 [l0] [] h = evL 153 24 [l0] [I 0] h := ev_go c153_23 rfl
theorem c153_24 : cd 153 24 = some (24, .ireturn, 1, 0, 0, 0) := rfl
theorem s153_24 {l0 : AV} {s0 : Int} {h : AH} : evL 153 24 [l0] [I s0] h = some (some (I s0), h) := e_ret c153_24 rfl
/-! 154: TankDiversModel.takes(Z)V -/
theorem en154 {l0 l1 : AV} {h : AH} : evM 154 [l0, l1] h = evL 154 0 [l0, l1] [] h := rfl
theorem c154_0 : cd 154 0 = some (0, .aload_n 0, 1, 0, 0, 0) := rfl
theorem s154_0 {l1 : AV} {l0 : Option Nat} {h : AH} : evL 154 0 [.inr (.inl l0), l1] [] h = evL 154 1 [.inr (.inl l0), l1] [.inr (.inl l0)] h := ev_go c154_0 rfl
theorem c154_1 : cd 154 1 = some (1, .aload_n 0, 1, 0, 0, 0) := rfl
theorem s154_1 {l1 s0 : AV} {l0 : Option Nat} {h : AH} : evL 154 1 [.inr (.inl l0), l1] [s0] h = evL 154 2 [.inr (.inl l0), l1] [.inr (.inl l0), s0] h := ev_go c154_1 rfl
theorem c154_2 : cd 154 2 = some (2, .getfield 151, 3, 8, 12, 737) := rfl
theorem s154_2 {l0 l1 s1 : AV} {s0 : Nat} {M : Mem} {P : PMem} (hk : kd s0 = 8) : evL 154 2 [l0, l1] [Rf s0, s1] (Hp M P) = evL 154 5 [l0, l1] [I (M s0 12), s1] (Hp M P) := e_getI c154_2 rfl hk
theorem c154_5 : cd 154 5 = some (5, .ifCond .eq 11, 3, 0, 0, 0) := rfl
theorem s154_5 {l0 l1 s1 : AV} {s0 : Int} {h : AH} : evL 154 5 [l0, l1] [I s0, s1] h = if s0 = 0 then evL 154 16 [l0, l1] [s1] h else evL 154 8 [l0, l1] [s1] h := e_if_eq c154_5 rfl rfl
theorem c154_8 : cd 154 8 = some (8, .iload_n 1, 1, 0, 0, 0) := rfl
theorem s154_8 {l0 s0 : AV} {l1 : Int} {h : AH} : evL 154 8 [l0, I l1] [s0] h = evL 154 9 [l0, I l1] [I l1, s0] h := ev_go c154_8 rfl
theorem c154_9 : cd 154 9 = some (9, .ifCond .eq 7, 3, 0, 0, 0) := rfl
theorem s154_9 {l0 l1 s1 : AV} {s0 : Int} {h : AH} : evL 154 9 [l0, l1] [I s0, s1] h = if s0 = 0 then evL 154 16 [l0, l1] [s1] h else evL 154 12 [l0, l1] [s1] h := e_if_eq c154_9 rfl rfl
theorem c154_12 : cd 154 12 = some (12, .iconst 1, 1, 0, 0, 0) := rfl
theorem s154_12 {l0 l1 s0 : AV} {h : AH} : evL 154 12 [l0, l1] [s0] h = evL 154 13 [l0, l1] [I 1, s0] h := ev_go c154_12 rfl
theorem c154_13 : cd 154 13 = some (13, .goto 4, 3, 0, 0, 0) := rfl
theorem s154_13 {l0 l1 s0 s1 : AV} {h : AH} : evL 154 13 [l0, l1] [s0, s1] h = evL 154 17 [l0, l1] [s0, s1] h := ev_go c154_13 rfl
theorem c154_16 : cd 154 16 = some (16, .iconst 0, 1, 0, 0, 0) := rfl
theorem s154_16 {l0 l1 s0 : AV} {h : AH} : evL 154 16 [l0, l1] [s0] h = evL 154 17 [l0, l1] [I 0, s0] h := ev_go c154_16 rfl
theorem c154_17 : cd 154 17 = some (17, .putfield 151, 3, 8, 12, 737) := rfl
theorem s154_17 {l0 l1 : AV} {s0 : Int} {s1 : Nat} {M : Mem} {P : PMem} (hk : kd s1 = 8) (hz : s0 = 0 ∨ s0 = 1) : evL 154 17 [l0, l1] [I s0, Rf s1] (Hp M P) = evL 154 20 [l0, l1] [] (Hp (wr M s1 12 s0) P) := e_putZ c154_17 rfl hk hz
theorem c154_20 : cd 154 20 = some (20, .aload_n 0, 1, 0, 0, 0) := rfl
theorem s154_20 {l1 : AV} {l0 : Option Nat} {h : AH} : evL 154 20 [.inr (.inl l0), l1] [] h = evL 154 21 [.inr (.inl l0), l1] [.inr (.inl l0)] h := ev_go c154_20 rfl
theorem c154_21 : cd 154 21 = some (21, .dup, 1, 0, 0, 0) := rfl
theorem s154_21 {l0 l1 : AV} {s0 : Option Nat} {h : AH} : evL 154 21 [l0, l1] [.inr (.inl s0)] h = evL 154 22 [l0, l1] [.inr (.inl s0), .inr (.inl s0)] h := ev_go c154_21 rfl
theorem c154_22 : cd 154 22 = some (22, .getfield 148, 3, 8, 11, 736) := rfl
theorem s154_22 {l0 l1 s1 : AV} {s0 : Nat} {M : Mem} {P : PMem} (hk : kd s0 = 8) : evL 154 22 [l0, l1] [Rf s0, s1] (Hp M P) = evL 154 25 [l0, l1] [I (M s0 11), s1] (Hp M P) := e_getI c154_22 rfl hk
theorem c154_25 : cd 154 25 = some (25, .aload_n 0, 1, 0, 0, 0) := rfl
theorem s154_25 {l1 s0 s1 : AV} {l0 : Option Nat} {h : AH} : evL 154 25 [.inr (.inl l0), l1] [s0, s1] h = evL 154 26 [.inr (.inl l0), l1] [.inr (.inl l0), s0, s1] h := ev_go c154_25 rfl
theorem c154_26 : cd 154 26 = some (26, .getfield 151, 3, 8, 12, 737) := rfl
theorem s154_26 {l0 l1 s1 s2 : AV} {s0 : Nat} {M : Mem} {P : PMem} (hk : kd s0 = 8) : evL 154 26 [l0, l1] [Rf s0, s1, s2] (Hp M P) = evL 154 29 [l0, l1] [I (M s0 12), s1, s2] (Hp M P) := e_getI c154_26 rfl hk
theorem c154_29 : cd 154 29 = some (29, .ifCond .eq 7, 3, 0, 0, 0) := rfl
theorem s154_29 {l0 l1 s1 s2 : AV} {s0 : Int} {h : AH} : evL 154 29 [l0, l1] [I s0, s1, s2] h = if s0 = 0 then evL 154 36 [l0, l1] [s1, s2] h else evL 154 32 [l0, l1] [s1, s2] h := e_if_eq c154_29 rfl rfl
theorem c154_32 : cd 154 32 = some (32, .iconst 1, 1, 0, 0, 0) := rfl
theorem s154_32 {l0 l1 s0 s1 : AV} {h : AH} : evL 154 32 [l0, l1] [s0, s1] h = evL 154 33 [l0, l1] [I 1, s0, s1] h := ev_go c154_32 rfl
theorem c154_33 : cd 154 33 = some (33, .goto 4, 3, 0, 0, 0) := rfl
theorem s154_33 {l0 l1 s0 s1 s2 : AV} {h : AH} : evL 154 33 [l0, l1] [s0, s1, s2] h = evL 154 37 [l0, l1] [s0, s1, s2] h := ev_go c154_33 rfl
theorem c154_36 : cd 154 36 = some (36, .iconst 0, 1, 0, 0, 0) := rfl
theorem s154_36 {l0 l1 s0 s1 : AV} {h : AH} : evL 154 36 [l0, l1] [s0, s1] h = evL 154 37 [l0, l1] [I 0, s0, s1] h := ev_go c154_36 rfl
theorem c154_37 : cd 154 37 = some (37, .iadd, 1, 0, 0, 0) := rfl
theorem s154_37 {l0 l1 s2 : AV} {s0 s1 : Int} {h : AH} : evL 154 37 [l0, l1] [I s0, I s1, s2] h = evL 154 38 [l0, l1] [I (ad s1 s0), s2] h := ev_go c154_37 rfl
theorem c154_38 : cd 154 38 = some (38, .putfield 148, 3, 8, 11, 736) := rfl
theorem s154_38 {l0 l1 : AV} {s0 : Int} {s1 : Nat} {M : Mem} {P : PMem} (hk : kd s1 = 8) : evL 154 38 [l0, l1] [I s0, Rf s1] (Hp M P) = evL 154 41 [l0, l1] [] (Hp (wr M s1 11 s0) P) := e_putI c154_38 rfl hk
theorem c154_41 : cd 154 41 = some (41, .return_, 1, 0, 0, 0) := rfl
theorem s154_41 {l0 l1 : AV} {h : AH} : evL 154 41 [l0, l1] [] h = some (none, h) := e_ret c154_41 rfl
/-! 155: TankDiversModel.takesTurn()V -/
theorem en155 {l0 : AV} {h : AH} : evM 155 [l0] h = evL 155 0 [l0] [] h := rfl
theorem c155_0 : cd 155 0 = some (0, .aload_n 0, 1, 0, 0, 0) := rfl
theorem s155_0 {l0 : Option Nat} {h : AH} : evL 155 0 [.inr (.inl l0)] [] h = evL 155 1 [.inr (.inl l0)] [.inr (.inl l0)] h := ev_go c155_0 rfl
theorem c155_1 : cd 155 1 = some (1, .aload_n 0, 1, 0, 0, 0) := rfl
theorem s155_1 {s0 : AV} {l0 : Option Nat} {h : AH} : evL 155 1 [.inr (.inl l0)] [s0] h = evL 155 2 [.inr (.inl l0)] [.inr (.inl l0), s0] h := ev_go c155_1 rfl
theorem c155_2 : cd 155 2 = some (2, .invokevirtual 155, 3, 153, 0, 927) := rfl
theorem s155_2 {l0 s1 : AV} {s0 : Nat} {M : Mem} {P : PMem} (hk : kd s0 = 8) : evL 155 2 [l0] [Rf s0, s1] (Hp M P) = cont (evM 153 [Rf s0] (Hp M P)) (fun r h => evL 155 5 [l0] (rl r [s1]) h) := e_callV (av' := []) (rest := [s1]) (c := 8) c155_2 rfl rfl rfl rfl rfl rfl rfl hk rfl
theorem c155_5 : cd 155 5 = some (5, .putfield 158, 3, 8, 13, 738) := rfl
theorem s155_5 {l0 : AV} {s0 : Int} {s1 : Nat} {M : Mem} {P : PMem} (hk : kd s1 = 8) : evL 155 5 [l0] [I s0, Rf s1] (Hp M P) = evL 155 8 [l0] [] (Hp (wr M s1 13 s0) P) := e_putI c155_5 rfl hk
theorem c155_8 : cd 155 8 = some (8, .aload_n 0, 1, 0, 0, 0) := rfl
theorem s155_8 {l0 : Option Nat} {h : AH} : evL 155 8 [.inr (.inl l0)] [] h = evL 155 9 [.inr (.inl l0)] [.inr (.inl l0)] h := ev_go c155_8 rfl
theorem c155_9 : cd 155 9 = some (9, .aload_n 0, 1, 0, 0, 0) := rfl
theorem s155_9 {s0 : AV} {l0 : Option Nat} {h : AH} : evL 155 9 [.inr (.inl l0)] [s0] h = evL 155 10 [.inr (.inl l0)] [.inr (.inl l0), s0] h := ev_go c155_9 rfl
theorem c155_10 : cd 155 10 = some (10, .getfield 158, 3, 8, 13, 738) := rfl
theorem s155_10 {l0 s1 : AV} {s0 : Nat} {M : Mem} {P : PMem} (hk : kd s0 = 8) : evL 155 10 [l0] [Rf s0, s1] (Hp M P) = evL 155 13 [l0] [I (M s0 13), s1] (Hp M P) := e_getI c155_10 rfl hk
theorem c155_13 : cd 155 13 = some (13, .bipush 100, 2, 0, 0, 0) := rfl
theorem s155_13 {l0 s0 s1 : AV} {h : AH} : evL 155 13 [l0] [s0, s1] h = evL 155 15 [l0] [I 100, s0, s1] h := ev_go c155_13 rfl
theorem c155_15 : cd 155 15 = some (15, .if_icmp .eq 12, 3, 0, 0, 0) := rfl
theorem s155_15 {l0 s2 : AV} {s0 s1 : Int} {h : AH} : evL 155 15 [l0] [I s0, I s1, s2] h = if s1 = s0 then evL 155 27 [l0] [s2] h else evL 155 18 [l0] [s2] h := e_icmp_eq c155_15 rfl rfl
theorem c155_18 : cd 155 18 = some (18, .aload_n 0, 1, 0, 0, 0) := rfl
theorem s155_18 {s0 : AV} {l0 : Option Nat} {h : AH} : evL 155 18 [.inr (.inl l0)] [s0] h = evL 155 19 [.inr (.inl l0)] [.inr (.inl l0), s0] h := ev_go c155_18 rfl
theorem c155_19 : cd 155 19 = some (19, .getfield 158, 3, 8, 13, 738) := rfl
theorem s155_19 {l0 s1 : AV} {s0 : Nat} {M : Mem} {P : PMem} (hk : kd s0 = 8) : evL 155 19 [l0] [Rf s0, s1] (Hp M P) = evL 155 22 [l0] [I (M s0 13), s1] (Hp M P) := e_getI c155_19 rfl hk
theorem c155_22 : cd 155 22 = some (22, .bipush 117, 2, 0, 0, 0) := rfl
theorem s155_22 {l0 s0 s1 : AV} {h : AH} : evL 155 22 [l0] [s0, s1] h = evL 155 24 [l0] [I 117, s0, s1] h := ev_go c155_22 rfl
theorem c155_24 : cd 155 24 = some (24, .if_icmp .ne 7, 3, 0, 0, 0) := rfl
theorem s155_24 {l0 s2 : AV} {s0 s1 : Int} {h : AH} : evL 155 24 [l0] [I s0, I s1, s2] h = if s1 = s0 then evL 155 27 [l0] [s2] h else evL 155 31 [l0] [s2] h := e_icmp_ne c155_24 rfl rfl
theorem c155_27 : cd 155 27 = some (27, .iconst 1, 1, 0, 0, 0) := rfl
theorem s155_27 {l0 s0 : AV} {h : AH} : evL 155 27 [l0] [s0] h = evL 155 28 [l0] [I 1, s0] h := ev_go c155_27 rfl
theorem c155_28 : cd 155 28 = some (28, .goto 4, 3, 0, 0, 0) := rfl
theorem s155_28 {l0 s0 s1 : AV} {h : AH} : evL 155 28 [l0] [s0, s1] h = evL 155 32 [l0] [s0, s1] h := ev_go c155_28 rfl
theorem c155_31 : cd 155 31 = some (31, .iconst 0, 1, 0, 0, 0) := rfl
theorem s155_31 {l0 s0 : AV} {h : AH} : evL 155 31 [l0] [s0] h = evL 155 32 [l0] [I 0, s0] h := ev_go c155_31 rfl
theorem c155_32 : cd 155 32 = some (32, .invokevirtual 161, 3, 154, 0, 931) := rfl
theorem s155_32 {l0 : AV} {s0 : Int} {s1 : Nat} {M : Mem} {P : PMem} (hk : kd s1 = 8) : evL 155 32 [l0] [I s0, Rf s1] (Hp M P) = cont (evM 154 [Rf s1, I s0] (Hp M P)) (fun r h => evL 155 35 [l0] (rl r []) h) := e_callV (av' := [I s0]) (rest := []) (c := 8) c155_32 rfl rfl rfl rfl rfl rfl rfl hk rfl
theorem c155_35 : cd 155 35 = some (35, .aload_n 0, 1, 0, 0, 0) := rfl
theorem s155_35 {l0 : Option Nat} {h : AH} : evL 155 35 [.inr (.inl l0)] [] h = evL 155 36 [.inr (.inl l0)] [.inr (.inl l0)] h := ev_go c155_35 rfl
theorem c155_36 : cd 155 36 = some (36, .aload_n 0, 1, 0, 0, 0) := rfl
theorem s155_36 {s0 : AV} {l0 : Option Nat} {h : AH} : evL 155 36 [.inr (.inl l0)] [s0] h = evL 155 37 [.inr (.inl l0)] [.inr (.inl l0), s0] h := ev_go c155_36 rfl
theorem c155_37 : cd 155 37 = some (37, .invokevirtual 155, 3, 153, 0, 927) := rfl
theorem s155_37 {l0 s1 : AV} {s0 : Nat} {M : Mem} {P : PMem} (hk : kd s0 = 8) : evL 155 37 [l0] [Rf s0, s1] (Hp M P) = cont (evM 153 [Rf s0] (Hp M P)) (fun r h => evL 155 40 [l0] (rl r [s1]) h) := e_callV (av' := []) (rest := [s1]) (c := 8) c155_37 rfl rfl rfl rfl rfl rfl rfl hk rfl
theorem c155_40 : cd 155 40 = some (40, .putfield 165, 3, 8, 14, 739) := rfl
theorem s155_40 {l0 : AV} {s0 : Int} {s1 : Nat} {M : Mem} {P : PMem} (hk : kd s1 = 8) : evL 155 40 [l0] [I s0, Rf s1] (Hp M P) = evL 155 43 [l0] [] (Hp (wr M s1 14 s0) P) := e_putI c155_40 rfl hk
theorem c155_43 : cd 155 43 = some (43, .aload_n 0, 1, 0, 0, 0) := rfl
theorem s155_43 {l0 : Option Nat} {h : AH} : evL 155 43 [.inr (.inl l0)] [] h = evL 155 44 [.inr (.inl l0)] [.inr (.inl l0)] h := ev_go c155_43 rfl
theorem c155_44 : cd 155 44 = some (44, .aload_n 0, 1, 0, 0, 0) := rfl
theorem s155_44 {s0 : AV} {l0 : Option Nat} {h : AH} : evL 155 44 [.inr (.inl l0)] [s0] h = evL 155 45 [.inr (.inl l0)] [.inr (.inl l0), s0] h := ev_go c155_44 rfl
theorem c155_45 : cd 155 45 = some (45, .getfield 165, 3, 8, 14, 739) := rfl
theorem s155_45 {l0 s1 : AV} {s0 : Nat} {M : Mem} {P : PMem} (hk : kd s0 = 8) : evL 155 45 [l0] [Rf s0, s1] (Hp M P) = evL 155 48 [l0] [I (M s0 14), s1] (Hp M P) := e_getI c155_45 rfl hk
theorem c155_48 : cd 155 48 = some (48, .bipush 116, 2, 0, 0, 0) := rfl
theorem s155_48 {l0 s0 s1 : AV} {h : AH} : evL 155 48 [l0] [s0, s1] h = evL 155 50 [l0] [I 116, s0, s1] h := ev_go c155_48 rfl
theorem c155_50 : cd 155 50 = some (50, .if_icmp .eq 21, 3, 0, 0, 0) := rfl
theorem s155_50 {l0 s2 : AV} {s0 s1 : Int} {h : AH} : evL 155 50 [l0] [I s0, I s1, s2] h = if s1 = s0 then evL 155 71 [l0] [s2] h else evL 155 53 [l0] [s2] h := e_icmp_eq c155_50 rfl rfl
theorem c155_53 : cd 155 53 = some (53, .aload_n 0, 1, 0, 0, 0) := rfl
theorem s155_53 {s0 : AV} {l0 : Option Nat} {h : AH} : evL 155 53 [.inr (.inl l0)] [s0] h = evL 155 54 [.inr (.inl l0)] [.inr (.inl l0), s0] h := ev_go c155_53 rfl
theorem c155_54 : cd 155 54 = some (54, .getfield 165, 3, 8, 14, 739) := rfl
theorem s155_54 {l0 s1 : AV} {s0 : Nat} {M : Mem} {P : PMem} (hk : kd s0 = 8) : evL 155 54 [l0] [Rf s0, s1] (Hp M P) = evL 155 57 [l0] [I (M s0 14), s1] (Hp M P) := e_getI c155_54 rfl hk
theorem c155_57 : cd 155 57 = some (57, .bipush 110, 2, 0, 0, 0) := rfl
theorem s155_57 {l0 s0 s1 : AV} {h : AH} : evL 155 57 [l0] [s0, s1] h = evL 155 59 [l0] [I 110, s0, s1] h := ev_go c155_57 rfl
theorem c155_59 : cd 155 59 = some (59, .if_icmp .eq 12, 3, 0, 0, 0) := rfl
theorem s155_59 {l0 s2 : AV} {s0 s1 : Int} {h : AH} : evL 155 59 [l0] [I s0, I s1, s2] h = if s1 = s0 then evL 155 71 [l0] [s2] h else evL 155 62 [l0] [s2] h := e_icmp_eq c155_59 rfl rfl
theorem c155_62 : cd 155 62 = some (62, .aload_n 0, 1, 0, 0, 0) := rfl
theorem s155_62 {s0 : AV} {l0 : Option Nat} {h : AH} : evL 155 62 [.inr (.inl l0)] [s0] h = evL 155 63 [.inr (.inl l0)] [.inr (.inl l0), s0] h := ev_go c155_62 rfl
theorem c155_63 : cd 155 63 = some (63, .getfield 165, 3, 8, 14, 739) := rfl
theorem s155_63 {l0 s1 : AV} {s0 : Nat} {M : Mem} {P : PMem} (hk : kd s0 = 8) : evL 155 63 [l0] [Rf s0, s1] (Hp M P) = evL 155 66 [l0] [I (M s0 14), s1] (Hp M P) := e_getI c155_63 rfl hk
theorem c155_66 : cd 155 66 = some (66, .bipush 108, 2, 0, 0, 0) := rfl
theorem s155_66 {l0 s0 s1 : AV} {h : AH} : evL 155 66 [l0] [s0, s1] h = evL 155 68 [l0] [I 108, s0, s1] h := ev_go c155_66 rfl
theorem c155_68 : cd 155 68 = some (68, .if_icmp .ne 7, 3, 0, 0, 0) := rfl
theorem s155_68 {l0 s2 : AV} {s0 s1 : Int} {h : AH} : evL 155 68 [l0] [I s0, I s1, s2] h = if s1 = s0 then evL 155 71 [l0] [s2] h else evL 155 75 [l0] [s2] h := e_icmp_ne c155_68 rfl rfl
theorem c155_71 : cd 155 71 = some (71, .iconst 1, 1, 0, 0, 0) := rfl
theorem s155_71 {l0 s0 : AV} {h : AH} : evL 155 71 [l0] [s0] h = evL 155 72 [l0] [I 1, s0] h := ev_go c155_71 rfl
theorem c155_72 : cd 155 72 = some (72, .goto 4, 3, 0, 0, 0) := rfl
theorem s155_72 {l0 s0 s1 : AV} {h : AH} : evL 155 72 [l0] [s0, s1] h = evL 155 76 [l0] [s0, s1] h := ev_go c155_72 rfl
theorem c155_75 : cd 155 75 = some (75, .iconst 0, 1, 0, 0, 0) := rfl
theorem s155_75 {l0 s0 : AV} {h : AH} : evL 155 75 [l0] [s0] h = evL 155 76 [l0] [I 0, s0] h := ev_go c155_75 rfl
theorem c155_76 : cd 155 76 = some (76, .invokevirtual 161, 3, 154, 0, 931) := rfl
theorem s155_76 {l0 : AV} {s0 : Int} {s1 : Nat} {M : Mem} {P : PMem} (hk : kd s1 = 8) : evL 155 76 [l0] [I s0, Rf s1] (Hp M P) = cont (evM 154 [Rf s1, I s0] (Hp M P)) (fun r h => evL 155 79 [l0] (rl r []) h) := e_callV (av' := [I s0]) (rest := []) (c := 8) c155_76 rfl rfl rfl rfl rfl rfl rfl hk rfl
theorem c155_79 : cd 155 79 = some (79, .aload_n 0, 1, 0, 0, 0) := rfl
theorem s155_79 {l0 : Option Nat} {h : AH} : evL 155 79 [.inr (.inl l0)] [] h = evL 155 80 [.inr (.inl l0)] [.inr (.inl l0)] h := ev_go c155_79 rfl
theorem c155_80 : cd 155 80 = some (80, .aload_n 0, 1, 0, 0, 0) := rfl
theorem s155_80 {s0 : AV} {l0 : Option Nat} {h : AH} : evL 155 80 [.inr (.inl l0)] [s0] h = evL 155 81 [.inr (.inl l0)] [.inr (.inl l0), s0] h := ev_go c155_80 rfl
theorem c155_81 : cd 155 81 = some (81, .invokevirtual 155, 3, 153, 0, 927) := rfl
theorem s155_81 {l0 s1 : AV} {s0 : Nat} {M : Mem} {P : PMem} (hk : kd s0 = 8) : evL 155 81 [l0] [Rf s0, s1] (Hp M P) = cont (evM 153 [Rf s0] (Hp M P)) (fun r h => evL 155 84 [l0] (rl r [s1]) h) := e_callV (av' := []) (rest := [s1]) (c := 8) c155_81 rfl rfl rfl rfl rfl rfl rfl hk rfl
theorem c155_84 : cd 155 84 = some (84, .bipush 48, 2, 0, 0, 0) := rfl
theorem s155_84 {l0 s0 s1 : AV} {h : AH} : evL 155 84 [l0] [s0, s1] h = evL 155 86 [l0] [I 48, s0, s1] h := ev_go c155_84 rfl
theorem c155_86 : cd 155 86 = some (86, .isub, 1, 0, 0, 0) := rfl
theorem s155_86 {l0 s2 : AV} {s0 s1 : Int} {h : AH} : evL 155 86 [l0] [I s0, I s1, s2] h = evL 155 87 [l0] [I (sb s1 s0), s2] h := ev_go c155_86 rfl
theorem c155_87 : cd 155 87 = some (87, .putfield 168, 3, 8, 15, 740) := rfl
theorem s155_87 {l0 : AV} {s0 : Int} {s1 : Nat} {M : Mem} {P : PMem} (hk : kd s1 = 8) : evL 155 87 [l0] [I s0, Rf s1] (Hp M P) = evL 155 90 [l0] [] (Hp (wr M s1 15 s0) P) := e_putI c155_87 rfl hk
theorem c155_90 : cd 155 90 = some (90, .aload_n 0, 1, 0, 0, 0) := rfl
theorem s155_90 {l0 : Option Nat} {h : AH} : evL 155 90 [.inr (.inl l0)] [] h = evL 155 91 [.inr (.inl l0)] [.inr (.inl l0)] h := ev_go c155_90 rfl
theorem c155_91 : cd 155 91 = some (91, .getfield 165, 3, 8, 14, 739) := rfl
theorem s155_91 {l0 : AV} {s0 : Nat} {M : Mem} {P : PMem} (hk : kd s0 = 8) : evL 155 91 [l0] [Rf s0] (Hp M P) = evL 155 94 [l0] [I (M s0 14)] (Hp M P) := e_getI c155_91 rfl hk
theorem c155_94 : cd 155 94 = some (94, .bipush 108, 2, 0, 0, 0) := rfl
theorem s155_94 {l0 s0 : AV} {h : AH} : evL 155 94 [l0] [s0] h = evL 155 96 [l0] [I 108, s0] h := ev_go c155_94 rfl
theorem c155_96 : cd 155 96 = some (96, .if_icmp .ne 16, 3, 0, 0, 0) := rfl
theorem s155_96 {l0 : AV} {s0 s1 : Int} {h : AH} : evL 155 96 [l0] [I s0, I s1] h = if s1 = s0 then evL 155 99 [l0] [] h else evL 155 112 [l0] [] h := e_icmp_ne c155_96 rfl rfl
theorem c155_99 : cd 155 99 = some (99, .aload_n 0, 1, 0, 0, 0) := rfl
theorem s155_99 {l0 : Option Nat} {h : AH} : evL 155 99 [.inr (.inl l0)] [] h = evL 155 100 [.inr (.inl l0)] [.inr (.inl l0)] h := ev_go c155_99 rfl
theorem c155_100 : cd 155 100 = some (100, .aload_n 0, 1, 0, 0, 0) := rfl
theorem s155_100 {s0 : AV} {l0 : Option Nat} {h : AH} : evL 155 100 [.inr (.inl l0)] [s0] h = evL 155 101 [.inr (.inl l0)] [.inr (.inl l0), s0] h := ev_go c155_100 rfl
theorem c155_101 : cd 155 101 = some (101, .getfield 168, 3, 8, 15, 740) := rfl
theorem s155_101 {l0 s1 : AV} {s0 : Nat} {M : Mem} {P : PMem} (hk : kd s0 = 8) : evL 155 101 [l0] [Rf s0, s1] (Hp M P) = evL 155 104 [l0] [I (M s0 15), s1] (Hp M P) := e_getI c155_101 rfl hk
theorem c155_104 : cd 155 104 = some (104, .iconst 0, 1, 0, 0, 0) := rfl
theorem s155_104 {l0 s0 s1 : AV} {h : AH} : evL 155 104 [l0] [s0, s1] h = evL 155 105 [l0] [I 0, s0, s1] h := ev_go c155_104 rfl
theorem c155_105 : cd 155 105 = some (105, .iconst 5, 1, 0, 0, 0) := rfl
theorem s155_105 {l0 s0 s1 s2 : AV} {h : AH} : evL 155 105 [l0] [s0, s1, s2] h = evL 155 106 [l0] [I 5, s0, s1, s2] h := ev_go c155_105 rfl
theorem c155_106 : cd 155 106 = some (106, .invokestatic 50, 3, 110, 0, 784) := rfl
theorem s155_106 {l0 s3 : AV} {s0 s1 s2 : Int} {M : Mem} {P : PMem} : evL 155 106 [l0] [I s0, I s1, I s2, s3] (Hp M P) = cont (evM 110 [I s2, I s1, I s0] (Hp M P)) (fun r h => evL 155 109 [l0] (rl r [s3]) h) := e_callS (av := [I s2, I s1, I s0]) (rest := [s3]) c155_106 rfl rfl rfl rfl rfl rfl
theorem c155_109 : cd 155 109 = some (109, .invokevirtual 161, 3, 154, 0, 931) := rfl
theorem s155_109 {l0 : AV} {s0 : Int} {s1 : Nat} {M : Mem} {P : PMem} (hk : kd s1 = 8) : evL 155 109 [l0] [I s0, Rf s1] (Hp M P) = cont (evM 154 [Rf s1, I s0] (Hp M P)) (fun r h => evL 155 112 [l0] (rl r []) h) := e_callV (av' := [I s0]) (rest := []) (c := 8) c155_109 rfl rfl rfl rfl rfl rfl rfl hk rfl
theorem c155_112 : cd 155 112 = some (112, .return_, 1, 0, 0, 0) := rfl
theorem s155_112 {l0 : AV} {h : AH} : evL 155 112 [l0] [] h = some (none, h) := e_ret c155_112 rfl
/-! 156: TankDiversModel.isGame()Z -/
theorem en156 {l0 : AV} {h : AH} : evM 156 [l0] h = evL 156 0 [l0] [] h := rfl
theorem c156_0 : cd 156 0 = some (0, .aload_n 0, 1, 0, 0, 0) := rfl
theorem s156_0 {l0 : Option Nat} {h : AH} : evL 156 0 [.inr (.inl l0)] [] h = evL 156 1 [.inr (.inl l0)] [.inr (.inl l0)] h := ev_go c156_0 rfl
theorem c156_1 : cd 156 1 = some (1, .iconst 0, 1, 0, 0, 0) := rfl
theorem s156_1 {l0 s0 : AV} {h : AH} : evL 156 1 [l0] [s0] h = evL 156 2 [l0] [I 0, s0] h := ev_go c156_1 rfl
theorem c156_2 : cd 156 2 = some (2, .putfield 148, 3, 8, 11, 736) := rfl
theorem s156_2 {l0 : AV} {s0 : Int} {s1 : Nat} {M : Mem} {P : PMem} (hk : kd s1 = 8) : evL 156 2 [l0] [I s0, Rf s1] (Hp M P) = evL 156 5 [l0] [] (Hp (wr M s1 11 s0) P) := e_putI c156_2 rfl hk
theorem c156_5 : cd 156 5 = some (5, .aload_n 0, 1, 0, 0, 0) := rfl
theorem s156_5 {l0 : Option Nat} {h : AH} : evL 156 5 [.inr (.inl l0)] [] h = evL 156 6 [.inr (.inl l0)] [.inr (.inl l0)] h := ev_go c156_5 rfl
theorem c156_6 : cd 156 6 = some (6, .iconst 1, 1, 0, 0, 0) := rfl
theorem s156_6 {l0 s0 : AV} {h : AH} : evL 156 6 [l0] [s0] h = evL 156 7 [l0] [I 1, s0] h := ev_go c156_6 rfl
theorem c156_7 : cd 156 7 = some (7, .putfield 151, 3, 8, 12, 737) := rfl
theorem s156_7 {l0 : AV} {s0 : Int} {s1 : Nat} {M : Mem} {P : PMem} (hk : kd s1 = 8) (hz : s0 = 0 ∨ s0 = 1) : evL 156 7 [l0] [I s0, Rf s1] (Hp M P) = evL 156 10 [l0] [] (Hp (wr M s1 12 s0) P) := e_putZ c156_7 rfl hk hz
theorem c156_10 : cd 156 10 = some (10, .aload_n 0, 1, 0, 0, 0) := rfl
theorem s156_10 {l0 : Option Nat} {h : AH} : evL 156 10 [.inr (.inl l0)] [] h = evL 156 11 [.inr (.inl l0)] [.inr (.inl l0)] h := ev_go c156_10 rfl
theorem c156_11 : cd 156 11 = some (11, .invokevirtual 171, 3, 155, 0, 923) := rfl
theorem s156_11 {l0 : AV} {s0 : Nat} {M : Mem} {P : PMem} (hk : kd s0 = 8) : evL 156 11 [l0] [Rf s0] (Hp M P) = cont (evM 155 [Rf s0] (Hp M P)) (fun r h => evL 156 14 [l0] (rl r []) h) := e_callV (av' := []) (rest := []) (c := 8) c156_11 rfl rfl rfl rfl rfl rfl rfl hk rfl
theorem c156_14 : cd 156 14 = some (14, .aload_n 0, 1, 0, 0, 0) := rfl
theorem s156_14 {l0 : Option Nat} {h : AH} : evL 156 14 [.inr (.inl l0)] [] h = evL 156 15 [.inr (.inl l0)] [.inr (.inl l0)] h := ev_go c156_14 rfl
theorem c156_15 : cd 156 15 = some (15, .getfield 151, 3, 8, 12, 737) := rfl
theorem s156_15 {l0 : AV} {s0 : Nat} {M : Mem} {P : PMem} (hk : kd s0 = 8) : evL 156 15 [l0] [Rf s0] (Hp M P) = evL 156 18 [l0] [I (M s0 12)] (Hp M P) := e_getI c156_15 rfl hk
theorem c156_18 : cd 156 18 = some (18, .ifCond .eq 21, 3, 0, 0, 0) := rfl
theorem s156_18 {l0 : AV} {s0 : Int} {h : AH} : evL 156 18 [l0] [I s0] h = if s0 = 0 then evL 156 39 [l0] [] h else evL 156 21 [l0] [] h := e_if_eq c156_18 rfl rfl
theorem c156_21 : cd 156 21 = some (21, .aload_n 0, 1, 0, 0, 0) := rfl
theorem s156_21 {l0 : Option Nat} {h : AH} : evL 156 21 [.inr (.inl l0)] [] h = evL 156 22 [.inr (.inl l0)] [.inr (.inl l0)] h := ev_go c156_21 rfl
theorem c156_22 : cd 156 22 = some (22, .getfield 148, 3, 8, 11, 736) := rfl
theorem s156_22 {l0 : AV} {s0 : Nat} {M : Mem} {P : PMem} (hk : kd s0 = 8) : evL 156 22 [l0] [Rf s0] (Hp M P) = evL 156 25 [l0] [I (M s0 11)] (Hp M P) := e_getI c156_22 rfl hk
theorem c156_25 : cd 156 25 = some (25, .aload_n 0, 1, 0, 0, 0) := rfl
theorem s156_25 {s0 : AV} {l0 : Option Nat} {h : AH} : evL 156 25 [.inr (.inl l0)] [s0] h = evL 156 26 [.inr (.inl l0)] [.inr (.inl l0), s0] h := ev_go c156_25 rfl
theorem c156_26 : cd 156 26 = some (26, .getfield 145, 3, 8, 6, 731) := rfl
theorem s156_26 {l0 s1 : AV} {s0 : Nat} {M : Mem} {P : PMem} (hk : kd s0 = 8) : evL 156 26 [l0] [Rf s0, s1] (Hp M P) = evL 156 29 [l0] [I (M s0 6), s1] (Hp M P) := e_getI c156_26 rfl hk
theorem c156_29 : cd 156 29 = some (29, .if_icmp .ge 10, 3, 0, 0, 0) := rfl
theorem s156_29 {l0 : AV} {s0 s1 : Int} {h : AH} : evL 156 29 [l0] [I s0, I s1] h = if s0 ≤ s1 then evL 156 39 [l0] [] h else evL 156 32 [l0] [] h := e_icmp_ge c156_29 rfl rfl
theorem c156_32 : cd 156 32 = some (32, .aload_n 0, 1, 0, 0, 0) := rfl
theorem s156_32 {l0 : Option Nat} {h : AH} : evL 156 32 [.inr (.inl l0)] [] h = evL 156 33 [.inr (.inl l0)] [.inr (.inl l0)] h := ev_go c156_32 rfl
theorem c156_33 : cd 156 33 = some (33, .invokevirtual 171, 3, 155, 0, 923) := rfl
theorem s156_33 {l0 : AV} {s0 : Nat} {M : Mem} {P : PMem} (hk : kd s0 = 8) : evL 156 33 [l0] [Rf s0] (Hp M P) = cont (evM 155 [Rf s0] (Hp M P)) (fun r h => evL 156 36 [l0] (rl r []) h) := e_callV (av' := []) (rest := []) (c := 8) c156_33 rfl rfl rfl rfl rfl rfl rfl hk rfl
theorem c156_36 : cd 156 36 = some (36, .goto (-22), 3, 0, 0, 0) := rfl
theorem s156_36 {l0 : AV} {h : AH} : evL 156 36 [l0] [] h = evL 156 14 [l0] [] h := ev_go c156_36 rfl
theorem c156_39 : cd 156 39 = some (39, .aload_n 0, 1, 0, 0, 0) := rfl
theorem s156_39 {l0 : Option Nat} {h : AH} : evL 156 39 [.inr (.inl l0)] [] h = evL 156 40 [.inr (.inl l0)] [.inr (.inl l0)] h := ev_go c156_39 rfl
theorem c156_40 : cd 156 40 = some (40, .getfield 151, 3, 8, 12, 737) := rfl
theorem s156_40 {l0 : AV} {s0 : Nat} {M : Mem} {P : PMem} (hk : kd s0 = 8) : evL 156 40 [l0] [Rf s0] (Hp M P) = evL 156 43 [l0] [I (M s0 12)] (Hp M P) := e_getI c156_40 rfl hk
theorem c156_43 : cd 156 43 = some (43, .ireturn, 1, 0, 0, 0) := rfl
theorem s156_43 {l0 : AV} {s0 : Int} {h : AH} (hz : s0 = 0 ∨ s0 = 1) : evL 156 43 [l0] [I s0] h = some (some (I s0), h) := e_ret c156_43 (if_pos hz)
/-! 157: TankDiversModel.fault()I -/
theorem en157 {l0 : AV} {h : AH} : evM 157 [l0] h = evL 157 0 [l0] [] h := rfl
theorem c157_0 : cd 157 0 = some (0, .aload_n 0, 1, 0, 0, 0) := rfl
theorem s157_0 {l0 : Option Nat} {h : AH} : evL 157 0 [.inr (.inl l0)] [] h = evL 157 1 [.inr (.inl l0)] [.inr (.inl l0)] h := ev_go c157_0 rfl
theorem c157_1 : cd 157 1 = some (1, .invokevirtual 174, 3, 156, 0, 919) := rfl
theorem s157_1 {l0 : AV} {s0 : Nat} {M : Mem} {P : PMem} (hk : kd s0 = 8) : evL 157 1 [l0] [Rf s0] (Hp M P) = cont (evM 156 [Rf s0] (Hp M P)) (fun r h => evL 157 4 [l0] (rl r []) h) := e_callV (av' := []) (rest := []) (c := 8) c157_1 rfl rfl rfl rfl rfl rfl rfl hk rfl
theorem c157_4 : cd 157 4 = some (4, .ifCond .eq 8, 3, 0, 0, 0) := rfl
theorem s157_4 {l0 : AV} {s0 : Int} {h : AH} : evL 157 4 [l0] [I s0] h = if s0 = 0 then evL 157 12 [l0] [] h else evL 157 7 [l0] [] h := e_if_eq c157_4 rfl rfl
theorem c157_7 : cd 157 7 = some (7, .bipush (-4), 2, 0, 0, 0) := rfl
theorem s157_7 {l0 : AV} {h : AH} : evL 157 7 [l0] [] h = evL 157 9 [l0] [I (-4)] h := ev_go c157_7 rfl
theorem c157_9 : cd 157 9 = some (9, .goto 7, 3, 0, 0, 0) := rfl
theorem s157_9 {l0 s0 : AV} {h : AH} : evL 157 9 [l0] [s0] h = evL 157 16 [l0] [s0] h := ev_go c157_9 rfl
theorem c157_12 : cd 157 12 = some (12, .aload_n 0, 1, 0, 0, 0) := rfl
theorem s157_12 {l0 : Option Nat} {h : AH} : evL 157 12 [.inr (.inl l0)] [] h = evL 157 13 [.inr (.inl l0)] [.inr (.inl l0)] h := ev_go c157_12 rfl
theorem c157_13 : cd 157 13 = some (13, .getfield 148, 3, 8, 11, 736) := rfl
theorem s157_13 {l0 : AV} {s0 : Nat} {M : Mem} {P : PMem} (hk : kd s0 = 8) : evL 157 13 [l0] [Rf s0] (Hp M P) = evL 157 16 [l0] [I (M s0 11)] (Hp M P) := e_getI c157_13 rfl hk
theorem c157_16 : cd 157 16 = some (16, .ireturn, 1, 0, 0, 0) := rfl
theorem s157_16 {l0 : AV} {s0 : Int} {h : AH} : evL 157 16 [l0] [I s0] h = some (some (I s0), h) := e_ret c157_16 rfl
/-! 158: TankDiversModel.doesDeed()I -/
theorem en158 {l0 : AV} {h : AH} : evM 158 [l0] h = evL 158 0 [l0] [] h := rfl
theorem c158_0 : cd 158 0 = some (0, .aload_n 0, 1, 0, 0, 0) := rfl
theorem s158_0 {l0 : Option Nat} {h : AH} : evL 158 0 [.inr (.inl l0)] [] h = evL 158 1 [.inr (.inl l0)] [.inr (.inl l0)] h := ev_go c158_0 rfl
theorem c158_1 : cd 158 1 = some (1, .getfield 165, 3, 8, 14, 739) := rfl
theorem s158_1 {l0 : AV} {s0 : Nat} {M : Mem} {P : PMem} (hk : kd s0 = 8) : evL 158 1 [l0] [Rf s0] (Hp M P) = evL 158 4 [l0] [I (M s0 14)] (Hp M P) := e_getI c158_1 rfl hk
theorem c158_4 : cd 158 4 = some (4, .bipush 116, 2, 0, 0, 0) := rfl
theorem s158_4 {l0 s0 : AV} {h : AH} : evL 158 4 [l0] [s0] h = evL 158 6 [l0] [I 116, s0] h := ev_go c158_4 rfl
theorem c158_6 : cd 158 6 = some (6, .if_icmp .ne 10, 3, 0, 0, 0) := rfl
theorem s158_6 {l0 : AV} {s0 s1 : Int} {h : AH} : evL 158 6 [l0] [I s0, I s1] h = if s1 = s0 then evL 158 9 [l0] [] h else evL 158 16 [l0] [] h := e_icmp_ne c158_6 rfl rfl
theorem c158_9 : cd 158 9 = some (9, .aload_n 0, 1, 0, 0, 0) := rfl
theorem s158_9 {l0 : Option Nat} {h : AH} : evL 158 9 [.inr (.inl l0)] [] h = evL 158 10 [.inr (.inl l0)] [.inr (.inl l0)] h := ev_go c158_9 rfl
theorem c158_10 : cd 158 10 = some (10, .invokevirtual 136, 3, 143, 0, 834) := rfl
theorem s158_10 {l0 : AV} {s0 : Nat} {M : Mem} {P : PMem} (hk : kd s0 = 8) : evL 158 10 [l0] [Rf s0] (Hp M P) = cont (evM 143 [Rf s0] (Hp M P)) (fun r h => evL 158 13 [l0] (rl r []) h) := e_callV (av' := []) (rest := []) (c := 8) c158_10 rfl rfl rfl rfl rfl rfl rfl hk rfl
theorem c158_13 : cd 158 13 = some (13, .goto 27, 3, 0, 0, 0) := rfl
theorem s158_13 {l0 s0 : AV} {h : AH} : evL 158 13 [l0] [s0] h = evL 158 40 [l0] [s0] h := ev_go c158_13 rfl
theorem c158_16 : cd 158 16 = some (16, .aload_n 0, 1, 0, 0, 0) := rfl
theorem s158_16 {l0 : Option Nat} {h : AH} : evL 158 16 [.inr (.inl l0)] [] h = evL 158 17 [.inr (.inl l0)] [.inr (.inl l0)] h := ev_go c158_16 rfl
theorem c158_17 : cd 158 17 = some (17, .getfield 165, 3, 8, 14, 739) := rfl
theorem s158_17 {l0 : AV} {s0 : Nat} {M : Mem} {P : PMem} (hk : kd s0 = 8) : evL 158 17 [l0] [Rf s0] (Hp M P) = evL 158 20 [l0] [I (M s0 14)] (Hp M P) := e_getI c158_17 rfl hk
theorem c158_20 : cd 158 20 = some (20, .bipush 108, 2, 0, 0, 0) := rfl
theorem s158_20 {l0 s0 : AV} {h : AH} : evL 158 20 [l0] [s0] h = evL 158 22 [l0] [I 108, s0] h := ev_go c158_20 rfl
theorem c158_22 : cd 158 22 = some (22, .if_icmp .ne 14, 3, 0, 0, 0) := rfl
theorem s158_22 {l0 : AV} {s0 s1 : Int} {h : AH} : evL 158 22 [l0] [I s0, I s1] h = if s1 = s0 then evL 158 25 [l0] [] h else evL 158 36 [l0] [] h := e_icmp_ne c158_22 rfl rfl
theorem c158_25 : cd 158 25 = some (25, .aload_n 0, 1, 0, 0, 0) := rfl
theorem s158_25 {l0 : Option Nat} {h : AH} : evL 158 25 [.inr (.inl l0)] [] h = evL 158 26 [.inr (.inl l0)] [.inr (.inl l0)] h := ev_go c158_25 rfl
theorem c158_26 : cd 158 26 = some (26, .aload_n 0, 1, 0, 0, 0) := rfl
theorem s158_26 {s0 : AV} {l0 : Option Nat} {h : AH} : evL 158 26 [.inr (.inl l0)] [s0] h = evL 158 27 [.inr (.inl l0)] [.inr (.inl l0), s0] h := ev_go c158_26 rfl
theorem c158_27 : cd 158 27 = some (27, .getfield 168, 3, 8, 15, 740) := rfl
theorem s158_27 {l0 s1 : AV} {s0 : Nat} {M : Mem} {P : PMem} (hk : kd s0 = 8) : evL 158 27 [l0] [Rf s0, s1] (Hp M P) = evL 158 30 [l0] [I (M s0 15), s1] (Hp M P) := e_getI c158_27 rfl hk
theorem c158_30 : cd 158 30 = some (30, .invokevirtual 139, 3, 144, 0, 895) := rfl
theorem s158_30 {l0 : AV} {s0 : Int} {s1 : Nat} {M : Mem} {P : PMem} (hk : kd s1 = 8) : evL 158 30 [l0] [I s0, Rf s1] (Hp M P) = cont (evM 144 [Rf s1, I s0] (Hp M P)) (fun r h => evL 158 33 [l0] (rl r []) h) := e_callV (av' := [I s0]) (rest := []) (c := 8) c158_30 rfl rfl rfl rfl rfl rfl rfl hk rfl
theorem c158_33 : cd 158 33 = some (33, .goto 7, 3, 0, 0, 0) := rfl
theorem s158_33 {l0 s0 : AV} {h : AH} : evL 158 33 [l0] [s0] h = evL 158 40 [l0] [s0] h := ev_go c158_33 rfl
theorem c158_36 : cd 158 36 = some (36, .aload_n 0, 1, 0, 0, 0) := rfl
theorem s158_36 {l0 : Option Nat} {h : AH} : evL 158 36 [.inr (.inl l0)] [] h = evL 158 37 [.inr (.inl l0)] [.inr (.inl l0)] h := ev_go c158_36 rfl
theorem c158_37 : cd 158 37 = some (37, .invokevirtual 142, 3, 145, 0, 903) := rfl
theorem s158_37 {l0 : AV} {s0 : Nat} {M : Mem} {P : PMem} (hk : kd s0 = 8) : evL 158 37 [l0] [Rf s0] (Hp M P) = cont (evM 145 [Rf s0] (Hp M P)) (fun r h => evL 158 40 [l0] (rl r []) h) := e_callV (av' := []) (rest := []) (c := 8) c158_37 rfl rfl rfl rfl rfl rfl rfl hk rfl
theorem c158_40 : cd 158 40 = some (40, .ireturn, 1, 0, 0, 0) := rfl
theorem s158_40 {l0 : AV} {s0 : Int} {h : AH} : evL 158 40 [l0] [I s0] h = some (some (I s0), h) := e_ret c158_40 rfl
/-! 159: TankDiversModel.play()I -/
theorem en159 {l0 : AV} {h : AH} : evM 159 [l0] h = evL 159 0 [l0, Db 0, Db 0, Db 0] [] h := rfl
theorem c159_0 : cd 159 0 = some (0, .aload_n 0, 1, 0, 0, 0) := rfl
theorem s159_0 {l1 l2 l3 : AV} {l0 : Option Nat} {h : AH} : evL 159 0 [.inr (.inl l0), l1, l2, l3] [] h = evL 159 1 [.inr (.inl l0), l1, l2, l3] [.inr (.inl l0)] h := ev_go c159_0 rfl
theorem c159_1 : cd 159 1 = some (1, .invokevirtual 174, 3, 156, 0, 919) := rfl
theorem s159_1 {l0 l1 l2 l3 : AV} {s0 : Nat} {M : Mem} {P : PMem} (hk : kd s0 = 8) : evL 159 1 [l0, l1, l2, l3] [Rf s0] (Hp M P) = cont (evM 156 [Rf s0] (Hp M P)) (fun r h => evL 159 4 [l0, l1, l2, l3] (rl r []) h) := e_callV (av' := []) (rest := []) (c := 8) c159_1 rfl rfl rfl rfl rfl rfl rfl hk rfl
theorem c159_4 : cd 159 4 = some (4, .ifCond .ne 6, 3, 0, 0, 0) := rfl
theorem s159_4 {l0 l1 l2 l3 : AV} {s0 : Int} {h : AH} : evL 159 4 [l0, l1, l2, l3] [I s0] h = if s0 = 0 then evL 159 7 [l0, l1, l2, l3] [] h else evL 159 10 [l0, l1, l2, l3] [] h := e_if_ne c159_4 rfl rfl
theorem c159_7 : cd 159 7 = some (7, .bipush (-2), 2, 0, 0, 0) := rfl
theorem s159_7 {l0 l1 l2 l3 : AV} {h : AH} : evL 159 7 [l0, l1, l2, l3] [] h = evL 159 9 [l0, l1, l2, l3] [I (-2)] h := ev_go c159_7 rfl
theorem c159_9 : cd 159 9 = some (9, .ireturn, 1, 0, 0, 0) := rfl
theorem s159_9 {l0 l1 l2 l3 : AV} {s0 : Int} {h : AH} : evL 159 9 [l0, l1, l2, l3] [I s0] h = some (some (I s0), h) := e_ret c159_9 rfl
theorem c159_10 : cd 159 10 = some (10, .aload_n 0, 1, 0, 0, 0) := rfl
theorem s159_10 {l1 l2 l3 : AV} {l0 : Option Nat} {h : AH} : evL 159 10 [.inr (.inl l0), l1, l2, l3] [] h = evL 159 11 [.inr (.inl l0), l1, l2, l3] [.inr (.inl l0)] h := ev_go c159_10 rfl
theorem c159_11 : cd 159 11 = some (11, .invokevirtual 130, 3, 112, 0, 787) := rfl
theorem s159_11 {l0 l1 l2 l3 : AV} {s0 : Nat} {M : Mem} {P : PMem} (hk : kd s0 = 8) : evL 159 11 [l0, l1, l2, l3] [Rf s0] (Hp M P) = cont (evM 112 [Rf s0] (Hp M P)) (fun r h => evL 159 14 [l0, l1, l2, l3] (rl r []) h) := e_callV (av' := []) (rest := []) (c := 8) c159_11 rfl rfl rfl rfl rfl rfl rfl hk rfl
theorem c159_14 : cd 159 14 = some (14, .aload_n 0, 1, 0, 0, 0) := rfl
theorem s159_14 {l1 l2 l3 : AV} {l0 : Option Nat} {h : AH} : evL 159 14 [.inr (.inl l0), l1, l2, l3] [] h = evL 159 15 [.inr (.inl l0), l1, l2, l3] [.inr (.inl l0)] h := ev_go c159_14 rfl
theorem c159_15 : cd 159 15 = some (15, .iconst 0, 1, 0, 0, 0) := rfl
theorem s159_15 {l0 l1 l2 l3 s0 : AV} {h : AH} : evL 159 15 [l0, l1, l2, l3] [s0] h = evL 159 16 [l0, l1, l2, l3] [I 0, s0] h := ev_go c159_15 rfl
theorem c159_16 : cd 159 16 = some (16, .putfield 177, 3, 8, 7, 732) := rfl
theorem s159_16 {l0 l1 l2 l3 : AV} {s0 : Int} {s1 : Nat} {M : Mem} {P : PMem} (hk : kd s1 = 8) : evL 159 16 [l0, l1, l2, l3] [I s0, Rf s1] (Hp M P) = evL 159 19 [l0, l1, l2, l3] [] (Hp (wr M s1 7 s0) P) := e_putI c159_16 rfl hk
theorem c159_19 : cd 159 19 = some (19, .aload_n 0, 1, 0, 0, 0) := rfl
theorem s159_19 {l1 l2 l3 : AV} {l0 : Option Nat} {h : AH} : evL 159 19 [.inr (.inl l0), l1, l2, l3] [] h = evL 159 20 [.inr (.inl l0), l1, l2, l3] [.inr (.inl l0)] h := ev_go c159_19 rfl
theorem c159_20 : cd 159 20 = some (20, .iconst 0, 1, 0, 0, 0) := rfl
theorem s159_20 {l0 l1 l2 l3 s0 : AV} {h : AH} : evL 159 20 [l0, l1, l2, l3] [s0] h = evL 159 21 [l0, l1, l2, l3] [I 0, s0] h := ev_go c159_20 rfl
theorem c159_21 : cd 159 21 = some (21, .putfield 148, 3, 8, 11, 736) := rfl
theorem s159_21 {l0 l1 l2 l3 : AV} {s0 : Int} {s1 : Nat} {M : Mem} {P : PMem} (hk : kd s1 = 8) : evL 159 21 [l0, l1, l2, l3] [I s0, Rf s1] (Hp M P) = evL 159 24 [l0, l1, l2, l3] [] (Hp (wr M s1 11 s0) P) := e_putI c159_21 rfl hk
theorem c159_24 : cd 159 24 = some (24, .iconst 0, 1, 0, 0, 0) := rfl
theorem s159_24 {l0 l1 l2 l3 : AV} {h : AH} : evL 159 24 [l0, l1, l2, l3] [] h = evL 159 25 [l0, l1, l2, l3] [I 0] h := ev_go c159_24 rfl
theorem c159_25 : cd 159 25 = some (25, .istore_n 1, 1, 0, 0, 0) := rfl
theorem s159_25 {l0 l1 l2 l3 : AV} {s0 : Int} {h : AH} : evL 159 25 [l0, l1, l2, l3] [I s0] h = evL 159 26 [l0, I s0, l2, l3] [] h := ev_go c159_25 rfl
theorem c159_26 : cd 159 26 = some (26, .aload_n 0, 1, 0, 0, 0) := rfl
theorem s159_26 {l1 l2 l3 : AV} {l0 : Option Nat} {h : AH} : evL 159 26 [.inr (.inl l0), l1, l2, l3] [] h = evL 159 27 [.inr (.inl l0), l1, l2, l3] [.inr (.inl l0)] h := ev_go c159_26 rfl
theorem c159_27 : cd 159 27 = some (27, .getfield 177, 3, 8, 7, 732) := rfl
theorem s159_27 {l0 l1 l2 l3 : AV} {s0 : Nat} {M : Mem} {P : PMem} (hk : kd s0 = 8) : evL 159 27 [l0, l1, l2, l3] [Rf s0] (Hp M P) = evL 159 30 [l0, l1, l2, l3] [I (M s0 7)] (Hp M P) := e_getI c159_27 rfl hk
theorem c159_30 : cd 159 30 = some (30, .ifCond .ne 128, 3, 0, 0, 0) := rfl
theorem s159_30 {l0 l1 l2 l3 : AV} {s0 : Int} {h : AH} : evL 159 30 [l0, l1, l2, l3] [I s0] h = if s0 = 0 then evL 159 33 [l0, l1, l2, l3] [] h else evL 159 158 [l0, l1, l2, l3] [] h := e_if_ne c159_30 rfl rfl
theorem c159_33 : cd 159 33 = some (33, .aload_n 0, 1, 0, 0, 0) := rfl
theorem s159_33 {l1 l2 l3 : AV} {l0 : Option Nat} {h : AH} : evL 159 33 [.inr (.inl l0), l1, l2, l3] [] h = evL 159 34 [.inr (.inl l0), l1, l2, l3] [.inr (.inl l0)] h := ev_go c159_33 rfl
theorem c159_34 : cd 159 34 = some (34, .getfield 148, 3, 8, 11, 736) := rfl
theorem s159_34 {l0 l1 l2 l3 : AV} {s0 : Nat} {M : Mem} {P : PMem} (hk : kd s0 = 8) : evL 159 34 [l0, l1, l2, l3] [Rf s0] (Hp M P) = evL 159 37 [l0, l1, l2, l3] [I (M s0 11)] (Hp M P) := e_getI c159_34 rfl hk
theorem c159_37 : cd 159 37 = some (37, .aload_n 0, 1, 0, 0, 0) := rfl
theorem s159_37 {l1 l2 l3 s0 : AV} {l0 : Option Nat} {h : AH} : evL 159 37 [.inr (.inl l0), l1, l2, l3] [s0] h = evL 159 38 [.inr (.inl l0), l1, l2, l3] [.inr (.inl l0), s0] h := ev_go c159_37 rfl
theorem c159_38 : cd 159 38 = some (38, .getfield 145, 3, 8, 6, 731) := rfl
theorem s159_38 {l0 l1 l2 l3 s1 : AV} {s0 : Nat} {M : Mem} {P : PMem} (hk : kd s0 = 8) : evL 159 38 [l0, l1, l2, l3] [Rf s0, s1] (Hp M P) = evL 159 41 [l0, l1, l2, l3] [I (M s0 6), s1] (Hp M P) := e_getI c159_38 rfl hk
theorem c159_41 : cd 159 41 = some (41, .if_icmp .ge 117, 3, 0, 0, 0) := rfl
theorem s159_41 {l0 l1 l2 l3 : AV} {s0 s1 : Int} {h : AH} : evL 159 41 [l0, l1, l2, l3] [I s0, I s1] h = if s0 ≤ s1 then evL 159 158 [l0, l1, l2, l3] [] h else evL 159 44 [l0, l1, l2, l3] [] h := e_icmp_ge c159_41 rfl rfl
theorem c159_44 : cd 159 44 = some (44, .aload_n 0, 1, 0, 0, 0) := rfl
theorem s159_44 {l1 l2 l3 : AV} {l0 : Option Nat} {h : AH} : evL 159 44 [.inr (.inl l0), l1, l2, l3] [] h = evL 159 45 [.inr (.inl l0), l1, l2, l3] [.inr (.inl l0)] h := ev_go c159_44 rfl
theorem c159_45 : cd 159 45 = some (45, .aload_n 0, 1, 0, 0, 0) := rfl
theorem s159_45 {l1 l2 l3 s0 : AV} {l0 : Option Nat} {h : AH} : evL 159 45 [.inr (.inl l0), l1, l2, l3] [s0] h = evL 159 46 [.inr (.inl l0), l1, l2, l3] [.inr (.inl l0), s0] h := ev_go c159_45 rfl
theorem c159_46 : cd 159 46 = some (46, .getfield 148, 3, 8, 11, 736) := rfl
theorem s159_46 {l0 l1 l2 l3 s1 : AV} {s0 : Nat} {M : Mem} {P : PMem} (hk : kd s0 = 8) : evL 159 46 [l0, l1, l2, l3] [Rf s0, s1] (Hp M P) = evL 159 49 [l0, l1, l2, l3] [I (M s0 11), s1] (Hp M P) := e_getI c159_46 rfl hk
theorem c159_49 : cd 159 49 = some (49, .putfield 180, 3, 8, 8, 733) := rfl
theorem s159_49 {l0 l1 l2 l3 : AV} {s0 : Int} {s1 : Nat} {M : Mem} {P : PMem} (hk : kd s1 = 8) : evL 159 49 [l0, l1, l2, l3] [I s0, Rf s1] (Hp M P) = evL 159 52 [l0, l1, l2, l3] [] (Hp (wr M s1 8 s0) P) := e_putI c159_49 rfl hk
theorem c159_52 : cd 159 52 = some (52, .aload_n 0, 1, 0, 0, 0) := rfl
theorem s159_52 {l1 l2 l3 : AV} {l0 : Option Nat} {h : AH} : evL 159 52 [.inr (.inl l0), l1, l2, l3] [] h = evL 159 53 [.inr (.inl l0), l1, l2, l3] [.inr (.inl l0)] h := ev_go c159_52 rfl
theorem c159_53 : cd 159 53 = some (53, .invokevirtual 171, 3, 155, 0, 923) := rfl
theorem s159_53 {l0 l1 l2 l3 : AV} {s0 : Nat} {M : Mem} {P : PMem} (hk : kd s0 = 8) : evL 159 53 [l0, l1, l2, l3] [Rf s0] (Hp M P) = cont (evM 155 [Rf s0] (Hp M P)) (fun r h => evL 159 56 [l0, l1, l2, l3] (rl r []) h) := e_callV (av' := []) (rest := []) (c := 8) c159_53 rfl rfl rfl rfl rfl rfl rfl hk rfl
theorem c159_56 : cd 159 56 = some (56, .aload_n 0, 1, 0, 0, 0) := rfl
theorem s159_56 {l1 l2 l3 : AV} {l0 : Option Nat} {h : AH} : evL 159 56 [.inr (.inl l0), l1, l2, l3] [] h = evL 159 57 [.inr (.inl l0), l1, l2, l3] [.inr (.inl l0)] h := ev_go c159_56 rfl
theorem c159_57 : cd 159 57 = some (57, .aload_n 0, 1, 0, 0, 0) := rfl
theorem s159_57 {l1 l2 l3 s0 : AV} {l0 : Option Nat} {h : AH} : evL 159 57 [.inr (.inl l0), l1, l2, l3] [s0] h = evL 159 58 [.inr (.inl l0), l1, l2, l3] [.inr (.inl l0), s0] h := ev_go c159_57 rfl
theorem c159_58 : cd 159 58 = some (58, .getfield 158, 3, 8, 13, 738) := rfl
theorem s159_58 {l0 l1 l2 l3 s1 : AV} {s0 : Nat} {M : Mem} {P : PMem} (hk : kd s0 = 8) : evL 159 58 [l0, l1, l2, l3] [Rf s0, s1] (Hp M P) = evL 159 61 [l0, l1, l2, l3] [I (M s0 13), s1] (Hp M P) := e_getI c159_58 rfl hk
theorem c159_61 : cd 159 61 = some (61, .bipush 117, 2, 0, 0, 0) := rfl
theorem s159_61 {l0 l1 l2 l3 s0 s1 : AV} {h : AH} : evL 159 61 [l0, l1, l2, l3] [s0, s1] h = evL 159 63 [l0, l1, l2, l3] [I 117, s0, s1] h := ev_go c159_61 rfl
theorem c159_63 : cd 159 63 = some (63, .if_icmp .ne 7, 3, 0, 0, 0) := rfl
theorem s159_63 {l0 l1 l2 l3 s2 : AV} {s0 s1 : Int} {h : AH} : evL 159 63 [l0, l1, l2, l3] [I s0, I s1, s2] h = if s1 = s0 then evL 159 66 [l0, l1, l2, l3] [s2] h else evL 159 70 [l0, l1, l2, l3] [s2] h := e_icmp_ne c159_63 rfl rfl
theorem c159_66 : cd 159 66 = some (66, .iconst 1, 1, 0, 0, 0) := rfl
theorem s159_66 {l0 l1 l2 l3 s0 : AV} {h : AH} : evL 159 66 [l0, l1, l2, l3] [s0] h = evL 159 67 [l0, l1, l2, l3] [I 1, s0] h := ev_go c159_66 rfl
theorem c159_67 : cd 159 67 = some (67, .goto 4, 3, 0, 0, 0) := rfl
theorem s159_67 {l0 l1 l2 l3 s0 s1 : AV} {h : AH} : evL 159 67 [l0, l1, l2, l3] [s0, s1] h = evL 159 71 [l0, l1, l2, l3] [s0, s1] h := ev_go c159_67 rfl
theorem c159_70 : cd 159 70 = some (70, .iconst 0, 1, 0, 0, 0) := rfl
theorem s159_70 {l0 l1 l2 l3 s0 : AV} {h : AH} : evL 159 70 [l0, l1, l2, l3] [s0] h = evL 159 71 [l0, l1, l2, l3] [I 0, s0] h := ev_go c159_70 rfl
theorem c159_71 : cd 159 71 = some (71, .invokevirtual 133, 3, 134, 0, 798) := rfl
theorem s159_71 {l0 l1 l2 l3 : AV} {s0 : Int} {s1 : Nat} {M : Mem} {P : PMem} (hk : kd s1 = 8) : evL 159 71 [l0, l1, l2, l3] [I s0, Rf s1] (Hp M P) = cont (evM 134 [Rf s1, I s0] (Hp M P)) (fun r h => evL 159 74 [l0, l1, l2, l3] (rl r []) h) := e_callV (av' := [I s0]) (rest := []) (c := 8) c159_71 rfl rfl rfl rfl rfl rfl rfl hk rfl
theorem c159_74 : cd 159 74 = some (74, .istore_n 2, 1, 0, 0, 0) := rfl
theorem s159_74 {l0 l1 l2 l3 : AV} {s0 : Int} {h : AH} : evL 159 74 [l0, l1, l2, l3] [I s0] h = evL 159 75 [l0, l1, I s0, l3] [] h := ev_go c159_74 rfl
theorem c159_75 : cd 159 75 = some (75, .aload_n 0, 1, 0, 0, 0) := rfl
theorem s159_75 {l1 l2 l3 : AV} {l0 : Option Nat} {h : AH} : evL 159 75 [.inr (.inl l0), l1, l2, l3] [] h = evL 159 76 [.inr (.inl l0), l1, l2, l3] [.inr (.inl l0)] h := ev_go c159_75 rfl
theorem c159_76 : cd 159 76 = some (76, .iload_n 2, 1, 0, 0, 0) := rfl
theorem s159_76 {l0 l1 l3 s0 : AV} {l2 : Int} {h : AH} : evL 159 76 [l0, l1, I l2, l3] [s0] h = evL 159 77 [l0, l1, I l2, l3] [I l2, s0] h := ev_go c159_76 rfl
theorem c159_77 : cd 159 77 = some (77, .bipush 10, 2, 0, 0, 0) := rfl
theorem s159_77 {l0 l1 l2 l3 s0 s1 : AV} {h : AH} : evL 159 77 [l0, l1, l2, l3] [s0, s1] h = evL 159 79 [l0, l1, l2, l3] [I 10, s0, s1] h := ev_go c159_77 rfl
theorem c159_79 : cd 159 79 = some (79, .if_icmp .ge 7, 3, 0, 0, 0) := rfl
theorem s159_79 {l0 l1 l2 l3 s2 : AV} {s0 s1 : Int} {h : AH} : evL 159 79 [l0, l1, l2, l3] [I s0, I s1, s2] h = if s0 ≤ s1 then evL 159 86 [l0, l1, l2, l3] [s2] h else evL 159 82 [l0, l1, l2, l3] [s2] h := e_icmp_ge c159_79 rfl rfl
theorem c159_82 : cd 159 82 = some (82, .iload_n 2, 1, 0, 0, 0) := rfl
theorem s159_82 {l0 l1 l3 s0 : AV} {l2 : Int} {h : AH} : evL 159 82 [l0, l1, I l2, l3] [s0] h = evL 159 83 [l0, l1, I l2, l3] [I l2, s0] h := ev_go c159_82 rfl
theorem c159_83 : cd 159 83 = some (83, .goto 4, 3, 0, 0, 0) := rfl
theorem s159_83 {l0 l1 l2 l3 s0 s1 : AV} {h : AH} : evL 159 83 [l0, l1, l2, l3] [s0, s1] h = evL 159 87 [l0, l1, l2, l3] [s0, s1] h := ev_go c159_83 rfl
theorem c159_86 : cd 159 86 = some (86, .iconst 0, 1, 0, 0, 0) := rfl
theorem s159_86 {l0 l1 l2 l3 s0 : AV} {h : AH} : evL 159 86 [l0, l1, l2, l3] [s0] h = evL 159 87 [l0, l1, l2, l3] [I 0, s0] h := ev_go c159_86 rfl
theorem c159_87 : cd 159 87 = some (87, .putfield 177, 3, 8, 7, 732) := rfl
theorem s159_87 {l0 l1 l2 l3 : AV} {s0 : Int} {s1 : Nat} {M : Mem} {P : PMem} (hk : kd s1 = 8) : evL 159 87 [l0, l1, l2, l3] [I s0, Rf s1] (Hp M P) = evL 159 90 [l0, l1, l2, l3] [] (Hp (wr M s1 7 s0) P) := e_putI c159_87 rfl hk
theorem c159_90 : cd 159 90 = some (90, .iload_n 1, 1, 0, 0, 0) := rfl
theorem s159_90 {l0 l2 l3 : AV} {l1 : Int} {h : AH} : evL 159 90 [l0, I l1, l2, l3] [] h = evL 159 91 [l0, I l1, l2, l3] [I l1] h := ev_go c159_90 rfl
theorem c159_91 : cd 159 91 = some (91, .iload_n 2, 1, 0, 0, 0) := rfl
theorem s159_91 {l0 l1 l3 s0 : AV} {l2 : Int} {h : AH} : evL 159 91 [l0, l1, I l2, l3] [s0] h = evL 159 92 [l0, l1, I l2, l3] [I l2, s0] h := ev_go c159_91 rfl
theorem c159_92 : cd 159 92 = some (92, .bipush 10, 2, 0, 0, 0) := rfl
theorem s159_92 {l0 l1 l2 l3 s0 s1 : AV} {h : AH} : evL 159 92 [l0, l1, l2, l3] [s0, s1] h = evL 159 94 [l0, l1, l2, l3] [I 10, s0, s1] h := ev_go c159_92 rfl
theorem c159_94 : cd 159 94 = some (94, .if_icmp .ge 7, 3, 0, 0, 0) := rfl
theorem s159_94 {l0 l1 l2 l3 s2 : AV} {s0 s1 : Int} {h : AH} : evL 159 94 [l0, l1, l2, l3] [I s0, I s1, s2] h = if s0 ≤ s1 then evL 159 101 [l0, l1, l2, l3] [s2] h else evL 159 97 [l0, l1, l2, l3] [s2] h := e_icmp_ge c159_94 rfl rfl
theorem c159_97 : cd 159 97 = some (97, .iconst 0, 1, 0, 0, 0) := rfl
theorem s159_97 {l0 l1 l2 l3 s0 : AV} {h : AH} : evL 159 97 [l0, l1, l2, l3] [s0] h = evL 159 98 [l0, l1, l2, l3] [I 0, s0] h := ev_go c159_97 rfl
theorem c159_98 : cd 159 98 = some (98, .goto 4, 3, 0, 0, 0) := rfl
theorem s159_98 {l0 l1 l2 l3 s0 s1 : AV} {h : AH} : evL 159 98 [l0, l1, l2, l3] [s0, s1] h = evL 159 102 [l0, l1, l2, l3] [s0, s1] h := ev_go c159_98 rfl
theorem c159_101 : cd 159 101 = some (101, .iconst 1, 1, 0, 0, 0) := rfl
theorem s159_101 {l0 l1 l2 l3 s0 : AV} {h : AH} : evL 159 101 [l0, l1, l2, l3] [s0] h = evL 159 102 [l0, l1, l2, l3] [I 1, s0] h := ev_go c159_101 rfl
theorem c159_102 : cd 159 102 = some (102, .iadd, 1, 0, 0, 0) := rfl
theorem s159_102 {l0 l1 l2 l3 : AV} {s0 s1 : Int} {h : AH} : evL 159 102 [l0, l1, l2, l3] [I s0, I s1] h = evL 159 103 [l0, l1, l2, l3] [I (ad s1 s0)] h := ev_go c159_102 rfl
theorem c159_103 : cd 159 103 = some (103, .istore_n 1, 1, 0, 0, 0) := rfl
theorem s159_103 {l0 l1 l2 l3 : AV} {s0 : Int} {h : AH} : evL 159 103 [l0, l1, l2, l3] [I s0] h = evL 159 104 [l0, I s0, l2, l3] [] h := ev_go c159_103 rfl
theorem c159_104 : cd 159 104 = some (104, .aload_n 0, 1, 0, 0, 0) := rfl
theorem s159_104 {l1 l2 l3 : AV} {l0 : Option Nat} {h : AH} : evL 159 104 [.inr (.inl l0), l1, l2, l3] [] h = evL 159 105 [.inr (.inl l0), l1, l2, l3] [.inr (.inl l0)] h := ev_go c159_104 rfl
theorem c159_105 : cd 159 105 = some (105, .getfield 177, 3, 8, 7, 732) := rfl
theorem s159_105 {l0 l1 l2 l3 : AV} {s0 : Nat} {M : Mem} {P : PMem} (hk : kd s0 = 8) : evL 159 105 [l0, l1, l2, l3] [Rf s0] (Hp M P) = evL 159 108 [l0, l1, l2, l3] [I (M s0 7)] (Hp M P) := e_getI c159_105 rfl hk
theorem c159_108 : cd 159 108 = some (108, .ifCond .ne 47, 3, 0, 0, 0) := rfl
theorem s159_108 {l0 l1 l2 l3 : AV} {s0 : Int} {h : AH} : evL 159 108 [l0, l1, l2, l3] [I s0] h = if s0 = 0 then evL 159 111 [l0, l1, l2, l3] [] h else evL 159 155 [l0, l1, l2, l3] [] h := e_if_ne c159_108 rfl rfl
theorem c159_111 : cd 159 111 = some (111, .aload_n 0, 1, 0, 0, 0) := rfl
theorem s159_111 {l1 l2 l3 : AV} {l0 : Option Nat} {h : AH} : evL 159 111 [.inr (.inl l0), l1, l2, l3] [] h = evL 159 112 [.inr (.inl l0), l1, l2, l3] [.inr (.inl l0)] h := ev_go c159_111 rfl
theorem c159_112 : cd 159 112 = some (112, .dup, 1, 0, 0, 0) := rfl
theorem s159_112 {l0 l1 l2 l3 : AV} {s0 : Option Nat} {h : AH} : evL 159 112 [l0, l1, l2, l3] [.inr (.inl s0)] h = evL 159 113 [l0, l1, l2, l3] [.inr (.inl s0), .inr (.inl s0)] h := ev_go c159_112 rfl
theorem c159_113 : cd 159 113 = some (113, .getfield 180, 3, 8, 8, 733) := rfl
theorem s159_113 {l0 l1 l2 l3 s1 : AV} {s0 : Nat} {M : Mem} {P : PMem} (hk : kd s0 = 8) : evL 159 113 [l0, l1, l2, l3] [Rf s0, s1] (Hp M P) = evL 159 116 [l0, l1, l2, l3] [I (M s0 8), s1] (Hp M P) := e_getI c159_113 rfl hk
theorem c159_116 : cd 159 116 = some (116, .iconst 1, 1, 0, 0, 0) := rfl
theorem s159_116 {l0 l1 l2 l3 s0 s1 : AV} {h : AH} : evL 159 116 [l0, l1, l2, l3] [s0, s1] h = evL 159 117 [l0, l1, l2, l3] [I 1, s0, s1] h := ev_go c159_116 rfl
theorem c159_117 : cd 159 117 = some (117, .iadd, 1, 0, 0, 0) := rfl
theorem s159_117 {l0 l1 l2 l3 s2 : AV} {s0 s1 : Int} {h : AH} : evL 159 117 [l0, l1, l2, l3] [I s0, I s1, s2] h = evL 159 118 [l0, l1, l2, l3] [I (ad s1 s0), s2] h := ev_go c159_117 rfl
theorem c159_118 : cd 159 118 = some (118, .putfield 180, 3, 8, 8, 733) := rfl
theorem s159_118 {l0 l1 l2 l3 : AV} {s0 : Int} {s1 : Nat} {M : Mem} {P : PMem} (hk : kd s1 = 8) : evL 159 118 [l0, l1, l2, l3] [I s0, Rf s1] (Hp M P) = evL 159 121 [l0, l1, l2, l3] [] (Hp (wr M s1 8 s0) P) := e_putI c159_118 rfl hk
theorem c159_121 : cd 159 121 = some (121, .aload_n 0, 1, 0, 0, 0) := rfl
theorem s159_121 {l1 l2 l3 : AV} {l0 : Option Nat} {h : AH} : evL 159 121 [.inr (.inl l0), l1, l2, l3] [] h = evL 159 122 [.inr (.inl l0), l1, l2, l3] [.inr (.inl l0)] h := ev_go c159_121 rfl
theorem c159_122 : cd 159 122 = some (122, .invokevirtual 183, 3, 158, 0, 939) := rfl
theorem s159_122 {l0 l1 l2 l3 : AV} {s0 : Nat} {M : Mem} {P : PMem} (hk : kd s0 = 8) : evL 159 122 [l0, l1, l2, l3] [Rf s0] (Hp M P) = cont (evM 158 [Rf s0] (Hp M P)) (fun r h => evL 159 125 [l0, l1, l2, l3] (rl r []) h) := e_callV (av' := []) (rest := []) (c := 8) c159_122 rfl rfl rfl rfl rfl rfl rfl hk rfl
theorem c159_125 : cd 159 125 = some (125, .istore_n 3, 1, 0, 0, 0) := rfl
theorem s159_125 {l0 l1 l2 l3 : AV} {s0 : Int} {h : AH} : evL 159 125 [l0, l1, l2, l3] [I s0] h = evL 159 126 [l0, l1, l2, I s0] [] h := ev_go c159_125 rfl
theorem c159_126 : cd 159 126 = some (126, .aload_n 0, 1, 0, 0, 0) := rfl
theorem s159_126 {l1 l2 l3 : AV} {l0 : Option Nat} {h : AH} : evL 159 126 [.inr (.inl l0), l1, l2, l3] [] h = evL 159 127 [.inr (.inl l0), l1, l2, l3] [.inr (.inl l0)] h := ev_go c159_126 rfl
theorem c159_127 : cd 159 127 = some (127, .iload_n 3, 1, 0, 0, 0) := rfl
theorem s159_127 {l0 l1 l2 s0 : AV} {l3 : Int} {h : AH} : evL 159 127 [l0, l1, l2, I l3] [s0] h = evL 159 128 [l0, l1, l2, I l3] [I l3, s0] h := ev_go c159_127 rfl
theorem c159_128 : cd 159 128 = some (128, .bipush 10, 2, 0, 0, 0) := rfl
theorem s159_128 {l0 l1 l2 l3 s0 s1 : AV} {h : AH} : evL 159 128 [l0, l1, l2, l3] [s0, s1] h = evL 159 130 [l0, l1, l2, l3] [I 10, s0, s1] h := ev_go c159_128 rfl
theorem c159_130 : cd 159 130 = some (130, .if_icmp .ge 7, 3, 0, 0, 0) := rfl
theorem s159_130 {l0 l1 l2 l3 s2 : AV} {s0 s1 : Int} {h : AH} : evL 159 130 [l0, l1, l2, l3] [I s0, I s1, s2] h = if s0 ≤ s1 then evL 159 137 [l0, l1, l2, l3] [s2] h else evL 159 133 [l0, l1, l2, l3] [s2] h := e_icmp_ge c159_130 rfl rfl
theorem c159_133 : cd 159 133 = some (133, .iload_n 3, 1, 0, 0, 0) := rfl
theorem s159_133 {l0 l1 l2 s0 : AV} {l3 : Int} {h : AH} : evL 159 133 [l0, l1, l2, I l3] [s0] h = evL 159 134 [l0, l1, l2, I l3] [I l3, s0] h := ev_go c159_133 rfl
theorem c159_134 : cd 159 134 = some (134, .goto 4, 3, 0, 0, 0) := rfl
theorem s159_134 {l0 l1 l2 l3 s0 s1 : AV} {h : AH} : evL 159 134 [l0, l1, l2, l3] [s0, s1] h = evL 159 138 [l0, l1, l2, l3] [s0, s1] h := ev_go c159_134 rfl
theorem c159_137 : cd 159 137 = some (137, .iconst 0, 1, 0, 0, 0) := rfl
theorem s159_137 {l0 l1 l2 l3 s0 : AV} {h : AH} : evL 159 137 [l0, l1, l2, l3] [s0] h = evL 159 138 [l0, l1, l2, l3] [I 0, s0] h := ev_go c159_137 rfl
theorem c159_138 : cd 159 138 = some (138, .putfield 177, 3, 8, 7, 732) := rfl
theorem s159_138 {l0 l1 l2 l3 : AV} {s0 : Int} {s1 : Nat} {M : Mem} {P : PMem} (hk : kd s1 = 8) : evL 159 138 [l0, l1, l2, l3] [I s0, Rf s1] (Hp M P) = evL 159 141 [l0, l1, l2, l3] [] (Hp (wr M s1 7 s0) P) := e_putI c159_138 rfl hk
theorem c159_141 : cd 159 141 = some (141, .iload_n 1, 1, 0, 0, 0) := rfl
theorem s159_141 {l0 l2 l3 : AV} {l1 : Int} {h : AH} : evL 159 141 [l0, I l1, l2, l3] [] h = evL 159 142 [l0, I l1, l2, l3] [I l1] h := ev_go c159_141 rfl
theorem c159_142 : cd 159 142 = some (142, .iload_n 3, 1, 0, 0, 0) := rfl
theorem s159_142 {l0 l1 l2 s0 : AV} {l3 : Int} {h : AH} : evL 159 142 [l0, l1, l2, I l3] [s0] h = evL 159 143 [l0, l1, l2, I l3] [I l3, s0] h := ev_go c159_142 rfl
theorem c159_143 : cd 159 143 = some (143, .bipush 10, 2, 0, 0, 0) := rfl
theorem s159_143 {l0 l1 l2 l3 s0 s1 : AV} {h : AH} : evL 159 143 [l0, l1, l2, l3] [s0, s1] h = evL 159 145 [l0, l1, l2, l3] [I 10, s0, s1] h := ev_go c159_143 rfl
theorem c159_145 : cd 159 145 = some (145, .if_icmp .ge 7, 3, 0, 0, 0) := rfl
theorem s159_145 {l0 l1 l2 l3 s2 : AV} {s0 s1 : Int} {h : AH} : evL 159 145 [l0, l1, l2, l3] [I s0, I s1, s2] h = if s0 ≤ s1 then evL 159 152 [l0, l1, l2, l3] [s2] h else evL 159 148 [l0, l1, l2, l3] [s2] h := e_icmp_ge c159_145 rfl rfl
theorem c159_148 : cd 159 148 = some (148, .iconst 0, 1, 0, 0, 0) := rfl
theorem s159_148 {l0 l1 l2 l3 s0 : AV} {h : AH} : evL 159 148 [l0, l1, l2, l3] [s0] h = evL 159 149 [l0, l1, l2, l3] [I 0, s0] h := ev_go c159_148 rfl
theorem c159_149 : cd 159 149 = some (149, .goto 4, 3, 0, 0, 0) := rfl
theorem s159_149 {l0 l1 l2 l3 s0 s1 : AV} {h : AH} : evL 159 149 [l0, l1, l2, l3] [s0, s1] h = evL 159 153 [l0, l1, l2, l3] [s0, s1] h := ev_go c159_149 rfl
theorem c159_152 : cd 159 152 = some (152, .iconst 1, 1, 0, 0, 0) := rfl
theorem s159_152 {l0 l1 l2 l3 s0 : AV} {h : AH} : evL 159 152 [l0, l1, l2, l3] [s0] h = evL 159 153 [l0, l1, l2, l3] [I 1, s0] h := ev_go c159_152 rfl
theorem c159_153 : cd 159 153 = some (153, .iadd, 1, 0, 0, 0) := rfl
theorem s159_153 {l0 l1 l2 l3 : AV} {s0 s1 : Int} {h : AH} : evL 159 153 [l0, l1, l2, l3] [I s0, I s1] h = evL 159 154 [l0, l1, l2, l3] [I (ad s1 s0)] h := ev_go c159_153 rfl
theorem c159_154 : cd 159 154 = some (154, .istore_n 1, 1, 0, 0, 0) := rfl
theorem s159_154 {l0 l1 l2 l3 : AV} {s0 : Int} {h : AH} : evL 159 154 [l0, l1, l2, l3] [I s0] h = evL 159 155 [l0, I s0, l2, l3] [] h := ev_go c159_154 rfl
theorem c159_155 : cd 159 155 = some (155, .goto (-129), 3, 0, 0, 0) := rfl
theorem s159_155 {l0 l1 l2 l3 : AV} {h : AH} : evL 159 155 [l0, l1, l2, l3] [] h = evL 159 26 [l0, l1, l2, l3] [] h := ev_go c159_155 rfl
theorem c159_158 : cd 159 158 = some (158, .aload_n 0, 1, 0, 0, 0) := rfl
theorem s159_158 {l1 l2 l3 : AV} {l0 : Option Nat} {h : AH} : evL 159 158 [.inr (.inl l0), l1, l2, l3] [] h = evL 159 159 [.inr (.inl l0), l1, l2, l3] [.inr (.inl l0)] h := ev_go c159_158 rfl
theorem c159_159 : cd 159 159 = some (159, .iconst 0, 1, 0, 0, 0) := rfl
theorem s159_159 {l0 l1 l2 l3 s0 : AV} {h : AH} : evL 159 159 [l0, l1, l2, l3] [s0] h = evL 159 160 [l0, l1, l2, l3] [I 0, s0] h := ev_go c159_159 rfl
theorem c159_160 : cd 159 160 = some (160, .putfield 145, 3, 8, 6, 731) := rfl
theorem s159_160 {l0 l1 l2 l3 : AV} {s0 : Int} {s1 : Nat} {M : Mem} {P : PMem} (hk : kd s1 = 8) : evL 159 160 [l0, l1, l2, l3] [I s0, Rf s1] (Hp M P) = evL 159 163 [l0, l1, l2, l3] [] (Hp (wr M s1 6 s0) P) := e_putI c159_160 rfl hk
theorem c159_163 : cd 159 163 = some (163, .iload_n 1, 1, 0, 0, 0) := rfl
theorem s159_163 {l0 l2 l3 : AV} {l1 : Int} {h : AH} : evL 159 163 [l0, I l1, l2, l3] [] h = evL 159 164 [l0, I l1, l2, l3] [I l1] h := ev_go c159_163 rfl
theorem c159_164 : cd 159 164 = some (164, .ireturn, 1, 0, 0, 0) := rfl
theorem s159_164 {l0 l1 l2 l3 : AV} {s0 : Int} {h : AH} : evL 159 164 [l0, l1, l2, l3] [I s0] h = some (some (I s0), h) := e_ret c159_164 rfl
/-! 160: TankDiversModel.why(I)I -/
theorem en160 {l0 l1 : AV} {h : AH} : evM 160 [l0, l1] h = evL 160 0 [l0, l1] [] h := rfl
theorem c160_0 : cd 160 0 = some (0, .iload_n 1, 1, 0, 0, 0) := rfl
theorem s160_0 {l0 : AV} {l1 : Int} {h : AH} : evL 160 0 [l0, I l1] [] h = evL 160 1 [l0, I l1] [I l1] h := ev_go c160_0 rfl
theorem c160_1 : cd 160 1 = some (1, .iconst 0, 1, 0, 0, 0) := rfl
theorem s160_1 {l0 l1 s0 : AV} {h : AH} : evL 160 1 [l0, l1] [s0] h = evL 160 2 [l0, l1] [I 0, s0] h := ev_go c160_1 rfl
theorem c160_2 : cd 160 2 = some (2, .iconst 1, 1, 0, 0, 0) := rfl
theorem s160_2 {l0 l1 s0 s1 : AV} {h : AH} : evL 160 2 [l0, l1] [s0, s1] h = evL 160 3 [l0, l1] [I 1, s0, s1] h := ev_go c160_2 rfl
theorem c160_3 : cd 160 3 = some (3, .invokestatic 50, 3, 110, 0, 784) := rfl
theorem s160_3 {l0 l1 : AV} {s0 s1 s2 : Int} {M : Mem} {P : PMem} : evL 160 3 [l0, l1] [I s0, I s1, I s2] (Hp M P) = cont (evM 110 [I s2, I s1, I s0] (Hp M P)) (fun r h => evL 160 6 [l0, l1] (rl r []) h) := e_callS (av := [I s2, I s1, I s0]) (rest := []) c160_3 rfl rfl rfl rfl rfl rfl
theorem c160_6 : cd 160 6 = some (6, .ifCond .ne 5, 3, 0, 0, 0) := rfl
theorem s160_6 {l0 l1 : AV} {s0 : Int} {h : AH} : evL 160 6 [l0, l1] [I s0] h = if s0 = 0 then evL 160 9 [l0, l1] [] h else evL 160 11 [l0, l1] [] h := e_if_ne c160_6 rfl rfl
theorem c160_9 : cd 160 9 = some (9, .iconst (-1), 1, 0, 0, 0) := rfl
theorem s160_9 {l0 l1 : AV} {h : AH} : evL 160 9 [l0, l1] [] h = evL 160 10 [l0, l1] [I (-1)] h := ev_go c160_9 rfl
theorem c160_10 : cd 160 10 = some (10, .ireturn, 1, 0, 0, 0) := rfl
theorem s160_10 {l0 l1 : AV} {s0 : Int} {h : AH} : evL 160 10 [l0, l1] [I s0] h = some (some (I s0), h) := e_ret c160_10 rfl
theorem c160_11 : cd 160 11 = some (11, .aload_n 0, 1, 0, 0, 0) := rfl
theorem s160_11 {l1 : AV} {l0 : Option Nat} {h : AH} : evL 160 11 [.inr (.inl l0), l1] [] h = evL 160 12 [.inr (.inl l0), l1] [.inr (.inl l0)] h := ev_go c160_11 rfl
theorem c160_12 : cd 160 12 = some (12, .getfield 177, 3, 8, 7, 732) := rfl
theorem s160_12 {l0 l1 : AV} {s0 : Nat} {M : Mem} {P : PMem} (hk : kd s0 = 8) : evL 160 12 [l0, l1] [Rf s0] (Hp M P) = evL 160 15 [l0, l1] [I (M s0 7)] (Hp M P) := e_getI c160_12 rfl hk
theorem c160_15 : cd 160 15 = some (15, .ifCond .ne 8, 3, 0, 0, 0) := rfl
theorem s160_15 {l0 l1 : AV} {s0 : Int} {h : AH} : evL 160 15 [l0, l1] [I s0] h = if s0 = 0 then evL 160 18 [l0, l1] [] h else evL 160 23 [l0, l1] [] h := e_if_ne c160_15 rfl rfl
theorem c160_18 : cd 160 18 = some (18, .bipush (-4), 2, 0, 0, 0) := rfl
theorem s160_18 {l0 l1 : AV} {h : AH} : evL 160 18 [l0, l1] [] h = evL 160 20 [l0, l1] [I (-4)] h := ev_go c160_18 rfl
theorem c160_20 : cd 160 20 = some (20, .goto 18, 3, 0, 0, 0) := rfl
theorem s160_20 {l0 l1 s0 : AV} {h : AH} : evL 160 20 [l0, l1] [s0] h = evL 160 38 [l0, l1] [s0] h := ev_go c160_20 rfl
theorem c160_23 : cd 160 23 = some (23, .iload_n 1, 1, 0, 0, 0) := rfl
theorem s160_23 {l0 : AV} {l1 : Int} {h : AH} : evL 160 23 [l0, I l1] [] h = evL 160 24 [l0, I l1] [I l1] h := ev_go c160_23 rfl
theorem c160_24 : cd 160 24 = some (24, .ifCond .ne 10, 3, 0, 0, 0) := rfl
theorem s160_24 {l0 l1 : AV} {s0 : Int} {h : AH} : evL 160 24 [l0, l1] [I s0] h = if s0 = 0 then evL 160 27 [l0, l1] [] h else evL 160 34 [l0, l1] [] h := e_if_ne c160_24 rfl rfl
theorem c160_27 : cd 160 27 = some (27, .aload_n 0, 1, 0, 0, 0) := rfl
theorem s160_27 {l1 : AV} {l0 : Option Nat} {h : AH} : evL 160 27 [.inr (.inl l0), l1] [] h = evL 160 28 [.inr (.inl l0), l1] [.inr (.inl l0)] h := ev_go c160_27 rfl
theorem c160_28 : cd 160 28 = some (28, .getfield 177, 3, 8, 7, 732) := rfl
theorem s160_28 {l0 l1 : AV} {s0 : Nat} {M : Mem} {P : PMem} (hk : kd s0 = 8) : evL 160 28 [l0, l1] [Rf s0] (Hp M P) = evL 160 31 [l0, l1] [I (M s0 7)] (Hp M P) := e_getI c160_28 rfl hk
theorem c160_31 : cd 160 31 = some (31, .goto 7, 3, 0, 0, 0) := rfl
theorem s160_31 {l0 l1 s0 : AV} {h : AH} : evL 160 31 [l0, l1] [s0] h = evL 160 38 [l0, l1] [s0] h := ev_go c160_31 rfl
theorem c160_34 : cd 160 34 = some (34, .aload_n 0, 1, 0, 0, 0) := rfl
theorem s160_34 {l1 : AV} {l0 : Option Nat} {h : AH} : evL 160 34 [.inr (.inl l0), l1] [] h = evL 160 35 [.inr (.inl l0), l1] [.inr (.inl l0)] h := ev_go c160_34 rfl
theorem c160_35 : cd 160 35 = some (35, .getfield 180, 3, 8, 8, 733) := rfl
theorem s160_35 {l0 l1 : AV} {s0 : Nat} {M : Mem} {P : PMem} (hk : kd s0 = 8) : evL 160 35 [l0, l1] [Rf s0] (Hp M P) = evL 160 38 [l0, l1] [I (M s0 8)] (Hp M P) := e_getI c160_35 rfl hk
theorem c160_38 : cd 160 38 = some (38, .ireturn, 1, 0, 0, 0) := rfl
theorem s160_38 {l0 l1 : AV} {s0 : Int} {h : AH} : evL 160 38 [l0, l1] [I s0] h = some (some (I s0), h) := e_ret c160_38 rfl
/-! 161: TankDiversModel.diver(II)I -/
theorem en161 {l0 l1 l2 : AV} {h : AH} : evM 161 [l0, l1, l2] h = evL 161 0 [l0, l1, l2] [] h := rfl
theorem c161_0 : cd 161 0 = some (0, .aload_n 0, 1, 0, 0, 0) := rfl
theorem s161_0 {l1 l2 : AV} {l0 : Option Nat} {h : AH} : evL 161 0 [.inr (.inl l0), l1, l2] [] h = evL 161 1 [.inr (.inl l0), l1, l2] [.inr (.inl l0)] h := ev_go c161_0 rfl
theorem c161_1 : cd 161 1 = some (1, .iload_n 1, 1, 0, 0, 0) := rfl
theorem s161_1 {l0 l2 s0 : AV} {l1 : Int} {h : AH} : evL 161 1 [l0, I l1, l2] [s0] h = evL 161 2 [l0, I l1, l2] [I l1, s0] h := ev_go c161_1 rfl
theorem c161_2 : cd 161 2 = some (2, .invokevirtual 186, 3, 118, 0, 951) := rfl
theorem s161_2 {l0 l1 l2 : AV} {s0 : Int} {s1 : Nat} {M : Mem} {P : PMem} (hk : kd s1 = 8) : evL 161 2 [l0, l1, l2] [I s0, Rf s1] (Hp M P) = cont (evM 118 [Rf s1, I s0] (Hp M P)) (fun r h => evL 161 5 [l0, l1, l2] (rl r []) h) := e_callV (av' := [I s0]) (rest := []) (c := 8) c161_2 rfl rfl rfl rfl rfl rfl rfl hk rfl
theorem c161_5 : cd 161 5 = some (5, .ifCond .ne 5, 3, 0, 0, 0) := rfl
theorem s161_5 {l0 l1 l2 : AV} {s0 : Int} {h : AH} : evL 161 5 [l0, l1, l2] [I s0] h = if s0 = 0 then evL 161 8 [l0, l1, l2] [] h else evL 161 10 [l0, l1, l2] [] h := e_if_ne c161_5 rfl rfl
theorem c161_8 : cd 161 8 = some (8, .iconst (-1), 1, 0, 0, 0) := rfl
theorem s161_8 {l0 l1 l2 : AV} {h : AH} : evL 161 8 [l0, l1, l2] [] h = evL 161 9 [l0, l1, l2] [I (-1)] h := ev_go c161_8 rfl
theorem c161_9 : cd 161 9 = some (9, .ireturn, 1, 0, 0, 0) := rfl
theorem s161_9 {l0 l1 l2 : AV} {s0 : Int} {h : AH} : evL 161 9 [l0, l1, l2] [I s0] h = some (some (I s0), h) := e_ret c161_9 rfl
theorem c161_10 : cd 161 10 = some (10, .iload_n 2, 1, 0, 0, 0) := rfl
theorem s161_10 {l0 l1 : AV} {l2 : Int} {h : AH} : evL 161 10 [l0, l1, I l2] [] h = evL 161 11 [l0, l1, I l2] [I l2] h := ev_go c161_10 rfl
theorem c161_11 : cd 161 11 = some (11, .tableswitch 81 0 8 #[49, 49, 49, 49, 56, 62, 68, 68, 68], 49, 0, 0, 0) := rfl
theorem s161_11_0 {l0 l1 l2 : AV} {h : AH} : evL 161 11 [l0, l1, l2] [I 0] h = evL 161 60 [l0, l1, l2] [] h := ev_go c161_11 rfl
theorem s161_11_1 {l0 l1 l2 : AV} {h : AH} : evL 161 11 [l0, l1, l2] [I 1] h = evL 161 60 [l0, l1, l2] [] h := ev_go c161_11 rfl
theorem s161_11_2 {l0 l1 l2 : AV} {h : AH} : evL 161 11 [l0, l1, l2] [I 2] h = evL 161 60 [l0, l1, l2] [] h := ev_go c161_11 rfl
theorem s161_11_3 {l0 l1 l2 : AV} {h : AH} : evL 161 11 [l0, l1, l2] [I 3] h = evL 161 60 [l0, l1, l2] [] h := ev_go c161_11 rfl
theorem s161_11_4 {l0 l1 l2 : AV} {h : AH} : evL 161 11 [l0, l1, l2] [I 4] h = evL 161 67 [l0, l1, l2] [] h := ev_go c161_11 rfl
theorem s161_11_5 {l0 l1 l2 : AV} {h : AH} : evL 161 11 [l0, l1, l2] [I 5] h = evL 161 73 [l0, l1, l2] [] h := ev_go c161_11 rfl
theorem s161_11_6 {l0 l1 l2 : AV} {h : AH} : evL 161 11 [l0, l1, l2] [I 6] h = evL 161 79 [l0, l1, l2] [] h := ev_go c161_11 rfl
theorem s161_11_7 {l0 l1 l2 : AV} {h : AH} : evL 161 11 [l0, l1, l2] [I 7] h = evL 161 79 [l0, l1, l2] [] h := ev_go c161_11 rfl
theorem s161_11_8 {l0 l1 l2 : AV} {h : AH} : evL 161 11 [l0, l1, l2] [I 8] h = evL 161 79 [l0, l1, l2] [] h := ev_go c161_11 rfl
theorem s161_11_d {l0 l1 l2 : AV} {h : AH} {s0 : Int} (hx : s0 < 0 ∨ 8 < s0) : evL 161 11 [l0, l1, l2] [I s0] h = evL 161 92 [l0, l1, l2] [] h := ev_go c161_11 (if_pos hx)
theorem c161_60 : cd 161 60 = some (60, .aload_n 0, 1, 0, 0, 0) := rfl
theorem s161_60 {l1 l2 : AV} {l0 : Option Nat} {h : AH} : evL 161 60 [.inr (.inl l0), l1, l2] [] h = evL 161 61 [.inr (.inl l0), l1, l2] [.inr (.inl l0)] h := ev_go c161_60 rfl
theorem c161_61 : cd 161 61 = some (61, .iload_n 1, 1, 0, 0, 0) := rfl
theorem s161_61 {l0 l2 s0 : AV} {l1 : Int} {h : AH} : evL 161 61 [l0, I l1, l2] [s0] h = evL 161 62 [l0, I l1, l2] [I l1, s0] h := ev_go c161_61 rfl
theorem c161_62 : cd 161 62 = some (62, .iload_n 2, 1, 0, 0, 0) := rfl
theorem s161_62 {l0 l1 s0 s1 : AV} {l2 : Int} {h : AH} : evL 161 62 [l0, l1, I l2] [s0, s1] h = evL 161 63 [l0, l1, I l2] [I l2, s0, s1] h := ev_go c161_62 rfl
theorem c161_63 : cd 161 63 = some (63, .invokevirtual 54, 3, 116, 0, 806) := rfl
theorem s161_63 {l0 l1 l2 : AV} {s0 s1 : Int} {s2 : Nat} {M : Mem} {P : PMem} (hk : kd s2 = 8) : evL 161 63 [l0, l1, l2] [I s0, I s1, Rf s2] (Hp M P) = cont (evM 116 [Rf s2, I s1, I s0] (Hp M P)) (fun r h => evL 161 66 [l0, l1, l2] (rl r []) h) := e_callV (av' := [I s1, I s0]) (rest := []) (c := 8) c161_63 rfl rfl rfl rfl rfl rfl rfl hk rfl
theorem c161_66 : cd 161 66 = some (66, .ireturn, 1, 0, 0, 0) := rfl
theorem s161_66 {l0 l1 l2 : AV} {s0 : Int} {h : AH} : evL 161 66 [l0, l1, l2] [I s0] h = some (some (I s0), h) := e_ret c161_66 rfl
theorem c161_67 : cd 161 67 = some (67, .aload_n 0, 1, 0, 0, 0) := rfl
theorem s161_67 {l1 l2 : AV} {l0 : Option Nat} {h : AH} : evL 161 67 [.inr (.inl l0), l1, l2] [] h = evL 161 68 [.inr (.inl l0), l1, l2] [.inr (.inl l0)] h := ev_go c161_67 rfl
theorem c161_68 : cd 161 68 = some (68, .iload_n 1, 1, 0, 0, 0) := rfl
theorem s161_68 {l0 l2 s0 : AV} {l1 : Int} {h : AH} : evL 161 68 [l0, I l1, l2] [s0] h = evL 161 69 [l0, I l1, l2] [I l1, s0] h := ev_go c161_68 rfl
theorem c161_69 : cd 161 69 = some (69, .invokevirtual 105, 3, 123, 0, 879) := rfl
theorem s161_69 {l0 l1 l2 : AV} {s0 : Int} {s1 : Nat} {M : Mem} {P : PMem} (hk : kd s1 = 8) : evL 161 69 [l0, l1, l2] [I s0, Rf s1] (Hp M P) = cont (evM 123 [Rf s1, I s0] (Hp M P)) (fun r h => evL 161 72 [l0, l1, l2] (rl r []) h) := e_callV (av' := [I s0]) (rest := []) (c := 8) c161_69 rfl rfl rfl rfl rfl rfl rfl hk rfl
theorem c161_72 : cd 161 72 = some (72, .ireturn, 1, 0, 0, 0) := rfl
theorem s161_72 {l0 l1 l2 : AV} {s0 : Int} {h : AH} : evL 161 72 [l0, l1, l2] [I s0] h = some (some (I s0), h) := e_ret c161_72 rfl
theorem c161_73 : cd 161 73 = some (73, .aload_n 0, 1, 0, 0, 0) := rfl
theorem s161_73 {l1 l2 : AV} {l0 : Option Nat} {h : AH} : evL 161 73 [.inr (.inl l0), l1, l2] [] h = evL 161 74 [.inr (.inl l0), l1, l2] [.inr (.inl l0)] h := ev_go c161_73 rfl
theorem c161_74 : cd 161 74 = some (74, .iload_n 1, 1, 0, 0, 0) := rfl
theorem s161_74 {l0 l2 s0 : AV} {l1 : Int} {h : AH} : evL 161 74 [l0, I l1, l2] [s0] h = evL 161 75 [l0, I l1, l2] [I l1, s0] h := ev_go c161_74 rfl
theorem c161_75 : cd 161 75 = some (75, .invokevirtual 66, 3, 122, 0, 866) := rfl
theorem s161_75 {l0 l1 l2 : AV} {s0 : Int} {s1 : Nat} {M : Mem} {P : PMem} (hk : kd s1 = 8) : evL 161 75 [l0, l1, l2] [I s0, Rf s1] (Hp M P) = cont (evM 122 [Rf s1, I s0] (Hp M P)) (fun r h => evL 161 78 [l0, l1, l2] (rl r []) h) := e_callV (av' := [I s0]) (rest := []) (c := 8) c161_75 rfl rfl rfl rfl rfl rfl rfl hk rfl
theorem c161_78 : cd 161 78 = some (78, .ireturn, 1, 0, 0, 0) := rfl
theorem s161_78 {l0 l1 l2 : AV} {s0 : Int} {h : AH} : evL 161 78 [l0, l1, l2] [I s0] h = some (some (I s0), h) := e_ret c161_78 rfl
theorem c161_79 : cd 161 79 = some (79, .aload_n 0, 1, 0, 0, 0) := rfl
theorem s161_79 {l1 l2 : AV} {l0 : Option Nat} {h : AH} : evL 161 79 [.inr (.inl l0), l1, l2] [] h = evL 161 80 [.inr (.inl l0), l1, l2] [.inr (.inl l0)] h := ev_go c161_79 rfl
theorem c161_80 : cd 161 80 = some (80, .iload_n 1, 1, 0, 0, 0) := rfl
theorem s161_80 {l0 l2 s0 : AV} {l1 : Int} {h : AH} : evL 161 80 [l0, I l1, l2] [s0] h = evL 161 81 [l0, I l1, l2] [I l1, s0] h := ev_go c161_80 rfl
theorem c161_81 : cd 161 81 = some (81, .bipush 10, 2, 0, 0, 0) := rfl
theorem s161_81 {l0 l1 l2 s0 s1 : AV} {h : AH} : evL 161 81 [l0, l1, l2] [s0, s1] h = evL 161 83 [l0, l1, l2] [I 10, s0, s1] h := ev_go c161_81 rfl
theorem c161_83 : cd 161 83 = some (83, .iload_n 2, 1, 0, 0, 0) := rfl
theorem s161_83 {l0 l1 s0 s1 s2 : AV} {l2 : Int} {h : AH} : evL 161 83 [l0, l1, I l2] [s0, s1, s2] h = evL 161 84 [l0, l1, I l2] [I l2, s0, s1, s2] h := ev_go c161_83 rfl
theorem c161_84 : cd 161 84 = some (84, .iadd, 1, 0, 0, 0) := rfl
theorem s161_84 {l0 l1 l2 s2 s3 : AV} {s0 s1 : Int} {h : AH} : evL 161 84 [l0, l1, l2] [I s0, I s1, s2, s3] h = evL 161 85 [l0, l1, l2] [I (ad s1 s0), s2, s3] h := ev_go c161_84 rfl
theorem c161_85 : cd 161 85 = some (85, .bipush 6, 2, 0, 0, 0) := rfl
theorem s161_85 {l0 l1 l2 s0 s1 s2 : AV} {h : AH} : evL 161 85 [l0, l1, l2] [s0, s1, s2] h = evL 161 87 [l0, l1, l2] [I 6, s0, s1, s2] h := ev_go c161_85 rfl
theorem c161_87 : cd 161 87 = some (87, .isub, 1, 0, 0, 0) := rfl
theorem s161_87 {l0 l1 l2 s2 s3 : AV} {s0 s1 : Int} {h : AH} : evL 161 87 [l0, l1, l2] [I s0, I s1, s2, s3] h = evL 161 88 [l0, l1, l2] [I (sb s1 s0), s2, s3] h := ev_go c161_87 rfl
theorem c161_88 : cd 161 88 = some (88, .invokevirtual 54, 3, 116, 0, 806) := rfl
theorem s161_88 {l0 l1 l2 : AV} {s0 s1 : Int} {s2 : Nat} {M : Mem} {P : PMem} (hk : kd s2 = 8) : evL 161 88 [l0, l1, l2] [I s0, I s1, Rf s2] (Hp M P) = cont (evM 116 [Rf s2, I s1, I s0] (Hp M P)) (fun r h => evL 161 91 [l0, l1, l2] (rl r []) h) := e_callV (av' := [I s1, I s0]) (rest := []) (c := 8) c161_88 rfl rfl rfl rfl rfl rfl rfl hk rfl
theorem c161_91 : cd 161 91 = some (91, .ireturn, 1, 0, 0, 0) := rfl
theorem s161_91 {l0 l1 l2 : AV} {s0 : Int} {h : AH} : evL 161 91 [l0, l1, l2] [I s0] h = some (some (I s0), h) := e_ret c161_91 rfl
theorem c161_92 : cd 161 92 = some (92, .iconst (-1), 1, 0, 0, 0) := rfl
theorem s161_92 {l0 l1 l2 : AV} {h : AH} : evL 161 92 [l0, l1, l2] [] h = evL 161 93 [l0, l1, l2] [I (-1)] h := ev_go c161_92 rfl
theorem c161_93 : cd 161 93 = some (93, .ireturn, 1, 0, 0, 0) := rfl
theorem s161_93 {l0 l1 l2 : AV} {s0 : Int} {h : AH} : evL 161 93 [l0, l1, l2] [I s0] h = some (some (I s0), h) := e_ret c161_93 rfl
/-! 162: TankDiversModel.stack(III)I -/
theorem en162 {l0 l1 l2 l3 : AV} {h : AH} : evM 162 [l0, l1, l2, l3] h = evL 162 0 [l0, l1, l2, l3, Db 0] [] h := rfl
theorem c162_0 : cd 162 0 = some (0, .aload_n 0, 1, 0, 0, 0) := rfl
theorem s162_0 {l1 l2 l3 l4 : AV} {l0 : Option Nat} {h : AH} : evL 162 0 [.inr (.inl l0), l1, l2, l3, l4] [] h = evL 162 1 [.inr (.inl l0), l1, l2, l3, l4] [.inr (.inl l0)] h := ev_go c162_0 rfl
theorem c162_1 : cd 162 1 = some (1, .iload_n 1, 1, 0, 0, 0) := rfl
theorem s162_1 {l0 l2 l3 l4 s0 : AV} {l1 : Int} {h : AH} : evL 162 1 [l0, I l1, l2, l3, l4] [s0] h = evL 162 2 [l0, I l1, l2, l3, l4] [I l1, s0] h := ev_go c162_1 rfl
theorem c162_2 : cd 162 2 = some (2, .invokevirtual 186, 3, 118, 0, 951) := rfl
theorem s162_2 {l0 l1 l2 l3 l4 : AV} {s0 : Int} {s1 : Nat} {M : Mem} {P : PMem} (hk : kd s1 = 8) : evL 162 2 [l0, l1, l2, l3, l4] [I s0, Rf s1] (Hp M P) = cont (evM 118 [Rf s1, I s0] (Hp M P)) (fun r h => evL 162 5 [l0, l1, l2, l3, l4] (rl r []) h) := e_callV (av' := [I s0]) (rest := []) (c := 8) c162_2 rfl rfl rfl rfl rfl rfl rfl hk rfl
theorem c162_5 : cd 162 5 = some (5, .ifCond .eq 16, 3, 0, 0, 0) := rfl
theorem s162_5 {l0 l1 l2 l3 l4 : AV} {s0 : Int} {h : AH} : evL 162 5 [l0, l1, l2, l3, l4] [I s0] h = if s0 = 0 then evL 162 21 [l0, l1, l2, l3, l4] [] h else evL 162 8 [l0, l1, l2, l3, l4] [] h := e_if_eq c162_5 rfl rfl
theorem c162_8 : cd 162 8 = some (8, .iload_n 2, 1, 0, 0, 0) := rfl
theorem s162_8 {l0 l1 l3 l4 : AV} {l2 : Int} {h : AH} : evL 162 8 [l0, l1, I l2, l3, l4] [] h = evL 162 9 [l0, l1, I l2, l3, l4] [I l2] h := ev_go c162_8 rfl
theorem c162_9 : cd 162 9 = some (9, .ifCond .lt 12, 3, 0, 0, 0) := rfl
theorem s162_9 {l0 l1 l2 l3 l4 : AV} {s0 : Int} {h : AH} : evL 162 9 [l0, l1, l2, l3, l4] [I s0] h = if s0 < 0 then evL 162 21 [l0, l1, l2, l3, l4] [] h else evL 162 12 [l0, l1, l2, l3, l4] [] h := e_if_lt c162_9 rfl rfl
theorem c162_12 : cd 162 12 = some (12, .iload_n 3, 1, 0, 0, 0) := rfl
theorem s162_12 {l0 l1 l2 l4 : AV} {l3 : Int} {h : AH} : evL 162 12 [l0, l1, l2, I l3, l4] [] h = evL 162 13 [l0, l1, l2, I l3, l4] [I l3] h := ev_go c162_12 rfl
theorem c162_13 : cd 162 13 = some (13, .iconst 0, 1, 0, 0, 0) := rfl
theorem s162_13 {l0 l1 l2 l3 l4 s0 : AV} {h : AH} : evL 162 13 [l0, l1, l2, l3, l4] [s0] h = evL 162 14 [l0, l1, l2, l3, l4] [I 0, s0] h := ev_go c162_13 rfl
theorem c162_14 : cd 162 14 = some (14, .iconst 3, 1, 0, 0, 0) := rfl
theorem s162_14 {l0 l1 l2 l3 l4 s0 s1 : AV} {h : AH} : evL 162 14 [l0, l1, l2, l3, l4] [s0, s1] h = evL 162 15 [l0, l1, l2, l3, l4] [I 3, s0, s1] h := ev_go c162_14 rfl
theorem c162_15 : cd 162 15 = some (15, .invokestatic 50, 3, 110, 0, 784) := rfl
theorem s162_15 {l0 l1 l2 l3 l4 : AV} {s0 s1 s2 : Int} {M : Mem} {P : PMem} : evL 162 15 [l0, l1, l2, l3, l4] [I s0, I s1, I s2] (Hp M P) = cont (evM 110 [I s2, I s1, I s0] (Hp M P)) (fun r h => evL 162 18 [l0, l1, l2, l3, l4] (rl r []) h) := e_callS (av := [I s2, I s1, I s0]) (rest := []) c162_15 rfl rfl rfl rfl rfl rfl
theorem c162_18 : cd 162 18 = some (18, .ifCond .ne 5, 3, 0, 0, 0) := rfl
theorem s162_18 {l0 l1 l2 l3 l4 : AV} {s0 : Int} {h : AH} : evL 162 18 [l0, l1, l2, l3, l4] [I s0] h = if s0 = 0 then evL 162 21 [l0, l1, l2, l3, l4] [] h else evL 162 23 [l0, l1, l2, l3, l4] [] h := e_if_ne c162_18 rfl rfl
theorem c162_21 : cd 162 21 = some (21, .iconst (-1), 1, 0, 0, 0) := rfl
theorem s162_21 {l0 l1 l2 l3 l4 : AV} {h : AH} : evL 162 21 [l0, l1, l2, l3, l4] [] h = evL 162 22 [l0, l1, l2, l3, l4] [I (-1)] h := ev_go c162_21 rfl
theorem c162_22 : cd 162 22 = some (22, .ireturn, 1, 0, 0, 0) := rfl
theorem s162_22 {l0 l1 l2 l3 l4 : AV} {s0 : Int} {h : AH} : evL 162 22 [l0, l1, l2, l3, l4] [I s0] h = some (some (I s0), h) := e_ret c162_22 rfl
theorem c162_23 : cd 162 23 = some (23, .iload_n 2, 1, 0, 0, 0) := rfl
theorem s162_23 {l0 l1 l3 l4 : AV} {l2 : Int} {h : AH} : evL 162 23 [l0, l1, I l2, l3, l4] [] h = evL 162 24 [l0, l1, I l2, l3, l4] [I l2] h := ev_go c162_23 rfl
theorem c162_24 : cd 162 24 = some (24, .aload_n 0, 1, 0, 0, 0) := rfl
theorem s162_24 {l1 l2 l3 l4 s0 : AV} {l0 : Option Nat} {h : AH} : evL 162 24 [.inr (.inl l0), l1, l2, l3, l4] [s0] h = evL 162 25 [.inr (.inl l0), l1, l2, l3, l4] [.inr (.inl l0), s0] h := ev_go c162_24 rfl
theorem c162_25 : cd 162 25 = some (25, .iload_n 1, 1, 0, 0, 0) := rfl
theorem s162_25 {l0 l2 l3 l4 s0 s1 : AV} {l1 : Int} {h : AH} : evL 162 25 [l0, I l1, l2, l3, l4] [s0, s1] h = evL 162 26 [l0, I l1, l2, l3, l4] [I l1, s0, s1] h := ev_go c162_25 rfl
theorem c162_26 : cd 162 26 = some (26, .iconst 3, 1, 0, 0, 0) := rfl
theorem s162_26 {l0 l1 l2 l3 l4 s0 s1 s2 : AV} {h : AH} : evL 162 26 [l0, l1, l2, l3, l4] [s0, s1, s2] h = evL 162 27 [l0, l1, l2, l3, l4] [I 3, s0, s1, s2] h := ev_go c162_26 rfl
theorem c162_27 : cd 162 27 = some (27, .invokevirtual 54, 3, 116, 0, 806) := rfl
theorem s162_27 {l0 l1 l2 l3 l4 s3 : AV} {s0 s1 : Int} {s2 : Nat} {M : Mem} {P : PMem} (hk : kd s2 = 8) : evL 162 27 [l0, l1, l2, l3, l4] [I s0, I s1, Rf s2, s3] (Hp M P) = cont (evM 116 [Rf s2, I s1, I s0] (Hp M P)) (fun r h => evL 162 30 [l0, l1, l2, l3, l4] (rl r [s3]) h) := e_callV (av' := [I s1, I s0]) (rest := [s3]) (c := 8) c162_27 rfl rfl rfl rfl rfl rfl rfl hk rfl
theorem c162_30 : cd 162 30 = some (30, .if_icmp .lt 6, 3, 0, 0, 0) := rfl
theorem s162_30 {l0 l1 l2 l3 l4 : AV} {s0 s1 : Int} {h : AH} : evL 162 30 [l0, l1, l2, l3, l4] [I s0, I s1] h = if s1 < s0 then evL 162 36 [l0, l1, l2, l3, l4] [] h else evL 162 33 [l0, l1, l2, l3, l4] [] h := e_icmp_lt c162_30 rfl rfl
theorem c162_33 : cd 162 33 = some (33, .bipush (-4), 2, 0, 0, 0) := rfl
theorem s162_33 {l0 l1 l2 l3 l4 : AV} {h : AH} : evL 162 33 [l0, l1, l2, l3, l4] [] h = evL 162 35 [l0, l1, l2, l3, l4] [I (-4)] h := ev_go c162_33 rfl
theorem c162_35 : cd 162 35 = some (35, .ireturn, 1, 0, 0, 0) := rfl
theorem s162_35 {l0 l1 l2 l3 l4 : AV} {s0 : Int} {h : AH} : evL 162 35 [l0, l1, l2, l3, l4] [I s0] h = some (some (I s0), h) := e_ret c162_35 rfl
theorem c162_36 : cd 162 36 = some (36, .aload_n 0, 1, 0, 0, 0) := rfl
theorem s162_36 {l1 l2 l3 l4 : AV} {l0 : Option Nat} {h : AH} : evL 162 36 [.inr (.inl l0), l1, l2, l3, l4] [] h = evL 162 37 [.inr (.inl l0), l1, l2, l3, l4] [.inr (.inl l0)] h := ev_go c162_36 rfl
theorem c162_37 : cd 162 37 = some (37, .iload_n 1, 1, 0, 0, 0) := rfl
theorem s162_37 {l0 l2 l3 l4 s0 : AV} {l1 : Int} {h : AH} : evL 162 37 [l0, I l1, l2, l3, l4] [s0] h = evL 162 38 [l0, I l1, l2, l3, l4] [I l1, s0] h := ev_go c162_37 rfl
theorem c162_38 : cd 162 38 = some (38, .iconst 4, 1, 0, 0, 0) := rfl
theorem s162_38 {l0 l1 l2 l3 l4 s0 s1 : AV} {h : AH} : evL 162 38 [l0, l1, l2, l3, l4] [s0, s1] h = evL 162 39 [l0, l1, l2, l3, l4] [I 4, s0, s1] h := ev_go c162_38 rfl
theorem c162_39 : cd 162 39 = some (39, .iload_n 2, 1, 0, 0, 0) := rfl
theorem s162_39 {l0 l1 l3 l4 s0 s1 s2 : AV} {l2 : Int} {h : AH} : evL 162 39 [l0, l1, I l2, l3, l4] [s0, s1, s2] h = evL 162 40 [l0, l1, I l2, l3, l4] [I l2, s0, s1, s2] h := ev_go c162_39 rfl
theorem c162_40 : cd 162 40 = some (40, .iadd, 1, 0, 0, 0) := rfl
theorem s162_40 {l0 l1 l2 l3 l4 s2 s3 : AV} {s0 s1 : Int} {h : AH} : evL 162 40 [l0, l1, l2, l3, l4] [I s0, I s1, s2, s3] h = evL 162 41 [l0, l1, l2, l3, l4] [I (ad s1 s0), s2, s3] h := ev_go c162_40 rfl
theorem c162_41 : cd 162 41 = some (41, .invokevirtual 54, 3, 116, 0, 806) := rfl
theorem s162_41 {l0 l1 l2 l3 l4 : AV} {s0 s1 : Int} {s2 : Nat} {M : Mem} {P : PMem} (hk : kd s2 = 8) : evL 162 41 [l0, l1, l2, l3, l4] [I s0, I s1, Rf s2] (Hp M P) = cont (evM 116 [Rf s2, I s1, I s0] (Hp M P)) (fun r h => evL 162 44 [l0, l1, l2, l3, l4] (rl r []) h) := e_callV (av' := [I s1, I s0]) (rest := []) (c := 8) c162_41 rfl rfl rfl rfl rfl rfl rfl hk rfl
theorem c162_44 : cd 162 44 = some (44, .istore 4, 2, 0, 0, 0) := rfl
theorem s162_44 {l0 l1 l2 l3 l4 : AV} {s0 : Int} {h : AH} : evL 162 44 [l0, l1, l2, l3, l4] [I s0] h = evL 162 46 [l0, l1, l2, l3, I s0] [] h := ev_go c162_44 rfl
theorem c162_46 : cd 162 46 = some (46, .iload_n 3, 1, 0, 0, 0) := rfl
theorem s162_46 {l0 l1 l2 l4 : AV} {l3 : Int} {h : AH} : evL 162 46 [l0, l1, l2, I l3, l4] [] h = evL 162 47 [l0, l1, l2, I l3, l4] [I l3] h := ev_go c162_46 rfl
theorem c162_47 : cd 162 47 = some (47, .ifCond .ne 11, 3, 0, 0, 0) := rfl
theorem s162_47 {l0 l1 l2 l3 l4 : AV} {s0 : Int} {h : AH} : evL 162 47 [l0, l1, l2, l3, l4] [I s0] h = if s0 = 0 then evL 162 50 [l0, l1, l2, l3, l4] [] h else evL 162 58 [l0, l1, l2, l3, l4] [] h := e_if_ne c162_47 rfl rfl
theorem c162_50 : cd 162 50 = some (50, .iload 4, 2, 0, 0, 0) := rfl
theorem s162_50 {l0 l1 l2 l3 : AV} {l4 : Int} {h : AH} : evL 162 50 [l0, l1, l2, l3, I l4] [] h = evL 162 52 [l0, l1, l2, l3, I l4] [I l4] h := ev_go c162_50 rfl
theorem c162_52 : cd 162 52 = some (52, .invokestatic 43, 3, 113, 0, 873) := rfl
theorem s162_52 {l0 l1 l2 l3 l4 : AV} {s0 : Int} {M : Mem} {P : PMem} : evL 162 52 [l0, l1, l2, l3, l4] [I s0] (Hp M P) = cont (evM 113 [I s0] (Hp M P)) (fun r h => evL 162 55 [l0, l1, l2, l3, l4] (rl r []) h) := e_callS (av := [I s0]) (rest := []) c162_52 rfl rfl rfl rfl rfl rfl
theorem c162_55 : cd 162 55 = some (55, .goto 25, 3, 0, 0, 0) := rfl
theorem s162_55 {l0 l1 l2 l3 l4 s0 : AV} {h : AH} : evL 162 55 [l0, l1, l2, l3, l4] [s0] h = evL 162 80 [l0, l1, l2, l3, l4] [s0] h := ev_go c162_55 rfl
theorem c162_58 : cd 162 58 = some (58, .iload_n 3, 1, 0, 0, 0) := rfl
theorem s162_58 {l0 l1 l2 l4 : AV} {l3 : Int} {h : AH} : evL 162 58 [l0, l1, l2, I l3, l4] [] h = evL 162 59 [l0, l1, l2, I l3, l4] [I l3] h := ev_go c162_58 rfl
theorem c162_59 : cd 162 59 = some (59, .iload 4, 2, 0, 0, 0) := rfl
theorem s162_59 {l0 l1 l2 l3 s0 : AV} {l4 : Int} {h : AH} : evL 162 59 [l0, l1, l2, l3, I l4] [s0] h = evL 162 61 [l0, l1, l2, l3, I l4] [I l4, s0] h := ev_go c162_59 rfl
theorem c162_61 : cd 162 61 = some (61, .invokestatic 43, 3, 113, 0, 873) := rfl
theorem s162_61 {l0 l1 l2 l3 l4 s1 : AV} {s0 : Int} {M : Mem} {P : PMem} : evL 162 61 [l0, l1, l2, l3, l4] [I s0, s1] (Hp M P) = cont (evM 113 [I s0] (Hp M P)) (fun r h => evL 162 64 [l0, l1, l2, l3, l4] (rl r [s1]) h) := e_callS (av := [I s0]) (rest := [s1]) c162_61 rfl rfl rfl rfl rfl rfl
theorem c162_64 : cd 162 64 = some (64, .if_icmp .le 8, 3, 0, 0, 0) := rfl
theorem s162_64 {l0 l1 l2 l3 l4 : AV} {s0 s1 : Int} {h : AH} : evL 162 64 [l0, l1, l2, l3, l4] [I s0, I s1] h = if s1 ≤ s0 then evL 162 72 [l0, l1, l2, l3, l4] [] h else evL 162 67 [l0, l1, l2, l3, l4] [] h := e_icmp_le c162_64 rfl rfl
theorem c162_67 : cd 162 67 = some (67, .bipush (-4), 2, 0, 0, 0) := rfl
theorem s162_67 {l0 l1 l2 l3 l4 : AV} {h : AH} : evL 162 67 [l0, l1, l2, l3, l4] [] h = evL 162 69 [l0, l1, l2, l3, l4] [I (-4)] h := ev_go c162_67 rfl
theorem c162_69 : cd 162 69 = some (69, .goto 11, 3, 0, 0, 0) := rfl
theorem s162_69 {l0 l1 l2 l3 l4 s0 : AV} {h : AH} : evL 162 69 [l0, l1, l2, l3, l4] [s0] h = evL 162 80 [l0, l1, l2, l3, l4] [s0] h := ev_go c162_69 rfl
theorem c162_72 : cd 162 72 = some (72, .iload 4, 2, 0, 0, 0) := rfl
theorem s162_72 {l0 l1 l2 l3 : AV} {l4 : Int} {h : AH} : evL 162 72 [l0, l1, l2, l3, I l4] [] h = evL 162 74 [l0, l1, l2, l3, I l4] [I l4] h := ev_go c162_72 rfl
theorem c162_74 : cd 162 74 = some (74, .iload_n 3, 1, 0, 0, 0) := rfl
theorem s162_74 {l0 l1 l2 l4 s0 : AV} {l3 : Int} {h : AH} : evL 162 74 [l0, l1, l2, I l3, l4] [s0] h = evL 162 75 [l0, l1, l2, I l3, l4] [I l3, s0] h := ev_go c162_74 rfl
theorem c162_75 : cd 162 75 = some (75, .iconst 1, 1, 0, 0, 0) := rfl
theorem s162_75 {l0 l1 l2 l3 l4 s0 s1 : AV} {h : AH} : evL 162 75 [l0, l1, l2, l3, l4] [s0, s1] h = evL 162 76 [l0, l1, l2, l3, l4] [I 1, s0, s1] h := ev_go c162_75 rfl
theorem c162_76 : cd 162 76 = some (76, .isub, 1, 0, 0, 0) := rfl
theorem s162_76 {l0 l1 l2 l3 l4 s2 : AV} {s0 s1 : Int} {h : AH} : evL 162 76 [l0, l1, l2, l3, l4] [I s0, I s1, s2] h = evL 162 77 [l0, l1, l2, l3, l4] [I (sb s1 s0), s2] h := ev_go c162_76 rfl
theorem c162_77 : cd 162 77 = some (77, .invokestatic 47, 3, 114, 0, 876) := rfl
theorem s162_77 {l0 l1 l2 l3 l4 : AV} {s0 s1 : Int} {M : Mem} {P : PMem} : evL 162 77 [l0, l1, l2, l3, l4] [I s0, I s1] (Hp M P) = cont (evM 114 [I s1, I s0] (Hp M P)) (fun r h => evL 162 80 [l0, l1, l2, l3, l4] (rl r []) h) := e_callS (av := [I s1, I s0]) (rest := []) c162_77 rfl rfl rfl rfl rfl rfl
theorem c162_80 : cd 162 80 = some (80, .ireturn, 1, 0, 0, 0) := rfl
theorem s162_80 {l0 l1 l2 l3 l4 : AV} {s0 : Int} {h : AH} : evL 162 80 [l0, l1, l2, l3, l4] [I s0] h = some (some (I s0), h) := e_ret c162_80 rfl
/-! 163: TankDiversModel.space(II)I -/
theorem en163 {l0 l1 l2 : AV} {h : AH} : evM 163 [l0, l1, l2] h = evL 163 0 [l0, l1, l2] [] h := rfl
theorem c163_0 : cd 163 0 = some (0, .iload_n 1, 1, 0, 0, 0) := rfl
theorem s163_0 {l0 l2 : AV} {l1 : Int} {h : AH} : evL 163 0 [l0, I l1, l2] [] h = evL 163 1 [l0, I l1, l2] [I l1] h := ev_go c163_0 rfl
theorem c163_1 : cd 163 1 = some (1, .iconst 1, 1, 0, 0, 0) := rfl
theorem s163_1 {l0 l1 l2 s0 : AV} {h : AH} : evL 163 1 [l0, l1, l2] [s0] h = evL 163 2 [l0, l1, l2] [I 1, s0] h := ev_go c163_1 rfl
theorem c163_2 : cd 163 2 = some (2, .aload_n 0, 1, 0, 0, 0) := rfl
theorem s163_2 {l1 l2 s0 s1 : AV} {l0 : Option Nat} {h : AH} : evL 163 2 [.inr (.inl l0), l1, l2] [s0, s1] h = evL 163 3 [.inr (.inl l0), l1, l2] [.inr (.inl l0), s0, s1] h := ev_go c163_2 rfl
theorem c163_3 : cd 163 3 = some (3, .getfield 7, 3, 8, 0, 725) := rfl
theorem s163_3 {l0 l1 l2 s1 s2 : AV} {s0 : Nat} {M : Mem} {P : PMem} (hk : kd s0 = 8) : evL 163 3 [l0, l1, l2] [Rf s0, s1, s2] (Hp M P) = evL 163 6 [l0, l1, l2] [Rf (rfd s0 0), s1, s2] (Hp M P) := e_getR c163_3 rfl hk
theorem c163_6 : cd 163 6 = some (6, .bipush 8, 2, 0, 0, 0) := rfl
theorem s163_6 {l0 l1 l2 s0 s1 s2 : AV} {h : AH} : evL 163 6 [l0, l1, l2] [s0, s1, s2] h = evL 163 8 [l0, l1, l2] [I 8, s0, s1, s2] h := ev_go c163_6 rfl
theorem c163_8 : cd 163 8 = some (8, .iaload, 1, 0, 0, 0) := rfl
theorem s163_8 {l0 l1 l2 s2 s3 : AV} {s0 : Int} {s1 : Nat} {M : Mem} {P : PMem} (hk : kd s1 = 100) (h0 : 0 ≤ s0) (hn : s0.toNat < ln s1) : evL 163 8 [l0, l1, l2] [I s0, Rf s1, s2, s3] (Hp M P) = evL 163 9 [l0, l1, l2] [I (M s1 s0.toNat), s2, s3] (Hp M P) := e_iald c163_8 hk h0 hn
theorem c163_9 : cd 163 9 = some (9, .invokestatic 50, 3, 110, 0, 784) := rfl
theorem s163_9 {l0 l1 l2 : AV} {s0 s1 s2 : Int} {M : Mem} {P : PMem} : evL 163 9 [l0, l1, l2] [I s0, I s1, I s2] (Hp M P) = cont (evM 110 [I s2, I s1, I s0] (Hp M P)) (fun r h => evL 163 12 [l0, l1, l2] (rl r []) h) := e_callS (av := [I s2, I s1, I s0]) (rest := []) c163_9 rfl rfl rfl rfl rfl rfl
theorem c163_12 : cd 163 12 = some (12, .ifCond .eq 12, 3, 0, 0, 0) := rfl
theorem s163_12 {l0 l1 l2 : AV} {s0 : Int} {h : AH} : evL 163 12 [l0, l1, l2] [I s0] h = if s0 = 0 then evL 163 24 [l0, l1, l2] [] h else evL 163 15 [l0, l1, l2] [] h := e_if_eq c163_12 rfl rfl
theorem c163_15 : cd 163 15 = some (15, .iload_n 2, 1, 0, 0, 0) := rfl
theorem s163_15 {l0 l1 : AV} {l2 : Int} {h : AH} : evL 163 15 [l0, l1, I l2] [] h = evL 163 16 [l0, l1, I l2] [I l2] h := ev_go c163_15 rfl
theorem c163_16 : cd 163 16 = some (16, .iconst 0, 1, 0, 0, 0) := rfl
theorem s163_16 {l0 l1 l2 s0 : AV} {h : AH} : evL 163 16 [l0, l1, l2] [s0] h = evL 163 17 [l0, l1, l2] [I 0, s0] h := ev_go c163_16 rfl
theorem c163_17 : cd 163 17 = some (17, .iconst 2, 1, 0, 0, 0) := rfl
theorem s163_17 {l0 l1 l2 s0 s1 : AV} {h : AH} : evL 163 17 [l0, l1, l2] [s0, s1] h = evL 163 18 [l0, l1, l2] [I 2, s0, s1] h := ev_go c163_17 rfl
theorem c163_18 : cd 163 18 = some (18, .invokestatic 50, 3, 110, 0, 784) := rfl
theorem s163_18 {l0 l1 l2 : AV} {s0 s1 s2 : Int} {M : Mem} {P : PMem} : evL 163 18 [l0, l1, l2] [I s0, I s1, I s2] (Hp M P) = cont (evM 110 [I s2, I s1, I s0] (Hp M P)) (fun r h => evL 163 21 [l0, l1, l2] (rl r []) h) := e_callS (av := [I s2, I s1, I s0]) (rest := []) c163_18 rfl rfl rfl rfl rfl rfl
theorem c163_21 : cd 163 21 = some (21, .ifCond .ne 5, 3, 0, 0, 0) := rfl
theorem s163_21 {l0 l1 l2 : AV} {s0 : Int} {h : AH} : evL 163 21 [l0, l1, l2] [I s0] h = if s0 = 0 then evL 163 24 [l0, l1, l2] [] h else evL 163 26 [l0, l1, l2] [] h := e_if_ne c163_21 rfl rfl
theorem c163_24 : cd 163 24 = some (24, .iconst (-1), 1, 0, 0, 0) := rfl
theorem s163_24 {l0 l1 l2 : AV} {h : AH} : evL 163 24 [l0, l1, l2] [] h = evL 163 25 [l0, l1, l2] [I (-1)] h := ev_go c163_24 rfl
theorem c163_25 : cd 163 25 = some (25, .ireturn, 1, 0, 0, 0) := rfl
theorem s163_25 {l0 l1 l2 : AV} {s0 : Int} {h : AH} : evL 163 25 [l0, l1, l2] [I s0] h = some (some (I s0), h) := e_ret c163_25 rfl
theorem c163_26 : cd 163 26 = some (26, .iload_n 2, 1, 0, 0, 0) := rfl
theorem s163_26 {l0 l1 : AV} {l2 : Int} {h : AH} : evL 163 26 [l0, l1, I l2] [] h = evL 163 27 [l0, l1, I l2] [I l2] h := ev_go c163_26 rfl
theorem c163_27 : cd 163 27 = some (27, .ifCond .ne 14, 3, 0, 0, 0) := rfl
theorem s163_27 {l0 l1 l2 : AV} {s0 : Int} {h : AH} : evL 163 27 [l0, l1, l2] [I s0] h = if s0 = 0 then evL 163 30 [l0, l1, l2] [] h else evL 163 41 [l0, l1, l2] [] h := e_if_ne c163_27 rfl rfl
theorem c163_30 : cd 163 30 = some (30, .aload_n 0, 1, 0, 0, 0) := rfl
theorem s163_30 {l1 l2 : AV} {l0 : Option Nat} {h : AH} : evL 163 30 [.inr (.inl l0), l1, l2] [] h = evL 163 31 [.inr (.inl l0), l1, l2] [.inr (.inl l0)] h := ev_go c163_30 rfl
theorem c163_31 : cd 163 31 = some (31, .iload_n 1, 1, 0, 0, 0) := rfl
theorem s163_31 {l0 l2 s0 : AV} {l1 : Int} {h : AH} : evL 163 31 [l0, I l1, l2] [s0] h = evL 163 32 [l0, I l1, l2] [I l1, s0] h := ev_go c163_31 rfl
theorem c163_32 : cd 163 32 = some (32, .invokevirtual 63, 3, 119, 0, 842) := rfl
theorem s163_32 {l0 l1 l2 : AV} {s0 : Int} {s1 : Nat} {M : Mem} {P : PMem} (hk : kd s1 = 8) : evL 163 32 [l0, l1, l2] [I s0, Rf s1] (Hp M P) = cont (evM 119 [Rf s1, I s0] (Hp M P)) (fun r h => evL 163 35 [l0, l1, l2] (rl r []) h) := e_callV (av' := [I s0]) (rest := []) (c := 8) c163_32 rfl rfl rfl rfl rfl rfl rfl hk rfl
theorem c163_35 : cd 163 35 = some (35, .invokestatic 43, 3, 113, 0, 873) := rfl
theorem s163_35 {l0 l1 l2 : AV} {s0 : Int} {M : Mem} {P : PMem} : evL 163 35 [l0, l1, l2] [I s0] (Hp M P) = cont (evM 113 [I s0] (Hp M P)) (fun r h => evL 163 38 [l0, l1, l2] (rl r []) h) := e_callS (av := [I s0]) (rest := []) c163_35 rfl rfl rfl rfl rfl rfl
theorem c163_38 : cd 163 38 = some (38, .goto 24, 3, 0, 0, 0) := rfl
theorem s163_38 {l0 l1 l2 s0 : AV} {h : AH} : evL 163 38 [l0, l1, l2] [s0] h = evL 163 62 [l0, l1, l2] [s0] h := ev_go c163_38 rfl
theorem c163_41 : cd 163 41 = some (41, .iload_n 2, 1, 0, 0, 0) := rfl
theorem s163_41 {l0 l1 : AV} {l2 : Int} {h : AH} : evL 163 41 [l0, l1, I l2] [] h = evL 163 42 [l0, l1, I l2] [I l2] h := ev_go c163_41 rfl
theorem c163_42 : cd 163 42 = some (42, .iconst 1, 1, 0, 0, 0) := rfl
theorem s163_42 {l0 l1 l2 s0 : AV} {h : AH} : evL 163 42 [l0, l1, l2] [s0] h = evL 163 43 [l0, l1, l2] [I 1, s0] h := ev_go c163_42 rfl
theorem c163_43 : cd 163 43 = some (43, .if_icmp .ne 14, 3, 0, 0, 0) := rfl
theorem s163_43 {l0 l1 l2 : AV} {s0 s1 : Int} {h : AH} : evL 163 43 [l0, l1, l2] [I s0, I s1] h = if s1 = s0 then evL 163 46 [l0, l1, l2] [] h else evL 163 57 [l0, l1, l2] [] h := e_icmp_ne c163_43 rfl rfl
theorem c163_46 : cd 163 46 = some (46, .aload_n 0, 1, 0, 0, 0) := rfl
theorem s163_46 {l1 l2 : AV} {l0 : Option Nat} {h : AH} : evL 163 46 [.inr (.inl l0), l1, l2] [] h = evL 163 47 [.inr (.inl l0), l1, l2] [.inr (.inl l0)] h := ev_go c163_46 rfl
theorem c163_47 : cd 163 47 = some (47, .iload_n 1, 1, 0, 0, 0) := rfl
theorem s163_47 {l0 l2 s0 : AV} {l1 : Int} {h : AH} : evL 163 47 [l0, I l1, l2] [s0] h = evL 163 48 [l0, I l1, l2] [I l1, s0] h := ev_go c163_47 rfl
theorem c163_48 : cd 163 48 = some (48, .invokevirtual 63, 3, 119, 0, 842) := rfl
theorem s163_48 {l0 l1 l2 : AV} {s0 : Int} {s1 : Nat} {M : Mem} {P : PMem} (hk : kd s1 = 8) : evL 163 48 [l0, l1, l2] [I s0, Rf s1] (Hp M P) = cont (evM 119 [Rf s1, I s0] (Hp M P)) (fun r h => evL 163 51 [l0, l1, l2] (rl r []) h) := e_callV (av' := [I s0]) (rest := []) (c := 8) c163_48 rfl rfl rfl rfl rfl rfl rfl hk rfl
theorem c163_51 : cd 163 51 = some (51, .invokestatic 60, 3, 115, 0, 870) := rfl
theorem s163_51 {l0 l1 l2 : AV} {s0 : Int} {M : Mem} {P : PMem} : evL 163 51 [l0, l1, l2] [I s0] (Hp M P) = cont (evM 115 [I s0] (Hp M P)) (fun r h => evL 163 54 [l0, l1, l2] (rl r []) h) := e_callS (av := [I s0]) (rest := []) c163_51 rfl rfl rfl rfl rfl rfl
theorem c163_54 : cd 163 54 = some (54, .goto 8, 3, 0, 0, 0) := rfl
theorem s163_54 {l0 l1 l2 s0 : AV} {h : AH} : evL 163 54 [l0, l1, l2] [s0] h = evL 163 62 [l0, l1, l2] [s0] h := ev_go c163_54 rfl
theorem c163_57 : cd 163 57 = some (57, .aload_n 0, 1, 0, 0, 0) := rfl
theorem s163_57 {l1 l2 : AV} {l0 : Option Nat} {h : AH} : evL 163 57 [.inr (.inl l0), l1, l2] [] h = evL 163 58 [.inr (.inl l0), l1, l2] [.inr (.inl l0)] h := ev_go c163_57 rfl
theorem c163_58 : cd 163 58 = some (58, .iload_n 1, 1, 0, 0, 0) := rfl
theorem s163_58 {l0 l2 s0 : AV} {l1 : Int} {h : AH} : evL 163 58 [l0, I l1, l2] [s0] h = evL 163 59 [l0, I l1, l2] [I l1, s0] h := ev_go c163_58 rfl
theorem c163_59 : cd 163 59 = some (59, .invokevirtual 57, 3, 120, 0, 826) := rfl
theorem s163_59 {l0 l1 l2 : AV} {s0 : Int} {s1 : Nat} {M : Mem} {P : PMem} (hk : kd s1 = 8) : evL 163 59 [l0, l1, l2] [I s0, Rf s1] (Hp M P) = cont (evM 120 [Rf s1, I s0] (Hp M P)) (fun r h => evL 163 62 [l0, l1, l2] (rl r []) h) := e_callV (av' := [I s0]) (rest := []) (c := 8) c163_59 rfl rfl rfl rfl rfl rfl rfl hk rfl
theorem c163_62 : cd 163 62 = some (62, .ireturn, 1, 0, 0, 0) := rfl
theorem s163_62 {l0 l1 l2 : AV} {s0 : Int} {h : AH} : evL 163 62 [l0, l1, l2] [I s0] h = some (some (I s0), h) := e_ret c163_62 rfl
/-! 164: TankDiversModel.blank()I -/
theorem en164 {l0 : AV} {h : AH} : evM 164 [l0] h = evL 164 0 [l0, Db 0, Db 0] [] h := rfl
theorem c164_0 : cd 164 0 = some (0, .iconst 0, 1, 0, 0, 0) := rfl
theorem s164_0 {l0 l1 l2 : AV} {h : AH} : evL 164 0 [l0, l1, l2] [] h = evL 164 1 [l0, l1, l2] [I 0] h := ev_go c164_0 rfl
theorem c164_1 : cd 164 1 = some (1, .istore_n 1, 1, 0, 0, 0) := rfl
theorem s164_1 {l0 l1 l2 : AV} {s0 : Int} {h : AH} : evL 164 1 [l0, l1, l2] [I s0] h = evL 164 2 [l0, I s0, l2] [] h := ev_go c164_1 rfl
theorem c164_2 : cd 164 2 = some (2, .iconst 1, 1, 0, 0, 0) := rfl
theorem s164_2 {l0 l1 l2 : AV} {h : AH} : evL 164 2 [l0, l1, l2] [] h = evL 164 3 [l0, l1, l2] [I 1] h := ev_go c164_2 rfl
theorem c164_3 : cd 164 3 = some (3, .istore_n 2, 1, 0, 0, 0) := rfl
theorem s164_3 {l0 l1 l2 : AV} {s0 : Int} {h : AH} : evL 164 3 [l0, l1, l2] [I s0] h = evL 164 4 [l0, l1, I s0] [] h := ev_go c164_3 rfl
theorem c164_4 : cd 164 4 = some (4, .iload_n 2, 1, 0, 0, 0) := rfl
theorem s164_4 {l0 l1 : AV} {l2 : Int} {h : AH} : evL 164 4 [l0, l1, I l2] [] h = evL 164 5 [l0, l1, I l2] [I l2] h := ev_go c164_4 rfl
theorem c164_5 : cd 164 5 = some (5, .aload_n 0, 1, 0, 0, 0) := rfl
theorem s164_5 {l1 l2 s0 : AV} {l0 : Option Nat} {h : AH} : evL 164 5 [.inr (.inl l0), l1, l2] [s0] h = evL 164 6 [.inr (.inl l0), l1, l2] [.inr (.inl l0), s0] h := ev_go c164_5 rfl
theorem c164_6 : cd 164 6 = some (6, .getfield 7, 3, 8, 0, 725) := rfl
theorem s164_6 {l0 l1 l2 s1 : AV} {s0 : Nat} {M : Mem} {P : PMem} (hk : kd s0 = 8) : evL 164 6 [l0, l1, l2] [Rf s0, s1] (Hp M P) = evL 164 9 [l0, l1, l2] [Rf (rfd s0 0), s1] (Hp M P) := e_getR c164_6 rfl hk
theorem c164_9 : cd 164 9 = some (9, .bipush 8, 2, 0, 0, 0) := rfl
theorem s164_9 {l0 l1 l2 s0 s1 : AV} {h : AH} : evL 164 9 [l0, l1, l2] [s0, s1] h = evL 164 11 [l0, l1, l2] [I 8, s0, s1] h := ev_go c164_9 rfl
theorem c164_11 : cd 164 11 = some (11, .iaload, 1, 0, 0, 0) := rfl
theorem s164_11 {l0 l1 l2 s2 : AV} {s0 : Int} {s1 : Nat} {M : Mem} {P : PMem} (hk : kd s1 = 100) (h0 : 0 ≤ s0) (hn : s0.toNat < ln s1) : evL 164 11 [l0, l1, l2] [I s0, Rf s1, s2] (Hp M P) = evL 164 12 [l0, l1, l2] [I (M s1 s0.toNat), s2] (Hp M P) := e_iald c164_11 hk h0 hn
theorem c164_12 : cd 164 12 = some (12, .if_icmp .gt 25, 3, 0, 0, 0) := rfl
theorem s164_12 {l0 l1 l2 : AV} {s0 s1 : Int} {h : AH} : evL 164 12 [l0, l1, l2] [I s0, I s1] h = if s0 < s1 then evL 164 37 [l0, l1, l2] [] h else evL 164 15 [l0, l1, l2] [] h := e_icmp_gt c164_12 rfl rfl
theorem c164_15 : cd 164 15 = some (15, .iload_n 1, 1, 0, 0, 0) := rfl
theorem s164_15 {l0 l2 : AV} {l1 : Int} {h : AH} : evL 164 15 [l0, I l1, l2] [] h = evL 164 16 [l0, I l1, l2] [I l1] h := ev_go c164_15 rfl
theorem c164_16 : cd 164 16 = some (16, .aload_n 0, 1, 0, 0, 0) := rfl
theorem s164_16 {l1 l2 s0 : AV} {l0 : Option Nat} {h : AH} : evL 164 16 [.inr (.inl l0), l1, l2] [s0] h = evL 164 17 [.inr (.inl l0), l1, l2] [.inr (.inl l0), s0] h := ev_go c164_16 rfl
theorem c164_17 : cd 164 17 = some (17, .iload_n 2, 1, 0, 0, 0) := rfl
theorem s164_17 {l0 l1 s0 s1 : AV} {l2 : Int} {h : AH} : evL 164 17 [l0, l1, I l2] [s0, s1] h = evL 164 18 [l0, l1, I l2] [I l2, s0, s1] h := ev_go c164_17 rfl
theorem c164_18 : cd 164 18 = some (18, .invokevirtual 63, 3, 119, 0, 842) := rfl
theorem s164_18 {l0 l1 l2 s2 : AV} {s0 : Int} {s1 : Nat} {M : Mem} {P : PMem} (hk : kd s1 = 8) : evL 164 18 [l0, l1, l2] [I s0, Rf s1, s2] (Hp M P) = cont (evM 119 [Rf s1, I s0] (Hp M P)) (fun r h => evL 164 21 [l0, l1, l2] (rl r [s2]) h) := e_callV (av' := [I s0]) (rest := [s2]) (c := 8) c164_18 rfl rfl rfl rfl rfl rfl rfl hk rfl
theorem c164_21 : cd 164 21 = some (21, .ifCond .ne 7, 3, 0, 0, 0) := rfl
theorem s164_21 {l0 l1 l2 s1 : AV} {s0 : Int} {h : AH} : evL 164 21 [l0, l1, l2] [I s0, s1] h = if s0 = 0 then evL 164 24 [l0, l1, l2] [s1] h else evL 164 28 [l0, l1, l2] [s1] h := e_if_ne c164_21 rfl rfl
theorem c164_24 : cd 164 24 = some (24, .iconst 1, 1, 0, 0, 0) := rfl
theorem s164_24 {l0 l1 l2 s0 : AV} {h : AH} : evL 164 24 [l0, l1, l2] [s0] h = evL 164 25 [l0, l1, l2] [I 1, s0] h := ev_go c164_24 rfl
theorem c164_25 : cd 164 25 = some (25, .goto 4, 3, 0, 0, 0) := rfl
theorem s164_25 {l0 l1 l2 s0 s1 : AV} {h : AH} : evL 164 25 [l0, l1, l2] [s0, s1] h = evL 164 29 [l0, l1, l2] [s0, s1] h := ev_go c164_25 rfl
theorem c164_28 : cd 164 28 = some (28, .iconst 0, 1, 0, 0, 0) := rfl
theorem s164_28 {l0 l1 l2 s0 : AV} {h : AH} : evL 164 28 [l0, l1, l2] [s0] h = evL 164 29 [l0, l1, l2] [I 0, s0] h := ev_go c164_28 rfl
theorem c164_29 : cd 164 29 = some (29, .iadd, 1, 0, 0, 0) := rfl
theorem s164_29 {l0 l1 l2 : AV} {s0 s1 : Int} {h : AH} : evL 164 29 [l0, l1, l2] [I s0, I s1] h = evL 164 30 [l0, l1, l2] [I (ad s1 s0)] h := ev_go c164_29 rfl
theorem c164_30 : cd 164 30 = some (30, .istore_n 1, 1, 0, 0, 0) := rfl
theorem s164_30 {l0 l1 l2 : AV} {s0 : Int} {h : AH} : evL 164 30 [l0, l1, l2] [I s0] h = evL 164 31 [l0, I s0, l2] [] h := ev_go c164_30 rfl
theorem c164_31 : cd 164 31 = some (31, .iinc 2 1, 3, 0, 0, 0) := rfl
theorem s164_31 {l0 l1 : AV} {l2 : Int} {h : AH} : evL 164 31 [l0, l1, I l2] [] h = evL 164 34 [l0, l1, I (ad l2 1)] [] h := ev_go c164_31 rfl
theorem c164_34 : cd 164 34 = some (34, .goto (-30), 3, 0, 0, 0) := rfl
theorem s164_34 {l0 l1 l2 : AV} {h : AH} : evL 164 34 [l0, l1, l2] [] h = evL 164 4 [l0, l1, l2] [] h := ev_go c164_34 rfl
theorem c164_37 : cd 164 37 = some (37, .iload_n 1, 1, 0, 0, 0) := rfl
theorem s164_37 {l0 l2 : AV} {l1 : Int} {h : AH} : evL 164 37 [l0, I l1, l2] [] h = evL 164 38 [l0, I l1, l2] [I l1] h := ev_go c164_37 rfl
theorem c164_38 : cd 164 38 = some (38, .ireturn, 1, 0, 0, 0) := rfl
theorem s164_38 {l0 l1 l2 : AV} {s0 : Int} {h : AH} : evL 164 38 [l0, l1, l2] [I s0] h = some (some (I s0), h) := e_ret c164_38 rfl
/-! 165: TankDiversModel.count(I)I -/
theorem en165 {l0 l1 : AV} {h : AH} : evM 165 [l0, l1] h = evL 165 0 [l0, l1] [] h := rfl
theorem c165_0 : cd 165 0 = some (0, .iload_n 1, 1, 0, 0, 0) := rfl
theorem s165_0 {l0 : AV} {l1 : Int} {h : AH} : evL 165 0 [l0, I l1] [] h = evL 165 1 [l0, I l1] [I l1] h := ev_go c165_0 rfl
theorem c165_1 : cd 165 1 = some (1, .tableswitch 193 0 15 #[79, 86, 94, 101, 123, 130, 137, 142, 147, 152, 157, 160, 168, 176, 183, 188], 79, 0, 0, 0) := rfl
theorem s165_1_0 {l0 l1 : AV} {h : AH} : evL 165 1 [l0, l1] [I 0] h = evL 165 80 [l0, l1] [] h := ev_go c165_1 rfl
theorem s165_1_1 {l0 l1 : AV} {h : AH} : evL 165 1 [l0, l1] [I 1] h = evL 165 87 [l0, l1] [] h := ev_go c165_1 rfl
theorem s165_1_2 {l0 l1 : AV} {h : AH} : evL 165 1 [l0, l1] [I 2] h = evL 165 95 [l0, l1] [] h := ev_go c165_1 rfl
theorem s165_1_3 {l0 l1 : AV} {h : AH} : evL 165 1 [l0, l1] [I 3] h = evL 165 102 [l0, l1] [] h := ev_go c165_1 rfl
theorem s165_1_4 {l0 l1 : AV} {h : AH} : evL 165 1 [l0, l1] [I 4] h = evL 165 124 [l0, l1] [] h := ev_go c165_1 rfl
theorem s165_1_5 {l0 l1 : AV} {h : AH} : evL 165 1 [l0, l1] [I 5] h = evL 165 131 [l0, l1] [] h := ev_go c165_1 rfl
theorem s165_1_6 {l0 l1 : AV} {h : AH} : evL 165 1 [l0, l1] [I 6] h = evL 165 138 [l0, l1] [] h := ev_go c165_1 rfl
theorem s165_1_7 {l0 l1 : AV} {h : AH} : evL 165 1 [l0, l1] [I 7] h = evL 165 143 [l0, l1] [] h := ev_go c165_1 rfl
theorem s165_1_8 {l0 l1 : AV} {h : AH} : evL 165 1 [l0, l1] [I 8] h = evL 165 148 [l0, l1] [] h := ev_go c165_1 rfl
theorem s165_1_9 {l0 l1 : AV} {h : AH} : evL 165 1 [l0, l1] [I 9] h = evL 165 153 [l0, l1] [] h := ev_go c165_1 rfl
theorem s165_1_10 {l0 l1 : AV} {h : AH} : evL 165 1 [l0, l1] [I 10] h = evL 165 158 [l0, l1] [] h := ev_go c165_1 rfl
theorem s165_1_11 {l0 l1 : AV} {h : AH} : evL 165 1 [l0, l1] [I 11] h = evL 165 161 [l0, l1] [] h := ev_go c165_1 rfl
theorem s165_1_12 {l0 l1 : AV} {h : AH} : evL 165 1 [l0, l1] [I 12] h = evL 165 169 [l0, l1] [] h := ev_go c165_1 rfl
theorem s165_1_13 {l0 l1 : AV} {h : AH} : evL 165 1 [l0, l1] [I 13] h = evL 165 177 [l0, l1] [] h := ev_go c165_1 rfl
theorem s165_1_14 {l0 l1 : AV} {h : AH} : evL 165 1 [l0, l1] [I 14] h = evL 165 184 [l0, l1] [] h := ev_go c165_1 rfl
theorem s165_1_15 {l0 l1 : AV} {h : AH} : evL 165 1 [l0, l1] [I 15] h = evL 165 189 [l0, l1] [] h := ev_go c165_1 rfl
theorem s165_1_d {l0 l1 : AV} {h : AH} {s0 : Int} (hx : s0 < 0 ∨ 15 < s0) : evL 165 1 [l0, l1] [I s0] h = evL 165 194 [l0, l1] [] h := ev_go c165_1 (if_pos hx)
theorem c165_80 : cd 165 80 = some (80, .aload_n 0, 1, 0, 0, 0) := rfl
theorem s165_80 {l1 : AV} {l0 : Option Nat} {h : AH} : evL 165 80 [.inr (.inl l0), l1] [] h = evL 165 81 [.inr (.inl l0), l1] [.inr (.inl l0)] h := ev_go c165_80 rfl
theorem c165_81 : cd 165 81 = some (81, .getfield 7, 3, 8, 0, 725) := rfl
theorem s165_81 {l0 l1 : AV} {s0 : Nat} {M : Mem} {P : PMem} (hk : kd s0 = 8) : evL 165 81 [l0, l1] [Rf s0] (Hp M P) = evL 165 84 [l0, l1] [Rf (rfd s0 0)] (Hp M P) := e_getR c165_81 rfl hk
theorem c165_84 : cd 165 84 = some (84, .iconst 0, 1, 0, 0, 0) := rfl
theorem s165_84 {l0 l1 s0 : AV} {h : AH} : evL 165 84 [l0, l1] [s0] h = evL 165 85 [l0, l1] [I 0, s0] h := ev_go c165_84 rfl
theorem c165_85 : cd 165 85 = some (85, .iaload, 1, 0, 0, 0) := rfl
theorem s165_85 {l0 l1 : AV} {s0 : Int} {s1 : Nat} {M : Mem} {P : PMem} (hk : kd s1 = 100) (h0 : 0 ≤ s0) (hn : s0.toNat < ln s1) : evL 165 85 [l0, l1] [I s0, Rf s1] (Hp M P) = evL 165 86 [l0, l1] [I (M s1 s0.toNat)] (Hp M P) := e_iald c165_85 hk h0 hn
theorem c165_86 : cd 165 86 = some (86, .ireturn, 1, 0, 0, 0) := rfl
theorem s165_86 {l0 l1 : AV} {s0 : Int} {h : AH} : evL 165 86 [l0, l1] [I s0] h = some (some (I s0), h) := e_ret c165_86 rfl
theorem c165_87 : cd 165 87 = some (87, .aload_n 0, 1, 0, 0, 0) := rfl
theorem s165_87 {l1 : AV} {l0 : Option Nat} {h : AH} : evL 165 87 [.inr (.inl l0), l1] [] h = evL 165 88 [.inr (.inl l0), l1] [.inr (.inl l0)] h := ev_go c165_87 rfl
theorem c165_88 : cd 165 88 = some (88, .getfield 7, 3, 8, 0, 725) := rfl
theorem s165_88 {l0 l1 : AV} {s0 : Nat} {M : Mem} {P : PMem} (hk : kd s0 = 8) : evL 165 88 [l0, l1] [Rf s0] (Hp M P) = evL 165 91 [l0, l1] [Rf (rfd s0 0)] (Hp M P) := e_getR c165_88 rfl hk
theorem c165_91 : cd 165 91 = some (91, .bipush 8, 2, 0, 0, 0) := rfl
theorem s165_91 {l0 l1 s0 : AV} {h : AH} : evL 165 91 [l0, l1] [s0] h = evL 165 93 [l0, l1] [I 8, s0] h := ev_go c165_91 rfl
theorem c165_93 : cd 165 93 = some (93, .iaload, 1, 0, 0, 0) := rfl
theorem s165_93 {l0 l1 : AV} {s0 : Int} {s1 : Nat} {M : Mem} {P : PMem} (hk : kd s1 = 100) (h0 : 0 ≤ s0) (hn : s0.toNat < ln s1) : evL 165 93 [l0, l1] [I s0, Rf s1] (Hp M P) = evL 165 94 [l0, l1] [I (M s1 s0.toNat)] (Hp M P) := e_iald c165_93 hk h0 hn
theorem c165_94 : cd 165 94 = some (94, .ireturn, 1, 0, 0, 0) := rfl
theorem s165_94 {l0 l1 : AV} {s0 : Int} {h : AH} : evL 165 94 [l0, l1] [I s0] h = some (some (I s0), h) := e_ret c165_94 rfl
theorem c165_95 : cd 165 95 = some (95, .aload_n 0, 1, 0, 0, 0) := rfl
theorem s165_95 {l1 : AV} {l0 : Option Nat} {h : AH} : evL 165 95 [.inr (.inl l0), l1] [] h = evL 165 96 [.inr (.inl l0), l1] [.inr (.inl l0)] h := ev_go c165_95 rfl
theorem c165_96 : cd 165 96 = some (96, .getfield 7, 3, 8, 0, 725) := rfl
theorem s165_96 {l0 l1 : AV} {s0 : Nat} {M : Mem} {P : PMem} (hk : kd s0 = 8) : evL 165 96 [l0, l1] [Rf s0] (Hp M P) = evL 165 99 [l0, l1] [Rf (rfd s0 0)] (Hp M P) := e_getR c165_96 rfl hk
theorem c165_99 : cd 165 99 = some (99, .iconst 1, 1, 0, 0, 0) := rfl
theorem s165_99 {l0 l1 s0 : AV} {h : AH} : evL 165 99 [l0, l1] [s0] h = evL 165 100 [l0, l1] [I 1, s0] h := ev_go c165_99 rfl
theorem c165_100 : cd 165 100 = some (100, .iaload, 1, 0, 0, 0) := rfl
theorem s165_100 {l0 l1 : AV} {s0 : Int} {s1 : Nat} {M : Mem} {P : PMem} (hk : kd s1 = 100) (h0 : 0 ≤ s0) (hn : s0.toNat < ln s1) : evL 165 100 [l0, l1] [I s0, Rf s1] (Hp M P) = evL 165 101 [l0, l1] [I (M s1 s0.toNat)] (Hp M P) := e_iald c165_100 hk h0 hn
theorem c165_101 : cd 165 101 = some (101, .ireturn, 1, 0, 0, 0) := rfl
theorem s165_101 {l0 l1 : AV} {s0 : Int} {h : AH} : evL 165 101 [l0, l1] [I s0] h = some (some (I s0), h) := e_ret c165_101 rfl
theorem c165_102 : cd 165 102 = some (102, .aload_n 0, 1, 0, 0, 0) := rfl
theorem s165_102 {l1 : AV} {l0 : Option Nat} {h : AH} : evL 165 102 [.inr (.inl l0), l1] [] h = evL 165 103 [.inr (.inl l0), l1] [.inr (.inl l0)] h := ev_go c165_102 rfl
theorem c165_103 : cd 165 103 = some (103, .getfield 7, 3, 8, 0, 725) := rfl
theorem s165_103 {l0 l1 : AV} {s0 : Nat} {M : Mem} {P : PMem} (hk : kd s0 = 8) : evL 165 103 [l0, l1] [Rf s0] (Hp M P) = evL 165 106 [l0, l1] [Rf (rfd s0 0)] (Hp M P) := e_getR c165_103 rfl hk
theorem c165_106 : cd 165 106 = some (106, .iconst 3, 1, 0, 0, 0) := rfl
theorem s165_106 {l0 l1 s0 : AV} {h : AH} : evL 165 106 [l0, l1] [s0] h = evL 165 107 [l0, l1] [I 3, s0] h := ev_go c165_106 rfl
theorem c165_107 : cd 165 107 = some (107, .iaload, 1, 0, 0, 0) := rfl
theorem s165_107 {l0 l1 : AV} {s0 : Int} {s1 : Nat} {M : Mem} {P : PMem} (hk : kd s1 = 100) (h0 : 0 ≤ s0) (hn : s0.toNat < ln s1) : evL 165 107 [l0, l1] [I s0, Rf s1] (Hp M P) = evL 165 108 [l0, l1] [I (M s1 s0.toNat)] (Hp M P) := e_iald c165_107 hk h0 hn
theorem c165_108 : cd 165 108 = some (108, .iconst 2, 1, 0, 0, 0) := rfl
theorem s165_108 {l0 l1 s0 : AV} {h : AH} : evL 165 108 [l0, l1] [s0] h = evL 165 109 [l0, l1] [I 2, s0] h := ev_go c165_108 rfl
theorem c165_109 : cd 165 109 = some (109, .if_icmp .ne 8, 3, 0, 0, 0) := rfl
theorem s165_109 {l0 l1 : AV} {s0 s1 : Int} {h : AH} : evL 165 109 [l0, l1] [I s0, I s1] h = if s1 = s0 then evL 165 112 [l0, l1] [] h else evL 165 117 [l0, l1] [] h := e_icmp_ne c165_109 rfl rfl
theorem c165_112 : cd 165 112 = some (112, .bipush (-4), 2, 0, 0, 0) := rfl
theorem s165_112 {l0 l1 : AV} {h : AH} : evL 165 112 [l0, l1] [] h = evL 165 114 [l0, l1] [I (-4)] h := ev_go c165_112 rfl
theorem c165_114 : cd 165 114 = some (114, .goto 9, 3, 0, 0, 0) := rfl
theorem s165_114 {l0 l1 s0 : AV} {h : AH} : evL 165 114 [l0, l1] [s0] h = evL 165 123 [l0, l1] [s0] h := ev_go c165_114 rfl
theorem c165_117 : cd 165 117 = some (117, .aload_n 0, 1, 0, 0, 0) := rfl
theorem s165_117 {l1 : AV} {l0 : Option Nat} {h : AH} : evL 165 117 [.inr (.inl l0), l1] [] h = evL 165 118 [.inr (.inl l0), l1] [.inr (.inl l0)] h := ev_go c165_117 rfl
theorem c165_118 : cd 165 118 = some (118, .getfield 7, 3, 8, 0, 725) := rfl
theorem s165_118 {l0 l1 : AV} {s0 : Nat} {M : Mem} {P : PMem} (hk : kd s0 = 8) : evL 165 118 [l0, l1] [Rf s0] (Hp M P) = evL 165 121 [l0, l1] [Rf (rfd s0 0)] (Hp M P) := e_getR c165_118 rfl hk
theorem c165_121 : cd 165 121 = some (121, .iconst 2, 1, 0, 0, 0) := rfl
theorem s165_121 {l0 l1 s0 : AV} {h : AH} : evL 165 121 [l0, l1] [s0] h = evL 165 122 [l0, l1] [I 2, s0] h := ev_go c165_121 rfl
theorem c165_122 : cd 165 122 = some (122, .iaload, 1, 0, 0, 0) := rfl
theorem s165_122 {l0 l1 : AV} {s0 : Int} {s1 : Nat} {M : Mem} {P : PMem} (hk : kd s1 = 100) (h0 : 0 ≤ s0) (hn : s0.toNat < ln s1) : evL 165 122 [l0, l1] [I s0, Rf s1] (Hp M P) = evL 165 123 [l0, l1] [I (M s1 s0.toNat)] (Hp M P) := e_iald c165_122 hk h0 hn
theorem c165_123 : cd 165 123 = some (123, .ireturn, 1, 0, 0, 0) := rfl
theorem s165_123 {l0 l1 : AV} {s0 : Int} {h : AH} : evL 165 123 [l0, l1] [I s0] h = some (some (I s0), h) := e_ret c165_123 rfl
theorem c165_124 : cd 165 124 = some (124, .aload_n 0, 1, 0, 0, 0) := rfl
theorem s165_124 {l1 : AV} {l0 : Option Nat} {h : AH} : evL 165 124 [.inr (.inl l0), l1] [] h = evL 165 125 [.inr (.inl l0), l1] [.inr (.inl l0)] h := ev_go c165_124 rfl
theorem c165_125 : cd 165 125 = some (125, .getfield 7, 3, 8, 0, 725) := rfl
theorem s165_125 {l0 l1 : AV} {s0 : Nat} {M : Mem} {P : PMem} (hk : kd s0 = 8) : evL 165 125 [l0, l1] [Rf s0] (Hp M P) = evL 165 128 [l0, l1] [Rf (rfd s0 0)] (Hp M P) := e_getR c165_125 rfl hk
theorem c165_128 : cd 165 128 = some (128, .iconst 3, 1, 0, 0, 0) := rfl
theorem s165_128 {l0 l1 s0 : AV} {h : AH} : evL 165 128 [l0, l1] [s0] h = evL 165 129 [l0, l1] [I 3, s0] h := ev_go c165_128 rfl
theorem c165_129 : cd 165 129 = some (129, .iaload, 1, 0, 0, 0) := rfl
theorem s165_129 {l0 l1 : AV} {s0 : Int} {s1 : Nat} {M : Mem} {P : PMem} (hk : kd s1 = 100) (h0 : 0 ≤ s0) (hn : s0.toNat < ln s1) : evL 165 129 [l0, l1] [I s0, Rf s1] (Hp M P) = evL 165 130 [l0, l1] [I (M s1 s0.toNat)] (Hp M P) := e_iald c165_129 hk h0 hn
theorem c165_130 : cd 165 130 = some (130, .ireturn, 1, 0, 0, 0) := rfl
theorem s165_130 {l0 l1 : AV} {s0 : Int} {h : AH} : evL 165 130 [l0, l1] [I s0] h = some (some (I s0), h) := e_ret c165_130 rfl
theorem c165_131 : cd 165 131 = some (131, .aload_n 0, 1, 0, 0, 0) := rfl
theorem s165_131 {l1 : AV} {l0 : Option Nat} {h : AH} : evL 165 131 [.inr (.inl l0), l1] [] h = evL 165 132 [.inr (.inl l0), l1] [.inr (.inl l0)] h := ev_go c165_131 rfl
theorem c165_132 : cd 165 132 = some (132, .getfield 7, 3, 8, 0, 725) := rfl
theorem s165_132 {l0 l1 : AV} {s0 : Nat} {M : Mem} {P : PMem} (hk : kd s0 = 8) : evL 165 132 [l0, l1] [Rf s0] (Hp M P) = evL 165 135 [l0, l1] [Rf (rfd s0 0)] (Hp M P) := e_getR c165_132 rfl hk
theorem c165_135 : cd 165 135 = some (135, .iconst 4, 1, 0, 0, 0) := rfl
theorem s165_135 {l0 l1 s0 : AV} {h : AH} : evL 165 135 [l0, l1] [s0] h = evL 165 136 [l0, l1] [I 4, s0] h := ev_go c165_135 rfl
theorem c165_136 : cd 165 136 = some (136, .iaload, 1, 0, 0, 0) := rfl
theorem s165_136 {l0 l1 : AV} {s0 : Int} {s1 : Nat} {M : Mem} {P : PMem} (hk : kd s1 = 100) (h0 : 0 ≤ s0) (hn : s0.toNat < ln s1) : evL 165 136 [l0, l1] [I s0, Rf s1] (Hp M P) = evL 165 137 [l0, l1] [I (M s1 s0.toNat)] (Hp M P) := e_iald c165_136 hk h0 hn
theorem c165_137 : cd 165 137 = some (137, .ireturn, 1, 0, 0, 0) := rfl
theorem s165_137 {l0 l1 : AV} {s0 : Int} {h : AH} : evL 165 137 [l0, l1] [I s0] h = some (some (I s0), h) := e_ret c165_137 rfl
theorem c165_138 : cd 165 138 = some (138, .aload_n 0, 1, 0, 0, 0) := rfl
theorem s165_138 {l1 : AV} {l0 : Option Nat} {h : AH} : evL 165 138 [.inr (.inl l0), l1] [] h = evL 165 139 [.inr (.inl l0), l1] [.inr (.inl l0)] h := ev_go c165_138 rfl
theorem c165_139 : cd 165 139 = some (139, .invokevirtual 190, 3, 164, 0, 967) := rfl
theorem s165_139 {l0 l1 : AV} {s0 : Nat} {M : Mem} {P : PMem} (hk : kd s0 = 8) : evL 165 139 [l0, l1] [Rf s0] (Hp M P) = cont (evM 164 [Rf s0] (Hp M P)) (fun r h => evL 165 142 [l0, l1] (rl r []) h) := e_callV (av' := []) (rest := []) (c := 8) c165_139 rfl rfl rfl rfl rfl rfl rfl hk rfl
theorem c165_142 : cd 165 142 = some (142, .ireturn, 1, 0, 0, 0) := rfl
theorem s165_142 {l0 l1 : AV} {s0 : Int} {h : AH} : evL 165 142 [l0, l1] [I s0] h = some (some (I s0), h) := e_ret c165_142 rfl
theorem c165_143 : cd 165 143 = some (143, .aload_n 0, 1, 0, 0, 0) := rfl
theorem s165_143 {l1 : AV} {l0 : Option Nat} {h : AH} : evL 165 143 [.inr (.inl l0), l1] [] h = evL 165 144 [.inr (.inl l0), l1] [.inr (.inl l0)] h := ev_go c165_143 rfl
theorem c165_144 : cd 165 144 = some (144, .invokevirtual 193, 3, 124, 0, 971) := rfl
theorem s165_144 {l0 l1 : AV} {s0 : Nat} {M : Mem} {P : PMem} (hk : kd s0 = 8) : evL 165 144 [l0, l1] [Rf s0] (Hp M P) = cont (evM 124 [Rf s0] (Hp M P)) (fun r h => evL 165 147 [l0, l1] (rl r []) h) := e_callV (av' := []) (rest := []) (c := 8) c165_144 rfl rfl rfl rfl rfl rfl rfl hk rfl
theorem c165_147 : cd 165 147 = some (147, .ireturn, 1, 0, 0, 0) := rfl
theorem s165_147 {l0 l1 : AV} {s0 : Int} {h : AH} : evL 165 147 [l0, l1] [I s0] h = some (some (I s0), h) := e_ret c165_147 rfl
theorem c165_148 : cd 165 148 = some (148, .aload_n 0, 1, 0, 0, 0) := rfl
theorem s165_148 {l1 : AV} {l0 : Option Nat} {h : AH} : evL 165 148 [.inr (.inl l0), l1] [] h = evL 165 149 [.inr (.inl l0), l1] [.inr (.inl l0)] h := ev_go c165_148 rfl
theorem c165_149 : cd 165 149 = some (149, .invokevirtual 196, 3, 125, 0, 975) := rfl
theorem s165_149 {l0 l1 : AV} {s0 : Nat} {M : Mem} {P : PMem} (hk : kd s0 = 8) : evL 165 149 [l0, l1] [Rf s0] (Hp M P) = cont (evM 125 [Rf s0] (Hp M P)) (fun r h => evL 165 152 [l0, l1] (rl r []) h) := e_callV (av' := []) (rest := []) (c := 8) c165_149 rfl rfl rfl rfl rfl rfl rfl hk rfl
theorem c165_152 : cd 165 152 = some (152, .ireturn, 1, 0, 0, 0) := rfl
theorem s165_152 {l0 l1 : AV} {s0 : Int} {h : AH} : evL 165 152 [l0, l1] [I s0] h = some (some (I s0), h) := e_ret c165_152 rfl
theorem c165_153 : cd 165 153 = some (153, .aload_n 0, 1, 0, 0, 0) := rfl
theorem s165_153 {l1 : AV} {l0 : Option Nat} {h : AH} : evL 165 153 [.inr (.inl l0), l1] [] h = evL 165 154 [.inr (.inl l0), l1] [.inr (.inl l0)] h := ev_go c165_153 rfl
theorem c165_154 : cd 165 154 = some (154, .invokevirtual 199, 3, 126, 0, 979) := rfl
theorem s165_154 {l0 l1 : AV} {s0 : Nat} {M : Mem} {P : PMem} (hk : kd s0 = 8) : evL 165 154 [l0, l1] [Rf s0] (Hp M P) = cont (evM 126 [Rf s0] (Hp M P)) (fun r h => evL 165 157 [l0, l1] (rl r []) h) := e_callV (av' := []) (rest := []) (c := 8) c165_154 rfl rfl rfl rfl rfl rfl rfl hk rfl
theorem c165_157 : cd 165 157 = some (157, .ireturn, 1, 0, 0, 0) := rfl
theorem s165_157 {l0 l1 : AV} {s0 : Int} {h : AH} : evL 165 157 [l0, l1] [I s0] h = some (some (I s0), h) := e_ret c165_157 rfl
theorem c165_158 : cd 165 158 = some (158, .bipush 16, 2, 0, 0, 0) := rfl
theorem s165_158 {l0 l1 : AV} {h : AH} : evL 165 158 [l0, l1] [] h = evL 165 160 [l0, l1] [I 16] h := ev_go c165_158 rfl
theorem c165_160 : cd 165 160 = some (160, .ireturn, 1, 0, 0, 0) := rfl
theorem s165_160 {l0 l1 : AV} {s0 : Int} {h : AH} : evL 165 160 [l0, l1] [I s0] h = some (some (I s0), h) := e_ret c165_160 rfl
theorem c165_161 : cd 165 161 = some (161, .aload_n 0, 1, 0, 0, 0) := rfl
theorem s165_161 {l1 : AV} {l0 : Option Nat} {h : AH} : evL 165 161 [.inr (.inl l0), l1] [] h = evL 165 162 [.inr (.inl l0), l1] [.inr (.inl l0)] h := ev_go c165_161 rfl
theorem c165_162 : cd 165 162 = some (162, .getfield 7, 3, 8, 0, 725) := rfl
theorem s165_162 {l0 l1 : AV} {s0 : Nat} {M : Mem} {P : PMem} (hk : kd s0 = 8) : evL 165 162 [l0, l1] [Rf s0] (Hp M P) = evL 165 165 [l0, l1] [Rf (rfd s0 0)] (Hp M P) := e_getR c165_162 rfl hk
theorem c165_165 : cd 165 165 = some (165, .bipush 6, 2, 0, 0, 0) := rfl
theorem s165_165 {l0 l1 s0 : AV} {h : AH} : evL 165 165 [l0, l1] [s0] h = evL 165 167 [l0, l1] [I 6, s0] h := ev_go c165_165 rfl
theorem c165_167 : cd 165 167 = some (167, .iaload, 1, 0, 0, 0) := rfl
theorem s165_167 {l0 l1 : AV} {s0 : Int} {s1 : Nat} {M : Mem} {P : PMem} (hk : kd s1 = 100) (h0 : 0 ≤ s0) (hn : s0.toNat < ln s1) : evL 165 167 [l0, l1] [I s0, Rf s1] (Hp M P) = evL 165 168 [l0, l1] [I (M s1 s0.toNat)] (Hp M P) := e_iald c165_167 hk h0 hn
theorem c165_168 : cd 165 168 = some (168, .ireturn, 1, 0, 0, 0) := rfl
theorem s165_168 {l0 l1 : AV} {s0 : Int} {h : AH} : evL 165 168 [l0, l1] [I s0] h = some (some (I s0), h) := e_ret c165_168 rfl
theorem c165_169 : cd 165 169 = some (169, .aload_n 0, 1, 0, 0, 0) := rfl
theorem s165_169 {l1 : AV} {l0 : Option Nat} {h : AH} : evL 165 169 [.inr (.inl l0), l1] [] h = evL 165 170 [.inr (.inl l0), l1] [.inr (.inl l0)] h := ev_go c165_169 rfl
theorem c165_170 : cd 165 170 = some (170, .getfield 7, 3, 8, 0, 725) := rfl
theorem s165_170 {l0 l1 : AV} {s0 : Nat} {M : Mem} {P : PMem} (hk : kd s0 = 8) : evL 165 170 [l0, l1] [Rf s0] (Hp M P) = evL 165 173 [l0, l1] [Rf (rfd s0 0)] (Hp M P) := e_getR c165_170 rfl hk
theorem c165_173 : cd 165 173 = some (173, .bipush 7, 2, 0, 0, 0) := rfl
theorem s165_173 {l0 l1 s0 : AV} {h : AH} : evL 165 173 [l0, l1] [s0] h = evL 165 175 [l0, l1] [I 7, s0] h := ev_go c165_173 rfl
theorem c165_175 : cd 165 175 = some (175, .iaload, 1, 0, 0, 0) := rfl
theorem s165_175 {l0 l1 : AV} {s0 : Int} {s1 : Nat} {M : Mem} {P : PMem} (hk : kd s1 = 100) (h0 : 0 ≤ s0) (hn : s0.toNat < ln s1) : evL 165 175 [l0, l1] [I s0, Rf s1] (Hp M P) = evL 165 176 [l0, l1] [I (M s1 s0.toNat)] (Hp M P) := e_iald c165_175 hk h0 hn
theorem c165_176 : cd 165 176 = some (176, .ireturn, 1, 0, 0, 0) := rfl
theorem s165_176 {l0 l1 : AV} {s0 : Int} {h : AH} : evL 165 176 [l0, l1] [I s0] h = some (some (I s0), h) := e_ret c165_176 rfl
theorem c165_177 : cd 165 177 = some (177, .aload_n 0, 1, 0, 0, 0) := rfl
theorem s165_177 {l1 : AV} {l0 : Option Nat} {h : AH} : evL 165 177 [.inr (.inl l0), l1] [] h = evL 165 178 [.inr (.inl l0), l1] [.inr (.inl l0)] h := ev_go c165_177 rfl
theorem c165_178 : cd 165 178 = some (178, .getfield 7, 3, 8, 0, 725) := rfl
theorem s165_178 {l0 l1 : AV} {s0 : Nat} {M : Mem} {P : PMem} (hk : kd s0 = 8) : evL 165 178 [l0, l1] [Rf s0] (Hp M P) = evL 165 181 [l0, l1] [Rf (rfd s0 0)] (Hp M P) := e_getR c165_178 rfl hk
theorem c165_181 : cd 165 181 = some (181, .iconst 5, 1, 0, 0, 0) := rfl
theorem s165_181 {l0 l1 s0 : AV} {h : AH} : evL 165 181 [l0, l1] [s0] h = evL 165 182 [l0, l1] [I 5, s0] h := ev_go c165_181 rfl
theorem c165_182 : cd 165 182 = some (182, .iaload, 1, 0, 0, 0) := rfl
theorem s165_182 {l0 l1 : AV} {s0 : Int} {s1 : Nat} {M : Mem} {P : PMem} (hk : kd s1 = 100) (h0 : 0 ≤ s0) (hn : s0.toNat < ln s1) : evL 165 182 [l0, l1] [I s0, Rf s1] (Hp M P) = evL 165 183 [l0, l1] [I (M s1 s0.toNat)] (Hp M P) := e_iald c165_182 hk h0 hn
theorem c165_183 : cd 165 183 = some (183, .ireturn, 1, 0, 0, 0) := rfl
theorem s165_183 {l0 l1 : AV} {s0 : Int} {h : AH} : evL 165 183 [l0, l1] [I s0] h = some (some (I s0), h) := e_ret c165_183 rfl
theorem c165_184 : cd 165 184 = some (184, .aload_n 0, 1, 0, 0, 0) := rfl
theorem s165_184 {l1 : AV} {l0 : Option Nat} {h : AH} : evL 165 184 [.inr (.inl l0), l1] [] h = evL 165 185 [.inr (.inl l0), l1] [.inr (.inl l0)] h := ev_go c165_184 rfl
theorem c165_185 : cd 165 185 = some (185, .getfield 145, 3, 8, 6, 731) := rfl
theorem s165_185 {l0 l1 : AV} {s0 : Nat} {M : Mem} {P : PMem} (hk : kd s0 = 8) : evL 165 185 [l0, l1] [Rf s0] (Hp M P) = evL 165 188 [l0, l1] [I (M s0 6)] (Hp M P) := e_getI c165_185 rfl hk
theorem c165_188 : cd 165 188 = some (188, .ireturn, 1, 0, 0, 0) := rfl
theorem s165_188 {l0 l1 : AV} {s0 : Int} {h : AH} : evL 165 188 [l0, l1] [I s0] h = some (some (I s0), h) := e_ret c165_188 rfl
theorem c165_189 : cd 165 189 = some (189, .aload_n 0, 1, 0, 0, 0) := rfl
theorem s165_189 {l1 : AV} {l0 : Option Nat} {h : AH} : evL 165 189 [.inr (.inl l0), l1] [] h = evL 165 190 [.inr (.inl l0), l1] [.inr (.inl l0)] h := ev_go c165_189 rfl
theorem c165_190 : cd 165 190 = some (190, .getfield 35, 3, 8, 2, 727) := rfl
theorem s165_190 {l0 l1 : AV} {s0 : Nat} {M : Mem} {P : PMem} (hk : kd s0 = 8) : evL 165 190 [l0, l1] [Rf s0] (Hp M P) = evL 165 193 [l0, l1] [I (M s0 2)] (Hp M P) := e_getI c165_190 rfl hk
theorem c165_193 : cd 165 193 = some (193, .ireturn, 1, 0, 0, 0) := rfl
theorem s165_193 {l0 l1 : AV} {s0 : Int} {h : AH} : evL 165 193 [l0, l1] [I s0] h = some (some (I s0), h) := e_ret c165_193 rfl
theorem c165_194 : cd 165 194 = some (194, .iconst (-1), 1, 0, 0, 0) := rfl
theorem s165_194 {l0 l1 : AV} {h : AH} : evL 165 194 [l0, l1] [] h = evL 165 195 [l0, l1] [I (-1)] h := ev_go c165_194 rfl
theorem c165_195 : cd 165 195 = some (195, .ireturn, 1, 0, 0, 0) := rfl
theorem s165_195 {l0 l1 : AV} {s0 : Int} {h : AH} : evL 165 195 [l0, l1] [I s0] h = some (some (I s0), h) := e_ret c165_195 rfl
/-! 166: TankDiversModel.leader()I -/
theorem en166 {l0 : AV} {h : AH} : evM 166 [l0] h = evL 166 0 [l0, Db 0, Db 0] [] h := rfl
theorem c166_0 : cd 166 0 = some (0, .iconst 0, 1, 0, 0, 0) := rfl
theorem s166_0 {l0 l1 l2 : AV} {h : AH} : evL 166 0 [l0, l1, l2] [] h = evL 166 1 [l0, l1, l2] [I 0] h := ev_go c166_0 rfl
theorem c166_1 : cd 166 1 = some (1, .istore_n 1, 1, 0, 0, 0) := rfl
theorem s166_1 {l0 l1 l2 : AV} {s0 : Int} {h : AH} : evL 166 1 [l0, l1, l2] [I s0] h = evL 166 2 [l0, I s0, l2] [] h := ev_go c166_1 rfl
theorem c166_2 : cd 166 2 = some (2, .iconst 1, 1, 0, 0, 0) := rfl
theorem s166_2 {l0 l1 l2 : AV} {h : AH} : evL 166 2 [l0, l1, l2] [] h = evL 166 3 [l0, l1, l2] [I 1] h := ev_go c166_2 rfl
theorem c166_3 : cd 166 3 = some (3, .istore_n 2, 1, 0, 0, 0) := rfl
theorem s166_3 {l0 l1 l2 : AV} {s0 : Int} {h : AH} : evL 166 3 [l0, l1, l2] [I s0] h = evL 166 4 [l0, l1, I s0] [] h := ev_go c166_3 rfl
theorem c166_4 : cd 166 4 = some (4, .iload_n 2, 1, 0, 0, 0) := rfl
theorem s166_4 {l0 l1 : AV} {l2 : Int} {h : AH} : evL 166 4 [l0, l1, I l2] [] h = evL 166 5 [l0, l1, I l2] [I l2] h := ev_go c166_4 rfl
theorem c166_5 : cd 166 5 = some (5, .aload_n 0, 1, 0, 0, 0) := rfl
theorem s166_5 {l1 l2 s0 : AV} {l0 : Option Nat} {h : AH} : evL 166 5 [.inr (.inl l0), l1, l2] [s0] h = evL 166 6 [.inr (.inl l0), l1, l2] [.inr (.inl l0), s0] h := ev_go c166_5 rfl
theorem c166_6 : cd 166 6 = some (6, .getfield 7, 3, 8, 0, 725) := rfl
theorem s166_6 {l0 l1 l2 s1 : AV} {s0 : Nat} {M : Mem} {P : PMem} (hk : kd s0 = 8) : evL 166 6 [l0, l1, l2] [Rf s0, s1] (Hp M P) = evL 166 9 [l0, l1, l2] [Rf (rfd s0 0), s1] (Hp M P) := e_getR c166_6 rfl hk
theorem c166_9 : cd 166 9 = some (9, .iconst 0, 1, 0, 0, 0) := rfl
theorem s166_9 {l0 l1 l2 s0 s1 : AV} {h : AH} : evL 166 9 [l0, l1, l2] [s0, s1] h = evL 166 10 [l0, l1, l2] [I 0, s0, s1] h := ev_go c166_9 rfl
theorem c166_10 : cd 166 10 = some (10, .iaload, 1, 0, 0, 0) := rfl
theorem s166_10 {l0 l1 l2 s2 : AV} {s0 : Int} {s1 : Nat} {M : Mem} {P : PMem} (hk : kd s1 = 100) (h0 : 0 ≤ s0) (hn : s0.toNat < ln s1) : evL 166 10 [l0, l1, l2] [I s0, Rf s1, s2] (Hp M P) = evL 166 11 [l0, l1, l2] [I (M s1 s0.toNat), s2] (Hp M P) := e_iald c166_10 hk h0 hn
theorem c166_11 : cd 166 11 = some (11, .if_icmp .ge 32, 3, 0, 0, 0) := rfl
theorem s166_11 {l0 l1 l2 : AV} {s0 s1 : Int} {h : AH} : evL 166 11 [l0, l1, l2] [I s0, I s1] h = if s0 ≤ s1 then evL 166 43 [l0, l1, l2] [] h else evL 166 14 [l0, l1, l2] [] h := e_icmp_ge c166_11 rfl rfl
theorem c166_14 : cd 166 14 = some (14, .aload_n 0, 1, 0, 0, 0) := rfl
theorem s166_14 {l1 l2 : AV} {l0 : Option Nat} {h : AH} : evL 166 14 [.inr (.inl l0), l1, l2] [] h = evL 166 15 [.inr (.inl l0), l1, l2] [.inr (.inl l0)] h := ev_go c166_14 rfl
theorem c166_15 : cd 166 15 = some (15, .iload_n 2, 1, 0, 0, 0) := rfl
theorem s166_15 {l0 l1 s0 : AV} {l2 : Int} {h : AH} : evL 166 15 [l0, l1, I l2] [s0] h = evL 166 16 [l0, l1, I l2] [I l2, s0] h := ev_go c166_15 rfl
theorem c166_16 : cd 166 16 = some (16, .bipush 10, 2, 0, 0, 0) := rfl
theorem s166_16 {l0 l1 l2 s0 s1 : AV} {h : AH} : evL 166 16 [l0, l1, l2] [s0, s1] h = evL 166 18 [l0, l1, l2] [I 10, s0, s1] h := ev_go c166_16 rfl
theorem c166_18 : cd 166 18 = some (18, .invokevirtual 54, 3, 116, 0, 806) := rfl
theorem s166_18 {l0 l1 l2 : AV} {s0 s1 : Int} {s2 : Nat} {M : Mem} {P : PMem} (hk : kd s2 = 8) : evL 166 18 [l0, l1, l2] [I s0, I s1, Rf s2] (Hp M P) = cont (evM 116 [Rf s2, I s1, I s0] (Hp M P)) (fun r h => evL 166 21 [l0, l1, l2] (rl r []) h) := e_callV (av' := [I s1, I s0]) (rest := []) (c := 8) c166_18 rfl rfl rfl rfl rfl rfl rfl hk rfl
theorem c166_21 : cd 166 21 = some (21, .aload_n 0, 1, 0, 0, 0) := rfl
theorem s166_21 {l1 l2 s0 : AV} {l0 : Option Nat} {h : AH} : evL 166 21 [.inr (.inl l0), l1, l2] [s0] h = evL 166 22 [.inr (.inl l0), l1, l2] [.inr (.inl l0), s0] h := ev_go c166_21 rfl
theorem c166_22 : cd 166 22 = some (22, .iload_n 1, 1, 0, 0, 0) := rfl
theorem s166_22 {l0 l2 s0 s1 : AV} {l1 : Int} {h : AH} : evL 166 22 [l0, I l1, l2] [s0, s1] h = evL 166 23 [l0, I l1, l2] [I l1, s0, s1] h := ev_go c166_22 rfl
theorem c166_23 : cd 166 23 = some (23, .bipush 10, 2, 0, 0, 0) := rfl
theorem s166_23 {l0 l1 l2 s0 s1 s2 : AV} {h : AH} : evL 166 23 [l0, l1, l2] [s0, s1, s2] h = evL 166 25 [l0, l1, l2] [I 10, s0, s1, s2] h := ev_go c166_23 rfl
theorem c166_25 : cd 166 25 = some (25, .invokevirtual 54, 3, 116, 0, 806) := rfl
theorem s166_25 {l0 l1 l2 s3 : AV} {s0 s1 : Int} {s2 : Nat} {M : Mem} {P : PMem} (hk : kd s2 = 8) : evL 166 25 [l0, l1, l2] [I s0, I s1, Rf s2, s3] (Hp M P) = cont (evM 116 [Rf s2, I s1, I s0] (Hp M P)) (fun r h => evL 166 28 [l0, l1, l2] (rl r [s3]) h) := e_callV (av' := [I s1, I s0]) (rest := [s3]) (c := 8) c166_25 rfl rfl rfl rfl rfl rfl rfl hk rfl
theorem c166_28 : cd 166 28 = some (28, .if_icmp .le 7, 3, 0, 0, 0) := rfl
theorem s166_28 {l0 l1 l2 : AV} {s0 s1 : Int} {h : AH} : evL 166 28 [l0, l1, l2] [I s0, I s1] h = if s1 ≤ s0 then evL 166 35 [l0, l1, l2] [] h else evL 166 31 [l0, l1, l2] [] h := e_icmp_le c166_28 rfl rfl
theorem c166_31 : cd 166 31 = some (31, .iload_n 2, 1, 0, 0, 0) := rfl
theorem s166_31 {l0 l1 : AV} {l2 : Int} {h : AH} : evL 166 31 [l0, l1, I l2] [] h = evL 166 32 [l0, l1, I l2] [I l2] h := ev_go c166_31 rfl
theorem c166_32 : cd 166 32 = some (32, .goto 4, 3, 0, 0, 0) := rfl
theorem s166_32 {l0 l1 l2 s0 : AV} {h : AH} : evL 166 32 [l0, l1, l2] [s0] h = evL 166 36 [l0, l1, l2] [s0] h := ev_go c166_32 rfl
theorem c166_35 : cd 166 35 = some (35, .iload_n 1, 1, 0, 0, 0) := rfl
theorem s166_35 {l0 l2 : AV} {l1 : Int} {h : AH} : evL 166 35 [l0, I l1, l2] [] h = evL 166 36 [l0, I l1, l2] [I l1] h := ev_go c166_35 rfl
theorem c166_36 : cd 166 36 = some (36, .istore_n 1, 1, 0, 0, 0) := rfl
theorem s166_36 {l0 l1 l2 : AV} {s0 : Int} {h : AH} : evL 166 36 [l0, l1, l2] [I s0] h = evL 166 37 [l0, I s0, l2] [] h := ev_go c166_36 rfl
theorem c166_37 : cd 166 37 = some (37, .iinc 2 1, 3, 0, 0, 0) := rfl
theorem s166_37 {l0 l1 : AV} {l2 : Int} {h : AH} : evL 166 37 [l0, l1, I l2] [] h = evL 166 40 [l0, l1, I (ad l2 1)] [] h := ev_go c166_37 rfl
theorem c166_40 : cd 166 40 = some (40, .goto (-36), 3, 0, 0, 0) := rfl
theorem s166_40 {l0 l1 l2 : AV} {h : AH} : evL 166 40 [l0, l1, l2] [] h = evL 166 4 [l0, l1, l2] [] h := ev_go c166_40 rfl
theorem c166_43 : cd 166 43 = some (43, .iload_n 1, 1, 0, 0, 0) := rfl
theorem s166_43 {l0 l2 : AV} {l1 : Int} {h : AH} : evL 166 43 [l0, I l1, l2] [] h = evL 166 44 [l0, I l1, l2] [I l1] h := ev_go c166_43 rfl
theorem c166_44 : cd 166 44 = some (44, .ireturn, 1, 0, 0, 0) := rfl
theorem s166_44 {l0 l1 l2 : AV} {s0 : Int} {h : AH} : evL 166 44 [l0, l1, l2] [I s0] h = some (some (I s0), h) := e_ret c166_44 rfl
/-! 167: TankDiversModel.throwsOf(I)I -/
theorem en167 {l0 : AV} {h : AH} : evM 167 [l0] h = evL 167 0 [l0] [] h := rfl
theorem c167_0 : cd 167 0 = some (0, .iload_n 0, 1, 0, 0, 0) := rfl
theorem s167_0 {l0 : Int} {h : AH} : evL 167 0 [I l0] [] h = evL 167 1 [I l0] [I l0] h := ev_go c167_0 rfl
theorem c167_1 : cd 167 1 = some (1, .iconst 4, 1, 0, 0, 0) := rfl
theorem s167_1 {l0 s0 : AV} {h : AH} : evL 167 1 [l0] [s0] h = evL 167 2 [l0] [I 4, s0] h := ev_go c167_1 rfl
theorem c167_2 : cd 167 2 = some (2, .if_icmp .ne 7, 3, 0, 0, 0) := rfl
theorem s167_2 {l0 : AV} {s0 s1 : Int} {h : AH} : evL 167 2 [l0] [I s0, I s1] h = if s1 = s0 then evL 167 5 [l0] [] h else evL 167 9 [l0] [] h := e_icmp_ne c167_2 rfl rfl
theorem c167_5 : cd 167 5 = some (5, .iconst 3, 1, 0, 0, 0) := rfl
theorem s167_5 {l0 : AV} {h : AH} : evL 167 5 [l0] [] h = evL 167 6 [l0] [I 3] h := ev_go c167_5 rfl
theorem c167_6 : cd 167 6 = some (6, .goto 18, 3, 0, 0, 0) := rfl
theorem s167_6 {l0 s0 : AV} {h : AH} : evL 167 6 [l0] [s0] h = evL 167 24 [l0] [s0] h := ev_go c167_6 rfl
theorem c167_9 : cd 167 9 = some (9, .iload_n 0, 1, 0, 0, 0) := rfl
theorem s167_9 {l0 : Int} {h : AH} : evL 167 9 [I l0] [] h = evL 167 10 [I l0] [I l0] h := ev_go c167_9 rfl
theorem c167_10 : cd 167 10 = some (10, .iconst 3, 1, 0, 0, 0) := rfl
theorem s167_10 {l0 s0 : AV} {h : AH} : evL 167 10 [l0] [s0] h = evL 167 11 [l0] [I 3, s0] h := ev_go c167_10 rfl
theorem c167_11 : cd 167 11 = some (11, .if_icmp .eq 8, 3, 0, 0, 0) := rfl
theorem s167_11 {l0 : AV} {s0 s1 : Int} {h : AH} : evL 167 11 [l0] [I s0, I s1] h = if s1 = s0 then evL 167 19 [l0] [] h else evL 167 14 [l0] [] h := e_icmp_eq c167_11 rfl rfl
theorem c167_14 : cd 167 14 = some (14, .iload_n 0, 1, 0, 0, 0) := rfl
theorem s167_14 {l0 : Int} {h : AH} : evL 167 14 [I l0] [] h = evL 167 15 [I l0] [I l0] h := ev_go c167_14 rfl
theorem c167_15 : cd 167 15 = some (15, .iconst 5, 1, 0, 0, 0) := rfl
theorem s167_15 {l0 s0 : AV} {h : AH} : evL 167 15 [l0] [s0] h = evL 167 16 [l0] [I 5, s0] h := ev_go c167_15 rfl
theorem c167_16 : cd 167 16 = some (16, .if_icmp .ne 7, 3, 0, 0, 0) := rfl
theorem s167_16 {l0 : AV} {s0 s1 : Int} {h : AH} : evL 167 16 [l0] [I s0, I s1] h = if s1 = s0 then evL 167 19 [l0] [] h else evL 167 23 [l0] [] h := e_icmp_ne c167_16 rfl rfl
theorem c167_19 : cd 167 19 = some (19, .iconst 2, 1, 0, 0, 0) := rfl
theorem s167_19 {l0 : AV} {h : AH} : evL 167 19 [l0] [] h = evL 167 20 [l0] [I 2] h := ev_go c167_19 rfl
theorem c167_20 : cd 167 20 = some (20, .goto 4, 3, 0, 0, 0) := rfl
theorem s167_20 {l0 s0 : AV} {h : AH} : evL 167 20 [l0] [s0] h = evL 167 24 [l0] [s0] h := ev_go c167_20 rfl
theorem c167_23 : cd 167 23 = some (23, .iconst 1, 1, 0, 0, 0) := rfl
theorem s167_23 {l0 : AV} {h : AH} : evL 167 23 [l0] [] h = evL 167 24 [l0] [I 1] h := ev_go c167_23 rfl
theorem c167_24 : cd 167 24 = some (24, .ireturn, 1, 0, 0, 0) := rfl
theorem s167_24 {l0 : AV} {s0 : Int} {h : AH} : evL 167 24 [l0] [I s0] h = some (some (I s0), h) := e_ret c167_24 rfl
/-! 168: TankDiversModel.chances(IZI)I -/
theorem en168 {l0 l1 l2 l3 : AV} {h : AH} : evM 168 [l0, l1, l2, l3] h = evL 168 0 [l0, l1, l2, l3, Db 0, Db 0, Db 0, Db 0] [] h := rfl
theorem c168_0 : cd 168 0 = some (0, .iload_n 1, 1, 0, 0, 0) := rfl
theorem s168_0 {l0 l2 l3 l4 l5 l6 l7 : AV} {l1 : Int} {h : AH} : evL 168 0 [l0, I l1, l2, l3, l4, l5, l6, l7] [] h = evL 168 1 [l0, I l1, l2, l3, l4, l5, l6, l7] [I l1] h := ev_go c168_0 rfl
theorem c168_1 : cd 168 1 = some (1, .iconst 0, 1, 0, 0, 0) := rfl
theorem s168_1 {l0 l1 l2 l3 l4 l5 l6 l7 s0 : AV} {h : AH} : evL 168 1 [l0, l1, l2, l3, l4, l5, l6, l7] [s0] h = evL 168 2 [l0, l1, l2, l3, l4, l5, l6, l7] [I 0, s0] h := ev_go c168_1 rfl
theorem c168_2 : cd 168 2 = some (2, .aload_n 0, 1, 0, 0, 0) := rfl
theorem s168_2 {l1 l2 l3 l4 l5 l6 l7 s0 s1 : AV} {l0 : Option Nat} {h : AH} : evL 168 2 [.inr (.inl l0), l1, l2, l3, l4, l5, l6, l7] [s0, s1] h = evL 168 3 [.inr (.inl l0), l1, l2, l3, l4, l5, l6, l7] [.inr (.inl l0), s0, s1] h := ev_go c168_2 rfl
theorem c168_3 : cd 168 3 = some (3, .getfield 7, 3, 8, 0, 725) := rfl
theorem s168_3 {l0 l1 l2 l3 l4 l5 l6 l7 s1 s2 : AV} {s0 : Nat} {M : Mem} {P : PMem} (hk : kd s0 = 8) : evL 168 3 [l0, l1, l2, l3, l4, l5, l6, l7] [Rf s0, s1, s2] (Hp M P) = evL 168 6 [l0, l1, l2, l3, l4, l5, l6, l7] [Rf (rfd s0 0), s1, s2] (Hp M P) := e_getR c168_3 rfl hk
theorem c168_6 : cd 168 6 = some (6, .bipush 8, 2, 0, 0, 0) := rfl
theorem s168_6 {l0 l1 l2 l3 l4 l5 l6 l7 s0 s1 s2 : AV} {h : AH} : evL 168 6 [l0, l1, l2, l3, l4, l5, l6, l7] [s0, s1, s2] h = evL 168 8 [l0, l1, l2, l3, l4, l5, l6, l7] [I 8, s0, s1, s2] h := ev_go c168_6 rfl
theorem c168_8 : cd 168 8 = some (8, .iaload, 1, 0, 0, 0) := rfl
theorem s168_8 {l0 l1 l2 l3 l4 l5 l6 l7 s2 s3 : AV} {s0 : Int} {s1 : Nat} {M : Mem} {P : PMem} (hk : kd s1 = 100) (h0 : 0 ≤ s0) (hn : s0.toNat < ln s1) : evL 168 8 [l0, l1, l2, l3, l4, l5, l6, l7] [I s0, Rf s1, s2, s3] (Hp M P) = evL 168 9 [l0, l1, l2, l3, l4, l5, l6, l7] [I (M s1 s0.toNat), s2, s3] (Hp M P) := e_iald c168_8 hk h0 hn
theorem c168_9 : cd 168 9 = some (9, .invokestatic 50, 3, 110, 0, 784) := rfl
theorem s168_9 {l0 l1 l2 l3 l4 l5 l6 l7 : AV} {s0 s1 s2 : Int} {M : Mem} {P : PMem} : evL 168 9 [l0, l1, l2, l3, l4, l5, l6, l7] [I s0, I s1, I s2] (Hp M P) = cont (evM 110 [I s2, I s1, I s0] (Hp M P)) (fun r h => evL 168 12 [l0, l1, l2, l3, l4, l5, l6, l7] (rl r []) h) := e_callS (av := [I s2, I s1, I s0]) (rest := []) c168_9 rfl rfl rfl rfl rfl rfl
theorem c168_12 : cd 168 12 = some (12, .ifCond .eq 12, 3, 0, 0, 0) := rfl
theorem s168_12 {l0 l1 l2 l3 l4 l5 l6 l7 : AV} {s0 : Int} {h : AH} : evL 168 12 [l0, l1, l2, l3, l4, l5, l6, l7] [I s0] h = if s0 = 0 then evL 168 24 [l0, l1, l2, l3, l4, l5, l6, l7] [] h else evL 168 15 [l0, l1, l2, l3, l4, l5, l6, l7] [] h := e_if_eq c168_12 rfl rfl
theorem c168_15 : cd 168 15 = some (15, .iload_n 3, 1, 0, 0, 0) := rfl
theorem s168_15 {l0 l1 l2 l4 l5 l6 l7 : AV} {l3 : Int} {h : AH} : evL 168 15 [l0, l1, l2, I l3, l4, l5, l6, l7] [] h = evL 168 16 [l0, l1, l2, I l3, l4, l5, l6, l7] [I l3] h := ev_go c168_15 rfl
theorem c168_16 : cd 168 16 = some (16, .iconst 0, 1, 0, 0, 0) := rfl
theorem s168_16 {l0 l1 l2 l3 l4 l5 l6 l7 s0 : AV} {h : AH} : evL 168 16 [l0, l1, l2, l3, l4, l5, l6, l7] [s0] h = evL 168 17 [l0, l1, l2, l3, l4, l5, l6, l7] [I 0, s0] h := ev_go c168_16 rfl
theorem c168_17 : cd 168 17 = some (17, .iconst 1, 1, 0, 0, 0) := rfl
theorem s168_17 {l0 l1 l2 l3 l4 l5 l6 l7 s0 s1 : AV} {h : AH} : evL 168 17 [l0, l1, l2, l3, l4, l5, l6, l7] [s0, s1] h = evL 168 18 [l0, l1, l2, l3, l4, l5, l6, l7] [I 1, s0, s1] h := ev_go c168_17 rfl
theorem c168_18 : cd 168 18 = some (18, .invokestatic 50, 3, 110, 0, 784) := rfl
theorem s168_18 {l0 l1 l2 l3 l4 l5 l6 l7 : AV} {s0 s1 s2 : Int} {M : Mem} {P : PMem} : evL 168 18 [l0, l1, l2, l3, l4, l5, l6, l7] [I s0, I s1, I s2] (Hp M P) = cont (evM 110 [I s2, I s1, I s0] (Hp M P)) (fun r h => evL 168 21 [l0, l1, l2, l3, l4, l5, l6, l7] (rl r []) h) := e_callS (av := [I s2, I s1, I s0]) (rest := []) c168_18 rfl rfl rfl rfl rfl rfl
theorem c168_21 : cd 168 21 = some (21, .ifCond .ne 5, 3, 0, 0, 0) := rfl
theorem s168_21 {l0 l1 l2 l3 l4 l5 l6 l7 : AV} {s0 : Int} {h : AH} : evL 168 21 [l0, l1, l2, l3, l4, l5, l6, l7] [I s0] h = if s0 = 0 then evL 168 24 [l0, l1, l2, l3, l4, l5, l6, l7] [] h else evL 168 26 [l0, l1, l2, l3, l4, l5, l6, l7] [] h := e_if_ne c168_21 rfl rfl
theorem c168_24 : cd 168 24 = some (24, .iconst (-1), 1, 0, 0, 0) := rfl
theorem s168_24 {l0 l1 l2 l3 l4 l5 l6 l7 : AV} {h : AH} : evL 168 24 [l0, l1, l2, l3, l4, l5, l6, l7] [] h = evL 168 25 [l0, l1, l2, l3, l4, l5, l6, l7] [I (-1)] h := ev_go c168_24 rfl
theorem c168_25 : cd 168 25 = some (25, .ireturn, 1, 0, 0, 0) := rfl
theorem s168_25 {l0 l1 l2 l3 l4 l5 l6 l7 : AV} {s0 : Int} {h : AH} : evL 168 25 [l0, l1, l2, l3, l4, l5, l6, l7] [I s0] h = some (some (I s0), h) := e_ret c168_25 rfl
theorem c168_26 : cd 168 26 = some (26, .aload_n 0, 1, 0, 0, 0) := rfl
theorem s168_26 {l1 l2 l3 l4 l5 l6 l7 : AV} {l0 : Option Nat} {h : AH} : evL 168 26 [.inr (.inl l0), l1, l2, l3, l4, l5, l6, l7] [] h = evL 168 27 [.inr (.inl l0), l1, l2, l3, l4, l5, l6, l7] [.inr (.inl l0)] h := ev_go c168_26 rfl
theorem c168_27 : cd 168 27 = some (27, .iload_n 2, 1, 0, 0, 0) := rfl
theorem s168_27 {l0 l1 l3 l4 l5 l6 l7 s0 : AV} {l2 : Int} {h : AH} : evL 168 27 [l0, l1, I l2, l3, l4, l5, l6, l7] [s0] h = evL 168 28 [l0, l1, I l2, l3, l4, l5, l6, l7] [I l2, s0] h := ev_go c168_27 rfl
theorem c168_28 : cd 168 28 = some (28, .invokevirtual 84, 3, 131, 0, 802) := rfl
theorem s168_28 {l0 l1 l2 l3 l4 l5 l6 l7 : AV} {s0 : Int} {s1 : Nat} {M : Mem} {P : PMem} (hk : kd s1 = 8) : evL 168 28 [l0, l1, l2, l3, l4, l5, l6, l7] [I s0, Rf s1] (Hp M P) = cont (evM 131 [Rf s1, I s0] (Hp M P)) (fun r h => evL 168 31 [l0, l1, l2, l3, l4, l5, l6, l7] (rl r []) h) := e_callV (av' := [I s0]) (rest := []) (c := 8) c168_28 rfl rfl rfl rfl rfl rfl rfl hk rfl
theorem c168_31 : cd 168 31 = some (31, .ifCond .le 6, 3, 0, 0, 0) := rfl
theorem s168_31 {l0 l1 l2 l3 l4 l5 l6 l7 : AV} {s0 : Int} {h : AH} : evL 168 31 [l0, l1, l2, l3, l4, l5, l6, l7] [I s0] h = if s0 ≤ 0 then evL 168 37 [l0, l1, l2, l3, l4, l5, l6, l7] [] h else evL 168 34 [l0, l1, l2, l3, l4, l5, l6, l7] [] h := e_if_le c168_31 rfl rfl
theorem c168_34 : cd 168 34 = some (34, .bipush (-2), 2, 0, 0, 0) := rfl
theorem s168_34 {l0 l1 l2 l3 l4 l5 l6 l7 : AV} {h : AH} : evL 168 34 [l0, l1, l2, l3, l4, l5, l6, l7] [] h = evL 168 36 [l0, l1, l2, l3, l4, l5, l6, l7] [I (-2)] h := ev_go c168_34 rfl
theorem c168_36 : cd 168 36 = some (36, .ireturn, 1, 0, 0, 0) := rfl
theorem s168_36 {l0 l1 l2 l3 l4 l5 l6 l7 : AV} {s0 : Int} {h : AH} : evL 168 36 [l0, l1, l2, l3, l4, l5, l6, l7] [I s0] h = some (some (I s0), h) := e_ret c168_36 rfl
theorem c168_37 : cd 168 37 = some (37, .aload_n 0, 1, 0, 0, 0) := rfl
theorem s168_37 {l1 l2 l3 l4 l5 l6 l7 : AV} {l0 : Option Nat} {h : AH} : evL 168 37 [.inr (.inl l0), l1, l2, l3, l4, l5, l6, l7] [] h = evL 168 38 [.inr (.inl l0), l1, l2, l3, l4, l5, l6, l7] [.inr (.inl l0)] h := ev_go c168_37 rfl
theorem c168_38 : cd 168 38 = some (38, .getfield 7, 3, 8, 0, 725) := rfl
theorem s168_38 {l0 l1 l2 l3 l4 l5 l6 l7 : AV} {s0 : Nat} {M : Mem} {P : PMem} (hk : kd s0 = 8) : evL 168 38 [l0, l1, l2, l3, l4, l5, l6, l7] [Rf s0] (Hp M P) = evL 168 41 [l0, l1, l2, l3, l4, l5, l6, l7] [Rf (rfd s0 0)] (Hp M P) := e_getR c168_38 rfl hk
theorem c168_41 : cd 168 41 = some (41, .iconst 2, 1, 0, 0, 0) := rfl
theorem s168_41 {l0 l1 l2 l3 l4 l5 l6 l7 s0 : AV} {h : AH} : evL 168 41 [l0, l1, l2, l3, l4, l5, l6, l7] [s0] h = evL 168 42 [l0, l1, l2, l3, l4, l5, l6, l7] [I 2, s0] h := ev_go c168_41 rfl
theorem c168_42 : cd 168 42 = some (42, .iaload, 1, 0, 0, 0) := rfl
theorem s168_42 {l0 l1 l2 l3 l4 l5 l6 l7 : AV} {s0 : Int} {s1 : Nat} {M : Mem} {P : PMem} (hk : kd s1 = 100) (h0 : 0 ≤ s0) (hn : s0.toNat < ln s1) : evL 168 42 [l0, l1, l2, l3, l4, l5, l6, l7] [I s0, Rf s1] (Hp M P) = evL 168 43 [l0, l1, l2, l3, l4, l5, l6, l7] [I (M s1 s0.toNat)] (Hp M P) := e_iald c168_42 hk h0 hn
theorem c168_43 : cd 168 43 = some (43, .istore 4, 2, 0, 0, 0) := rfl
theorem s168_43 {l0 l1 l2 l3 l4 l5 l6 l7 : AV} {s0 : Int} {h : AH} : evL 168 43 [l0, l1, l2, l3, l4, l5, l6, l7] [I s0] h = evL 168 45 [l0, l1, l2, l3, I s0, l5, l6, l7] [] h := ev_go c168_43 rfl
theorem c168_45 : cd 168 45 = some (45, .iconst 0, 1, 0, 0, 0) := rfl
theorem s168_45 {l0 l1 l2 l3 l4 l5 l6 l7 : AV} {h : AH} : evL 168 45 [l0, l1, l2, l3, l4, l5, l6, l7] [] h = evL 168 46 [l0, l1, l2, l3, l4, l5, l6, l7] [I 0] h := ev_go c168_45 rfl
theorem c168_46 : cd 168 46 = some (46, .istore 5, 2, 0, 0, 0) := rfl
theorem s168_46 {l0 l1 l2 l3 l4 l5 l6 l7 : AV} {s0 : Int} {h : AH} : evL 168 46 [l0, l1, l2, l3, l4, l5, l6, l7] [I s0] h = evL 168 48 [l0, l1, l2, l3, l4, I s0, l6, l7] [] h := ev_go c168_46 rfl
theorem c168_48 : cd 168 48 = some (48, .iconst 2, 1, 0, 0, 0) := rfl
theorem s168_48 {l0 l1 l2 l3 l4 l5 l6 l7 : AV} {h : AH} : evL 168 48 [l0, l1, l2, l3, l4, l5, l6, l7] [] h = evL 168 49 [l0, l1, l2, l3, l4, l5, l6, l7] [I 2] h := ev_go c168_48 rfl
theorem c168_49 : cd 168 49 = some (49, .istore 6, 2, 0, 0, 0) := rfl
theorem s168_49 {l0 l1 l2 l3 l4 l5 l6 l7 : AV} {s0 : Int} {h : AH} : evL 168 49 [l0, l1, l2, l3, l4, l5, l6, l7] [I s0] h = evL 168 51 [l0, l1, l2, l3, l4, l5, I s0, l7] [] h := ev_go c168_49 rfl
theorem c168_51 : cd 168 51 = some (51, .iload 6, 2, 0, 0, 0) := rfl
theorem s168_51 {l0 l1 l2 l3 l4 l5 l7 : AV} {l6 : Int} {h : AH} : evL 168 51 [l0, l1, l2, l3, l4, l5, I l6, l7] [] h = evL 168 53 [l0, l1, l2, l3, l4, l5, I l6, l7] [I l6] h := ev_go c168_51 rfl
theorem c168_53 : cd 168 53 = some (53, .bipush 7, 2, 0, 0, 0) := rfl
theorem s168_53 {l0 l1 l2 l3 l4 l5 l6 l7 s0 : AV} {h : AH} : evL 168 53 [l0, l1, l2, l3, l4, l5, l6, l7] [s0] h = evL 168 55 [l0, l1, l2, l3, l4, l5, l6, l7] [I 7, s0] h := ev_go c168_53 rfl
theorem c168_55 : cd 168 55 = some (55, .if_icmp .ge 80, 3, 0, 0, 0) := rfl
theorem s168_55 {l0 l1 l2 l3 l4 l5 l6 l7 : AV} {s0 s1 : Int} {h : AH} : evL 168 55 [l0, l1, l2, l3, l4, l5, l6, l7] [I s0, I s1] h = if s0 ≤ s1 then evL 168 135 [l0, l1, l2, l3, l4, l5, l6, l7] [] h else evL 168 58 [l0, l1, l2, l3, l4, l5, l6, l7] [] h := e_icmp_ge c168_55 rfl rfl
theorem c168_58 : cd 168 58 = some (58, .aload_n 0, 1, 0, 0, 0) := rfl
theorem s168_58 {l1 l2 l3 l4 l5 l6 l7 : AV} {l0 : Option Nat} {h : AH} : evL 168 58 [.inr (.inl l0), l1, l2, l3, l4, l5, l6, l7] [] h = evL 168 59 [.inr (.inl l0), l1, l2, l3, l4, l5, l6, l7] [.inr (.inl l0)] h := ev_go c168_58 rfl
theorem c168_59 : cd 168 59 = some (59, .iload 4, 2, 0, 0, 0) := rfl
theorem s168_59 {l0 l1 l2 l3 l5 l6 l7 s0 : AV} {l4 : Int} {h : AH} : evL 168 59 [l0, l1, l2, l3, I l4, l5, l6, l7] [s0] h = evL 168 61 [l0, l1, l2, l3, I l4, l5, l6, l7] [I l4, s0] h := ev_go c168_59 rfl
theorem c168_61 : cd 168 61 = some (61, .aload_n 0, 1, 0, 0, 0) := rfl
theorem s168_61 {l1 l2 l3 l4 l5 l6 l7 s0 s1 : AV} {l0 : Option Nat} {h : AH} : evL 168 61 [.inr (.inl l0), l1, l2, l3, l4, l5, l6, l7] [s0, s1] h = evL 168 62 [.inr (.inl l0), l1, l2, l3, l4, l5, l6, l7] [.inr (.inl l0), s0, s1] h := ev_go c168_61 rfl
theorem c168_62 : cd 168 62 = some (62, .iload 4, 2, 0, 0, 0) := rfl
theorem s168_62 {l0 l1 l2 l3 l5 l6 l7 s0 s1 s2 : AV} {l4 : Int} {h : AH} : evL 168 62 [l0, l1, l2, l3, I l4, l5, l6, l7] [s0, s1, s2] h = evL 168 64 [l0, l1, l2, l3, I l4, l5, l6, l7] [I l4, s0, s1, s2] h := ev_go c168_62 rfl
theorem c168_64 : cd 168 64 = some (64, .iconst 0, 1, 0, 0, 0) := rfl
theorem s168_64 {l0 l1 l2 l3 l4 l5 l6 l7 s0 s1 s2 s3 : AV} {h : AH} : evL 168 64 [l0, l1, l2, l3, l4, l5, l6, l7] [s0, s1, s2, s3] h = evL 168 65 [l0, l1, l2, l3, l4, l5, l6, l7] [I 0, s0, s1, s2, s3] h := ev_go c168_64 rfl
theorem c168_65 : cd 168 65 = some (65, .invokevirtual 54, 3, 116, 0, 806) := rfl
theorem s168_65 {l0 l1 l2 l3 l4 l5 l6 l7 s3 s4 : AV} {s0 s1 : Int} {s2 : Nat} {M : Mem} {P : PMem} (hk : kd s2 = 8) : evL 168 65 [l0, l1, l2, l3, l4, l5, l6, l7] [I s0, I s1, Rf s2, s3, s4] (Hp M P) = cont (evM 116 [Rf s2, I s1, I s0] (Hp M P)) (fun r h => evL 168 68 [l0, l1, l2, l3, l4, l5, l6, l7] (rl r [s3, s4]) h) := e_callV (av' := [I s1, I s0]) (rest := [s3, s4]) (c := 8) c168_65 rfl rfl rfl rfl rfl rfl rfl hk rfl
theorem c168_68 : cd 168 68 = some (68, .iload_n 2, 1, 0, 0, 0) := rfl
theorem s168_68 {l0 l1 l3 l4 l5 l6 l7 s0 s1 s2 : AV} {l2 : Int} {h : AH} : evL 168 68 [l0, l1, I l2, l3, l4, l5, l6, l7] [s0, s1, s2] h = evL 168 69 [l0, l1, I l2, l3, l4, l5, l6, l7] [I l2, s0, s1, s2] h := ev_go c168_68 rfl
theorem c168_69 : cd 168 69 = some (69, .ifCond .ne 14, 3, 0, 0, 0) := rfl
theorem s168_69 {l0 l1 l2 l3 l4 l5 l6 l7 s1 s2 s3 : AV} {s0 : Int} {h : AH} : evL 168 69 [l0, l1, l2, l3, l4, l5, l6, l7] [I s0, s1, s2, s3] h = if s0 = 0 then evL 168 72 [l0, l1, l2, l3, l4, l5, l6, l7] [s1, s2, s3] h else evL 168 83 [l0, l1, l2, l3, l4, l5, l6, l7] [s1, s2, s3] h := e_if_ne c168_69 rfl rfl
theorem c168_72 : cd 168 72 = some (72, .aload_n 0, 1, 0, 0, 0) := rfl
theorem s168_72 {l1 l2 l3 l4 l5 l6 l7 s0 s1 s2 : AV} {l0 : Option Nat} {h : AH} : evL 168 72 [.inr (.inl l0), l1, l2, l3, l4, l5, l6, l7] [s0, s1, s2] h = evL 168 73 [.inr (.inl l0), l1, l2, l3, l4, l5, l6, l7] [.inr (.inl l0), s0, s1, s2] h := ev_go c168_72 rfl
theorem c168_73 : cd 168 73 = some (73, .iload 4, 2, 0, 0, 0) := rfl
theorem s168_73 {l0 l1 l2 l3 l5 l6 l7 s0 s1 s2 s3 : AV} {l4 : Int} {h : AH} : evL 168 73 [l0, l1, l2, l3, I l4, l5, l6, l7] [s0, s1, s2, s3] h = evL 168 75 [l0, l1, l2, l3, I l4, l5, l6, l7] [I l4, s0, s1, s2, s3] h := ev_go c168_73 rfl
theorem c168_75 : cd 168 75 = some (75, .iconst 1, 1, 0, 0, 0) := rfl
theorem s168_75 {l0 l1 l2 l3 l4 l5 l6 l7 s0 s1 s2 s3 s4 : AV} {h : AH} : evL 168 75 [l0, l1, l2, l3, l4, l5, l6, l7] [s0, s1, s2, s3, s4] h = evL 168 76 [l0, l1, l2, l3, l4, l5, l6, l7] [I 1, s0, s1, s2, s3, s4] h := ev_go c168_75 rfl
theorem c168_76 : cd 168 76 = some (76, .invokevirtual 54, 3, 116, 0, 806) := rfl
theorem s168_76 {l0 l1 l2 l3 l4 l5 l6 l7 s3 s4 s5 : AV} {s0 s1 : Int} {s2 : Nat} {M : Mem} {P : PMem} (hk : kd s2 = 8) : evL 168 76 [l0, l1, l2, l3, l4, l5, l6, l7] [I s0, I s1, Rf s2, s3, s4, s5] (Hp M P) = cont (evM 116 [Rf s2, I s1, I s0] (Hp M P)) (fun r h => evL 168 79 [l0, l1, l2, l3, l4, l5, l6, l7] (rl r [s3, s4, s5]) h) := e_callV (av' := [I s1, I s0]) (rest := [s3, s4, s5]) (c := 8) c168_76 rfl rfl rfl rfl rfl rfl rfl hk rfl
theorem c168_79 : cd 168 79 = some (79, .iconst 1, 1, 0, 0, 0) := rfl
theorem s168_79 {l0 l1 l2 l3 l4 l5 l6 l7 s0 s1 s2 s3 : AV} {h : AH} : evL 168 79 [l0, l1, l2, l3, l4, l5, l6, l7] [s0, s1, s2, s3] h = evL 168 80 [l0, l1, l2, l3, l4, l5, l6, l7] [I 1, s0, s1, s2, s3] h := ev_go c168_79 rfl
theorem c168_80 : cd 168 80 = some (80, .if_icmp .ne 7, 3, 0, 0, 0) := rfl
theorem s168_80 {l0 l1 l2 l3 l4 l5 l6 l7 s2 s3 s4 : AV} {s0 s1 : Int} {h : AH} : evL 168 80 [l0, l1, l2, l3, l4, l5, l6, l7] [I s0, I s1, s2, s3, s4] h = if s1 = s0 then evL 168 83 [l0, l1, l2, l3, l4, l5, l6, l7] [s2, s3, s4] h else evL 168 87 [l0, l1, l2, l3, l4, l5, l6, l7] [s2, s3, s4] h := e_icmp_ne c168_80 rfl rfl
theorem c168_83 : cd 168 83 = some (83, .iconst 1, 1, 0, 0, 0) := rfl
theorem s168_83 {l0 l1 l2 l3 l4 l5 l6 l7 s0 s1 s2 : AV} {h : AH} : evL 168 83 [l0, l1, l2, l3, l4, l5, l6, l7] [s0, s1, s2] h = evL 168 84 [l0, l1, l2, l3, l4, l5, l6, l7] [I 1, s0, s1, s2] h := ev_go c168_83 rfl
theorem c168_84 : cd 168 84 = some (84, .goto 4, 3, 0, 0, 0) := rfl
theorem s168_84 {l0 l1 l2 l3 l4 l5 l6 l7 s0 s1 s2 s3 : AV} {h : AH} : evL 168 84 [l0, l1, l2, l3, l4, l5, l6, l7] [s0, s1, s2, s3] h = evL 168 88 [l0, l1, l2, l3, l4, l5, l6, l7] [s0, s1, s2, s3] h := ev_go c168_84 rfl
theorem c168_87 : cd 168 87 = some (87, .iconst 0, 1, 0, 0, 0) := rfl
theorem s168_87 {l0 l1 l2 l3 l4 l5 l6 l7 s0 s1 s2 : AV} {h : AH} : evL 168 87 [l0, l1, l2, l3, l4, l5, l6, l7] [s0, s1, s2] h = evL 168 88 [l0, l1, l2, l3, l4, l5, l6, l7] [I 0, s0, s1, s2] h := ev_go c168_87 rfl
theorem c168_88 : cd 168 88 = some (88, .aload_n 0, 1, 0, 0, 0) := rfl
theorem s168_88 {l1 l2 l3 l4 l5 l6 l7 s0 s1 s2 s3 : AV} {l0 : Option Nat} {h : AH} : evL 168 88 [.inr (.inl l0), l1, l2, l3, l4, l5, l6, l7] [s0, s1, s2, s3] h = evL 168 89 [.inr (.inl l0), l1, l2, l3, l4, l5, l6, l7] [.inr (.inl l0), s0, s1, s2, s3] h := ev_go c168_88 rfl
theorem c168_89 : cd 168 89 = some (89, .iload 4, 2, 0, 0, 0) := rfl
theorem s168_89 {l0 l1 l2 l3 l5 l6 l7 s0 s1 s2 s3 s4 : AV} {l4 : Int} {h : AH} : evL 168 89 [l0, l1, l2, l3, I l4, l5, l6, l7] [s0, s1, s2, s3, s4] h = evL 168 91 [l0, l1, l2, l3, I l4, l5, l6, l7] [I l4, s0, s1, s2, s3, s4] h := ev_go c168_89 rfl
theorem c168_91 : cd 168 91 = some (91, .iload 6, 2, 0, 0, 0) := rfl
theorem s168_91 {l0 l1 l2 l3 l4 l5 l7 s0 s1 s2 s3 s4 s5 : AV} {l6 : Int} {h : AH} : evL 168 91 [l0, l1, l2, l3, l4, l5, I l6, l7] [s0, s1, s2, s3, s4, s5] h = evL 168 93 [l0, l1, l2, l3, l4, l5, I l6, l7] [I l6, s0, s1, s2, s3, s4, s5] h := ev_go c168_91 rfl
theorem c168_93 : cd 168 93 = some (93, .invokevirtual 91, 3, 133, 0, 814) := rfl
theorem s168_93 {l0 l1 l2 l3 l4 l5 l6 l7 s3 s4 s5 s6 : AV} {s0 s1 : Int} {s2 : Nat} {M : Mem} {P : PMem} (hk : kd s2 = 8) : evL 168 93 [l0, l1, l2, l3, l4, l5, l6, l7] [I s0, I s1, Rf s2, s3, s4, s5, s6] (Hp M P) = cont (evM 133 [Rf s2, I s1, I s0] (Hp M P)) (fun r h => evL 168 96 [l0, l1, l2, l3, l4, l5, l6, l7] (rl r [s3, s4, s5, s6]) h) := e_callV (av' := [I s1, I s0]) (rest := [s3, s4, s5, s6]) (c := 8) c168_93 rfl rfl rfl rfl rfl rfl rfl hk rfl
theorem c168_96 : cd 168 96 = some (96, .invokevirtual 94, 3, 132, 0, 818) := rfl
theorem s168_96 {l0 l1 l2 l3 l4 l5 l6 l7 : AV} {s0 s1 s2 s3 : Int} {s4 : Nat} {M : Mem} {P : PMem} (hk : kd s4 = 8) : evL 168 96 [l0, l1, l2, l3, l4, l5, l6, l7] [I s0, I s1, I s2, I s3, Rf s4] (Hp M P) = cont (evM 132 [Rf s4, I s3, I s2, I s1, I s0] (Hp M P)) (fun r h => evL 168 99 [l0, l1, l2, l3, l4, l5, l6, l7] (rl r []) h) := e_callV (av' := [I s3, I s2, I s1, I s0]) (rest := []) (c := 8) c168_96 rfl rfl rfl rfl rfl rfl rfl hk rfl
theorem c168_99 : cd 168 99 = some (99, .iload_n 1, 1, 0, 0, 0) := rfl
theorem s168_99 {l0 l2 l3 l4 l5 l6 l7 s0 : AV} {l1 : Int} {h : AH} : evL 168 99 [l0, I l1, l2, l3, l4, l5, l6, l7] [s0] h = evL 168 100 [l0, I l1, l2, l3, l4, l5, l6, l7] [I l1, s0] h := ev_go c168_99 rfl
theorem c168_100 : cd 168 100 = some (100, .if_icmp .ne 7, 3, 0, 0, 0) := rfl
theorem s168_100 {l0 l1 l2 l3 l4 l5 l6 l7 : AV} {s0 s1 : Int} {h : AH} : evL 168 100 [l0, l1, l2, l3, l4, l5, l6, l7] [I s0, I s1] h = if s1 = s0 then evL 168 103 [l0, l1, l2, l3, l4, l5, l6, l7] [] h else evL 168 107 [l0, l1, l2, l3, l4, l5, l6, l7] [] h := e_icmp_ne c168_100 rfl rfl
theorem c168_103 : cd 168 103 = some (103, .iconst 1, 1, 0, 0, 0) := rfl
theorem s168_103 {l0 l1 l2 l3 l4 l5 l6 l7 : AV} {h : AH} : evL 168 103 [l0, l1, l2, l3, l4, l5, l6, l7] [] h = evL 168 104 [l0, l1, l2, l3, l4, l5, l6, l7] [I 1] h := ev_go c168_103 rfl
theorem c168_104 : cd 168 104 = some (104, .goto 4, 3, 0, 0, 0) := rfl
theorem s168_104 {l0 l1 l2 l3 l4 l5 l6 l7 s0 : AV} {h : AH} : evL 168 104 [l0, l1, l2, l3, l4, l5, l6, l7] [s0] h = evL 168 108 [l0, l1, l2, l3, l4, l5, l6, l7] [s0] h := ev_go c168_104 rfl
theorem c168_107 : cd 168 107 = some (107, .iconst 0, 1, 0, 0, 0) := rfl
theorem s168_107 {l0 l1 l2 l3 l4 l5 l6 l7 : AV} {h : AH} : evL 168 107 [l0, l1, l2, l3, l4, l5, l6, l7] [] h = evL 168 108 [l0, l1, l2, l3, l4, l5, l6, l7] [I 0] h := ev_go c168_107 rfl
theorem c168_108 : cd 168 108 = some (108, .istore 7, 2, 0, 0, 0) := rfl
theorem s168_108 {l0 l1 l2 l3 l4 l5 l6 l7 : AV} {s0 : Int} {h : AH} : evL 168 108 [l0, l1, l2, l3, l4, l5, l6, l7] [I s0] h = evL 168 110 [l0, l1, l2, l3, l4, l5, l6, I s0] [] h := ev_go c168_108 rfl
theorem c168_110 : cd 168 110 = some (110, .iload 5, 2, 0, 0, 0) := rfl
theorem s168_110 {l0 l1 l2 l3 l4 l6 l7 : AV} {l5 : Int} {h : AH} : evL 168 110 [l0, l1, l2, l3, l4, I l5, l6, l7] [] h = evL 168 112 [l0, l1, l2, l3, l4, I l5, l6, l7] [I l5] h := ev_go c168_110 rfl
theorem c168_112 : cd 168 112 = some (112, .iload 7, 2, 0, 0, 0) := rfl
theorem s168_112 {l0 l1 l2 l3 l4 l5 l6 s0 : AV} {l7 : Int} {h : AH} : evL 168 112 [l0, l1, l2, l3, l4, l5, l6, I l7] [s0] h = evL 168 114 [l0, l1, l2, l3, l4, l5, l6, I l7] [I l7, s0] h := ev_go c168_112 rfl
theorem c168_114 : cd 168 114 = some (114, .ifCond .eq 11, 3, 0, 0, 0) := rfl
theorem s168_114 {l0 l1 l2 l3 l4 l5 l6 l7 s1 : AV} {s0 : Int} {h : AH} : evL 168 114 [l0, l1, l2, l3, l4, l5, l6, l7] [I s0, s1] h = if s0 = 0 then evL 168 125 [l0, l1, l2, l3, l4, l5, l6, l7] [s1] h else evL 168 117 [l0, l1, l2, l3, l4, l5, l6, l7] [s1] h := e_if_eq c168_114 rfl rfl
theorem c168_117 : cd 168 117 = some (117, .iload 6, 2, 0, 0, 0) := rfl
theorem s168_117 {l0 l1 l2 l3 l4 l5 l7 s0 : AV} {l6 : Int} {h : AH} : evL 168 117 [l0, l1, l2, l3, l4, l5, I l6, l7] [s0] h = evL 168 119 [l0, l1, l2, l3, l4, l5, I l6, l7] [I l6, s0] h := ev_go c168_117 rfl
theorem c168_119 : cd 168 119 = some (119, .invokestatic 202, 3, 167, 0, 991) := rfl
theorem s168_119 {l0 l1 l2 l3 l4 l5 l6 l7 s1 : AV} {s0 : Int} {M : Mem} {P : PMem} : evL 168 119 [l0, l1, l2, l3, l4, l5, l6, l7] [I s0, s1] (Hp M P) = cont (evM 167 [I s0] (Hp M P)) (fun r h => evL 168 122 [l0, l1, l2, l3, l4, l5, l6, l7] (rl r [s1]) h) := e_callS (av := [I s0]) (rest := [s1]) c168_119 rfl rfl rfl rfl rfl rfl
theorem c168_122 : cd 168 122 = some (122, .goto 4, 3, 0, 0, 0) := rfl
theorem s168_122 {l0 l1 l2 l3 l4 l5 l6 l7 s0 s1 : AV} {h : AH} : evL 168 122 [l0, l1, l2, l3, l4, l5, l6, l7] [s0, s1] h = evL 168 126 [l0, l1, l2, l3, l4, l5, l6, l7] [s0, s1] h := ev_go c168_122 rfl
theorem c168_125 : cd 168 125 = some (125, .iconst 0, 1, 0, 0, 0) := rfl
theorem s168_125 {l0 l1 l2 l3 l4 l5 l6 l7 s0 : AV} {h : AH} : evL 168 125 [l0, l1, l2, l3, l4, l5, l6, l7] [s0] h = evL 168 126 [l0, l1, l2, l3, l4, l5, l6, l7] [I 0, s0] h := ev_go c168_125 rfl
theorem c168_126 : cd 168 126 = some (126, .iadd, 1, 0, 0, 0) := rfl
theorem s168_126 {l0 l1 l2 l3 l4 l5 l6 l7 : AV} {s0 s1 : Int} {h : AH} : evL 168 126 [l0, l1, l2, l3, l4, l5, l6, l7] [I s0, I s1] h = evL 168 127 [l0, l1, l2, l3, l4, l5, l6, l7] [I (ad s1 s0)] h := ev_go c168_126 rfl
theorem c168_127 : cd 168 127 = some (127, .istore 5, 2, 0, 0, 0) := rfl
theorem s168_127 {l0 l1 l2 l3 l4 l5 l6 l7 : AV} {s0 : Int} {h : AH} : evL 168 127 [l0, l1, l2, l3, l4, l5, l6, l7] [I s0] h = evL 168 129 [l0, l1, l2, l3, l4, I s0, l6, l7] [] h := ev_go c168_127 rfl
theorem c168_129 : cd 168 129 = some (129, .iinc 6 1, 3, 0, 0, 0) := rfl
theorem s168_129 {l0 l1 l2 l3 l4 l5 l7 : AV} {l6 : Int} {h : AH} : evL 168 129 [l0, l1, l2, l3, l4, l5, I l6, l7] [] h = evL 168 132 [l0, l1, l2, l3, l4, l5, I (ad l6 1), l7] [] h := ev_go c168_129 rfl
theorem c168_132 : cd 168 132 = some (132, .goto (-81), 3, 0, 0, 0) := rfl
theorem s168_132 {l0 l1 l2 l3 l4 l5 l6 l7 : AV} {h : AH} : evL 168 132 [l0, l1, l2, l3, l4, l5, l6, l7] [] h = evL 168 51 [l0, l1, l2, l3, l4, l5, l6, l7] [] h := ev_go c168_132 rfl
theorem c168_135 : cd 168 135 = some (135, .iload 5, 2, 0, 0, 0) := rfl
theorem s168_135 {l0 l1 l2 l3 l4 l6 l7 : AV} {l5 : Int} {h : AH} : evL 168 135 [l0, l1, l2, l3, l4, I l5, l6, l7] [] h = evL 168 137 [l0, l1, l2, l3, l4, I l5, l6, l7] [I l5] h := ev_go c168_135 rfl
theorem c168_137 : cd 168 137 = some (137, .ireturn, 1, 0, 0, 0) := rfl
theorem s168_137 {l0 l1 l2 l3 l4 l5 l6 l7 : AV} {s0 : Int} {h : AH} : evL 168 137 [l0, l1, l2, l3, l4, l5, l6, l7] [I s0] h = some (some (I s0), h) := e_ret c168_137 rfl
/-! 169: TankDiversModel.homeward(I)I -/
theorem en169 {l0 l1 : AV} {h : AH} : evM 169 [l0, l1] h = evL 169 0 [l0, l1, Db 0, Db 0, Db 0, Db 0] [] h := rfl
theorem c169_0 : cd 169 0 = some (0, .iload_n 1, 1, 0, 0, 0) := rfl
theorem s169_0 {l0 l2 l3 l4 l5 : AV} {l1 : Int} {h : AH} : evL 169 0 [l0, I l1, l2, l3, l4, l5] [] h = evL 169 1 [l0, I l1, l2, l3, l4, l5] [I l1] h := ev_go c169_0 rfl
theorem c169_1 : cd 169 1 = some (1, .iconst 1, 1, 0, 0, 0) := rfl
theorem s169_1 {l0 l1 l2 l3 l4 l5 s0 : AV} {h : AH} : evL 169 1 [l0, l1, l2, l3, l4, l5] [s0] h = evL 169 2 [l0, l1, l2, l3, l4, l5] [I 1, s0] h := ev_go c169_1 rfl
theorem c169_2 : cd 169 2 = some (2, .bipush 6, 2, 0, 0, 0) := rfl
theorem s169_2 {l0 l1 l2 l3 l4 l5 s0 s1 : AV} {h : AH} : evL 169 2 [l0, l1, l2, l3, l4, l5] [s0, s1] h = evL 169 4 [l0, l1, l2, l3, l4, l5] [I 6, s0, s1] h := ev_go c169_2 rfl
theorem c169_4 : cd 169 4 = some (4, .invokestatic 50, 3, 110, 0, 784) := rfl
theorem s169_4 {l0 l1 l2 l3 l4 l5 : AV} {s0 s1 s2 : Int} {M : Mem} {P : PMem} : evL 169 4 [l0, l1, l2, l3, l4, l5] [I s0, I s1, I s2] (Hp M P) = cont (evM 110 [I s2, I s1, I s0] (Hp M P)) (fun r h => evL 169 7 [l0, l1, l2, l3, l4, l5] (rl r []) h) := e_callS (av := [I s2, I s1, I s0]) (rest := []) c169_4 rfl rfl rfl rfl rfl rfl
theorem c169_7 : cd 169 7 = some (7, .ifCond .ne 5, 3, 0, 0, 0) := rfl
theorem s169_7 {l0 l1 l2 l3 l4 l5 : AV} {s0 : Int} {h : AH} : evL 169 7 [l0, l1, l2, l3, l4, l5] [I s0] h = if s0 = 0 then evL 169 10 [l0, l1, l2, l3, l4, l5] [] h else evL 169 12 [l0, l1, l2, l3, l4, l5] [] h := e_if_ne c169_7 rfl rfl
theorem c169_10 : cd 169 10 = some (10, .iconst (-1), 1, 0, 0, 0) := rfl
theorem s169_10 {l0 l1 l2 l3 l4 l5 : AV} {h : AH} : evL 169 10 [l0, l1, l2, l3, l4, l5] [] h = evL 169 11 [l0, l1, l2, l3, l4, l5] [I (-1)] h := ev_go c169_10 rfl
theorem c169_11 : cd 169 11 = some (11, .ireturn, 1, 0, 0, 0) := rfl
theorem s169_11 {l0 l1 l2 l3 l4 l5 : AV} {s0 : Int} {h : AH} : evL 169 11 [l0, l1, l2, l3, l4, l5] [I s0] h = some (some (I s0), h) := e_ret c169_11 rfl
theorem c169_12 : cd 169 12 = some (12, .aload_n 0, 1, 0, 0, 0) := rfl
theorem s169_12 {l1 l2 l3 l4 l5 : AV} {l0 : Option Nat} {h : AH} : evL 169 12 [.inr (.inl l0), l1, l2, l3, l4, l5] [] h = evL 169 13 [.inr (.inl l0), l1, l2, l3, l4, l5] [.inr (.inl l0)] h := ev_go c169_12 rfl
theorem c169_13 : cd 169 13 = some (13, .getfield 7, 3, 8, 0, 725) := rfl
theorem s169_13 {l0 l1 l2 l3 l4 l5 : AV} {s0 : Nat} {M : Mem} {P : PMem} (hk : kd s0 = 8) : evL 169 13 [l0, l1, l2, l3, l4, l5] [Rf s0] (Hp M P) = evL 169 16 [l0, l1, l2, l3, l4, l5] [Rf (rfd s0 0)] (Hp M P) := e_getR c169_13 rfl hk
theorem c169_16 : cd 169 16 = some (16, .iconst 2, 1, 0, 0, 0) := rfl
theorem s169_16 {l0 l1 l2 l3 l4 l5 s0 : AV} {h : AH} : evL 169 16 [l0, l1, l2, l3, l4, l5] [s0] h = evL 169 17 [l0, l1, l2, l3, l4, l5] [I 2, s0] h := ev_go c169_16 rfl
theorem c169_17 : cd 169 17 = some (17, .iaload, 1, 0, 0, 0) := rfl
theorem s169_17 {l0 l1 l2 l3 l4 l5 : AV} {s0 : Int} {s1 : Nat} {M : Mem} {P : PMem} (hk : kd s1 = 100) (h0 : 0 ≤ s0) (hn : s0.toNat < ln s1) : evL 169 17 [l0, l1, l2, l3, l4, l5] [I s0, Rf s1] (Hp M P) = evL 169 18 [l0, l1, l2, l3, l4, l5] [I (M s1 s0.toNat)] (Hp M P) := e_iald c169_17 hk h0 hn
theorem c169_18 : cd 169 18 = some (18, .istore_n 2, 1, 0, 0, 0) := rfl
theorem s169_18 {l0 l1 l2 l3 l4 l5 : AV} {s0 : Int} {h : AH} : evL 169 18 [l0, l1, l2, l3, l4, l5] [I s0] h = evL 169 19 [l0, l1, I s0, l3, l4, l5] [] h := ev_go c169_18 rfl
theorem c169_19 : cd 169 19 = some (19, .aload_n 0, 1, 0, 0, 0) := rfl
theorem s169_19 {l1 l2 l3 l4 l5 : AV} {l0 : Option Nat} {h : AH} : evL 169 19 [.inr (.inl l0), l1, l2, l3, l4, l5] [] h = evL 169 20 [.inr (.inl l0), l1, l2, l3, l4, l5] [.inr (.inl l0)] h := ev_go c169_19 rfl
theorem c169_20 : cd 169 20 = some (20, .getfield 7, 3, 8, 0, 725) := rfl
theorem s169_20 {l0 l1 l2 l3 l4 l5 : AV} {s0 : Nat} {M : Mem} {P : PMem} (hk : kd s0 = 8) : evL 169 20 [l0, l1, l2, l3, l4, l5] [Rf s0] (Hp M P) = evL 169 23 [l0, l1, l2, l3, l4, l5] [Rf (rfd s0 0)] (Hp M P) := e_getR c169_20 rfl hk
theorem c169_23 : cd 169 23 = some (23, .iconst 3, 1, 0, 0, 0) := rfl
theorem s169_23 {l0 l1 l2 l3 l4 l5 s0 : AV} {h : AH} : evL 169 23 [l0, l1, l2, l3, l4, l5] [s0] h = evL 169 24 [l0, l1, l2, l3, l4, l5] [I 3, s0] h := ev_go c169_23 rfl
theorem c169_24 : cd 169 24 = some (24, .iaload, 1, 0, 0, 0) := rfl
theorem s169_24 {l0 l1 l2 l3 l4 l5 : AV} {s0 : Int} {s1 : Nat} {M : Mem} {P : PMem} (hk : kd s1 = 100) (h0 : 0 ≤ s0) (hn : s0.toNat < ln s1) : evL 169 24 [l0, l1, l2, l3, l4, l5] [I s0, Rf s1] (Hp M P) = evL 169 25 [l0, l1, l2, l3, l4, l5] [I (M s1 s0.toNat)] (Hp M P) := e_iald c169_24 hk h0 hn
theorem c169_25 : cd 169 25 = some (25, .ifCond .ne 12, 3, 0, 0, 0) := rfl
theorem s169_25 {l0 l1 l2 l3 l4 l5 : AV} {s0 : Int} {h : AH} : evL 169 25 [l0, l1, l2, l3, l4, l5] [I s0] h = if s0 = 0 then evL 169 28 [l0, l1, l2, l3, l4, l5] [] h else evL 169 37 [l0, l1, l2, l3, l4, l5] [] h := e_if_ne c169_25 rfl rfl
theorem c169_28 : cd 169 28 = some (28, .aload_n 0, 1, 0, 0, 0) := rfl
theorem s169_28 {l1 l2 l3 l4 l5 : AV} {l0 : Option Nat} {h : AH} : evL 169 28 [.inr (.inl l0), l1, l2, l3, l4, l5] [] h = evL 169 29 [.inr (.inl l0), l1, l2, l3, l4, l5] [.inr (.inl l0)] h := ev_go c169_28 rfl
theorem c169_29 : cd 169 29 = some (29, .iload_n 2, 1, 0, 0, 0) := rfl
theorem s169_29 {l0 l1 l3 l4 l5 s0 : AV} {l2 : Int} {h : AH} : evL 169 29 [l0, l1, I l2, l3, l4, l5] [s0] h = evL 169 30 [l0, l1, I l2, l3, l4, l5] [I l2, s0] h := ev_go c169_29 rfl
theorem c169_30 : cd 169 30 = some (30, .iconst 0, 1, 0, 0, 0) := rfl
theorem s169_30 {l0 l1 l2 l3 l4 l5 s0 s1 : AV} {h : AH} : evL 169 30 [l0, l1, l2, l3, l4, l5] [s0, s1] h = evL 169 31 [l0, l1, l2, l3, l4, l5] [I 0, s0, s1] h := ev_go c169_30 rfl
theorem c169_31 : cd 169 31 = some (31, .invokevirtual 54, 3, 116, 0, 806) := rfl
theorem s169_31 {l0 l1 l2 l3 l4 l5 : AV} {s0 s1 : Int} {s2 : Nat} {M : Mem} {P : PMem} (hk : kd s2 = 8) : evL 169 31 [l0, l1, l2, l3, l4, l5] [I s0, I s1, Rf s2] (Hp M P) = cont (evM 116 [Rf s2, I s1, I s0] (Hp M P)) (fun r h => evL 169 34 [l0, l1, l2, l3, l4, l5] (rl r []) h) := e_callV (av' := [I s1, I s0]) (rest := []) (c := 8) c169_31 rfl rfl rfl rfl rfl rfl rfl hk rfl
theorem c169_34 : cd 169 34 = some (34, .ifCond .ne 6, 3, 0, 0, 0) := rfl
theorem s169_34 {l0 l1 l2 l3 l4 l5 : AV} {s0 : Int} {h : AH} : evL 169 34 [l0, l1, l2, l3, l4, l5] [I s0] h = if s0 = 0 then evL 169 37 [l0, l1, l2, l3, l4, l5] [] h else evL 169 40 [l0, l1, l2, l3, l4, l5] [] h := e_if_ne c169_34 rfl rfl
theorem c169_37 : cd 169 37 = some (37, .bipush (-2), 2, 0, 0, 0) := rfl
theorem s169_37 {l0 l1 l2 l3 l4 l5 : AV} {h : AH} : evL 169 37 [l0, l1, l2, l3, l4, l5] [] h = evL 169 39 [l0, l1, l2, l3, l4, l5] [I (-2)] h := ev_go c169_37 rfl
theorem c169_39 : cd 169 39 = some (39, .ireturn, 1, 0, 0, 0) := rfl
theorem s169_39 {l0 l1 l2 l3 l4 l5 : AV} {s0 : Int} {h : AH} : evL 169 39 [l0, l1, l2, l3, l4, l5] [I s0] h = some (some (I s0), h) := e_ret c169_39 rfl
theorem c169_40 : cd 169 40 = some (40, .iconst 0, 1, 0, 0, 0) := rfl
theorem s169_40 {l0 l1 l2 l3 l4 l5 : AV} {h : AH} : evL 169 40 [l0, l1, l2, l3, l4, l5] [] h = evL 169 41 [l0, l1, l2, l3, l4, l5] [I 0] h := ev_go c169_40 rfl
theorem c169_41 : cd 169 41 = some (41, .istore_n 3, 1, 0, 0, 0) := rfl
theorem s169_41 {l0 l1 l2 l3 l4 l5 : AV} {s0 : Int} {h : AH} : evL 169 41 [l0, l1, l2, l3, l4, l5] [I s0] h = evL 169 42 [l0, l1, l2, I s0, l4, l5] [] h := ev_go c169_41 rfl
theorem c169_42 : cd 169 42 = some (42, .iload_n 3, 1, 0, 0, 0) := rfl
theorem s169_42 {l0 l1 l2 l4 l5 : AV} {l3 : Int} {h : AH} : evL 169 42 [l0, l1, l2, I l3, l4, l5] [] h = evL 169 43 [l0, l1, l2, I l3, l4, l5] [I l3] h := ev_go c169_42 rfl
theorem c169_43 : cd 169 43 = some (43, .bipush 17, 2, 0, 0, 0) := rfl
theorem s169_43 {l0 l1 l2 l3 l4 l5 s0 : AV} {h : AH} : evL 169 43 [l0, l1, l2, l3, l4, l5] [s0] h = evL 169 45 [l0, l1, l2, l3, l4, l5] [I 17, s0] h := ev_go c169_43 rfl
theorem c169_45 : cd 169 45 = some (45, .if_icmp .ge 30, 3, 0, 0, 0) := rfl
theorem s169_45 {l0 l1 l2 l3 l4 l5 : AV} {s0 s1 : Int} {h : AH} : evL 169 45 [l0, l1, l2, l3, l4, l5] [I s0, I s1] h = if s0 ≤ s1 then evL 169 75 [l0, l1, l2, l3, l4, l5] [] h else evL 169 48 [l0, l1, l2, l3, l4, l5] [] h := e_icmp_ge c169_45 rfl rfl
theorem c169_48 : cd 169 48 = some (48, .aload_n 0, 1, 0, 0, 0) := rfl
theorem s169_48 {l1 l2 l3 l4 l5 : AV} {l0 : Option Nat} {h : AH} : evL 169 48 [.inr (.inl l0), l1, l2, l3, l4, l5] [] h = evL 169 49 [.inr (.inl l0), l1, l2, l3, l4, l5] [.inr (.inl l0)] h := ev_go c169_48 rfl
theorem c169_49 : cd 169 49 = some (49, .getfield 25, 3, 8, 16, 741) := rfl
theorem s169_49 {l0 l1 l2 l3 l4 l5 : AV} {s0 : Nat} {M : Mem} {P : PMem} (hk : kd s0 = 8) : evL 169 49 [l0, l1, l2, l3, l4, l5] [Rf s0] (Hp M P) = evL 169 52 [l0, l1, l2, l3, l4, l5] [Rf (rfd s0 16)] (Hp M P) := e_getR c169_49 rfl hk
theorem c169_52 : cd 169 52 = some (52, .iload_n 3, 1, 0, 0, 0) := rfl
theorem s169_52 {l0 l1 l2 l4 l5 s0 : AV} {l3 : Int} {h : AH} : evL 169 52 [l0, l1, l2, I l3, l4, l5] [s0] h = evL 169 53 [l0, l1, l2, I l3, l4, l5] [I l3, s0] h := ev_go c169_52 rfl
theorem c169_53 : cd 169 53 = some (53, .iload_n 3, 1, 0, 0, 0) := rfl
theorem s169_53 {l0 l1 l2 l4 l5 s0 s1 : AV} {l3 : Int} {h : AH} : evL 169 53 [l0, l1, l2, I l3, l4, l5] [s0, s1] h = evL 169 54 [l0, l1, l2, I l3, l4, l5] [I l3, s0, s1] h := ev_go c169_53 rfl
theorem c169_54 : cd 169 54 = some (54, .aload_n 0, 1, 0, 0, 0) := rfl
theorem s169_54 {l1 l2 l3 l4 l5 s0 s1 s2 : AV} {l0 : Option Nat} {h : AH} : evL 169 54 [.inr (.inl l0), l1, l2, l3, l4, l5] [s0, s1, s2] h = evL 169 55 [.inr (.inl l0), l1, l2, l3, l4, l5] [.inr (.inl l0), s0, s1, s2] h := ev_go c169_54 rfl
theorem c169_55 : cd 169 55 = some (55, .iload_n 2, 1, 0, 0, 0) := rfl
theorem s169_55 {l0 l1 l3 l4 l5 s0 s1 s2 s3 : AV} {l2 : Int} {h : AH} : evL 169 55 [l0, l1, I l2, l3, l4, l5] [s0, s1, s2, s3] h = evL 169 56 [l0, l1, I l2, l3, l4, l5] [I l2, s0, s1, s2, s3] h := ev_go c169_55 rfl
theorem c169_56 : cd 169 56 = some (56, .iconst 0, 1, 0, 0, 0) := rfl
theorem s169_56 {l0 l1 l2 l3 l4 l5 s0 s1 s2 s3 s4 : AV} {h : AH} : evL 169 56 [l0, l1, l2, l3, l4, l5] [s0, s1, s2, s3, s4] h = evL 169 57 [l0, l1, l2, l3, l4, l5] [I 0, s0, s1, s2, s3, s4] h := ev_go c169_56 rfl
theorem c169_57 : cd 169 57 = some (57, .invokevirtual 54, 3, 116, 0, 806) := rfl
theorem s169_57 {l0 l1 l2 l3 l4 l5 s3 s4 s5 : AV} {s0 s1 : Int} {s2 : Nat} {M : Mem} {P : PMem} (hk : kd s2 = 8) : evL 169 57 [l0, l1, l2, l3, l4, l5] [I s0, I s1, Rf s2, s3, s4, s5] (Hp M P) = cont (evM 116 [Rf s2, I s1, I s0] (Hp M P)) (fun r h => evL 169 60 [l0, l1, l2, l3, l4, l5] (rl r [s3, s4, s5]) h) := e_callV (av' := [I s1, I s0]) (rest := [s3, s4, s5]) (c := 8) c169_57 rfl rfl rfl rfl rfl rfl rfl hk rfl
theorem c169_60 : cd 169 60 = some (60, .if_icmp .ne 7, 3, 0, 0, 0) := rfl
theorem s169_60 {l0 l1 l2 l3 l4 l5 s2 s3 : AV} {s0 s1 : Int} {h : AH} : evL 169 60 [l0, l1, l2, l3, l4, l5] [I s0, I s1, s2, s3] h = if s1 = s0 then evL 169 63 [l0, l1, l2, l3, l4, l5] [s2, s3] h else evL 169 67 [l0, l1, l2, l3, l4, l5] [s2, s3] h := e_icmp_ne c169_60 rfl rfl
theorem c169_63 : cd 169 63 = some (63, .iconst 1, 1, 0, 0, 0) := rfl
theorem s169_63 {l0 l1 l2 l3 l4 l5 s0 s1 : AV} {h : AH} : evL 169 63 [l0, l1, l2, l3, l4, l5] [s0, s1] h = evL 169 64 [l0, l1, l2, l3, l4, l5] [I 1, s0, s1] h := ev_go c169_63 rfl
theorem c169_64 : cd 169 64 = some (64, .goto 4, 3, 0, 0, 0) := rfl
theorem s169_64 {l0 l1 l2 l3 l4 l5 s0 s1 s2 : AV} {h : AH} : evL 169 64 [l0, l1, l2, l3, l4, l5] [s0, s1, s2] h = evL 169 68 [l0, l1, l2, l3, l4, l5] [s0, s1, s2] h := ev_go c169_64 rfl
theorem c169_67 : cd 169 67 = some (67, .iconst 0, 1, 0, 0, 0) := rfl
theorem s169_67 {l0 l1 l2 l3 l4 l5 s0 s1 : AV} {h : AH} : evL 169 67 [l0, l1, l2, l3, l4, l5] [s0, s1] h = evL 169 68 [l0, l1, l2, l3, l4, l5] [I 0, s0, s1] h := ev_go c169_67 rfl
theorem c169_68 : cd 169 68 = some (68, .iastore, 1, 0, 0, 0) := rfl
theorem s169_68 {l0 l1 l2 l3 l4 l5 : AV} {s0 s1 : Int} {s2 : Nat} {M : Mem} {P : PMem} (hk : kd s2 = 100) (h0 : 0 ≤ s1) (hn : s1.toNat < ln s2) : evL 169 68 [l0, l1, l2, l3, l4, l5] [I s0, I s1, Rf s2] (Hp M P) = evL 169 69 [l0, l1, l2, l3, l4, l5] [] (Hp (wr M s2 s1.toNat s0) P) := e_iast c169_68 hk h0 hn
theorem c169_69 : cd 169 69 = some (69, .iinc 3 1, 3, 0, 0, 0) := rfl
theorem s169_69 {l0 l1 l2 l4 l5 : AV} {l3 : Int} {h : AH} : evL 169 69 [l0, l1, l2, I l3, l4, l5] [] h = evL 169 72 [l0, l1, l2, I (ad l3 1), l4, l5] [] h := ev_go c169_69 rfl
theorem c169_72 : cd 169 72 = some (72, .goto (-30), 3, 0, 0, 0) := rfl
theorem s169_72 {l0 l1 l2 l3 l4 l5 : AV} {h : AH} : evL 169 72 [l0, l1, l2, l3, l4, l5] [] h = evL 169 42 [l0, l1, l2, l3, l4, l5] [] h := ev_go c169_72 rfl
theorem c169_75 : cd 169 75 = some (75, .iconst 0, 1, 0, 0, 0) := rfl
theorem s169_75 {l0 l1 l2 l3 l4 l5 : AV} {h : AH} : evL 169 75 [l0, l1, l2, l3, l4, l5] [] h = evL 169 76 [l0, l1, l2, l3, l4, l5] [I 0] h := ev_go c169_75 rfl
theorem c169_76 : cd 169 76 = some (76, .istore_n 3, 1, 0, 0, 0) := rfl
theorem s169_76 {l0 l1 l2 l3 l4 l5 : AV} {s0 : Int} {h : AH} : evL 169 76 [l0, l1, l2, l3, l4, l5] [I s0] h = evL 169 77 [l0, l1, l2, I s0, l4, l5] [] h := ev_go c169_76 rfl
theorem c169_77 : cd 169 77 = some (77, .iload_n 3, 1, 0, 0, 0) := rfl
theorem s169_77 {l0 l1 l2 l4 l5 : AV} {l3 : Int} {h : AH} : evL 169 77 [l0, l1, l2, I l3, l4, l5] [] h = evL 169 78 [l0, l1, l2, I l3, l4, l5] [I l3] h := ev_go c169_77 rfl
theorem c169_78 : cd 169 78 = some (78, .iload_n 1, 1, 0, 0, 0) := rfl
theorem s169_78 {l0 l2 l3 l4 l5 s0 : AV} {l1 : Int} {h : AH} : evL 169 78 [l0, I l1, l2, l3, l4, l5] [s0] h = evL 169 79 [l0, I l1, l2, l3, l4, l5] [I l1, s0] h := ev_go c169_78 rfl
theorem c169_79 : cd 169 79 = some (79, .if_icmp .ge 156, 3, 0, 0, 0) := rfl
theorem s169_79 {l0 l1 l2 l3 l4 l5 : AV} {s0 s1 : Int} {h : AH} : evL 169 79 [l0, l1, l2, l3, l4, l5] [I s0, I s1] h = if s0 ≤ s1 then evL 169 235 [l0, l1, l2, l3, l4, l5] [] h else evL 169 82 [l0, l1, l2, l3, l4, l5] [] h := e_icmp_ge c169_79 rfl rfl
theorem c169_82 : cd 169 82 = some (82, .aload_n 0, 1, 0, 0, 0) := rfl
theorem s169_82 {l1 l2 l3 l4 l5 : AV} {l0 : Option Nat} {h : AH} : evL 169 82 [.inr (.inl l0), l1, l2, l3, l4, l5] [] h = evL 169 83 [.inr (.inl l0), l1, l2, l3, l4, l5] [.inr (.inl l0)] h := ev_go c169_82 rfl
theorem c169_83 : cd 169 83 = some (83, .getfield 28, 3, 8, 17, 742) := rfl
theorem s169_83 {l0 l1 l2 l3 l4 l5 : AV} {s0 : Nat} {M : Mem} {P : PMem} (hk : kd s0 = 8) : evL 169 83 [l0, l1, l2, l3, l4, l5] [Rf s0] (Hp M P) = evL 169 86 [l0, l1, l2, l3, l4, l5] [Rf (rfd s0 17)] (Hp M P) := e_getR c169_83 rfl hk
theorem c169_86 : cd 169 86 = some (86, .iconst 0, 1, 0, 0, 0) := rfl
theorem s169_86 {l0 l1 l2 l3 l4 l5 s0 : AV} {h : AH} : evL 169 86 [l0, l1, l2, l3, l4, l5] [s0] h = evL 169 87 [l0, l1, l2, l3, l4, l5] [I 0, s0] h := ev_go c169_86 rfl
theorem c169_87 : cd 169 87 = some (87, .bipush 9, 2, 0, 0, 0) := rfl
theorem s169_87 {l0 l1 l2 l3 l4 l5 s0 s1 : AV} {h : AH} : evL 169 87 [l0, l1, l2, l3, l4, l5] [s0, s1] h = evL 169 89 [l0, l1, l2, l3, l4, l5] [I 9, s0, s1] h := ev_go c169_87 rfl
theorem c169_89 : cd 169 89 = some (89, .aload_n 0, 1, 0, 0, 0) := rfl
theorem s169_89 {l1 l2 l3 l4 l5 s0 s1 s2 : AV} {l0 : Option Nat} {h : AH} : evL 169 89 [.inr (.inl l0), l1, l2, l3, l4, l5] [s0, s1, s2] h = evL 169 90 [.inr (.inl l0), l1, l2, l3, l4, l5] [.inr (.inl l0), s0, s1, s2] h := ev_go c169_89 rfl
theorem c169_90 : cd 169 90 = some (90, .getfield 25, 3, 8, 16, 741) := rfl
theorem s169_90 {l0 l1 l2 l3 l4 l5 s1 s2 s3 : AV} {s0 : Nat} {M : Mem} {P : PMem} (hk : kd s0 = 8) : evL 169 90 [l0, l1, l2, l3, l4, l5] [Rf s0, s1, s2, s3] (Hp M P) = evL 169 93 [l0, l1, l2, l3, l4, l5] [Rf (rfd s0 16), s1, s2, s3] (Hp M P) := e_getR c169_90 rfl hk
theorem c169_93 : cd 169 93 = some (93, .iconst 0, 1, 0, 0, 0) := rfl
theorem s169_93 {l0 l1 l2 l3 l4 l5 s0 s1 s2 s3 : AV} {h : AH} : evL 169 93 [l0, l1, l2, l3, l4, l5] [s0, s1, s2, s3] h = evL 169 94 [l0, l1, l2, l3, l4, l5] [I 0, s0, s1, s2, s3] h := ev_go c169_93 rfl
theorem c169_94 : cd 169 94 = some (94, .iaload, 1, 0, 0, 0) := rfl
theorem s169_94 {l0 l1 l2 l3 l4 l5 s2 s3 s4 : AV} {s0 : Int} {s1 : Nat} {M : Mem} {P : PMem} (hk : kd s1 = 100) (h0 : 0 ≤ s0) (hn : s0.toNat < ln s1) : evL 169 94 [l0, l1, l2, l3, l4, l5] [I s0, Rf s1, s2, s3, s4] (Hp M P) = evL 169 95 [l0, l1, l2, l3, l4, l5] [I (M s1 s0.toNat), s2, s3, s4] (Hp M P) := e_iald c169_94 hk h0 hn
theorem c169_95 : cd 169 95 = some (95, .imul, 1, 0, 0, 0) := rfl
theorem s169_95 {l0 l1 l2 l3 l4 l5 s2 s3 : AV} {s0 s1 : Int} {h : AH} : evL 169 95 [l0, l1, l2, l3, l4, l5] [I s0, I s1, s2, s3] h = evL 169 96 [l0, l1, l2, l3, l4, l5] [I (ml s1 s0), s2, s3] h := ev_go c169_95 rfl
theorem c169_96 : cd 169 96 = some (96, .iastore, 1, 0, 0, 0) := rfl
theorem s169_96 {l0 l1 l2 l3 l4 l5 : AV} {s0 s1 : Int} {s2 : Nat} {M : Mem} {P : PMem} (hk : kd s2 = 100) (h0 : 0 ≤ s1) (hn : s1.toNat < ln s2) : evL 169 96 [l0, l1, l2, l3, l4, l5] [I s0, I s1, Rf s2] (Hp M P) = evL 169 97 [l0, l1, l2, l3, l4, l5] [] (Hp (wr M s2 s1.toNat s0) P) := e_iast c169_96 hk h0 hn
theorem c169_97 : cd 169 97 = some (97, .iconst 1, 1, 0, 0, 0) := rfl
theorem s169_97 {l0 l1 l2 l3 l4 l5 : AV} {h : AH} : evL 169 97 [l0, l1, l2, l3, l4, l5] [] h = evL 169 98 [l0, l1, l2, l3, l4, l5] [I 1] h := ev_go c169_97 rfl
theorem c169_98 : cd 169 98 = some (98, .istore 4, 2, 0, 0, 0) := rfl
theorem s169_98 {l0 l1 l2 l3 l4 l5 : AV} {s0 : Int} {h : AH} : evL 169 98 [l0, l1, l2, l3, l4, l5] [I s0] h = evL 169 100 [l0, l1, l2, l3, I s0, l5] [] h := ev_go c169_98 rfl
theorem c169_100 : cd 169 100 = some (100, .iload 4, 2, 0, 0, 0) := rfl
theorem s169_100 {l0 l1 l2 l3 l5 : AV} {l4 : Int} {h : AH} : evL 169 100 [l0, l1, l2, l3, I l4, l5] [] h = evL 169 102 [l0, l1, l2, l3, I l4, l5] [I l4] h := ev_go c169_100 rfl
theorem c169_102 : cd 169 102 = some (102, .bipush 17, 2, 0, 0, 0) := rfl
theorem s169_102 {l0 l1 l2 l3 l4 l5 s0 : AV} {h : AH} : evL 169 102 [l0, l1, l2, l3, l4, l5] [s0] h = evL 169 104 [l0, l1, l2, l3, l4, l5] [I 17, s0] h := ev_go c169_102 rfl
theorem c169_104 : cd 169 104 = some (104, .if_icmp .ge 17, 3, 0, 0, 0) := rfl
theorem s169_104 {l0 l1 l2 l3 l4 l5 : AV} {s0 s1 : Int} {h : AH} : evL 169 104 [l0, l1, l2, l3, l4, l5] [I s0, I s1] h = if s0 ≤ s1 then evL 169 121 [l0, l1, l2, l3, l4, l5] [] h else evL 169 107 [l0, l1, l2, l3, l4, l5] [] h := e_icmp_ge c169_104 rfl rfl
theorem c169_107 : cd 169 107 = some (107, .aload_n 0, 1, 0, 0, 0) := rfl
theorem s169_107 {l1 l2 l3 l4 l5 : AV} {l0 : Option Nat} {h : AH} : evL 169 107 [.inr (.inl l0), l1, l2, l3, l4, l5] [] h = evL 169 108 [.inr (.inl l0), l1, l2, l3, l4, l5] [.inr (.inl l0)] h := ev_go c169_107 rfl
theorem c169_108 : cd 169 108 = some (108, .getfield 28, 3, 8, 17, 742) := rfl
theorem s169_108 {l0 l1 l2 l3 l4 l5 : AV} {s0 : Nat} {M : Mem} {P : PMem} (hk : kd s0 = 8) : evL 169 108 [l0, l1, l2, l3, l4, l5] [Rf s0] (Hp M P) = evL 169 111 [l0, l1, l2, l3, l4, l5] [Rf (rfd s0 17)] (Hp M P) := e_getR c169_108 rfl hk
theorem c169_111 : cd 169 111 = some (111, .iload 4, 2, 0, 0, 0) := rfl
theorem s169_111 {l0 l1 l2 l3 l5 s0 : AV} {l4 : Int} {h : AH} : evL 169 111 [l0, l1, l2, l3, I l4, l5] [s0] h = evL 169 113 [l0, l1, l2, l3, I l4, l5] [I l4, s0] h := ev_go c169_111 rfl
theorem c169_113 : cd 169 113 = some (113, .iconst 0, 1, 0, 0, 0) := rfl
theorem s169_113 {l0 l1 l2 l3 l4 l5 s0 s1 : AV} {h : AH} : evL 169 113 [l0, l1, l2, l3, l4, l5] [s0, s1] h = evL 169 114 [l0, l1, l2, l3, l4, l5] [I 0, s0, s1] h := ev_go c169_113 rfl
theorem c169_114 : cd 169 114 = some (114, .iastore, 1, 0, 0, 0) := rfl
theorem s169_114 {l0 l1 l2 l3 l4 l5 : AV} {s0 s1 : Int} {s2 : Nat} {M : Mem} {P : PMem} (hk : kd s2 = 100) (h0 : 0 ≤ s1) (hn : s1.toNat < ln s2) : evL 169 114 [l0, l1, l2, l3, l4, l5] [I s0, I s1, Rf s2] (Hp M P) = evL 169 115 [l0, l1, l2, l3, l4, l5] [] (Hp (wr M s2 s1.toNat s0) P) := e_iast c169_114 hk h0 hn
theorem c169_115 : cd 169 115 = some (115, .iinc 4 1, 3, 0, 0, 0) := rfl
theorem s169_115 {l0 l1 l2 l3 l5 : AV} {l4 : Int} {h : AH} : evL 169 115 [l0, l1, l2, l3, I l4, l5] [] h = evL 169 118 [l0, l1, l2, l3, I (ad l4 1), l5] [] h := ev_go c169_115 rfl
theorem c169_118 : cd 169 118 = some (118, .goto (-18), 3, 0, 0, 0) := rfl
theorem s169_118 {l0 l1 l2 l3 l4 l5 : AV} {h : AH} : evL 169 118 [l0, l1, l2, l3, l4, l5] [] h = evL 169 100 [l0, l1, l2, l3, l4, l5] [] h := ev_go c169_118 rfl
theorem c169_121 : cd 169 121 = some (121, .iconst 1, 1, 0, 0, 0) := rfl
theorem s169_121 {l0 l1 l2 l3 l4 l5 : AV} {h : AH} : evL 169 121 [l0, l1, l2, l3, l4, l5] [] h = evL 169 122 [l0, l1, l2, l3, l4, l5] [I 1] h := ev_go c169_121 rfl
theorem c169_122 : cd 169 122 = some (122, .istore 4, 2, 0, 0, 0) := rfl
theorem s169_122 {l0 l1 l2 l3 l4 l5 : AV} {s0 : Int} {h : AH} : evL 169 122 [l0, l1, l2, l3, l4, l5] [I s0] h = evL 169 124 [l0, l1, l2, l3, I s0, l5] [] h := ev_go c169_122 rfl
theorem c169_124 : cd 169 124 = some (124, .iload 4, 2, 0, 0, 0) := rfl
theorem s169_124 {l0 l1 l2 l3 l5 : AV} {l4 : Int} {h : AH} : evL 169 124 [l0, l1, l2, l3, I l4, l5] [] h = evL 169 126 [l0, l1, l2, l3, I l4, l5] [I l4] h := ev_go c169_124 rfl
theorem c169_126 : cd 169 126 = some (126, .bipush 17, 2, 0, 0, 0) := rfl
theorem s169_126 {l0 l1 l2 l3 l4 l5 s0 : AV} {h : AH} : evL 169 126 [l0, l1, l2, l3, l4, l5] [s0] h = evL 169 128 [l0, l1, l2, l3, l4, l5] [I 17, s0] h := ev_go c169_126 rfl
theorem c169_128 : cd 169 128 = some (128, .if_icmp .ge 71, 3, 0, 0, 0) := rfl
theorem s169_128 {l0 l1 l2 l3 l4 l5 : AV} {s0 s1 : Int} {h : AH} : evL 169 128 [l0, l1, l2, l3, l4, l5] [I s0, I s1] h = if s0 ≤ s1 then evL 169 199 [l0, l1, l2, l3, l4, l5] [] h else evL 169 131 [l0, l1, l2, l3, l4, l5] [] h := e_icmp_ge c169_128 rfl rfl
theorem c169_131 : cd 169 131 = some (131, .iconst 2, 1, 0, 0, 0) := rfl
theorem s169_131 {l0 l1 l2 l3 l4 l5 : AV} {h : AH} : evL 169 131 [l0, l1, l2, l3, l4, l5] [] h = evL 169 132 [l0, l1, l2, l3, l4, l5] [I 2] h := ev_go c169_131 rfl
theorem c169_132 : cd 169 132 = some (132, .istore 5, 2, 0, 0, 0) := rfl
theorem s169_132 {l0 l1 l2 l3 l4 l5 : AV} {s0 : Int} {h : AH} : evL 169 132 [l0, l1, l2, l3, l4, l5] [I s0] h = evL 169 134 [l0, l1, l2, l3, l4, I s0] [] h := ev_go c169_132 rfl
theorem c169_134 : cd 169 134 = some (134, .iload 5, 2, 0, 0, 0) := rfl
theorem s169_134 {l0 l1 l2 l3 l4 : AV} {l5 : Int} {h : AH} : evL 169 134 [l0, l1, l2, l3, l4, I l5] [] h = evL 169 136 [l0, l1, l2, l3, l4, I l5] [I l5] h := ev_go c169_134 rfl
theorem c169_136 : cd 169 136 = some (136, .bipush 7, 2, 0, 0, 0) := rfl
theorem s169_136 {l0 l1 l2 l3 l4 l5 s0 : AV} {h : AH} : evL 169 136 [l0, l1, l2, l3, l4, l5] [s0] h = evL 169 138 [l0, l1, l2, l3, l4, l5] [I 7, s0] h := ev_go c169_136 rfl
theorem c169_138 : cd 169 138 = some (138, .if_icmp .ge 55, 3, 0, 0, 0) := rfl
theorem s169_138 {l0 l1 l2 l3 l4 l5 : AV} {s0 s1 : Int} {h : AH} : evL 169 138 [l0, l1, l2, l3, l4, l5] [I s0, I s1] h = if s0 ≤ s1 then evL 169 193 [l0, l1, l2, l3, l4, l5] [] h else evL 169 141 [l0, l1, l2, l3, l4, l5] [] h := e_icmp_ge c169_138 rfl rfl
theorem c169_141 : cd 169 141 = some (141, .aload_n 0, 1, 0, 0, 0) := rfl
theorem s169_141 {l1 l2 l3 l4 l5 : AV} {l0 : Option Nat} {h : AH} : evL 169 141 [.inr (.inl l0), l1, l2, l3, l4, l5] [] h = evL 169 142 [.inr (.inl l0), l1, l2, l3, l4, l5] [.inr (.inl l0)] h := ev_go c169_141 rfl
theorem c169_142 : cd 169 142 = some (142, .getfield 25, 3, 8, 16, 741) := rfl
theorem s169_142 {l0 l1 l2 l3 l4 l5 : AV} {s0 : Nat} {M : Mem} {P : PMem} (hk : kd s0 = 8) : evL 169 142 [l0, l1, l2, l3, l4, l5] [Rf s0] (Hp M P) = evL 169 145 [l0, l1, l2, l3, l4, l5] [Rf (rfd s0 16)] (Hp M P) := e_getR c169_142 rfl hk
theorem c169_145 : cd 169 145 = some (145, .iload 4, 2, 0, 0, 0) := rfl
theorem s169_145 {l0 l1 l2 l3 l5 s0 : AV} {l4 : Int} {h : AH} : evL 169 145 [l0, l1, l2, l3, I l4, l5] [s0] h = evL 169 147 [l0, l1, l2, l3, I l4, l5] [I l4, s0] h := ev_go c169_145 rfl
theorem c169_147 : cd 169 147 = some (147, .iaload, 1, 0, 0, 0) := rfl
theorem s169_147 {l0 l1 l2 l3 l4 l5 : AV} {s0 : Int} {s1 : Nat} {M : Mem} {P : PMem} (hk : kd s1 = 100) (h0 : 0 ≤ s0) (hn : s0.toNat < ln s1) : evL 169 147 [l0, l1, l2, l3, l4, l5] [I s0, Rf s1] (Hp M P) = evL 169 148 [l0, l1, l2, l3, l4, l5] [I (M s1 s0.toNat)] (Hp M P) := e_iald c169_147 hk h0 hn
theorem c169_148 : cd 169 148 = some (148, .ifCond .le 45, 3, 0, 0, 0) := rfl
theorem s169_148 {l0 l1 l2 l3 l4 l5 : AV} {s0 : Int} {h : AH} : evL 169 148 [l0, l1, l2, l3, l4, l5] [I s0] h = if s0 ≤ 0 then evL 169 193 [l0, l1, l2, l3, l4, l5] [] h else evL 169 151 [l0, l1, l2, l3, l4, l5] [] h := e_if_le c169_148 rfl rfl
theorem c169_151 : cd 169 151 = some (151, .aload_n 0, 1, 0, 0, 0) := rfl
theorem s169_151 {l1 l2 l3 l4 l5 : AV} {l0 : Option Nat} {h : AH} : evL 169 151 [.inr (.inl l0), l1, l2, l3, l4, l5] [] h = evL 169 152 [.inr (.inl l0), l1, l2, l3, l4, l5] [.inr (.inl l0)] h := ev_go c169_151 rfl
theorem c169_152 : cd 169 152 = some (152, .getfield 28, 3, 8, 17, 742) := rfl
theorem s169_152 {l0 l1 l2 l3 l4 l5 : AV} {s0 : Nat} {M : Mem} {P : PMem} (hk : kd s0 = 8) : evL 169 152 [l0, l1, l2, l3, l4, l5] [Rf s0] (Hp M P) = evL 169 155 [l0, l1, l2, l3, l4, l5] [Rf (rfd s0 17)] (Hp M P) := e_getR c169_152 rfl hk
theorem c169_155 : cd 169 155 = some (155, .aload_n 0, 1, 0, 0, 0) := rfl
theorem s169_155 {l1 l2 l3 l4 l5 s0 : AV} {l0 : Option Nat} {h : AH} : evL 169 155 [.inr (.inl l0), l1, l2, l3, l4, l5] [s0] h = evL 169 156 [.inr (.inl l0), l1, l2, l3, l4, l5] [.inr (.inl l0), s0] h := ev_go c169_155 rfl
theorem c169_156 : cd 169 156 = some (156, .iload_n 2, 1, 0, 0, 0) := rfl
theorem s169_156 {l0 l1 l3 l4 l5 s0 s1 : AV} {l2 : Int} {h : AH} : evL 169 156 [l0, l1, I l2, l3, l4, l5] [s0, s1] h = evL 169 157 [l0, l1, I l2, l3, l4, l5] [I l2, s0, s1] h := ev_go c169_156 rfl
theorem c169_157 : cd 169 157 = some (157, .iload 4, 2, 0, 0, 0) := rfl
theorem s169_157 {l0 l1 l2 l3 l5 s0 s1 s2 : AV} {l4 : Int} {h : AH} : evL 169 157 [l0, l1, l2, l3, I l4, l5] [s0, s1, s2] h = evL 169 159 [l0, l1, l2, l3, I l4, l5] [I l4, s0, s1, s2] h := ev_go c169_157 rfl
theorem c169_159 : cd 169 159 = some (159, .iconst 1, 1, 0, 0, 0) := rfl
theorem s169_159 {l0 l1 l2 l3 l4 l5 s0 s1 s2 s3 : AV} {h : AH} : evL 169 159 [l0, l1, l2, l3, l4, l5] [s0, s1, s2, s3] h = evL 169 160 [l0, l1, l2, l3, l4, l5] [I 1, s0, s1, s2, s3] h := ev_go c169_159 rfl
theorem c169_160 : cd 169 160 = some (160, .aload_n 0, 1, 0, 0, 0) := rfl
theorem s169_160 {l1 l2 l3 l4 l5 s0 s1 s2 s3 s4 : AV} {l0 : Option Nat} {h : AH} : evL 169 160 [.inr (.inl l0), l1, l2, l3, l4, l5] [s0, s1, s2, s3, s4] h = evL 169 161 [.inr (.inl l0), l1, l2, l3, l4, l5] [.inr (.inl l0), s0, s1, s2, s3, s4] h := ev_go c169_160 rfl
theorem c169_161 : cd 169 161 = some (161, .iload_n 2, 1, 0, 0, 0) := rfl
theorem s169_161 {l0 l1 l3 l4 l5 s0 s1 s2 s3 s4 s5 : AV} {l2 : Int} {h : AH} : evL 169 161 [l0, l1, I l2, l3, l4, l5] [s0, s1, s2, s3, s4, s5] h = evL 169 162 [l0, l1, I l2, l3, l4, l5] [I l2, s0, s1, s2, s3, s4, s5] h := ev_go c169_161 rfl
theorem c169_162 : cd 169 162 = some (162, .iload 5, 2, 0, 0, 0) := rfl
theorem s169_162 {l0 l1 l2 l3 l4 s0 s1 s2 s3 s4 s5 s6 : AV} {l5 : Int} {h : AH} : evL 169 162 [l0, l1, l2, l3, l4, I l5] [s0, s1, s2, s3, s4, s5, s6] h = evL 169 164 [l0, l1, l2, l3, l4, I l5] [I l5, s0, s1, s2, s3, s4, s5, s6] h := ev_go c169_162 rfl
theorem c169_164 : cd 169 164 = some (164, .invokevirtual 91, 3, 133, 0, 814) := rfl
theorem s169_164 {l0 l1 l2 l3 l4 l5 : AV} {s0 s1 s3 s4 s5 : Int} {s2 : Nat} {s6 s7 : Option Nat} {M : Mem} {P : PMem} (hk : kd s2 = 8) : evL 169 164 [l0, l1, l2, l3, l4, l5] [I s0, I s1, Rf s2, I s3, I s4, I s5, .inr (.inl s6), .inr (.inl s7)] (Hp M P) = cont (evM 133 [Rf s2, I s1, I s0] (Hp M P)) (fun r h => evL 169 167 [l0, l1, l2, l3, l4, l5] (rl r [I s3, I s4, I s5, .inr (.inl s6), .inr (.inl s7)]) h) := e_callV (av' := [I s1, I s0]) (rest := [I s3, I s4, I s5, .inr (.inl s6), .inr (.inl s7)]) (c := 8) c169_164 rfl rfl rfl rfl rfl rfl rfl hk rfl
theorem c169_167 : cd 169 167 = some (167, .invokevirtual 94, 3, 132, 0, 818) := rfl
theorem s169_167 {l0 l1 l2 l3 l4 l5 s5 : AV} {s0 s1 s2 s3 : Int} {s4 : Nat} {M : Mem} {P : PMem} (hk : kd s4 = 8) : evL 169 167 [l0, l1, l2, l3, l4, l5] [I s0, I s1, I s2, I s3, Rf s4, s5] (Hp M P) = cont (evM 132 [Rf s4, I s3, I s2, I s1, I s0] (Hp M P)) (fun r h => evL 169 170 [l0, l1, l2, l3, l4, l5] (rl r [s5]) h) := e_callV (av' := [I s3, I s2, I s1, I s0]) (rest := [s5]) (c := 8) c169_167 rfl rfl rfl rfl rfl rfl rfl hk rfl
theorem c169_170 : cd 169 170 = some (170, .dup2, 1, 0, 0, 0) := rfl
theorem s169_170 {l0 l1 l2 l3 l4 l5 : AV} {s0 : Int} {s1 : Option Nat} {h : AH} : evL 169 170 [l0, l1, l2, l3, l4, l5] [I s0, .inr (.inl s1)] h = evL 169 171 [l0, l1, l2, l3, l4, l5] [I s0, .inr (.inl s1), I s0, .inr (.inl s1)] h := ev_go c169_170 rfl
theorem c169_171 : cd 169 171 = some (171, .iaload, 1, 0, 0, 0) := rfl
theorem s169_171 {l0 l1 l2 l3 l4 l5 s2 s3 : AV} {s0 : Int} {s1 : Nat} {M : Mem} {P : PMem} (hk : kd s1 = 100) (h0 : 0 ≤ s0) (hn : s0.toNat < ln s1) : evL 169 171 [l0, l1, l2, l3, l4, l5] [I s0, Rf s1, s2, s3] (Hp M P) = evL 169 172 [l0, l1, l2, l3, l4, l5] [I (M s1 s0.toNat), s2, s3] (Hp M P) := e_iald c169_171 hk h0 hn
theorem c169_172 : cd 169 172 = some (172, .aload_n 0, 1, 0, 0, 0) := rfl
theorem s169_172 {l1 l2 l3 l4 l5 s0 s1 s2 : AV} {l0 : Option Nat} {h : AH} : evL 169 172 [.inr (.inl l0), l1, l2, l3, l4, l5] [s0, s1, s2] h = evL 169 173 [.inr (.inl l0), l1, l2, l3, l4, l5] [.inr (.inl l0), s0, s1, s2] h := ev_go c169_172 rfl
theorem c169_173 : cd 169 173 = some (173, .getfield 25, 3, 8, 16, 741) := rfl
theorem s169_173 {l0 l1 l2 l3 l4 l5 s1 s2 s3 : AV} {s0 : Nat} {M : Mem} {P : PMem} (hk : kd s0 = 8) : evL 169 173 [l0, l1, l2, l3, l4, l5] [Rf s0, s1, s2, s3] (Hp M P) = evL 169 176 [l0, l1, l2, l3, l4, l5] [Rf (rfd s0 16), s1, s2, s3] (Hp M P) := e_getR c169_173 rfl hk
theorem c169_176 : cd 169 176 = some (176, .iload 4, 2, 0, 0, 0) := rfl
theorem s169_176 {l0 l1 l2 l3 l5 s0 s1 s2 s3 : AV} {l4 : Int} {h : AH} : evL 169 176 [l0, l1, l2, l3, I l4, l5] [s0, s1, s2, s3] h = evL 169 178 [l0, l1, l2, l3, I l4, l5] [I l4, s0, s1, s2, s3] h := ev_go c169_176 rfl
theorem c169_178 : cd 169 178 = some (178, .iaload, 1, 0, 0, 0) := rfl
theorem s169_178 {l0 l1 l2 l3 l4 l5 s2 s3 s4 : AV} {s0 : Int} {s1 : Nat} {M : Mem} {P : PMem} (hk : kd s1 = 100) (h0 : 0 ≤ s0) (hn : s0.toNat < ln s1) : evL 169 178 [l0, l1, l2, l3, l4, l5] [I s0, Rf s1, s2, s3, s4] (Hp M P) = evL 169 179 [l0, l1, l2, l3, l4, l5] [I (M s1 s0.toNat), s2, s3, s4] (Hp M P) := e_iald c169_178 hk h0 hn
theorem c169_179 : cd 169 179 = some (179, .iload 5, 2, 0, 0, 0) := rfl
theorem s169_179 {l0 l1 l2 l3 l4 s0 s1 s2 s3 : AV} {l5 : Int} {h : AH} : evL 169 179 [l0, l1, l2, l3, l4, I l5] [s0, s1, s2, s3] h = evL 169 181 [l0, l1, l2, l3, l4, I l5] [I l5, s0, s1, s2, s3] h := ev_go c169_179 rfl
theorem c169_181 : cd 169 181 = some (181, .invokestatic 202, 3, 167, 0, 991) := rfl
theorem s169_181 {l0 l1 l2 l3 l4 l5 s1 s2 s3 s4 : AV} {s0 : Int} {M : Mem} {P : PMem} : evL 169 181 [l0, l1, l2, l3, l4, l5] [I s0, s1, s2, s3, s4] (Hp M P) = cont (evM 167 [I s0] (Hp M P)) (fun r h => evL 169 184 [l0, l1, l2, l3, l4, l5] (rl r [s1, s2, s3, s4]) h) := e_callS (av := [I s0]) (rest := [s1, s2, s3, s4]) c169_181 rfl rfl rfl rfl rfl rfl
theorem c169_184 : cd 169 184 = some (184, .imul, 1, 0, 0, 0) := rfl
theorem s169_184 {l0 l1 l2 l3 l4 l5 s2 s3 s4 : AV} {s0 s1 : Int} {h : AH} : evL 169 184 [l0, l1, l2, l3, l4, l5] [I s0, I s1, s2, s3, s4] h = evL 169 185 [l0, l1, l2, l3, l4, l5] [I (ml s1 s0), s2, s3, s4] h := ev_go c169_184 rfl
theorem c169_185 : cd 169 185 = some (185, .iadd, 1, 0, 0, 0) := rfl
theorem s169_185 {l0 l1 l2 l3 l4 l5 s2 s3 : AV} {s0 s1 : Int} {h : AH} : evL 169 185 [l0, l1, l2, l3, l4, l5] [I s0, I s1, s2, s3] h = evL 169 186 [l0, l1, l2, l3, l4, l5] [I (ad s1 s0), s2, s3] h := ev_go c169_185 rfl
theorem c169_186 : cd 169 186 = some (186, .iastore, 1, 0, 0, 0) := rfl
theorem s169_186 {l0 l1 l2 l3 l4 l5 : AV} {s0 s1 : Int} {s2 : Nat} {M : Mem} {P : PMem} (hk : kd s2 = 100) (h0 : 0 ≤ s1) (hn : s1.toNat < ln s2) : evL 169 186 [l0, l1, l2, l3, l4, l5] [I s0, I s1, Rf s2] (Hp M P) = evL 169 187 [l0, l1, l2, l3, l4, l5] [] (Hp (wr M s2 s1.toNat s0) P) := e_iast c169_186 hk h0 hn
theorem c169_187 : cd 169 187 = some (187, .iinc 5 1, 3, 0, 0, 0) := rfl
theorem s169_187 {l0 l1 l2 l3 l4 : AV} {l5 : Int} {h : AH} : evL 169 187 [l0, l1, l2, l3, l4, I l5] [] h = evL 169 190 [l0, l1, l2, l3, l4, I (ad l5 1)] [] h := ev_go c169_187 rfl
theorem c169_190 : cd 169 190 = some (190, .goto (-56), 3, 0, 0, 0) := rfl
theorem s169_190 {l0 l1 l2 l3 l4 l5 : AV} {h : AH} : evL 169 190 [l0, l1, l2, l3, l4, l5] [] h = evL 169 134 [l0, l1, l2, l3, l4, l5] [] h := ev_go c169_190 rfl
theorem c169_193 : cd 169 193 = some (193, .iinc 4 1, 3, 0, 0, 0) := rfl
theorem s169_193 {l0 l1 l2 l3 l5 : AV} {l4 : Int} {h : AH} : evL 169 193 [l0, l1, l2, l3, I l4, l5] [] h = evL 169 196 [l0, l1, l2, l3, I (ad l4 1), l5] [] h := ev_go c169_193 rfl
theorem c169_196 : cd 169 196 = some (196, .goto (-72), 3, 0, 0, 0) := rfl
theorem s169_196 {l0 l1 l2 l3 l4 l5 : AV} {h : AH} : evL 169 196 [l0, l1, l2, l3, l4, l5] [] h = evL 169 124 [l0, l1, l2, l3, l4, l5] [] h := ev_go c169_196 rfl
theorem c169_199 : cd 169 199 = some (199, .iconst 0, 1, 0, 0, 0) := rfl
theorem s169_199 {l0 l1 l2 l3 l4 l5 : AV} {h : AH} : evL 169 199 [l0, l1, l2, l3, l4, l5] [] h = evL 169 200 [l0, l1, l2, l3, l4, l5] [I 0] h := ev_go c169_199 rfl
theorem c169_200 : cd 169 200 = some (200, .istore 4, 2, 0, 0, 0) := rfl
theorem s169_200 {l0 l1 l2 l3 l4 l5 : AV} {s0 : Int} {h : AH} : evL 169 200 [l0, l1, l2, l3, l4, l5] [I s0] h = evL 169 202 [l0, l1, l2, l3, I s0, l5] [] h := ev_go c169_200 rfl
theorem c169_202 : cd 169 202 = some (202, .iload 4, 2, 0, 0, 0) := rfl
theorem s169_202 {l0 l1 l2 l3 l5 : AV} {l4 : Int} {h : AH} : evL 169 202 [l0, l1, l2, l3, I l4, l5] [] h = evL 169 204 [l0, l1, l2, l3, I l4, l5] [I l4] h := ev_go c169_202 rfl
theorem c169_204 : cd 169 204 = some (204, .bipush 17, 2, 0, 0, 0) := rfl
theorem s169_204 {l0 l1 l2 l3 l4 l5 s0 : AV} {h : AH} : evL 169 204 [l0, l1, l2, l3, l4, l5] [s0] h = evL 169 206 [l0, l1, l2, l3, l4, l5] [I 17, s0] h := ev_go c169_204 rfl
theorem c169_206 : cd 169 206 = some (206, .if_icmp .ge 23, 3, 0, 0, 0) := rfl
theorem s169_206 {l0 l1 l2 l3 l4 l5 : AV} {s0 s1 : Int} {h : AH} : evL 169 206 [l0, l1, l2, l3, l4, l5] [I s0, I s1] h = if s0 ≤ s1 then evL 169 229 [l0, l1, l2, l3, l4, l5] [] h else evL 169 209 [l0, l1, l2, l3, l4, l5] [] h := e_icmp_ge c169_206 rfl rfl
theorem c169_209 : cd 169 209 = some (209, .aload_n 0, 1, 0, 0, 0) := rfl
theorem s169_209 {l1 l2 l3 l4 l5 : AV} {l0 : Option Nat} {h : AH} : evL 169 209 [.inr (.inl l0), l1, l2, l3, l4, l5] [] h = evL 169 210 [.inr (.inl l0), l1, l2, l3, l4, l5] [.inr (.inl l0)] h := ev_go c169_209 rfl
theorem c169_210 : cd 169 210 = some (210, .getfield 25, 3, 8, 16, 741) := rfl
theorem s169_210 {l0 l1 l2 l3 l4 l5 : AV} {s0 : Nat} {M : Mem} {P : PMem} (hk : kd s0 = 8) : evL 169 210 [l0, l1, l2, l3, l4, l5] [Rf s0] (Hp M P) = evL 169 213 [l0, l1, l2, l3, l4, l5] [Rf (rfd s0 16)] (Hp M P) := e_getR c169_210 rfl hk
theorem c169_213 : cd 169 213 = some (213, .iload 4, 2, 0, 0, 0) := rfl
theorem s169_213 {l0 l1 l2 l3 l5 s0 : AV} {l4 : Int} {h : AH} : evL 169 213 [l0, l1, l2, l3, I l4, l5] [s0] h = evL 169 215 [l0, l1, l2, l3, I l4, l5] [I l4, s0] h := ev_go c169_213 rfl
theorem c169_215 : cd 169 215 = some (215, .aload_n 0, 1, 0, 0, 0) := rfl
theorem s169_215 {l1 l2 l3 l4 l5 s0 s1 : AV} {l0 : Option Nat} {h : AH} : evL 169 215 [.inr (.inl l0), l1, l2, l3, l4, l5] [s0, s1] h = evL 169 216 [.inr (.inl l0), l1, l2, l3, l4, l5] [.inr (.inl l0), s0, s1] h := ev_go c169_215 rfl
theorem c169_216 : cd 169 216 = some (216, .getfield 28, 3, 8, 17, 742) := rfl
theorem s169_216 {l0 l1 l2 l3 l4 l5 s1 s2 : AV} {s0 : Nat} {M : Mem} {P : PMem} (hk : kd s0 = 8) : evL 169 216 [l0, l1, l2, l3, l4, l5] [Rf s0, s1, s2] (Hp M P) = evL 169 219 [l0, l1, l2, l3, l4, l5] [Rf (rfd s0 17), s1, s2] (Hp M P) := e_getR c169_216 rfl hk
theorem c169_219 : cd 169 219 = some (219, .iload 4, 2, 0, 0, 0) := rfl
theorem s169_219 {l0 l1 l2 l3 l5 s0 s1 s2 : AV} {l4 : Int} {h : AH} : evL 169 219 [l0, l1, l2, l3, I l4, l5] [s0, s1, s2] h = evL 169 221 [l0, l1, l2, l3, I l4, l5] [I l4, s0, s1, s2] h := ev_go c169_219 rfl
theorem c169_221 : cd 169 221 = some (221, .iaload, 1, 0, 0, 0) := rfl
theorem s169_221 {l0 l1 l2 l3 l4 l5 s2 s3 : AV} {s0 : Int} {s1 : Nat} {M : Mem} {P : PMem} (hk : kd s1 = 100) (h0 : 0 ≤ s0) (hn : s0.toNat < ln s1) : evL 169 221 [l0, l1, l2, l3, l4, l5] [I s0, Rf s1, s2, s3] (Hp M P) = evL 169 222 [l0, l1, l2, l3, l4, l5] [I (M s1 s0.toNat), s2, s3] (Hp M P) := e_iald c169_221 hk h0 hn
theorem c169_222 : cd 169 222 = some (222, .iastore, 1, 0, 0, 0) := rfl
theorem s169_222 {l0 l1 l2 l3 l4 l5 : AV} {s0 s1 : Int} {s2 : Nat} {M : Mem} {P : PMem} (hk : kd s2 = 100) (h0 : 0 ≤ s1) (hn : s1.toNat < ln s2) : evL 169 222 [l0, l1, l2, l3, l4, l5] [I s0, I s1, Rf s2] (Hp M P) = evL 169 223 [l0, l1, l2, l3, l4, l5] [] (Hp (wr M s2 s1.toNat s0) P) := e_iast c169_222 hk h0 hn
theorem c169_223 : cd 169 223 = some (223, .iinc 4 1, 3, 0, 0, 0) := rfl
theorem s169_223 {l0 l1 l2 l3 l5 : AV} {l4 : Int} {h : AH} : evL 169 223 [l0, l1, l2, l3, I l4, l5] [] h = evL 169 226 [l0, l1, l2, l3, I (ad l4 1), l5] [] h := ev_go c169_223 rfl
theorem c169_226 : cd 169 226 = some (226, .goto (-24), 3, 0, 0, 0) := rfl
theorem s169_226 {l0 l1 l2 l3 l4 l5 : AV} {h : AH} : evL 169 226 [l0, l1, l2, l3, l4, l5] [] h = evL 169 202 [l0, l1, l2, l3, l4, l5] [] h := ev_go c169_226 rfl
theorem c169_229 : cd 169 229 = some (229, .iinc 3 1, 3, 0, 0, 0) := rfl
theorem s169_229 {l0 l1 l2 l4 l5 : AV} {l3 : Int} {h : AH} : evL 169 229 [l0, l1, l2, I l3, l4, l5] [] h = evL 169 232 [l0, l1, l2, I (ad l3 1), l4, l5] [] h := ev_go c169_229 rfl
theorem c169_232 : cd 169 232 = some (232, .goto (-155), 3, 0, 0, 0) := rfl
theorem s169_232 {l0 l1 l2 l3 l4 l5 : AV} {h : AH} : evL 169 232 [l0, l1, l2, l3, l4, l5] [] h = evL 169 77 [l0, l1, l2, l3, l4, l5] [] h := ev_go c169_232 rfl
theorem c169_235 : cd 169 235 = some (235, .aload_n 0, 1, 0, 0, 0) := rfl
theorem s169_235 {l1 l2 l3 l4 l5 : AV} {l0 : Option Nat} {h : AH} : evL 169 235 [.inr (.inl l0), l1, l2, l3, l4, l5] [] h = evL 169 236 [.inr (.inl l0), l1, l2, l3, l4, l5] [.inr (.inl l0)] h := ev_go c169_235 rfl
theorem c169_236 : cd 169 236 = some (236, .getfield 25, 3, 8, 16, 741) := rfl
theorem s169_236 {l0 l1 l2 l3 l4 l5 : AV} {s0 : Nat} {M : Mem} {P : PMem} (hk : kd s0 = 8) : evL 169 236 [l0, l1, l2, l3, l4, l5] [Rf s0] (Hp M P) = evL 169 239 [l0, l1, l2, l3, l4, l5] [Rf (rfd s0 16)] (Hp M P) := e_getR c169_236 rfl hk
theorem c169_239 : cd 169 239 = some (239, .iconst 0, 1, 0, 0, 0) := rfl
theorem s169_239 {l0 l1 l2 l3 l4 l5 s0 : AV} {h : AH} : evL 169 239 [l0, l1, l2, l3, l4, l5] [s0] h = evL 169 240 [l0, l1, l2, l3, l4, l5] [I 0, s0] h := ev_go c169_239 rfl
theorem c169_240 : cd 169 240 = some (240, .iaload, 1, 0, 0, 0) := rfl
theorem s169_240 {l0 l1 l2 l3 l4 l5 : AV} {s0 : Int} {s1 : Nat} {M : Mem} {P : PMem} (hk : kd s1 = 100) (h0 : 0 ≤ s0) (hn : s0.toNat < ln s1) : evL 169 240 [l0, l1, l2, l3, l4, l5] [I s0, Rf s1] (Hp M P) = evL 169 241 [l0, l1, l2, l3, l4, l5] [I (M s1 s0.toNat)] (Hp M P) := e_iald c169_240 hk h0 hn
theorem c169_241 : cd 169 241 = some (241, .ireturn, 1, 0, 0, 0) := rfl
theorem s169_241 {l0 l1 l2 l3 l4 l5 : AV} {s0 : Int} {h : AH} : evL 169 241 [l0, l1, l2, l3, l4, l5] [I s0] h = some (some (I s0), h) := e_ret c169_241 rfl
/-! 170: TankDiversModel.used()I -/
theorem en170 {l0 : AV} {h : AH} : evM 170 [l0] h = evL 170 0 [l0, Db 0, Db 0] [] h := rfl
theorem c170_0 : cd 170 0 = some (0, .iconst 0, 1, 0, 0, 0) := rfl
theorem s170_0 {l0 l1 l2 : AV} {h : AH} : evL 170 0 [l0, l1, l2] [] h = evL 170 1 [l0, l1, l2] [I 0] h := ev_go c170_0 rfl
theorem c170_1 : cd 170 1 = some (1, .istore_n 1, 1, 0, 0, 0) := rfl
theorem s170_1 {l0 l1 l2 : AV} {s0 : Int} {h : AH} : evL 170 1 [l0, l1, l2] [I s0] h = evL 170 2 [l0, I s0, l2] [] h := ev_go c170_1 rfl
theorem c170_2 : cd 170 2 = some (2, .iconst 0, 1, 0, 0, 0) := rfl
theorem s170_2 {l0 l1 l2 : AV} {h : AH} : evL 170 2 [l0, l1, l2] [] h = evL 170 3 [l0, l1, l2] [I 0] h := ev_go c170_2 rfl
theorem c170_3 : cd 170 3 = some (3, .istore_n 2, 1, 0, 0, 0) := rfl
theorem s170_3 {l0 l1 l2 : AV} {s0 : Int} {h : AH} : evL 170 3 [l0, l1, l2] [I s0] h = evL 170 4 [l0, l1, I s0] [] h := ev_go c170_3 rfl
theorem c170_4 : cd 170 4 = some (4, .iload_n 2, 1, 0, 0, 0) := rfl
theorem s170_4 {l0 l1 : AV} {l2 : Int} {h : AH} : evL 170 4 [l0, l1, I l2] [] h = evL 170 5 [l0, l1, I l2] [I l2] h := ev_go c170_4 rfl
theorem c170_5 : cd 170 5 = some (5, .aload_n 0, 1, 0, 0, 0) := rfl
theorem s170_5 {l1 l2 s0 : AV} {l0 : Option Nat} {h : AH} : evL 170 5 [.inr (.inl l0), l1, l2] [s0] h = evL 170 6 [.inr (.inl l0), l1, l2] [.inr (.inl l0), s0] h := ev_go c170_5 rfl
theorem c170_6 : cd 170 6 = some (6, .getfield 7, 3, 8, 0, 725) := rfl
theorem s170_6 {l0 l1 l2 s1 : AV} {s0 : Nat} {M : Mem} {P : PMem} (hk : kd s0 = 8) : evL 170 6 [l0, l1, l2] [Rf s0, s1] (Hp M P) = evL 170 9 [l0, l1, l2] [Rf (rfd s0 0), s1] (Hp M P) := e_getR c170_6 rfl hk
theorem c170_9 : cd 170 9 = some (9, .iconst 0, 1, 0, 0, 0) := rfl
theorem s170_9 {l0 l1 l2 s0 s1 : AV} {h : AH} : evL 170 9 [l0, l1, l2] [s0, s1] h = evL 170 10 [l0, l1, l2] [I 0, s0, s1] h := ev_go c170_9 rfl
theorem c170_10 : cd 170 10 = some (10, .iaload, 1, 0, 0, 0) := rfl
theorem s170_10 {l0 l1 l2 s2 : AV} {s0 : Int} {s1 : Nat} {M : Mem} {P : PMem} (hk : kd s1 = 100) (h0 : 0 ≤ s0) (hn : s0.toNat < ln s1) : evL 170 10 [l0, l1, l2] [I s0, Rf s1, s2] (Hp M P) = evL 170 11 [l0, l1, l2] [I (M s1 s0.toNat), s2] (Hp M P) := e_iald c170_10 hk h0 hn
theorem c170_11 : cd 170 11 = some (11, .if_icmp .ge 32, 3, 0, 0, 0) := rfl
theorem s170_11 {l0 l1 l2 : AV} {s0 s1 : Int} {h : AH} : evL 170 11 [l0, l1, l2] [I s0, I s1] h = if s0 ≤ s1 then evL 170 43 [l0, l1, l2] [] h else evL 170 14 [l0, l1, l2] [] h := e_icmp_ge c170_11 rfl rfl
theorem c170_14 : cd 170 14 = some (14, .iload_n 1, 1, 0, 0, 0) := rfl
theorem s170_14 {l0 l2 : AV} {l1 : Int} {h : AH} : evL 170 14 [l0, I l1, l2] [] h = evL 170 15 [l0, I l1, l2] [I l1] h := ev_go c170_14 rfl
theorem c170_15 : cd 170 15 = some (15, .aload_n 0, 1, 0, 0, 0) := rfl
theorem s170_15 {l1 l2 s0 : AV} {l0 : Option Nat} {h : AH} : evL 170 15 [.inr (.inl l0), l1, l2] [s0] h = evL 170 16 [.inr (.inl l0), l1, l2] [.inr (.inl l0), s0] h := ev_go c170_15 rfl
theorem c170_16 : cd 170 16 = some (16, .iload_n 2, 1, 0, 0, 0) := rfl
theorem s170_16 {l0 l1 s0 s1 : AV} {l2 : Int} {h : AH} : evL 170 16 [l0, l1, I l2] [s0, s1] h = evL 170 17 [l0, l1, I l2] [I l2, s0, s1] h := ev_go c170_16 rfl
theorem c170_17 : cd 170 17 = some (17, .iconst 2, 1, 0, 0, 0) := rfl
theorem s170_17 {l0 l1 l2 s0 s1 s2 : AV} {h : AH} : evL 170 17 [l0, l1, l2] [s0, s1, s2] h = evL 170 18 [l0, l1, l2] [I 2, s0, s1, s2] h := ev_go c170_17 rfl
theorem c170_18 : cd 170 18 = some (18, .invokevirtual 54, 3, 116, 0, 806) := rfl
theorem s170_18 {l0 l1 l2 s3 : AV} {s0 s1 : Int} {s2 : Nat} {M : Mem} {P : PMem} (hk : kd s2 = 8) : evL 170 18 [l0, l1, l2] [I s0, I s1, Rf s2, s3] (Hp M P) = cont (evM 116 [Rf s2, I s1, I s0] (Hp M P)) (fun r h => evL 170 21 [l0, l1, l2] (rl r [s3]) h) := e_callV (av' := [I s1, I s0]) (rest := [s3]) (c := 8) c170_18 rfl rfl rfl rfl rfl rfl rfl hk rfl
theorem c170_21 : cd 170 21 = some (21, .iconst 1, 1, 0, 0, 0) := rfl
theorem s170_21 {l0 l1 l2 s0 s1 : AV} {h : AH} : evL 170 21 [l0, l1, l2] [s0, s1] h = evL 170 22 [l0, l1, l2] [I 1, s0, s1] h := ev_go c170_21 rfl
theorem c170_22 : cd 170 22 = some (22, .if_icmp .ne 7, 3, 0, 0, 0) := rfl
theorem s170_22 {l0 l1 l2 s2 : AV} {s0 s1 : Int} {h : AH} : evL 170 22 [l0, l1, l2] [I s0, I s1, s2] h = if s1 = s0 then evL 170 25 [l0, l1, l2] [s2] h else evL 170 29 [l0, l1, l2] [s2] h := e_icmp_ne c170_22 rfl rfl
theorem c170_25 : cd 170 25 = some (25, .iconst 0, 1, 0, 0, 0) := rfl
theorem s170_25 {l0 l1 l2 s0 : AV} {h : AH} : evL 170 25 [l0, l1, l2] [s0] h = evL 170 26 [l0, l1, l2] [I 0, s0] h := ev_go c170_25 rfl
theorem c170_26 : cd 170 26 = some (26, .goto 9, 3, 0, 0, 0) := rfl
theorem s170_26 {l0 l1 l2 s0 s1 : AV} {h : AH} : evL 170 26 [l0, l1, l2] [s0, s1] h = evL 170 35 [l0, l1, l2] [s0, s1] h := ev_go c170_26 rfl
theorem c170_29 : cd 170 29 = some (29, .aload_n 0, 1, 0, 0, 0) := rfl
theorem s170_29 {l1 l2 s0 : AV} {l0 : Option Nat} {h : AH} : evL 170 29 [.inr (.inl l0), l1, l2] [s0] h = evL 170 30 [.inr (.inl l0), l1, l2] [.inr (.inl l0), s0] h := ev_go c170_29 rfl
theorem c170_30 : cd 170 30 = some (30, .iload_n 2, 1, 0, 0, 0) := rfl
theorem s170_30 {l0 l1 s0 s1 : AV} {l2 : Int} {h : AH} : evL 170 30 [l0, l1, I l2] [s0, s1] h = evL 170 31 [l0, l1, I l2] [I l2, s0, s1] h := ev_go c170_30 rfl
theorem c170_31 : cd 170 31 = some (31, .iconst 3, 1, 0, 0, 0) := rfl
theorem s170_31 {l0 l1 l2 s0 s1 s2 : AV} {h : AH} : evL 170 31 [l0, l1, l2] [s0, s1, s2] h = evL 170 32 [l0, l1, l2] [I 3, s0, s1, s2] h := ev_go c170_31 rfl
theorem c170_32 : cd 170 32 = some (32, .invokevirtual 54, 3, 116, 0, 806) := rfl
theorem s170_32 {l0 l1 l2 s3 : AV} {s0 s1 : Int} {s2 : Nat} {M : Mem} {P : PMem} (hk : kd s2 = 8) : evL 170 32 [l0, l1, l2] [I s0, I s1, Rf s2, s3] (Hp M P) = cont (evM 116 [Rf s2, I s1, I s0] (Hp M P)) (fun r h => evL 170 35 [l0, l1, l2] (rl r [s3]) h) := e_callV (av' := [I s1, I s0]) (rest := [s3]) (c := 8) c170_32 rfl rfl rfl rfl rfl rfl rfl hk rfl
theorem c170_35 : cd 170 35 = some (35, .iadd, 1, 0, 0, 0) := rfl
theorem s170_35 {l0 l1 l2 : AV} {s0 s1 : Int} {h : AH} : evL 170 35 [l0, l1, l2] [I s0, I s1] h = evL 170 36 [l0, l1, l2] [I (ad s1 s0)] h := ev_go c170_35 rfl
theorem c170_36 : cd 170 36 = some (36, .istore_n 1, 1, 0, 0, 0) := rfl
theorem s170_36 {l0 l1 l2 : AV} {s0 : Int} {h : AH} : evL 170 36 [l0, l1, l2] [I s0] h = evL 170 37 [l0, I s0, l2] [] h := ev_go c170_36 rfl
theorem c170_37 : cd 170 37 = some (37, .iinc 2 1, 3, 0, 0, 0) := rfl
theorem s170_37 {l0 l1 : AV} {l2 : Int} {h : AH} : evL 170 37 [l0, l1, I l2] [] h = evL 170 40 [l0, l1, I (ad l2 1)] [] h := ev_go c170_37 rfl
theorem c170_40 : cd 170 40 = some (40, .goto (-36), 3, 0, 0, 0) := rfl
theorem s170_40 {l0 l1 l2 : AV} {h : AH} : evL 170 40 [l0, l1, l2] [] h = evL 170 4 [l0, l1, l2] [] h := ev_go c170_40 rfl
theorem c170_43 : cd 170 43 = some (43, .iload_n 1, 1, 0, 0, 0) := rfl
theorem s170_43 {l0 l2 : AV} {l1 : Int} {h : AH} : evL 170 43 [l0, I l1, l2] [] h = evL 170 44 [l0, I l1, l2] [I l1] h := ev_go c170_43 rfl
theorem c170_44 : cd 170 44 = some (44, .ireturn, 1, 0, 0, 0) := rfl
theorem s170_44 {l0 l1 l2 : AV} {s0 : Int} {h : AH} : evL 170 44 [l0, l1, l2] [I s0] h = some (some (I s0), h) := e_ret c170_44 rfl
/-! 171: TankDiversModel.brought()D -/
theorem en171 {l0 : AV} {h : AH} : evM 171 [l0] h = evL 171 0 [l0, Db 0] [] h := rfl
theorem c171_0 : cd 171 0 = some (0, .aload_n 0, 1, 0, 0, 0) := rfl
theorem s171_0 {l1 : AV} {l0 : Option Nat} {h : AH} : evL 171 0 [.inr (.inl l0), l1] [] h = evL 171 1 [.inr (.inl l0), l1] [.inr (.inl l0)] h := ev_go c171_0 rfl
theorem c171_1 : cd 171 1 = some (1, .invokevirtual 193, 3, 124, 0, 971) := rfl
theorem s171_1 {l0 l1 : AV} {s0 : Nat} {M : Mem} {P : PMem} (hk : kd s0 = 8) : evL 171 1 [l0, l1] [Rf s0] (Hp M P) = cont (evM 124 [Rf s0] (Hp M P)) (fun r h => evL 171 4 [l0, l1] (rl r []) h) := e_callV (av' := []) (rest := []) (c := 8) c171_1 rfl rfl rfl rfl rfl rfl rfl hk rfl
theorem c171_4 : cd 171 4 = some (4, .aload_n 0, 1, 0, 0, 0) := rfl
theorem s171_4 {l1 s0 : AV} {l0 : Option Nat} {h : AH} : evL 171 4 [.inr (.inl l0), l1] [s0] h = evL 171 5 [.inr (.inl l0), l1] [.inr (.inl l0), s0] h := ev_go c171_4 rfl
theorem c171_5 : cd 171 5 = some (5, .invokevirtual 196, 3, 125, 0, 975) := rfl
theorem s171_5 {l0 l1 s1 : AV} {s0 : Nat} {M : Mem} {P : PMem} (hk : kd s0 = 8) : evL 171 5 [l0, l1] [Rf s0, s1] (Hp M P) = cont (evM 125 [Rf s0] (Hp M P)) (fun r h => evL 171 8 [l0, l1] (rl r [s1]) h) := e_callV (av' := []) (rest := [s1]) (c := 8) c171_5 rfl rfl rfl rfl rfl rfl rfl hk rfl
theorem c171_8 : cd 171 8 = some (8, .iadd, 1, 0, 0, 0) := rfl
theorem s171_8 {l0 l1 : AV} {s0 s1 : Int} {h : AH} : evL 171 8 [l0, l1] [I s0, I s1] h = evL 171 9 [l0, l1] [I (ad s1 s0)] h := ev_go c171_8 rfl
theorem c171_9 : cd 171 9 = some (9, .aload_n 0, 1, 0, 0, 0) := rfl
theorem s171_9 {l1 s0 : AV} {l0 : Option Nat} {h : AH} : evL 171 9 [.inr (.inl l0), l1] [s0] h = evL 171 10 [.inr (.inl l0), l1] [.inr (.inl l0), s0] h := ev_go c171_9 rfl
theorem c171_10 : cd 171 10 = some (10, .invokevirtual 199, 3, 126, 0, 979) := rfl
theorem s171_10 {l0 l1 s1 : AV} {s0 : Nat} {M : Mem} {P : PMem} (hk : kd s0 = 8) : evL 171 10 [l0, l1] [Rf s0, s1] (Hp M P) = cont (evM 126 [Rf s0] (Hp M P)) (fun r h => evL 171 13 [l0, l1] (rl r [s1]) h) := e_callV (av' := []) (rest := [s1]) (c := 8) c171_10 rfl rfl rfl rfl rfl rfl rfl hk rfl
theorem c171_13 : cd 171 13 = some (13, .iadd, 1, 0, 0, 0) := rfl
theorem s171_13 {l0 l1 : AV} {s0 s1 : Int} {h : AH} : evL 171 13 [l0, l1] [I s0, I s1] h = evL 171 14 [l0, l1] [I (ad s1 s0)] h := ev_go c171_13 rfl
theorem c171_14 : cd 171 14 = some (14, .istore_n 1, 1, 0, 0, 0) := rfl
theorem s171_14 {l0 l1 : AV} {s0 : Int} {h : AH} : evL 171 14 [l0, l1] [I s0] h = evL 171 15 [l0, I s0] [] h := ev_go c171_14 rfl
theorem c171_15 : cd 171 15 = some (15, .iload_n 1, 1, 0, 0, 0) := rfl
theorem s171_15 {l0 : AV} {l1 : Int} {h : AH} : evL 171 15 [l0, I l1] [] h = evL 171 16 [l0, I l1] [I l1] h := ev_go c171_15 rfl
theorem c171_16 : cd 171 16 = some (16, .ifCond .ne 7, 3, 0, 0, 0) := rfl
theorem s171_16 {l0 l1 : AV} {s0 : Int} {h : AH} : evL 171 16 [l0, l1] [I s0] h = if s0 = 0 then evL 171 19 [l0, l1] [] h else evL 171 23 [l0, l1] [] h := e_if_ne c171_16 rfl rfl
theorem c171_19 : cd 171 19 = some (19, .dconst 0, 1, 0, 0, 0) := rfl
theorem s171_19 {l0 l1 : AV} {h : AH} : evL 171 19 [l0, l1] [] h = evL 171 20 [l0, l1] [Db FP.dconst0] h := ev_go c171_19 rfl
theorem c171_20 : cd 171 20 = some (20, .goto 11, 3, 0, 0, 0) := rfl
theorem s171_20 {l0 l1 s0 : AV} {h : AH} : evL 171 20 [l0, l1] [s0] h = evL 171 31 [l0, l1] [s0] h := ev_go c171_20 rfl
theorem c171_23 : cd 171 23 = some (23, .aload_n 0, 1, 0, 0, 0) := rfl
theorem s171_23 {l1 : AV} {l0 : Option Nat} {h : AH} : evL 171 23 [.inr (.inl l0), l1] [] h = evL 171 24 [.inr (.inl l0), l1] [.inr (.inl l0)] h := ev_go c171_23 rfl
theorem c171_24 : cd 171 24 = some (24, .invokevirtual 199, 3, 126, 0, 979) := rfl
theorem s171_24 {l0 l1 : AV} {s0 : Nat} {M : Mem} {P : PMem} (hk : kd s0 = 8) : evL 171 24 [l0, l1] [Rf s0] (Hp M P) = cont (evM 126 [Rf s0] (Hp M P)) (fun r h => evL 171 27 [l0, l1] (rl r []) h) := e_callV (av' := []) (rest := []) (c := 8) c171_24 rfl rfl rfl rfl rfl rfl rfl hk rfl
theorem c171_27 : cd 171 27 = some (27, .i2d, 1, 0, 0, 0) := rfl
theorem s171_27 {l0 l1 : AV} {s0 : Int} {h : AH} : evL 171 27 [l0, l1] [I s0] h = evL 171 28 [l0, l1] [Db (FP.i2d (i32 s0))] h := ev_go c171_27 rfl
theorem c171_28 : cd 171 28 = some (28, .iload_n 1, 1, 0, 0, 0) := rfl
theorem s171_28 {l0 s0 : AV} {l1 : Int} {h : AH} : evL 171 28 [l0, I l1] [s0] h = evL 171 29 [l0, I l1] [I l1, s0] h := ev_go c171_28 rfl
theorem c171_29 : cd 171 29 = some (29, .i2d, 1, 0, 0, 0) := rfl
theorem s171_29 {l0 l1 s1 : AV} {s0 : Int} {h : AH} : evL 171 29 [l0, l1] [I s0, s1] h = evL 171 30 [l0, l1] [Db (FP.i2d (i32 s0)), s1] h := ev_go c171_29 rfl
theorem c171_30 : cd 171 30 = some (30, .ddiv, 1, 0, 0, 0) := rfl
theorem s171_30 {l0 l1 : AV} {s0 s1 : UInt64} {h : AH} (hn : (FP.ddiv s1 s0) &&& 0x7fffffffffffffff ≤ 0x7ff0000000000000) : evL 171 30 [l0, l1] [Db s0, Db s1] h = evL 171 31 [l0, l1] [Db (FP.ddiv s1 s0)] h := ev_go c171_30 (if_pos hn)
theorem c171_31 : cd 171 31 = some (31, .dreturn, 1, 0, 0, 0) := rfl
theorem s171_31 {l0 l1 : AV} {s0 : UInt64} {h : AH} : evL 171 31 [l0, l1] [Db s0] h = some (some (Db s0), h) := e_ret c171_31 rfl
/-! 172: TankDiversModel.undo()I -/
theorem en172 {l0 : AV} {h : AH} : evM 172 [l0] h = evL 172 0 [l0] [] h := rfl
theorem c172_0 : cd 172 0 = some (0, .aload_n 0, 1, 0, 0, 0) := rfl
theorem s172_0 {l0 : Option Nat} {h : AH} : evL 172 0 [.inr (.inl l0)] [] h = evL 172 1 [.inr (.inl l0)] [.inr (.inl l0)] h := ev_go c172_0 rfl
theorem c172_1 : cd 172 1 = some (1, .getfield 35, 3, 8, 2, 727) := rfl
theorem s172_1 {l0 : AV} {s0 : Nat} {M : Mem} {P : PMem} (hk : kd s0 = 8) : evL 172 1 [l0] [Rf s0] (Hp M P) = evL 172 4 [l0] [I (M s0 2)] (Hp M P) := e_getI c172_1 rfl hk
theorem c172_4 : cd 172 4 = some (4, .ifCond .ne 6, 3, 0, 0, 0) := rfl
theorem s172_4 {l0 : AV} {s0 : Int} {h : AH} : evL 172 4 [l0] [I s0] h = if s0 = 0 then evL 172 7 [l0] [] h else evL 172 10 [l0] [] h := e_if_ne c172_4 rfl rfl
theorem c172_7 : cd 172 7 = some (7, .bipush (-2), 2, 0, 0, 0) := rfl
theorem s172_7 {l0 : AV} {h : AH} : evL 172 7 [l0] [] h = evL 172 9 [l0] [I (-2)] h := ev_go c172_7 rfl
theorem c172_9 : cd 172 9 = some (9, .ireturn, 1, 0, 0, 0) := rfl
theorem s172_9 {l0 : AV} {s0 : Int} {h : AH} : evL 172 9 [l0] [I s0] h = some (some (I s0), h) := e_ret c172_9 rfl
theorem c172_10 : cd 172 10 = some (10, .aload_n 0, 1, 0, 0, 0) := rfl
theorem s172_10 {l0 : Option Nat} {h : AH} : evL 172 10 [.inr (.inl l0)] [] h = evL 172 11 [.inr (.inl l0)] [.inr (.inl l0)] h := ev_go c172_10 rfl
theorem c172_11 : cd 172 11 = some (11, .dup, 1, 0, 0, 0) := rfl
theorem s172_11 {l0 : AV} {s0 : Option Nat} {h : AH} : evL 172 11 [l0] [.inr (.inl s0)] h = evL 172 12 [l0] [.inr (.inl s0), .inr (.inl s0)] h := ev_go c172_11 rfl
theorem c172_12 : cd 172 12 = some (12, .getfield 35, 3, 8, 2, 727) := rfl
theorem s172_12 {l0 s1 : AV} {s0 : Nat} {M : Mem} {P : PMem} (hk : kd s0 = 8) : evL 172 12 [l0] [Rf s0, s1] (Hp M P) = evL 172 15 [l0] [I (M s0 2), s1] (Hp M P) := e_getI c172_12 rfl hk
theorem c172_15 : cd 172 15 = some (15, .iconst 1, 1, 0, 0, 0) := rfl
theorem s172_15 {l0 s0 s1 : AV} {h : AH} : evL 172 15 [l0] [s0, s1] h = evL 172 16 [l0] [I 1, s0, s1] h := ev_go c172_15 rfl
theorem c172_16 : cd 172 16 = some (16, .isub, 1, 0, 0, 0) := rfl
theorem s172_16 {l0 s2 : AV} {s0 s1 : Int} {h : AH} : evL 172 16 [l0] [I s0, I s1, s2] h = evL 172 17 [l0] [I (sb s1 s0), s2] h := ev_go c172_16 rfl
theorem c172_17 : cd 172 17 = some (17, .putfield 35, 3, 8, 2, 727) := rfl
theorem s172_17 {l0 : AV} {s0 : Int} {s1 : Nat} {M : Mem} {P : PMem} (hk : kd s1 = 8) : evL 172 17 [l0] [I s0, Rf s1] (Hp M P) = evL 172 20 [l0] [] (Hp (wr M s1 2 s0) P) := e_putI c172_17 rfl hk
theorem c172_20 : cd 172 20 = some (20, .aload_n 0, 1, 0, 0, 0) := rfl
theorem s172_20 {l0 : Option Nat} {h : AH} : evL 172 20 [.inr (.inl l0)] [] h = evL 172 21 [.inr (.inl l0)] [.inr (.inl l0)] h := ev_go c172_20 rfl
theorem c172_21 : cd 172 21 = some (21, .getfield 13, 3, 8, 1, 726) := rfl
theorem s172_21 {l0 : AV} {s0 : Nat} {M : Mem} {P : PMem} (hk : kd s0 = 8) : evL 172 21 [l0] [Rf s0] (Hp M P) = evL 172 24 [l0] [Rf (rfd s0 1)] (Hp M P) := e_getR c172_21 rfl hk
theorem c172_24 : cd 172 24 = some (24, .bipush 77, 2, 0, 0, 0) := rfl
theorem s172_24 {l0 s0 : AV} {h : AH} : evL 172 24 [l0] [s0] h = evL 172 26 [l0] [I 77, s0] h := ev_go c172_24 rfl
theorem c172_26 : cd 172 26 = some (26, .aload_n 0, 1, 0, 0, 0) := rfl
theorem s172_26 {s0 s1 : AV} {l0 : Option Nat} {h : AH} : evL 172 26 [.inr (.inl l0)] [s0, s1] h = evL 172 27 [.inr (.inl l0)] [.inr (.inl l0), s0, s1] h := ev_go c172_26 rfl
theorem c172_27 : cd 172 27 = some (27, .getfield 35, 3, 8, 2, 727) := rfl
theorem s172_27 {l0 s1 s2 : AV} {s0 : Nat} {M : Mem} {P : PMem} (hk : kd s0 = 8) : evL 172 27 [l0] [Rf s0, s1, s2] (Hp M P) = evL 172 30 [l0] [I (M s0 2), s1, s2] (Hp M P) := e_getI c172_27 rfl hk
theorem c172_30 : cd 172 30 = some (30, .imul, 1, 0, 0, 0) := rfl
theorem s172_30 {l0 s2 : AV} {s0 s1 : Int} {h : AH} : evL 172 30 [l0] [I s0, I s1, s2] h = evL 172 31 [l0] [I (ml s1 s0), s2] h := ev_go c172_30 rfl
theorem c172_31 : cd 172 31 = some (31, .aload_n 0, 1, 0, 0, 0) := rfl
theorem s172_31 {s0 s1 : AV} {l0 : Option Nat} {h : AH} : evL 172 31 [.inr (.inl l0)] [s0, s1] h = evL 172 32 [.inr (.inl l0)] [.inr (.inl l0), s0, s1] h := ev_go c172_31 rfl
theorem c172_32 : cd 172 32 = some (32, .getfield 7, 3, 8, 0, 725) := rfl
theorem s172_32 {l0 s1 s2 : AV} {s0 : Nat} {M : Mem} {P : PMem} (hk : kd s0 = 8) : evL 172 32 [l0] [Rf s0, s1, s2] (Hp M P) = evL 172 35 [l0] [Rf (rfd s0 0), s1, s2] (Hp M P) := e_getR c172_32 rfl hk
theorem c172_35 : cd 172 35 = some (35, .iconst 0, 1, 0, 0, 0) := rfl
theorem s172_35 {l0 s0 s1 s2 : AV} {h : AH} : evL 172 35 [l0] [s0, s1, s2] h = evL 172 36 [l0] [I 0, s0, s1, s2] h := ev_go c172_35 rfl
theorem c172_36 : cd 172 36 = some (36, .invokestatic 39, 3, 111, 0, 791) := rfl
theorem s172_36 {l0 : AV} {s0 s2 : Int} {s1 s3 : Nat} {M : Mem} {P : PMem} : evL 172 36 [l0] [I s0, Rf s1, I s2, Rf s3] (Hp M P) = cont (evM 111 [Rf s3, I s2, Rf s1, I s0] (Hp M P)) (fun r h => evL 172 39 [l0] (rl r []) h) := e_callS (av := [Rf s3, I s2, Rf s1, I s0]) (rest := []) c172_36 rfl rfl rfl rfl rfl rfl
theorem c172_39 : cd 172 39 = some (39, .aload_n 0, 1, 0, 0, 0) := rfl
theorem s172_39 {l0 : Option Nat} {h : AH} : evL 172 39 [.inr (.inl l0)] [] h = evL 172 40 [.inr (.inl l0)] [.inr (.inl l0)] h := ev_go c172_39 rfl
theorem c172_40 : cd 172 40 = some (40, .getfield 35, 3, 8, 2, 727) := rfl
theorem s172_40 {l0 : AV} {s0 : Nat} {M : Mem} {P : PMem} (hk : kd s0 = 8) : evL 172 40 [l0] [Rf s0] (Hp M P) = evL 172 43 [l0] [I (M s0 2)] (Hp M P) := e_getI c172_40 rfl hk
theorem c172_43 : cd 172 43 = some (43, .ireturn, 1, 0, 0, 0) := rfl
theorem s172_43 {l0 : AV} {s0 : Int} {h : AH} : evL 172 43 [l0] [I s0] h = some (some (I s0), h) := e_ret c172_43 rfl
/-! 173: TankDiversModel.save()I -/
theorem en173 {l0 : AV} {h : AH} : evM 173 [l0] h = evL 173 0 [l0] [] h := rfl
theorem c173_0 : cd 173 0 = some (0, .aload_n 0, 1, 0, 0, 0) := rfl
theorem s173_0 {l0 : Option Nat} {h : AH} : evL 173 0 [.inr (.inl l0)] [] h = evL 173 1 [.inr (.inl l0)] [.inr (.inl l0)] h := ev_go c173_0 rfl
theorem c173_1 : cd 173 1 = some (1, .getfield 7, 3, 8, 0, 725) := rfl
theorem s173_1 {l0 : AV} {s0 : Nat} {M : Mem} {P : PMem} (hk : kd s0 = 8) : evL 173 1 [l0] [Rf s0] (Hp M P) = evL 173 4 [l0] [Rf (rfd s0 0)] (Hp M P) := e_getR c173_1 rfl hk
theorem c173_4 : cd 173 4 = some (4, .iconst 0, 1, 0, 0, 0) := rfl
theorem s173_4 {l0 s0 : AV} {h : AH} : evL 173 4 [l0] [s0] h = evL 173 5 [l0] [I 0, s0] h := ev_go c173_4 rfl
theorem c173_5 : cd 173 5 = some (5, .aload_n 0, 1, 0, 0, 0) := rfl
theorem s173_5 {s0 s1 : AV} {l0 : Option Nat} {h : AH} : evL 173 5 [.inr (.inl l0)] [s0, s1] h = evL 173 6 [.inr (.inl l0)] [.inr (.inl l0), s0, s1] h := ev_go c173_5 rfl
theorem c173_6 : cd 173 6 = some (6, .getfield 16, 3, 8, 3, 728) := rfl
theorem s173_6 {l0 s1 s2 : AV} {s0 : Nat} {M : Mem} {P : PMem} (hk : kd s0 = 8) : evL 173 6 [l0] [Rf s0, s1, s2] (Hp M P) = evL 173 9 [l0] [Rf (rfd s0 3), s1, s2] (Hp M P) := e_getR c173_6 rfl hk
theorem c173_9 : cd 173 9 = some (9, .iconst 0, 1, 0, 0, 0) := rfl
theorem s173_9 {l0 s0 s1 s2 : AV} {h : AH} : evL 173 9 [l0] [s0, s1, s2] h = evL 173 10 [l0] [I 0, s0, s1, s2] h := ev_go c173_9 rfl
theorem c173_10 : cd 173 10 = some (10, .invokestatic 39, 3, 111, 0, 791) := rfl
theorem s173_10 {l0 : AV} {s0 s2 : Int} {s1 s3 : Nat} {M : Mem} {P : PMem} : evL 173 10 [l0] [I s0, Rf s1, I s2, Rf s3] (Hp M P) = cont (evM 111 [Rf s3, I s2, Rf s1, I s0] (Hp M P)) (fun r h => evL 173 13 [l0] (rl r []) h) := e_callS (av := [Rf s3, I s2, Rf s1, I s0]) (rest := []) c173_10 rfl rfl rfl rfl rfl rfl
theorem c173_13 : cd 173 13 = some (13, .aload_n 0, 1, 0, 0, 0) := rfl
theorem s173_13 {l0 : Option Nat} {h : AH} : evL 173 13 [.inr (.inl l0)] [] h = evL 173 14 [.inr (.inl l0)] [.inr (.inl l0)] h := ev_go c173_13 rfl
theorem c173_14 : cd 173 14 = some (14, .iconst 1, 1, 0, 0, 0) := rfl
theorem s173_14 {l0 s0 : AV} {h : AH} : evL 173 14 [l0] [s0] h = evL 173 15 [l0] [I 1, s0] h := ev_go c173_14 rfl
theorem c173_15 : cd 173 15 = some (15, .putfield 205, 3, 8, 4, 729) := rfl
theorem s173_15 {l0 : AV} {s0 : Int} {s1 : Nat} {M : Mem} {P : PMem} (hk : kd s1 = 8) (hz : s0 = 0 ∨ s0 = 1) : evL 173 15 [l0] [I s0, Rf s1] (Hp M P) = evL 173 18 [l0] [] (Hp (wr M s1 4 s0) P) := e_putZ c173_15 rfl hk hz
theorem c173_18 : cd 173 18 = some (18, .aload_n 0, 1, 0, 0, 0) := rfl
theorem s173_18 {l0 : Option Nat} {h : AH} : evL 173 18 [.inr (.inl l0)] [] h = evL 173 19 [.inr (.inl l0)] [.inr (.inl l0)] h := ev_go c173_18 rfl
theorem c173_19 : cd 173 19 = some (19, .getfield 7, 3, 8, 0, 725) := rfl
theorem s173_19 {l0 : AV} {s0 : Nat} {M : Mem} {P : PMem} (hk : kd s0 = 8) : evL 173 19 [l0] [Rf s0] (Hp M P) = evL 173 22 [l0] [Rf (rfd s0 0)] (Hp M P) := e_getR c173_19 rfl hk
theorem c173_22 : cd 173 22 = some (22, .iconst 1, 1, 0, 0, 0) := rfl
theorem s173_22 {l0 s0 : AV} {h : AH} : evL 173 22 [l0] [s0] h = evL 173 23 [l0] [I 1, s0] h := ev_go c173_22 rfl
theorem c173_23 : cd 173 23 = some (23, .iaload, 1, 0, 0, 0) := rfl
theorem s173_23 {l0 : AV} {s0 : Int} {s1 : Nat} {M : Mem} {P : PMem} (hk : kd s1 = 100) (h0 : 0 ≤ s0) (hn : s0.toNat < ln s1) : evL 173 23 [l0] [I s0, Rf s1] (Hp M P) = evL 173 24 [l0] [I (M s1 s0.toNat)] (Hp M P) := e_iald c173_23 hk h0 hn
theorem c173_24 : cd 173 24 = some (24, .ireturn, 1, 0, 0, 0) := rfl
theorem s173_24 {l0 : AV} {s0 : Int} {h : AH} : evL 173 24 [l0] [I s0] h = some (some (I s0), h) := e_ret c173_24 rfl
/-! 174: TankDiversModel.restore()I -/
theorem en174 {l0 : AV} {h : AH} : evM 174 [l0] h = evL 174 0 [l0] [] h := rfl
theorem c174_0 : cd 174 0 = some (0, .aload_n 0, 1, 0, 0, 0) := rfl
theorem s174_0 {l0 : Option Nat} {h : AH} : evL 174 0 [.inr (.inl l0)] [] h = evL 174 1 [.inr (.inl l0)] [.inr (.inl l0)] h := ev_go c174_0 rfl
theorem c174_1 : cd 174 1 = some (1, .getfield 205, 3, 8, 4, 729) := rfl
theorem s174_1 {l0 : AV} {s0 : Nat} {M : Mem} {P : PMem} (hk : kd s0 = 8) : evL 174 1 [l0] [Rf s0] (Hp M P) = evL 174 4 [l0] [I (M s0 4)] (Hp M P) := e_getI c174_1 rfl hk
theorem c174_4 : cd 174 4 = some (4, .ifCond .ne 6, 3, 0, 0, 0) := rfl
theorem s174_4 {l0 : AV} {s0 : Int} {h : AH} : evL 174 4 [l0] [I s0] h = if s0 = 0 then evL 174 7 [l0] [] h else evL 174 10 [l0] [] h := e_if_ne c174_4 rfl rfl
theorem c174_7 : cd 174 7 = some (7, .bipush (-2), 2, 0, 0, 0) := rfl
theorem s174_7 {l0 : AV} {h : AH} : evL 174 7 [l0] [] h = evL 174 9 [l0] [I (-2)] h := ev_go c174_7 rfl
theorem c174_9 : cd 174 9 = some (9, .ireturn, 1, 0, 0, 0) := rfl
theorem s174_9 {l0 : AV} {s0 : Int} {h : AH} : evL 174 9 [l0] [I s0] h = some (some (I s0), h) := e_ret c174_9 rfl
theorem c174_10 : cd 174 10 = some (10, .aload_n 0, 1, 0, 0, 0) := rfl
theorem s174_10 {l0 : Option Nat} {h : AH} : evL 174 10 [.inr (.inl l0)] [] h = evL 174 11 [.inr (.inl l0)] [.inr (.inl l0)] h := ev_go c174_10 rfl
theorem c174_11 : cd 174 11 = some (11, .invokevirtual 130, 3, 112, 0, 787) := rfl
theorem s174_11 {l0 : AV} {s0 : Nat} {M : Mem} {P : PMem} (hk : kd s0 = 8) : evL 174 11 [l0] [Rf s0] (Hp M P) = cont (evM 112 [Rf s0] (Hp M P)) (fun r h => evL 174 14 [l0] (rl r []) h) := e_callV (av' := []) (rest := []) (c := 8) c174_11 rfl rfl rfl rfl rfl rfl rfl hk rfl
theorem c174_14 : cd 174 14 = some (14, .aload_n 0, 1, 0, 0, 0) := rfl
theorem s174_14 {l0 : Option Nat} {h : AH} : evL 174 14 [.inr (.inl l0)] [] h = evL 174 15 [.inr (.inl l0)] [.inr (.inl l0)] h := ev_go c174_14 rfl
theorem c174_15 : cd 174 15 = some (15, .getfield 16, 3, 8, 3, 728) := rfl
theorem s174_15 {l0 : AV} {s0 : Nat} {M : Mem} {P : PMem} (hk : kd s0 = 8) : evL 174 15 [l0] [Rf s0] (Hp M P) = evL 174 18 [l0] [Rf (rfd s0 3)] (Hp M P) := e_getR c174_15 rfl hk
theorem c174_18 : cd 174 18 = some (18, .iconst 0, 1, 0, 0, 0) := rfl
theorem s174_18 {l0 s0 : AV} {h : AH} : evL 174 18 [l0] [s0] h = evL 174 19 [l0] [I 0, s0] h := ev_go c174_18 rfl
theorem c174_19 : cd 174 19 = some (19, .aload_n 0, 1, 0, 0, 0) := rfl
theorem s174_19 {s0 s1 : AV} {l0 : Option Nat} {h : AH} : evL 174 19 [.inr (.inl l0)] [s0, s1] h = evL 174 20 [.inr (.inl l0)] [.inr (.inl l0), s0, s1] h := ev_go c174_19 rfl
theorem c174_20 : cd 174 20 = some (20, .getfield 7, 3, 8, 0, 725) := rfl
theorem s174_20 {l0 s1 s2 : AV} {s0 : Nat} {M : Mem} {P : PMem} (hk : kd s0 = 8) : evL 174 20 [l0] [Rf s0, s1, s2] (Hp M P) = evL 174 23 [l0] [Rf (rfd s0 0), s1, s2] (Hp M P) := e_getR c174_20 rfl hk
theorem c174_23 : cd 174 23 = some (23, .iconst 0, 1, 0, 0, 0) := rfl
theorem s174_23 {l0 s0 s1 s2 : AV} {h : AH} : evL 174 23 [l0] [s0, s1, s2] h = evL 174 24 [l0] [I 0, s0, s1, s2] h := ev_go c174_23 rfl
theorem c174_24 : cd 174 24 = some (24, .invokestatic 39, 3, 111, 0, 791) := rfl
theorem s174_24 {l0 : AV} {s0 s2 : Int} {s1 s3 : Nat} {M : Mem} {P : PMem} : evL 174 24 [l0] [I s0, Rf s1, I s2, Rf s3] (Hp M P) = cont (evM 111 [Rf s3, I s2, Rf s1, I s0] (Hp M P)) (fun r h => evL 174 27 [l0] (rl r []) h) := e_callS (av := [Rf s3, I s2, Rf s1, I s0]) (rest := []) c174_24 rfl rfl rfl rfl rfl rfl
theorem c174_27 : cd 174 27 = some (27, .aload_n 0, 1, 0, 0, 0) := rfl
theorem s174_27 {l0 : Option Nat} {h : AH} : evL 174 27 [.inr (.inl l0)] [] h = evL 174 28 [.inr (.inl l0)] [.inr (.inl l0)] h := ev_go c174_27 rfl
theorem c174_28 : cd 174 28 = some (28, .getfield 7, 3, 8, 0, 725) := rfl
theorem s174_28 {l0 : AV} {s0 : Nat} {M : Mem} {P : PMem} (hk : kd s0 = 8) : evL 174 28 [l0] [Rf s0] (Hp M P) = evL 174 31 [l0] [Rf (rfd s0 0)] (Hp M P) := e_getR c174_28 rfl hk
theorem c174_31 : cd 174 31 = some (31, .iconst 1, 1, 0, 0, 0) := rfl
theorem s174_31 {l0 s0 : AV} {h : AH} : evL 174 31 [l0] [s0] h = evL 174 32 [l0] [I 1, s0] h := ev_go c174_31 rfl
theorem c174_32 : cd 174 32 = some (32, .iaload, 1, 0, 0, 0) := rfl
theorem s174_32 {l0 : AV} {s0 : Int} {s1 : Nat} {M : Mem} {P : PMem} (hk : kd s1 = 100) (h0 : 0 ≤ s0) (hn : s0.toNat < ln s1) : evL 174 32 [l0] [I s0, Rf s1] (Hp M P) = evL 174 33 [l0] [I (M s1 s0.toNat)] (Hp M P) := e_iald c174_32 hk h0 hn
theorem c174_33 : cd 174 33 = some (33, .ireturn, 1, 0, 0, 0) := rfl
theorem s174_33 {l0 : AV} {s0 : Int} {h : AH} : evL 174 33 [l0] [I s0] h = some (some (I s0), h) := e_ret c174_33 rfl
