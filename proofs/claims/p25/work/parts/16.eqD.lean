/-! ===== equations, on ===== -/
/-! 105: TankDiversLaw.low(II)I -/
theorem en105 {l0 l1 : AV} {h : AH} : evM 105 [l0, l1] h = evL 105 0 [l0, l1] [] h := rfl
theorem c105_0 : cd 105 0 = some (0, .iload_n 0, 1, 0, 0, 0) := rfl
theorem s105_0 {l1 : AV} {l0 : Int} {h : AH} : evL 105 0 [I l0, l1] [] h = evL 105 1 [I l0, l1] [I l0] h := ev_go c105_0 rfl
theorem c105_1 : cd 105 1 = some (1, .ldc 8, 2, 2147483647, 0, 386) := rfl
theorem s105_1 {l0 l1 s0 : AV} {h : AH} : evL 105 1 [l0, l1] [s0] h = evL 105 3 [l0, l1] [I 2147483647, s0] h := ev_go c105_1 rfl
theorem c105_3 : cd 105 3 = some (3, .iand, 1, 0, 0, 0) := rfl
theorem s105_3 {l0 l1 : AV} {s0 s1 : Int} {h : AH} : evL 105 3 [l0, l1] [I s0, I s1] h = evL 105 4 [l0, l1] [I (an s1 s0)] h := ev_go c105_3 rfl
theorem c105_4 : cd 105 4 = some (4, .iload_n 1, 1, 0, 0, 0) := rfl
theorem s105_4 {l0 s0 : AV} {l1 : Int} {h : AH} : evL 105 4 [l0, I l1] [s0] h = evL 105 5 [l0, I l1] [I l1, s0] h := ev_go c105_4 rfl
theorem c105_5 : cd 105 5 = some (5, .irem, 1, 0, 0, 0) := rfl
theorem s105_5 {l0 l1 : AV} {s0 s1 : Int} {h : AH} (hd : s0 ≠ 0) : evL 105 5 [l0, l1] [I s0, I s1] h = evL 105 6 [l0, l1] [I (rm s1 s0)] h := ev_go c105_5 (if_pos hd)
theorem c105_6 : cd 105 6 = some (6, .ireturn, 1, 0, 0, 0) := rfl
theorem s105_6 {l0 l1 : AV} {s0 : Int} {h : AH} : evL 105 6 [l0, l1] [I s0] h = some (some (I s0), h) := e_ret c105_6 rfl
/-! 109: TankDiversLaw.look(LTankDivers;)J -/
theorem en109 {l0 : AV} {h : AH} : evM 109 [l0] h = evL 109 0 [l0, Db 0, Db 0, Db 0, Db 0] [] h := rfl
theorem c109_0 : cd 109 0 = some (0, .ldc2_w 9, 3, 373, 0, 390) := rfl
theorem s109_0 {l0 l1 l2 l3 l4 : AV} {h : AH} : evL 109 0 [l0, l1, l2, l3, l4] [] h = evL 109 3 [l0, l1, l2, l3, l4] [Lg (Int64.ofNat 373)] h := ev_go c109_0 rfl
theorem c109_3 : cd 109 3 = some (3, .lstore_n 1, 1, 0, 0, 0) := rfl
theorem s109_3 {l0 l1 l2 l3 l4 : AV} {s0 : Int64} {h : AH} : evL 109 3 [l0, l1, l2, l3, l4] [Lg s0] h = evL 109 4 [l0, Lg s0, Db 0, l3, l4] [] h := ev_go c109_3 rfl
theorem c109_4 : cd 109 4 = some (4, .iconst 0, 1, 0, 0, 0) := rfl
theorem s109_4 {l0 l1 l2 l3 l4 : AV} {h : AH} : evL 109 4 [l0, l1, l2, l3, l4] [] h = evL 109 5 [l0, l1, l2, l3, l4] [I 0] h := ev_go c109_4 rfl
theorem c109_5 : cd 109 5 = some (5, .istore_n 3, 1, 0, 0, 0) := rfl
theorem s109_5 {l0 l1 l2 l3 l4 : AV} {s0 : Int} {h : AH} : evL 109 5 [l0, l1, l2, l3, l4] [I s0] h = evL 109 6 [l0, l1, l2, I s0, l4] [] h := ev_go c109_5 rfl
theorem c109_6 : cd 109 6 = some (6, .iload_n 3, 1, 0, 0, 0) := rfl
theorem s109_6 {l0 l1 l2 l4 : AV} {l3 : Int} {h : AH} : evL 109 6 [l0, l1, l2, I l3, l4] [] h = evL 109 7 [l0, l1, l2, I l3, l4] [I l3] h := ev_go c109_6 rfl
theorem c109_7 : cd 109 7 = some (7, .bipush 14, 2, 0, 0, 0) := rfl
theorem s109_7 {l0 l1 l2 l3 l4 s0 : AV} {h : AH} : evL 109 7 [l0, l1, l2, l3, l4] [s0] h = evL 109 9 [l0, l1, l2, l3, l4] [I 14, s0] h := ev_go c109_7 rfl
theorem c109_9 : cd 109 9 = some (9, .if_icmp .ge 22, 3, 0, 0, 0) := rfl
theorem s109_9 {l0 l1 l2 l3 l4 : AV} {s0 s1 : Int} {h : AH} : evL 109 9 [l0, l1, l2, l3, l4] [I s0, I s1] h = if s0 ≤ s1 then evL 109 31 [l0, l1, l2, l3, l4] [] h else evL 109 12 [l0, l1, l2, l3, l4] [] h := e_icmp_ge c109_9 rfl rfl
theorem c109_12 : cd 109 12 = some (12, .ldc2_w 11, 3, 31, 0, 391) := rfl
theorem s109_12 {l0 l1 l2 l3 l4 : AV} {h : AH} : evL 109 12 [l0, l1, l2, l3, l4] [] h = evL 109 15 [l0, l1, l2, l3, l4] [Lg (Int64.ofNat 31)] h := ev_go c109_12 rfl
theorem c109_15 : cd 109 15 = some (15, .lload_n 1, 1, 0, 0, 0) := rfl
theorem s109_15 {l0 l3 l4 s0 : AV} {l1 : Int64} {h : AH} : evL 109 15 [l0, Lg l1, Db 0, l3, l4] [s0] h = evL 109 16 [l0, Lg l1, Db 0, l3, l4] [Lg l1, s0] h := ev_go c109_15 rfl
theorem c109_16 : cd 109 16 = some (16, .lmul, 1, 0, 0, 0) := rfl
theorem s109_16 {l0 l1 l2 l3 l4 : AV} {s0 s1 : Int64} {h : AH} : evL 109 16 [l0, l1, l2, l3, l4] [Lg s0, Lg s1] h = evL 109 17 [l0, l1, l2, l3, l4] [Lg (s1 * s0)] h := ev_go c109_16 rfl
theorem c109_17 : cd 109 17 = some (17, .aload_n 0, 1, 0, 0, 0) := rfl
theorem s109_17 {l1 l2 l3 l4 s0 : AV} {l0 : Option Nat} {h : AH} : evL 109 17 [.inr (.inl l0), l1, l2, l3, l4] [s0] h = evL 109 18 [.inr (.inl l0), l1, l2, l3, l4] [.inr (.inl l0), s0] h := ev_go c109_17 rfl
theorem c109_18 : cd 109 18 = some (18, .iload_n 3, 1, 0, 0, 0) := rfl
theorem s109_18 {l0 l1 l2 l4 s0 s1 : AV} {l3 : Int} {h : AH} : evL 109 18 [l0, l1, l2, I l3, l4] [s0, s1] h = evL 109 19 [l0, l1, l2, I l3, l4] [I l3, s0, s1] h := ev_go c109_18 rfl
theorem c109_19 : cd 109 19 = some (19, .invokevirtual 13, 3, 100, 0, 258) := rfl
theorem s109_19 {l0 l1 l2 l3 l4 s2 : AV} {s0 : Int} {s1 : Nat} {M : Mem} {P : PMem} (hk : kd s1 = 7) : evL 109 19 [l0, l1, l2, l3, l4] [I s0, Rf s1, s2] (Hp M P) = cont (evM 100 [Rf s1, I s0] (Hp M P)) (fun r h => evL 109 22 [l0, l1, l2, l3, l4] (rl r [s2]) h) := e_callV (av' := [I s0]) (rest := [s2]) (c := 7) c109_19 rfl rfl rfl rfl rfl rfl rfl hk rfl
theorem c109_22 : cd 109 22 = some (22, .i2l, 1, 0, 0, 0) := rfl
theorem s109_22 {l0 l1 l2 l3 l4 s1 : AV} {s0 : Int} {h : AH} : evL 109 22 [l0, l1, l2, l3, l4] [I s0, s1] h = evL 109 23 [l0, l1, l2, l3, l4] [Lg (i32 s0).toInt64, s1] h := ev_go c109_22 rfl
theorem c109_23 : cd 109 23 = some (23, .ladd, 1, 0, 0, 0) := rfl
theorem s109_23 {l0 l1 l2 l3 l4 : AV} {s0 s1 : Int64} {h : AH} : evL 109 23 [l0, l1, l2, l3, l4] [Lg s0, Lg s1] h = evL 109 24 [l0, l1, l2, l3, l4] [Lg (s1 + s0)] h := ev_go c109_23 rfl
theorem c109_24 : cd 109 24 = some (24, .lstore_n 1, 1, 0, 0, 0) := rfl
theorem s109_24 {l0 l1 l2 l3 l4 : AV} {s0 : Int64} {h : AH} : evL 109 24 [l0, l1, l2, l3, l4] [Lg s0] h = evL 109 25 [l0, Lg s0, Db 0, l3, l4] [] h := ev_go c109_24 rfl
theorem c109_25 : cd 109 25 = some (25, .iinc 3 1, 3, 0, 0, 0) := rfl
theorem s109_25 {l0 l1 l2 l4 : AV} {l3 : Int} {h : AH} : evL 109 25 [l0, l1, l2, I l3, l4] [] h = evL 109 28 [l0, l1, l2, I (ad l3 1), l4] [] h := ev_go c109_25 rfl
theorem c109_28 : cd 109 28 = some (28, .goto (-22), 3, 0, 0, 0) := rfl
theorem s109_28 {l0 l1 l2 l3 l4 : AV} {h : AH} : evL 109 28 [l0, l1, l2, l3, l4] [] h = evL 109 6 [l0, l1, l2, l3, l4] [] h := ev_go c109_28 rfl
theorem c109_31 : cd 109 31 = some (31, .iconst 1, 1, 0, 0, 0) := rfl
theorem s109_31 {l0 l1 l2 l3 l4 : AV} {h : AH} : evL 109 31 [l0, l1, l2, l3, l4] [] h = evL 109 32 [l0, l1, l2, l3, l4] [I 1] h := ev_go c109_31 rfl
theorem c109_32 : cd 109 32 = some (32, .istore_n 3, 1, 0, 0, 0) := rfl
theorem s109_32 {l0 l1 l2 l3 l4 : AV} {s0 : Int} {h : AH} : evL 109 32 [l0, l1, l2, l3, l4] [I s0] h = evL 109 33 [l0, l1, l2, I s0, l4] [] h := ev_go c109_32 rfl
theorem c109_33 : cd 109 33 = some (33, .iload_n 3, 1, 0, 0, 0) := rfl
theorem s109_33 {l0 l1 l2 l4 : AV} {l3 : Int} {h : AH} : evL 109 33 [l0, l1, l2, I l3, l4] [] h = evL 109 34 [l0, l1, l2, I l3, l4] [I l3] h := ev_go c109_33 rfl
theorem c109_34 : cd 109 34 = some (34, .aload_n 0, 1, 0, 0, 0) := rfl
theorem s109_34 {l1 l2 l3 l4 s0 : AV} {l0 : Option Nat} {h : AH} : evL 109 34 [.inr (.inl l0), l1, l2, l3, l4] [s0] h = evL 109 35 [.inr (.inl l0), l1, l2, l3, l4] [.inr (.inl l0), s0] h := ev_go c109_34 rfl
theorem c109_35 : cd 109 35 = some (35, .iconst 1, 1, 0, 0, 0) := rfl
theorem s109_35 {l0 l1 l2 l3 l4 s0 s1 : AV} {h : AH} : evL 109 35 [l0, l1, l2, l3, l4] [s0, s1] h = evL 109 36 [l0, l1, l2, l3, l4] [I 1, s0, s1] h := ev_go c109_35 rfl
theorem c109_36 : cd 109 36 = some (36, .invokevirtual 13, 3, 100, 0, 258) := rfl
theorem s109_36 {l0 l1 l2 l3 l4 s2 : AV} {s0 : Int} {s1 : Nat} {M : Mem} {P : PMem} (hk : kd s1 = 7) : evL 109 36 [l0, l1, l2, l3, l4] [I s0, Rf s1, s2] (Hp M P) = cont (evM 100 [Rf s1, I s0] (Hp M P)) (fun r h => evL 109 39 [l0, l1, l2, l3, l4] (rl r [s2]) h) := e_callV (av' := [I s0]) (rest := [s2]) (c := 7) c109_36 rfl rfl rfl rfl rfl rfl rfl hk rfl
theorem c109_39 : cd 109 39 = some (39, .if_icmp .gt 47, 3, 0, 0, 0) := rfl
theorem s109_39 {l0 l1 l2 l3 l4 : AV} {s0 s1 : Int} {h : AH} : evL 109 39 [l0, l1, l2, l3, l4] [I s0, I s1] h = if s0 < s1 then evL 109 86 [l0, l1, l2, l3, l4] [] h else evL 109 42 [l0, l1, l2, l3, l4] [] h := e_icmp_gt c109_39 rfl rfl
theorem c109_42 : cd 109 42 = some (42, .ldc2_w 11, 3, 31, 0, 391) := rfl
theorem s109_42 {l0 l1 l2 l3 l4 : AV} {h : AH} : evL 109 42 [l0, l1, l2, l3, l4] [] h = evL 109 45 [l0, l1, l2, l3, l4] [Lg (Int64.ofNat 31)] h := ev_go c109_42 rfl
theorem c109_45 : cd 109 45 = some (45, .ldc2_w 11, 3, 31, 0, 391) := rfl
theorem s109_45 {l0 l1 l2 l3 l4 s0 : AV} {h : AH} : evL 109 45 [l0, l1, l2, l3, l4] [s0] h = evL 109 48 [l0, l1, l2, l3, l4] [Lg (Int64.ofNat 31), s0] h := ev_go c109_45 rfl
theorem c109_48 : cd 109 48 = some (48, .ldc2_w 11, 3, 31, 0, 391) := rfl
theorem s109_48 {l0 l1 l2 l3 l4 s0 s1 : AV} {h : AH} : evL 109 48 [l0, l1, l2, l3, l4] [s0, s1] h = evL 109 51 [l0, l1, l2, l3, l4] [Lg (Int64.ofNat 31), s0, s1] h := ev_go c109_48 rfl
theorem c109_51 : cd 109 51 = some (51, .lload_n 1, 1, 0, 0, 0) := rfl
theorem s109_51 {l0 l3 l4 s0 s1 s2 : AV} {l1 : Int64} {h : AH} : evL 109 51 [l0, Lg l1, Db 0, l3, l4] [s0, s1, s2] h = evL 109 52 [l0, Lg l1, Db 0, l3, l4] [Lg l1, s0, s1, s2] h := ev_go c109_51 rfl
theorem c109_52 : cd 109 52 = some (52, .lmul, 1, 0, 0, 0) := rfl
theorem s109_52 {l0 l1 l2 l3 l4 s2 s3 : AV} {s0 s1 : Int64} {h : AH} : evL 109 52 [l0, l1, l2, l3, l4] [Lg s0, Lg s1, s2, s3] h = evL 109 53 [l0, l1, l2, l3, l4] [Lg (s1 * s0), s2, s3] h := ev_go c109_52 rfl
theorem c109_53 : cd 109 53 = some (53, .aload_n 0, 1, 0, 0, 0) := rfl
theorem s109_53 {l1 l2 l3 l4 s0 s1 s2 : AV} {l0 : Option Nat} {h : AH} : evL 109 53 [.inr (.inl l0), l1, l2, l3, l4] [s0, s1, s2] h = evL 109 54 [.inr (.inl l0), l1, l2, l3, l4] [.inr (.inl l0), s0, s1, s2] h := ev_go c109_53 rfl
theorem c109_54 : cd 109 54 = some (54, .iload_n 3, 1, 0, 0, 0) := rfl
theorem s109_54 {l0 l1 l2 l4 s0 s1 s2 s3 : AV} {l3 : Int} {h : AH} : evL 109 54 [l0, l1, l2, I l3, l4] [s0, s1, s2, s3] h = evL 109 55 [l0, l1, l2, I l3, l4] [I l3, s0, s1, s2, s3] h := ev_go c109_54 rfl
theorem c109_55 : cd 109 55 = some (55, .iconst 0, 1, 0, 0, 0) := rfl
theorem s109_55 {l0 l1 l2 l3 l4 s0 s1 s2 s3 s4 : AV} {h : AH} : evL 109 55 [l0, l1, l2, l3, l4] [s0, s1, s2, s3, s4] h = evL 109 56 [l0, l1, l2, l3, l4] [I 0, s0, s1, s2, s3, s4] h := ev_go c109_55 rfl
theorem c109_56 : cd 109 56 = some (56, .invokevirtual 19, 3, 99, 0, 392) := rfl
theorem s109_56 {l0 l1 l2 l3 l4 s3 s4 s5 : AV} {s0 s1 : Int} {s2 : Nat} {M : Mem} {P : PMem} (hk : kd s2 = 7) : evL 109 56 [l0, l1, l2, l3, l4] [I s0, I s1, Rf s2, s3, s4, s5] (Hp M P) = cont (evM 99 [Rf s2, I s1, I s0] (Hp M P)) (fun r h => evL 109 59 [l0, l1, l2, l3, l4] (rl r [s3, s4, s5]) h) := e_callV (av' := [I s1, I s0]) (rest := [s3, s4, s5]) (c := 7) c109_56 rfl rfl rfl rfl rfl rfl rfl hk rfl
theorem c109_59 : cd 109 59 = some (59, .i2l, 1, 0, 0, 0) := rfl
theorem s109_59 {l0 l1 l2 l3 l4 s1 s2 s3 : AV} {s0 : Int} {h : AH} : evL 109 59 [l0, l1, l2, l3, l4] [I s0, s1, s2, s3] h = evL 109 60 [l0, l1, l2, l3, l4] [Lg (i32 s0).toInt64, s1, s2, s3] h := ev_go c109_59 rfl
theorem c109_60 : cd 109 60 = some (60, .ladd, 1, 0, 0, 0) := rfl
theorem s109_60 {l0 l1 l2 l3 l4 s2 s3 : AV} {s0 s1 : Int64} {h : AH} : evL 109 60 [l0, l1, l2, l3, l4] [Lg s0, Lg s1, s2, s3] h = evL 109 61 [l0, l1, l2, l3, l4] [Lg (s1 + s0), s2, s3] h := ev_go c109_60 rfl
theorem c109_61 : cd 109 61 = some (61, .lmul, 1, 0, 0, 0) := rfl
theorem s109_61 {l0 l1 l2 l3 l4 s2 : AV} {s0 s1 : Int64} {h : AH} : evL 109 61 [l0, l1, l2, l3, l4] [Lg s0, Lg s1, s2] h = evL 109 62 [l0, l1, l2, l3, l4] [Lg (s1 * s0), s2] h := ev_go c109_61 rfl
theorem c109_62 : cd 109 62 = some (62, .aload_n 0, 1, 0, 0, 0) := rfl
theorem s109_62 {l1 l2 l3 l4 s0 s1 : AV} {l0 : Option Nat} {h : AH} : evL 109 62 [.inr (.inl l0), l1, l2, l3, l4] [s0, s1] h = evL 109 63 [.inr (.inl l0), l1, l2, l3, l4] [.inr (.inl l0), s0, s1] h := ev_go c109_62 rfl
theorem c109_63 : cd 109 63 = some (63, .iload_n 3, 1, 0, 0, 0) := rfl
theorem s109_63 {l0 l1 l2 l4 s0 s1 s2 : AV} {l3 : Int} {h : AH} : evL 109 63 [l0, l1, l2, I l3, l4] [s0, s1, s2] h = evL 109 64 [l0, l1, l2, I l3, l4] [I l3, s0, s1, s2] h := ev_go c109_63 rfl
theorem c109_64 : cd 109 64 = some (64, .iconst 1, 1, 0, 0, 0) := rfl
theorem s109_64 {l0 l1 l2 l3 l4 s0 s1 s2 s3 : AV} {h : AH} : evL 109 64 [l0, l1, l2, l3, l4] [s0, s1, s2, s3] h = evL 109 65 [l0, l1, l2, l3, l4] [I 1, s0, s1, s2, s3] h := ev_go c109_64 rfl
theorem c109_65 : cd 109 65 = some (65, .invokevirtual 19, 3, 99, 0, 392) := rfl
theorem s109_65 {l0 l1 l2 l3 l4 s3 s4 : AV} {s0 s1 : Int} {s2 : Nat} {M : Mem} {P : PMem} (hk : kd s2 = 7) : evL 109 65 [l0, l1, l2, l3, l4] [I s0, I s1, Rf s2, s3, s4] (Hp M P) = cont (evM 99 [Rf s2, I s1, I s0] (Hp M P)) (fun r h => evL 109 68 [l0, l1, l2, l3, l4] (rl r [s3, s4]) h) := e_callV (av' := [I s1, I s0]) (rest := [s3, s4]) (c := 7) c109_65 rfl rfl rfl rfl rfl rfl rfl hk rfl
theorem c109_68 : cd 109 68 = some (68, .i2l, 1, 0, 0, 0) := rfl
theorem s109_68 {l0 l1 l2 l3 l4 s1 s2 : AV} {s0 : Int} {h : AH} : evL 109 68 [l0, l1, l2, l3, l4] [I s0, s1, s2] h = evL 109 69 [l0, l1, l2, l3, l4] [Lg (i32 s0).toInt64, s1, s2] h := ev_go c109_68 rfl
theorem c109_69 : cd 109 69 = some (69, .ladd, 1, 0, 0, 0) := rfl
theorem s109_69 {l0 l1 l2 l3 l4 s2 : AV} {s0 s1 : Int64} {h : AH} : evL 109 69 [l0, l1, l2, l3, l4] [Lg s0, Lg s1, s2] h = evL 109 70 [l0, l1, l2, l3, l4] [Lg (s1 + s0), s2] h := ev_go c109_69 rfl
theorem c109_70 : cd 109 70 = some (70, .lmul, 1, 0, 0, 0) := rfl
theorem s109_70 {l0 l1 l2 l3 l4 : AV} {s0 s1 : Int64} {h : AH} : evL 109 70 [l0, l1, l2, l3, l4] [Lg s0, Lg s1] h = evL 109 71 [l0, l1, l2, l3, l4] [Lg (s1 * s0)] h := ev_go c109_70 rfl
theorem c109_71 : cd 109 71 = some (71, .aload_n 0, 1, 0, 0, 0) := rfl
theorem s109_71 {l1 l2 l3 l4 s0 : AV} {l0 : Option Nat} {h : AH} : evL 109 71 [.inr (.inl l0), l1, l2, l3, l4] [s0] h = evL 109 72 [.inr (.inl l0), l1, l2, l3, l4] [.inr (.inl l0), s0] h := ev_go c109_71 rfl
theorem c109_72 : cd 109 72 = some (72, .iload_n 3, 1, 0, 0, 0) := rfl
theorem s109_72 {l0 l1 l2 l4 s0 s1 : AV} {l3 : Int} {h : AH} : evL 109 72 [l0, l1, l2, I l3, l4] [s0, s1] h = evL 109 73 [l0, l1, l2, I l3, l4] [I l3, s0, s1] h := ev_go c109_72 rfl
theorem c109_73 : cd 109 73 = some (73, .iconst 2, 1, 0, 0, 0) := rfl
theorem s109_73 {l0 l1 l2 l3 l4 s0 s1 s2 : AV} {h : AH} : evL 109 73 [l0, l1, l2, l3, l4] [s0, s1, s2] h = evL 109 74 [l0, l1, l2, l3, l4] [I 2, s0, s1, s2] h := ev_go c109_73 rfl
theorem c109_74 : cd 109 74 = some (74, .invokevirtual 19, 3, 99, 0, 392) := rfl
theorem s109_74 {l0 l1 l2 l3 l4 s3 : AV} {s0 s1 : Int} {s2 : Nat} {M : Mem} {P : PMem} (hk : kd s2 = 7) : evL 109 74 [l0, l1, l2, l3, l4] [I s0, I s1, Rf s2, s3] (Hp M P) = cont (evM 99 [Rf s2, I s1, I s0] (Hp M P)) (fun r h => evL 109 77 [l0, l1, l2, l3, l4] (rl r [s3]) h) := e_callV (av' := [I s1, I s0]) (rest := [s3]) (c := 7) c109_74 rfl rfl rfl rfl rfl rfl rfl hk rfl
theorem c109_77 : cd 109 77 = some (77, .i2l, 1, 0, 0, 0) := rfl
theorem s109_77 {l0 l1 l2 l3 l4 s1 : AV} {s0 : Int} {h : AH} : evL 109 77 [l0, l1, l2, l3, l4] [I s0, s1] h = evL 109 78 [l0, l1, l2, l3, l4] [Lg (i32 s0).toInt64, s1] h := ev_go c109_77 rfl
theorem c109_78 : cd 109 78 = some (78, .ladd, 1, 0, 0, 0) := rfl
theorem s109_78 {l0 l1 l2 l3 l4 : AV} {s0 s1 : Int64} {h : AH} : evL 109 78 [l0, l1, l2, l3, l4] [Lg s0, Lg s1] h = evL 109 79 [l0, l1, l2, l3, l4] [Lg (s1 + s0)] h := ev_go c109_78 rfl
theorem c109_79 : cd 109 79 = some (79, .lstore_n 1, 1, 0, 0, 0) := rfl
theorem s109_79 {l0 l1 l2 l3 l4 : AV} {s0 : Int64} {h : AH} : evL 109 79 [l0, l1, l2, l3, l4] [Lg s0] h = evL 109 80 [l0, Lg s0, Db 0, l3, l4] [] h := ev_go c109_79 rfl
theorem c109_80 : cd 109 80 = some (80, .iinc 3 1, 3, 0, 0, 0) := rfl
theorem s109_80 {l0 l1 l2 l4 : AV} {l3 : Int} {h : AH} : evL 109 80 [l0, l1, l2, I l3, l4] [] h = evL 109 83 [l0, l1, l2, I (ad l3 1), l4] [] h := ev_go c109_80 rfl
theorem c109_83 : cd 109 83 = some (83, .goto (-50), 3, 0, 0, 0) := rfl
theorem s109_83 {l0 l1 l2 l3 l4 : AV} {h : AH} : evL 109 83 [l0, l1, l2, l3, l4] [] h = evL 109 33 [l0, l1, l2, l3, l4] [] h := ev_go c109_83 rfl
theorem c109_86 : cd 109 86 = some (86, .iconst 0, 1, 0, 0, 0) := rfl
theorem s109_86 {l0 l1 l2 l3 l4 : AV} {h : AH} : evL 109 86 [l0, l1, l2, l3, l4] [] h = evL 109 87 [l0, l1, l2, l3, l4] [I 0] h := ev_go c109_86 rfl
theorem c109_87 : cd 109 87 = some (87, .istore_n 3, 1, 0, 0, 0) := rfl
theorem s109_87 {l0 l1 l2 l3 l4 : AV} {s0 : Int} {h : AH} : evL 109 87 [l0, l1, l2, l3, l4] [I s0] h = evL 109 88 [l0, l1, l2, I s0, l4] [] h := ev_go c109_87 rfl
theorem c109_88 : cd 109 88 = some (88, .iload_n 3, 1, 0, 0, 0) := rfl
theorem s109_88 {l0 l1 l2 l4 : AV} {l3 : Int} {h : AH} : evL 109 88 [l0, l1, l2, I l3, l4] [] h = evL 109 89 [l0, l1, l2, I l3, l4] [I l3] h := ev_go c109_88 rfl
theorem c109_89 : cd 109 89 = some (89, .aload_n 0, 1, 0, 0, 0) := rfl
theorem s109_89 {l1 l2 l3 l4 s0 : AV} {l0 : Option Nat} {h : AH} : evL 109 89 [.inr (.inl l0), l1, l2, l3, l4] [s0] h = evL 109 90 [.inr (.inl l0), l1, l2, l3, l4] [.inr (.inl l0), s0] h := ev_go c109_89 rfl
theorem c109_90 : cd 109 90 = some (90, .iconst 0, 1, 0, 0, 0) := rfl
theorem s109_90 {l0 l1 l2 l3 l4 s0 s1 : AV} {h : AH} : evL 109 90 [l0, l1, l2, l3, l4] [s0, s1] h = evL 109 91 [l0, l1, l2, l3, l4] [I 0, s0, s1] h := ev_go c109_90 rfl
theorem c109_91 : cd 109 91 = some (91, .invokevirtual 13, 3, 100, 0, 258) := rfl
theorem s109_91 {l0 l1 l2 l3 l4 s2 : AV} {s0 : Int} {s1 : Nat} {M : Mem} {P : PMem} (hk : kd s1 = 7) : evL 109 91 [l0, l1, l2, l3, l4] [I s0, Rf s1, s2] (Hp M P) = cont (evM 100 [Rf s1, I s0] (Hp M P)) (fun r h => evL 109 94 [l0, l1, l2, l3, l4] (rl r [s2]) h) := e_callV (av' := [I s0]) (rest := [s2]) (c := 7) c109_91 rfl rfl rfl rfl rfl rfl rfl hk rfl
theorem c109_94 : cd 109 94 = some (94, .if_icmp .ge 118, 3, 0, 0, 0) := rfl
theorem s109_94 {l0 l1 l2 l3 l4 : AV} {s0 s1 : Int} {h : AH} : evL 109 94 [l0, l1, l2, l3, l4] [I s0, I s1] h = if s0 ≤ s1 then evL 109 212 [l0, l1, l2, l3, l4] [] h else evL 109 97 [l0, l1, l2, l3, l4] [] h := e_icmp_ge c109_94 rfl rfl
theorem c109_97 : cd 109 97 = some (97, .iconst 0, 1, 0, 0, 0) := rfl
theorem s109_97 {l0 l1 l2 l3 l4 : AV} {h : AH} : evL 109 97 [l0, l1, l2, l3, l4] [] h = evL 109 98 [l0, l1, l2, l3, l4] [I 0] h := ev_go c109_97 rfl
theorem c109_98 : cd 109 98 = some (98, .istore 4, 2, 0, 0, 0) := rfl
theorem s109_98 {l0 l1 l2 l3 l4 : AV} {s0 : Int} {h : AH} : evL 109 98 [l0, l1, l2, l3, l4] [I s0] h = evL 109 100 [l0, l1, l2, l3, I s0] [] h := ev_go c109_98 rfl
theorem c109_100 : cd 109 100 = some (100, .iload 4, 2, 0, 0, 0) := rfl
theorem s109_100 {l0 l1 l2 l3 : AV} {l4 : Int} {h : AH} : evL 109 100 [l0, l1, l2, l3, I l4] [] h = evL 109 102 [l0, l1, l2, l3, I l4] [I l4] h := ev_go c109_100 rfl
theorem c109_102 : cd 109 102 = some (102, .bipush 9, 2, 0, 0, 0) := rfl
theorem s109_102 {l0 l1 l2 l3 l4 s0 : AV} {h : AH} : evL 109 102 [l0, l1, l2, l3, l4] [s0] h = evL 109 104 [l0, l1, l2, l3, l4] [I 9, s0] h := ev_go c109_102 rfl
theorem c109_104 : cd 109 104 = some (104, .if_icmp .ge 24, 3, 0, 0, 0) := rfl
theorem s109_104 {l0 l1 l2 l3 l4 : AV} {s0 s1 : Int} {h : AH} : evL 109 104 [l0, l1, l2, l3, l4] [I s0, I s1] h = if s0 ≤ s1 then evL 109 128 [l0, l1, l2, l3, l4] [] h else evL 109 107 [l0, l1, l2, l3, l4] [] h := e_icmp_ge c109_104 rfl rfl
theorem c109_107 : cd 109 107 = some (107, .ldc2_w 11, 3, 31, 0, 391) := rfl
theorem s109_107 {l0 l1 l2 l3 l4 : AV} {h : AH} : evL 109 107 [l0, l1, l2, l3, l4] [] h = evL 109 110 [l0, l1, l2, l3, l4] [Lg (Int64.ofNat 31)] h := ev_go c109_107 rfl
theorem c109_110 : cd 109 110 = some (110, .lload_n 1, 1, 0, 0, 0) := rfl
theorem s109_110 {l0 l3 l4 s0 : AV} {l1 : Int64} {h : AH} : evL 109 110 [l0, Lg l1, Db 0, l3, l4] [s0] h = evL 109 111 [l0, Lg l1, Db 0, l3, l4] [Lg l1, s0] h := ev_go c109_110 rfl
theorem c109_111 : cd 109 111 = some (111, .lmul, 1, 0, 0, 0) := rfl
theorem s109_111 {l0 l1 l2 l3 l4 : AV} {s0 s1 : Int64} {h : AH} : evL 109 111 [l0, l1, l2, l3, l4] [Lg s0, Lg s1] h = evL 109 112 [l0, l1, l2, l3, l4] [Lg (s1 * s0)] h := ev_go c109_111 rfl
theorem c109_112 : cd 109 112 = some (112, .aload_n 0, 1, 0, 0, 0) := rfl
theorem s109_112 {l1 l2 l3 l4 s0 : AV} {l0 : Option Nat} {h : AH} : evL 109 112 [.inr (.inl l0), l1, l2, l3, l4] [s0] h = evL 109 113 [.inr (.inl l0), l1, l2, l3, l4] [.inr (.inl l0), s0] h := ev_go c109_112 rfl
theorem c109_113 : cd 109 113 = some (113, .iload_n 3, 1, 0, 0, 0) := rfl
theorem s109_113 {l0 l1 l2 l4 s0 s1 : AV} {l3 : Int} {h : AH} : evL 109 113 [l0, l1, l2, I l3, l4] [s0, s1] h = evL 109 114 [l0, l1, l2, I l3, l4] [I l3, s0, s1] h := ev_go c109_113 rfl
theorem c109_114 : cd 109 114 = some (114, .iload 4, 2, 0, 0, 0) := rfl
theorem s109_114 {l0 l1 l2 l3 s0 s1 s2 : AV} {l4 : Int} {h : AH} : evL 109 114 [l0, l1, l2, l3, I l4] [s0, s1, s2] h = evL 109 116 [l0, l1, l2, l3, I l4] [I l4, s0, s1, s2] h := ev_go c109_114 rfl
theorem c109_116 : cd 109 116 = some (116, .invokevirtual 23, 3, 97, 0, 406) := rfl
theorem s109_116 {l0 l1 l2 l3 l4 s3 : AV} {s0 s1 : Int} {s2 : Nat} {M : Mem} {P : PMem} (hk : kd s2 = 7) : evL 109 116 [l0, l1, l2, l3, l4] [I s0, I s1, Rf s2, s3] (Hp M P) = cont (evM 97 [Rf s2, I s1, I s0] (Hp M P)) (fun r h => evL 109 119 [l0, l1, l2, l3, l4] (rl r [s3]) h) := e_callV (av' := [I s1, I s0]) (rest := [s3]) (c := 7) c109_116 rfl rfl rfl rfl rfl rfl rfl hk rfl
theorem c109_119 : cd 109 119 = some (119, .i2l, 1, 0, 0, 0) := rfl
theorem s109_119 {l0 l1 l2 l3 l4 s1 : AV} {s0 : Int} {h : AH} : evL 109 119 [l0, l1, l2, l3, l4] [I s0, s1] h = evL 109 120 [l0, l1, l2, l3, l4] [Lg (i32 s0).toInt64, s1] h := ev_go c109_119 rfl
theorem c109_120 : cd 109 120 = some (120, .ladd, 1, 0, 0, 0) := rfl
theorem s109_120 {l0 l1 l2 l3 l4 : AV} {s0 s1 : Int64} {h : AH} : evL 109 120 [l0, l1, l2, l3, l4] [Lg s0, Lg s1] h = evL 109 121 [l0, l1, l2, l3, l4] [Lg (s1 + s0)] h := ev_go c109_120 rfl
theorem c109_121 : cd 109 121 = some (121, .lstore_n 1, 1, 0, 0, 0) := rfl
theorem s109_121 {l0 l1 l2 l3 l4 : AV} {s0 : Int64} {h : AH} : evL 109 121 [l0, l1, l2, l3, l4] [Lg s0] h = evL 109 122 [l0, Lg s0, Db 0, l3, l4] [] h := ev_go c109_121 rfl
theorem c109_122 : cd 109 122 = some (122, .iinc 4 1, 3, 0, 0, 0) := rfl
theorem s109_122 {l0 l1 l2 l3 : AV} {l4 : Int} {h : AH} : evL 109 122 [l0, l1, l2, l3, I l4] [] h = evL 109 125 [l0, l1, l2, l3, I (ad l4 1)] [] h := ev_go c109_122 rfl
theorem c109_125 : cd 109 125 = some (125, .goto (-25), 3, 0, 0, 0) := rfl
theorem s109_125 {l0 l1 l2 l3 l4 : AV} {h : AH} : evL 109 125 [l0, l1, l2, l3, l4] [] h = evL 109 100 [l0, l1, l2, l3, l4] [] h := ev_go c109_125 rfl
theorem c109_128 : cd 109 128 = some (128, .iconst 0, 1, 0, 0, 0) := rfl
theorem s109_128 {l0 l1 l2 l3 l4 : AV} {h : AH} : evL 109 128 [l0, l1, l2, l3, l4] [] h = evL 109 129 [l0, l1, l2, l3, l4] [I 0] h := ev_go c109_128 rfl
theorem c109_129 : cd 109 129 = some (129, .istore 4, 2, 0, 0, 0) := rfl
theorem s109_129 {l0 l1 l2 l3 l4 : AV} {s0 : Int} {h : AH} : evL 109 129 [l0, l1, l2, l3, l4] [I s0] h = evL 109 131 [l0, l1, l2, l3, I s0] [] h := ev_go c109_129 rfl
theorem c109_131 : cd 109 131 = some (131, .iload 4, 2, 0, 0, 0) := rfl
theorem s109_131 {l0 l1 l2 l3 : AV} {l4 : Int} {h : AH} : evL 109 131 [l0, l1, l2, l3, I l4] [] h = evL 109 133 [l0, l1, l2, l3, I l4] [I l4] h := ev_go c109_131 rfl
theorem c109_133 : cd 109 133 = some (133, .aload_n 0, 1, 0, 0, 0) := rfl
theorem s109_133 {l1 l2 l3 l4 s0 : AV} {l0 : Option Nat} {h : AH} : evL 109 133 [.inr (.inl l0), l1, l2, l3, l4] [s0] h = evL 109 134 [.inr (.inl l0), l1, l2, l3, l4] [.inr (.inl l0), s0] h := ev_go c109_133 rfl
theorem c109_134 : cd 109 134 = some (134, .iload_n 3, 1, 0, 0, 0) := rfl
theorem s109_134 {l0 l1 l2 l4 s0 s1 : AV} {l3 : Int} {h : AH} : evL 109 134 [l0, l1, l2, I l3, l4] [s0, s1] h = evL 109 135 [l0, l1, l2, I l3, l4] [I l3, s0, s1] h := ev_go c109_134 rfl
theorem c109_135 : cd 109 135 = some (135, .iconst 3, 1, 0, 0, 0) := rfl
theorem s109_135 {l0 l1 l2 l3 l4 s0 s1 s2 : AV} {h : AH} : evL 109 135 [l0, l1, l2, l3, l4] [s0, s1, s2] h = evL 109 136 [l0, l1, l2, l3, l4] [I 3, s0, s1, s2] h := ev_go c109_135 rfl
theorem c109_136 : cd 109 136 = some (136, .invokevirtual 23, 3, 97, 0, 406) := rfl
theorem s109_136 {l0 l1 l2 l3 l4 s3 : AV} {s0 s1 : Int} {s2 : Nat} {M : Mem} {P : PMem} (hk : kd s2 = 7) : evL 109 136 [l0, l1, l2, l3, l4] [I s0, I s1, Rf s2, s3] (Hp M P) = cont (evM 97 [Rf s2, I s1, I s0] (Hp M P)) (fun r h => evL 109 139 [l0, l1, l2, l3, l4] (rl r [s3]) h) := e_callV (av' := [I s1, I s0]) (rest := [s3]) (c := 7) c109_136 rfl rfl rfl rfl rfl rfl rfl hk rfl
theorem c109_139 : cd 109 139 = some (139, .if_icmp .ge 67, 3, 0, 0, 0) := rfl
theorem s109_139 {l0 l1 l2 l3 l4 : AV} {s0 s1 : Int} {h : AH} : evL 109 139 [l0, l1, l2, l3, l4] [I s0, I s1] h = if s0 ≤ s1 then evL 109 206 [l0, l1, l2, l3, l4] [] h else evL 109 142 [l0, l1, l2, l3, l4] [] h := e_icmp_ge c109_139 rfl rfl
theorem c109_142 : cd 109 142 = some (142, .ldc2_w 11, 3, 31, 0, 391) := rfl
theorem s109_142 {l0 l1 l2 l3 l4 : AV} {h : AH} : evL 109 142 [l0, l1, l2, l3, l4] [] h = evL 109 145 [l0, l1, l2, l3, l4] [Lg (Int64.ofNat 31)] h := ev_go c109_142 rfl
theorem c109_145 : cd 109 145 = some (145, .ldc2_w 11, 3, 31, 0, 391) := rfl
theorem s109_145 {l0 l1 l2 l3 l4 s0 : AV} {h : AH} : evL 109 145 [l0, l1, l2, l3, l4] [s0] h = evL 109 148 [l0, l1, l2, l3, l4] [Lg (Int64.ofNat 31), s0] h := ev_go c109_145 rfl
theorem c109_148 : cd 109 148 = some (148, .ldc2_w 11, 3, 31, 0, 391) := rfl
theorem s109_148 {l0 l1 l2 l3 l4 s0 s1 : AV} {h : AH} : evL 109 148 [l0, l1, l2, l3, l4] [s0, s1] h = evL 109 151 [l0, l1, l2, l3, l4] [Lg (Int64.ofNat 31), s0, s1] h := ev_go c109_148 rfl
theorem c109_151 : cd 109 151 = some (151, .ldc2_w 11, 3, 31, 0, 391) := rfl
theorem s109_151 {l0 l1 l2 l3 l4 s0 s1 s2 : AV} {h : AH} : evL 109 151 [l0, l1, l2, l3, l4] [s0, s1, s2] h = evL 109 154 [l0, l1, l2, l3, l4] [Lg (Int64.ofNat 31), s0, s1, s2] h := ev_go c109_151 rfl
theorem c109_154 : cd 109 154 = some (154, .lload_n 1, 1, 0, 0, 0) := rfl
theorem s109_154 {l0 l3 l4 s0 s1 s2 s3 : AV} {l1 : Int64} {h : AH} : evL 109 154 [l0, Lg l1, Db 0, l3, l4] [s0, s1, s2, s3] h = evL 109 155 [l0, Lg l1, Db 0, l3, l4] [Lg l1, s0, s1, s2, s3] h := ev_go c109_154 rfl
theorem c109_155 : cd 109 155 = some (155, .lmul, 1, 0, 0, 0) := rfl
theorem s109_155 {l0 l1 l2 l3 l4 s2 s3 s4 : AV} {s0 s1 : Int64} {h : AH} : evL 109 155 [l0, l1, l2, l3, l4] [Lg s0, Lg s1, s2, s3, s4] h = evL 109 156 [l0, l1, l2, l3, l4] [Lg (s1 * s0), s2, s3, s4] h := ev_go c109_155 rfl
theorem c109_156 : cd 109 156 = some (156, .aload_n 0, 1, 0, 0, 0) := rfl
theorem s109_156 {l1 l2 l3 l4 s0 s1 s2 s3 : AV} {l0 : Option Nat} {h : AH} : evL 109 156 [.inr (.inl l0), l1, l2, l3, l4] [s0, s1, s2, s3] h = evL 109 157 [.inr (.inl l0), l1, l2, l3, l4] [.inr (.inl l0), s0, s1, s2, s3] h := ev_go c109_156 rfl
theorem c109_157 : cd 109 157 = some (157, .iload_n 3, 1, 0, 0, 0) := rfl
theorem s109_157 {l0 l1 l2 l4 s0 s1 s2 s3 s4 : AV} {l3 : Int} {h : AH} : evL 109 157 [l0, l1, l2, I l3, l4] [s0, s1, s2, s3, s4] h = evL 109 158 [l0, l1, l2, I l3, l4] [I l3, s0, s1, s2, s3, s4] h := ev_go c109_157 rfl
theorem c109_158 : cd 109 158 = some (158, .iload 4, 2, 0, 0, 0) := rfl
theorem s109_158 {l0 l1 l2 l3 s0 s1 s2 s3 s4 s5 : AV} {l4 : Int} {h : AH} : evL 109 158 [l0, l1, l2, l3, I l4] [s0, s1, s2, s3, s4, s5] h = evL 109 160 [l0, l1, l2, l3, I l4] [I l4, s0, s1, s2, s3, s4, s5] h := ev_go c109_158 rfl
theorem c109_160 : cd 109 160 = some (160, .iconst 0, 1, 0, 0, 0) := rfl
theorem s109_160 {l0 l1 l2 l3 l4 s0 s1 s2 s3 s4 s5 s6 : AV} {h : AH} : evL 109 160 [l0, l1, l2, l3, l4] [s0, s1, s2, s3, s4, s5, s6] h = evL 109 161 [l0, l1, l2, l3, l4] [I 0, s0, s1, s2, s3, s4, s5, s6] h := ev_go c109_160 rfl
theorem c109_161 : cd 109 161 = some (161, .invokevirtual 26, 3, 98, 0, 418) := rfl
theorem s109_161 {l0 l1 l2 l3 l4 s4 s5 s6 s7 : AV} {s0 s1 s2 : Int} {s3 : Nat} {M : Mem} {P : PMem} (hk : kd s3 = 7) : evL 109 161 [l0, l1, l2, l3, l4] [I s0, I s1, I s2, Rf s3, s4, s5, s6, s7] (Hp M P) = cont (evM 98 [Rf s3, I s2, I s1, I s0] (Hp M P)) (fun r h => evL 109 164 [l0, l1, l2, l3, l4] (rl r [s4, s5, s6, s7]) h) := e_callV (av' := [I s2, I s1, I s0]) (rest := [s4, s5, s6, s7]) (c := 7) c109_161 rfl rfl rfl rfl rfl rfl rfl hk rfl
theorem c109_164 : cd 109 164 = some (164, .i2l, 1, 0, 0, 0) := rfl
theorem s109_164 {l0 l1 l2 l3 l4 s1 s2 s3 s4 : AV} {s0 : Int} {h : AH} : evL 109 164 [l0, l1, l2, l3, l4] [I s0, s1, s2, s3, s4] h = evL 109 165 [l0, l1, l2, l3, l4] [Lg (i32 s0).toInt64, s1, s2, s3, s4] h := ev_go c109_164 rfl
theorem c109_165 : cd 109 165 = some (165, .ladd, 1, 0, 0, 0) := rfl
theorem s109_165 {l0 l1 l2 l3 l4 s2 s3 s4 : AV} {s0 s1 : Int64} {h : AH} : evL 109 165 [l0, l1, l2, l3, l4] [Lg s0, Lg s1, s2, s3, s4] h = evL 109 166 [l0, l1, l2, l3, l4] [Lg (s1 + s0), s2, s3, s4] h := ev_go c109_165 rfl
theorem c109_166 : cd 109 166 = some (166, .lmul, 1, 0, 0, 0) := rfl
theorem s109_166 {l0 l1 l2 l3 l4 s2 s3 : AV} {s0 s1 : Int64} {h : AH} : evL 109 166 [l0, l1, l2, l3, l4] [Lg s0, Lg s1, s2, s3] h = evL 109 167 [l0, l1, l2, l3, l4] [Lg (s1 * s0), s2, s3] h := ev_go c109_166 rfl
theorem c109_167 : cd 109 167 = some (167, .aload_n 0, 1, 0, 0, 0) := rfl
theorem s109_167 {l1 l2 l3 l4 s0 s1 s2 : AV} {l0 : Option Nat} {h : AH} : evL 109 167 [.inr (.inl l0), l1, l2, l3, l4] [s0, s1, s2] h = evL 109 168 [.inr (.inl l0), l1, l2, l3, l4] [.inr (.inl l0), s0, s1, s2] h := ev_go c109_167 rfl
theorem c109_168 : cd 109 168 = some (168, .iload_n 3, 1, 0, 0, 0) := rfl
theorem s109_168 {l0 l1 l2 l4 s0 s1 s2 s3 : AV} {l3 : Int} {h : AH} : evL 109 168 [l0, l1, l2, I l3, l4] [s0, s1, s2, s3] h = evL 109 169 [l0, l1, l2, I l3, l4] [I l3, s0, s1, s2, s3] h := ev_go c109_168 rfl
theorem c109_169 : cd 109 169 = some (169, .iload 4, 2, 0, 0, 0) := rfl
theorem s109_169 {l0 l1 l2 l3 s0 s1 s2 s3 s4 : AV} {l4 : Int} {h : AH} : evL 109 169 [l0, l1, l2, l3, I l4] [s0, s1, s2, s3, s4] h = evL 109 171 [l0, l1, l2, l3, I l4] [I l4, s0, s1, s2, s3, s4] h := ev_go c109_169 rfl
theorem c109_171 : cd 109 171 = some (171, .iconst 1, 1, 0, 0, 0) := rfl
theorem s109_171 {l0 l1 l2 l3 l4 s0 s1 s2 s3 s4 s5 : AV} {h : AH} : evL 109 171 [l0, l1, l2, l3, l4] [s0, s1, s2, s3, s4, s5] h = evL 109 172 [l0, l1, l2, l3, l4] [I 1, s0, s1, s2, s3, s4, s5] h := ev_go c109_171 rfl
theorem c109_172 : cd 109 172 = some (172, .invokevirtual 26, 3, 98, 0, 418) := rfl
theorem s109_172 {l0 l1 l2 l3 l4 s4 s5 s6 : AV} {s0 s1 s2 : Int} {s3 : Nat} {M : Mem} {P : PMem} (hk : kd s3 = 7) : evL 109 172 [l0, l1, l2, l3, l4] [I s0, I s1, I s2, Rf s3, s4, s5, s6] (Hp M P) = cont (evM 98 [Rf s3, I s2, I s1, I s0] (Hp M P)) (fun r h => evL 109 175 [l0, l1, l2, l3, l4] (rl r [s4, s5, s6]) h) := e_callV (av' := [I s2, I s1, I s0]) (rest := [s4, s5, s6]) (c := 7) c109_172 rfl rfl rfl rfl rfl rfl rfl hk rfl
theorem c109_175 : cd 109 175 = some (175, .i2l, 1, 0, 0, 0) := rfl
theorem s109_175 {l0 l1 l2 l3 l4 s1 s2 s3 : AV} {s0 : Int} {h : AH} : evL 109 175 [l0, l1, l2, l3, l4] [I s0, s1, s2, s3] h = evL 109 176 [l0, l1, l2, l3, l4] [Lg (i32 s0).toInt64, s1, s2, s3] h := ev_go c109_175 rfl
theorem c109_176 : cd 109 176 = some (176, .ladd, 1, 0, 0, 0) := rfl
theorem s109_176 {l0 l1 l2 l3 l4 s2 s3 : AV} {s0 s1 : Int64} {h : AH} : evL 109 176 [l0, l1, l2, l3, l4] [Lg s0, Lg s1, s2, s3] h = evL 109 177 [l0, l1, l2, l3, l4] [Lg (s1 + s0), s2, s3] h := ev_go c109_176 rfl
theorem c109_177 : cd 109 177 = some (177, .lmul, 1, 0, 0, 0) := rfl
theorem s109_177 {l0 l1 l2 l3 l4 s2 : AV} {s0 s1 : Int64} {h : AH} : evL 109 177 [l0, l1, l2, l3, l4] [Lg s0, Lg s1, s2] h = evL 109 178 [l0, l1, l2, l3, l4] [Lg (s1 * s0), s2] h := ev_go c109_177 rfl
theorem c109_178 : cd 109 178 = some (178, .aload_n 0, 1, 0, 0, 0) := rfl
theorem s109_178 {l1 l2 l3 l4 s0 s1 : AV} {l0 : Option Nat} {h : AH} : evL 109 178 [.inr (.inl l0), l1, l2, l3, l4] [s0, s1] h = evL 109 179 [.inr (.inl l0), l1, l2, l3, l4] [.inr (.inl l0), s0, s1] h := ev_go c109_178 rfl
theorem c109_179 : cd 109 179 = some (179, .iload_n 3, 1, 0, 0, 0) := rfl
theorem s109_179 {l0 l1 l2 l4 s0 s1 s2 : AV} {l3 : Int} {h : AH} : evL 109 179 [l0, l1, l2, I l3, l4] [s0, s1, s2] h = evL 109 180 [l0, l1, l2, I l3, l4] [I l3, s0, s1, s2] h := ev_go c109_179 rfl
theorem c109_180 : cd 109 180 = some (180, .iload 4, 2, 0, 0, 0) := rfl
theorem s109_180 {l0 l1 l2 l3 s0 s1 s2 s3 : AV} {l4 : Int} {h : AH} : evL 109 180 [l0, l1, l2, l3, I l4] [s0, s1, s2, s3] h = evL 109 182 [l0, l1, l2, l3, I l4] [I l4, s0, s1, s2, s3] h := ev_go c109_180 rfl
theorem c109_182 : cd 109 182 = some (182, .iconst 2, 1, 0, 0, 0) := rfl
theorem s109_182 {l0 l1 l2 l3 l4 s0 s1 s2 s3 s4 : AV} {h : AH} : evL 109 182 [l0, l1, l2, l3, l4] [s0, s1, s2, s3, s4] h = evL 109 183 [l0, l1, l2, l3, l4] [I 2, s0, s1, s2, s3, s4] h := ev_go c109_182 rfl
theorem c109_183 : cd 109 183 = some (183, .invokevirtual 26, 3, 98, 0, 418) := rfl
theorem s109_183 {l0 l1 l2 l3 l4 s4 s5 : AV} {s0 s1 s2 : Int} {s3 : Nat} {M : Mem} {P : PMem} (hk : kd s3 = 7) : evL 109 183 [l0, l1, l2, l3, l4] [I s0, I s1, I s2, Rf s3, s4, s5] (Hp M P) = cont (evM 98 [Rf s3, I s2, I s1, I s0] (Hp M P)) (fun r h => evL 109 186 [l0, l1, l2, l3, l4] (rl r [s4, s5]) h) := e_callV (av' := [I s2, I s1, I s0]) (rest := [s4, s5]) (c := 7) c109_183 rfl rfl rfl rfl rfl rfl rfl hk rfl
theorem c109_186 : cd 109 186 = some (186, .i2l, 1, 0, 0, 0) := rfl
theorem s109_186 {l0 l1 l2 l3 l4 s1 s2 : AV} {s0 : Int} {h : AH} : evL 109 186 [l0, l1, l2, l3, l4] [I s0, s1, s2] h = evL 109 187 [l0, l1, l2, l3, l4] [Lg (i32 s0).toInt64, s1, s2] h := ev_go c109_186 rfl
theorem c109_187 : cd 109 187 = some (187, .ladd, 1, 0, 0, 0) := rfl
theorem s109_187 {l0 l1 l2 l3 l4 s2 : AV} {s0 s1 : Int64} {h : AH} : evL 109 187 [l0, l1, l2, l3, l4] [Lg s0, Lg s1, s2] h = evL 109 188 [l0, l1, l2, l3, l4] [Lg (s1 + s0), s2] h := ev_go c109_187 rfl
theorem c109_188 : cd 109 188 = some (188, .lmul, 1, 0, 0, 0) := rfl
theorem s109_188 {l0 l1 l2 l3 l4 : AV} {s0 s1 : Int64} {h : AH} : evL 109 188 [l0, l1, l2, l3, l4] [Lg s0, Lg s1] h = evL 109 189 [l0, l1, l2, l3, l4] [Lg (s1 * s0)] h := ev_go c109_188 rfl
theorem c109_189 : cd 109 189 = some (189, .aload_n 0, 1, 0, 0, 0) := rfl
theorem s109_189 {l1 l2 l3 l4 s0 : AV} {l0 : Option Nat} {h : AH} : evL 109 189 [.inr (.inl l0), l1, l2, l3, l4] [s0] h = evL 109 190 [.inr (.inl l0), l1, l2, l3, l4] [.inr (.inl l0), s0] h := ev_go c109_189 rfl
theorem c109_190 : cd 109 190 = some (190, .iload_n 3, 1, 0, 0, 0) := rfl
theorem s109_190 {l0 l1 l2 l4 s0 s1 : AV} {l3 : Int} {h : AH} : evL 109 190 [l0, l1, l2, I l3, l4] [s0, s1] h = evL 109 191 [l0, l1, l2, I l3, l4] [I l3, s0, s1] h := ev_go c109_190 rfl
theorem c109_191 : cd 109 191 = some (191, .iload 4, 2, 0, 0, 0) := rfl
theorem s109_191 {l0 l1 l2 l3 s0 s1 s2 : AV} {l4 : Int} {h : AH} : evL 109 191 [l0, l1, l2, l3, I l4] [s0, s1, s2] h = evL 109 193 [l0, l1, l2, l3, I l4] [I l4, s0, s1, s2] h := ev_go c109_191 rfl
theorem c109_193 : cd 109 193 = some (193, .iconst 3, 1, 0, 0, 0) := rfl
theorem s109_193 {l0 l1 l2 l3 l4 s0 s1 s2 s3 : AV} {h : AH} : evL 109 193 [l0, l1, l2, l3, l4] [s0, s1, s2, s3] h = evL 109 194 [l0, l1, l2, l3, l4] [I 3, s0, s1, s2, s3] h := ev_go c109_193 rfl
theorem c109_194 : cd 109 194 = some (194, .invokevirtual 26, 3, 98, 0, 418) := rfl
theorem s109_194 {l0 l1 l2 l3 l4 s4 : AV} {s0 s1 s2 : Int} {s3 : Nat} {M : Mem} {P : PMem} (hk : kd s3 = 7) : evL 109 194 [l0, l1, l2, l3, l4] [I s0, I s1, I s2, Rf s3, s4] (Hp M P) = cont (evM 98 [Rf s3, I s2, I s1, I s0] (Hp M P)) (fun r h => evL 109 197 [l0, l1, l2, l3, l4] (rl r [s4]) h) := e_callV (av' := [I s2, I s1, I s0]) (rest := [s4]) (c := 7) c109_194 rfl rfl rfl rfl rfl rfl rfl hk rfl
theorem c109_197 : cd 109 197 = some (197, .i2l, 1, 0, 0, 0) := rfl
theorem s109_197 {l0 l1 l2 l3 l4 s1 : AV} {s0 : Int} {h : AH} : evL 109 197 [l0, l1, l2, l3, l4] [I s0, s1] h = evL 109 198 [l0, l1, l2, l3, l4] [Lg (i32 s0).toInt64, s1] h := ev_go c109_197 rfl
theorem c109_198 : cd 109 198 = some (198, .ladd, 1, 0, 0, 0) := rfl
theorem s109_198 {l0 l1 l2 l3 l4 : AV} {s0 s1 : Int64} {h : AH} : evL 109 198 [l0, l1, l2, l3, l4] [Lg s0, Lg s1] h = evL 109 199 [l0, l1, l2, l3, l4] [Lg (s1 + s0)] h := ev_go c109_198 rfl
theorem c109_199 : cd 109 199 = some (199, .lstore_n 1, 1, 0, 0, 0) := rfl
theorem s109_199 {l0 l1 l2 l3 l4 : AV} {s0 : Int64} {h : AH} : evL 109 199 [l0, l1, l2, l3, l4] [Lg s0] h = evL 109 200 [l0, Lg s0, Db 0, l3, l4] [] h := ev_go c109_199 rfl
theorem c109_200 : cd 109 200 = some (200, .iinc 4 1, 3, 0, 0, 0) := rfl
theorem s109_200 {l0 l1 l2 l3 : AV} {l4 : Int} {h : AH} : evL 109 200 [l0, l1, l2, l3, I l4] [] h = evL 109 203 [l0, l1, l2, l3, I (ad l4 1)] [] h := ev_go c109_200 rfl
theorem c109_203 : cd 109 203 = some (203, .goto (-72), 3, 0, 0, 0) := rfl
theorem s109_203 {l0 l1 l2 l3 l4 : AV} {h : AH} : evL 109 203 [l0, l1, l2, l3, l4] [] h = evL 109 131 [l0, l1, l2, l3, l4] [] h := ev_go c109_203 rfl
theorem c109_206 : cd 109 206 = some (206, .iinc 3 1, 3, 0, 0, 0) := rfl
theorem s109_206 {l0 l1 l2 l4 : AV} {l3 : Int} {h : AH} : evL 109 206 [l0, l1, l2, I l3, l4] [] h = evL 109 209 [l0, l1, l2, I (ad l3 1), l4] [] h := ev_go c109_206 rfl
theorem c109_209 : cd 109 209 = some (209, .goto (-121), 3, 0, 0, 0) := rfl
theorem s109_209 {l0 l1 l2 l3 l4 : AV} {h : AH} : evL 109 209 [l0, l1, l2, l3, l4] [] h = evL 109 88 [l0, l1, l2, l3, l4] [] h := ev_go c109_209 rfl
theorem c109_212 : cd 109 212 = some (212, .lload_n 1, 1, 0, 0, 0) := rfl
theorem s109_212 {l0 l3 l4 : AV} {l1 : Int64} {h : AH} : evL 109 212 [l0, Lg l1, Db 0, l3, l4] [] h = evL 109 213 [l0, Lg l1, Db 0, l3, l4] [Lg l1] h := ev_go c109_212 rfl
theorem c109_213 : cd 109 213 = some (213, .lreturn, 1, 0, 0, 0) := rfl
theorem s109_213 {l0 l1 l2 l3 l4 : AV} {s0 : Int64} {h : AH} : evL 109 213 [l0, l1, l2, l3, l4] [Lg s0] h = some (some (Lg s0), h) := e_ret c109_213 rfl
/-! 110: TankDiversLaw.holds(LTankDivers;)Z -/
theorem en110 {l0 : AV} {h : AH} : evM 110 [l0] h = evL 110 0 [l0, Db 0, Db 0, Db 0, Db 0, Db 0, Db 0, Db 0, Db 0, Db 0, Db 0, Db 0] [] h := rfl
set_option maxRecDepth 20000 in
theorem c110_0 : cd 110 0 = some (0, .iconst 0, 1, 0, 0, 0) := rfl
theorem s110_0 {l0 l1 l2 l3 l4 l5 l6 l7 l8 l9 l10 l11 : AV} {h : AH} : evL 110 0 [l0, l1, l2, l3, l4, l5, l6, l7, l8, l9, l10, l11] [] h = evL 110 1 [l0, l1, l2, l3, l4, l5, l6, l7, l8, l9, l10, l11] [I 0] h := ev_go c110_0 rfl
set_option maxRecDepth 20000 in
theorem c110_1 : cd 110 1 = some (1, .istore_n 1, 1, 0, 0, 0) := rfl
theorem s110_1 {l0 l1 l2 l3 l4 l5 l6 l7 l8 l9 l10 l11 : AV} {s0 : Int} {h : AH} : evL 110 1 [l0, l1, l2, l3, l4, l5, l6, l7, l8, l9, l10, l11] [I s0] h = evL 110 2 [l0, I s0, l2, l3, l4, l5, l6, l7, l8, l9, l10, l11] [] h := ev_go c110_1 rfl
set_option maxRecDepth 20000 in
theorem c110_2 : cd 110 2 = some (2, .iconst 0, 1, 0, 0, 0) := rfl
theorem s110_2 {l0 l1 l2 l3 l4 l5 l6 l7 l8 l9 l10 l11 : AV} {h : AH} : evL 110 2 [l0, l1, l2, l3, l4, l5, l6, l7, l8, l9, l10, l11] [] h = evL 110 3 [l0, l1, l2, l3, l4, l5, l6, l7, l8, l9, l10, l11] [I 0] h := ev_go c110_2 rfl
set_option maxRecDepth 20000 in
theorem c110_3 : cd 110 3 = some (3, .istore_n 2, 1, 0, 0, 0) := rfl
theorem s110_3 {l0 l1 l2 l3 l4 l5 l6 l7 l8 l9 l10 l11 : AV} {s0 : Int} {h : AH} : evL 110 3 [l0, l1, l2, l3, l4, l5, l6, l7, l8, l9, l10, l11] [I s0] h = evL 110 4 [l0, l1, I s0, l3, l4, l5, l6, l7, l8, l9, l10, l11] [] h := ev_go c110_3 rfl
set_option maxRecDepth 20000 in
theorem c110_4 : cd 110 4 = some (4, .iconst 0, 1, 0, 0, 0) := rfl
theorem s110_4 {l0 l1 l2 l3 l4 l5 l6 l7 l8 l9 l10 l11 : AV} {h : AH} : evL 110 4 [l0, l1, l2, l3, l4, l5, l6, l7, l8, l9, l10, l11] [] h = evL 110 5 [l0, l1, l2, l3, l4, l5, l6, l7, l8, l9, l10, l11] [I 0] h := ev_go c110_4 rfl
set_option maxRecDepth 20000 in
theorem c110_5 : cd 110 5 = some (5, .istore_n 3, 1, 0, 0, 0) := rfl
theorem s110_5 {l0 l1 l2 l3 l4 l5 l6 l7 l8 l9 l10 l11 : AV} {s0 : Int} {h : AH} : evL 110 5 [l0, l1, l2, l3, l4, l5, l6, l7, l8, l9, l10, l11] [I s0] h = evL 110 6 [l0, l1, l2, I s0, l4, l5, l6, l7, l8, l9, l10, l11] [] h := ev_go c110_5 rfl
set_option maxRecDepth 20000 in
theorem c110_6 : cd 110 6 = some (6, .iconst 0, 1, 0, 0, 0) := rfl
theorem s110_6 {l0 l1 l2 l3 l4 l5 l6 l7 l8 l9 l10 l11 : AV} {h : AH} : evL 110 6 [l0, l1, l2, l3, l4, l5, l6, l7, l8, l9, l10, l11] [] h = evL 110 7 [l0, l1, l2, l3, l4, l5, l6, l7, l8, l9, l10, l11] [I 0] h := ev_go c110_6 rfl
set_option maxRecDepth 20000 in
theorem c110_7 : cd 110 7 = some (7, .istore 4, 2, 0, 0, 0) := rfl
theorem s110_7 {l0 l1 l2 l3 l4 l5 l6 l7 l8 l9 l10 l11 : AV} {s0 : Int} {h : AH} : evL 110 7 [l0, l1, l2, l3, l4, l5, l6, l7, l8, l9, l10, l11] [I s0] h = evL 110 9 [l0, l1, l2, l3, I s0, l5, l6, l7, l8, l9, l10, l11] [] h := ev_go c110_7 rfl
set_option maxRecDepth 20000 in
theorem c110_9 : cd 110 9 = some (9, .iconst 0, 1, 0, 0, 0) := rfl
theorem s110_9 {l0 l1 l2 l3 l4 l5 l6 l7 l8 l9 l10 l11 : AV} {h : AH} : evL 110 9 [l0, l1, l2, l3, l4, l5, l6, l7, l8, l9, l10, l11] [] h = evL 110 10 [l0, l1, l2, l3, l4, l5, l6, l7, l8, l9, l10, l11] [I 0] h := ev_go c110_9 rfl
set_option maxRecDepth 20000 in
theorem c110_10 : cd 110 10 = some (10, .istore 5, 2, 0, 0, 0) := rfl
theorem s110_10 {l0 l1 l2 l3 l4 l5 l6 l7 l8 l9 l10 l11 : AV} {s0 : Int} {h : AH} : evL 110 10 [l0, l1, l2, l3, l4, l5, l6, l7, l8, l9, l10, l11] [I s0] h = evL 110 12 [l0, l1, l2, l3, l4, I s0, l6, l7, l8, l9, l10, l11] [] h := ev_go c110_10 rfl
set_option maxRecDepth 20000 in
theorem c110_12 : cd 110 12 = some (12, .iconst 0, 1, 0, 0, 0) := rfl
theorem s110_12 {l0 l1 l2 l3 l4 l5 l6 l7 l8 l9 l10 l11 : AV} {h : AH} : evL 110 12 [l0, l1, l2, l3, l4, l5, l6, l7, l8, l9, l10, l11] [] h = evL 110 13 [l0, l1, l2, l3, l4, l5, l6, l7, l8, l9, l10, l11] [I 0] h := ev_go c110_12 rfl
set_option maxRecDepth 20000 in
theorem c110_13 : cd 110 13 = some (13, .istore 6, 2, 0, 0, 0) := rfl
theorem s110_13 {l0 l1 l2 l3 l4 l5 l6 l7 l8 l9 l10 l11 : AV} {s0 : Int} {h : AH} : evL 110 13 [l0, l1, l2, l3, l4, l5, l6, l7, l8, l9, l10, l11] [I s0] h = evL 110 15 [l0, l1, l2, l3, l4, l5, I s0, l7, l8, l9, l10, l11] [] h := ev_go c110_13 rfl
set_option maxRecDepth 20000 in
theorem c110_15 : cd 110 15 = some (15, .iconst 0, 1, 0, 0, 0) := rfl
theorem s110_15 {l0 l1 l2 l3 l4 l5 l6 l7 l8 l9 l10 l11 : AV} {h : AH} : evL 110 15 [l0, l1, l2, l3, l4, l5, l6, l7, l8, l9, l10, l11] [] h = evL 110 16 [l0, l1, l2, l3, l4, l5, l6, l7, l8, l9, l10, l11] [I 0] h := ev_go c110_15 rfl
set_option maxRecDepth 20000 in
theorem c110_16 : cd 110 16 = some (16, .istore 7, 2, 0, 0, 0) := rfl
theorem s110_16 {l0 l1 l2 l3 l4 l5 l6 l7 l8 l9 l10 l11 : AV} {s0 : Int} {h : AH} : evL 110 16 [l0, l1, l2, l3, l4, l5, l6, l7, l8, l9, l10, l11] [I s0] h = evL 110 18 [l0, l1, l2, l3, l4, l5, l6, I s0, l8, l9, l10, l11] [] h := ev_go c110_16 rfl
set_option maxRecDepth 20000 in
theorem c110_18 : cd 110 18 = some (18, .aload_n 0, 1, 0, 0, 0) := rfl
theorem s110_18 {l1 l2 l3 l4 l5 l6 l7 l8 l9 l10 l11 : AV} {l0 : Option Nat} {h : AH} : evL 110 18 [.inr (.inl l0), l1, l2, l3, l4, l5, l6, l7, l8, l9, l10, l11] [] h = evL 110 19 [.inr (.inl l0), l1, l2, l3, l4, l5, l6, l7, l8, l9, l10, l11] [.inr (.inl l0)] h := ev_go c110_18 rfl
set_option maxRecDepth 20000 in
theorem c110_19 : cd 110 19 = some (19, .iconst 0, 1, 0, 0, 0) := rfl
theorem s110_19 {l0 l1 l2 l3 l4 l5 l6 l7 l8 l9 l10 l11 s0 : AV} {h : AH} : evL 110 19 [l0, l1, l2, l3, l4, l5, l6, l7, l8, l9, l10, l11] [s0] h = evL 110 20 [l0, l1, l2, l3, l4, l5, l6, l7, l8, l9, l10, l11] [I 0, s0] h := ev_go c110_19 rfl
set_option maxRecDepth 20000 in
theorem c110_20 : cd 110 20 = some (20, .invokevirtual 13, 3, 100, 0, 258) := rfl
theorem s110_20 {l0 l1 l2 l3 l4 l5 l6 l7 l8 l9 l10 l11 : AV} {s0 : Int} {s1 : Nat} {M : Mem} {P : PMem} (hk : kd s1 = 7) : evL 110 20 [l0, l1, l2, l3, l4, l5, l6, l7, l8, l9, l10, l11] [I s0, Rf s1] (Hp M P) = cont (evM 100 [Rf s1, I s0] (Hp M P)) (fun r h => evL 110 23 [l0, l1, l2, l3, l4, l5, l6, l7, l8, l9, l10, l11] (rl r []) h) := e_callV (av' := [I s0]) (rest := []) (c := 7) c110_20 rfl rfl rfl rfl rfl rfl rfl hk rfl
set_option maxRecDepth 20000 in
theorem c110_23 : cd 110 23 = some (23, .istore 8, 2, 0, 0, 0) := rfl
theorem s110_23 {l0 l1 l2 l3 l4 l5 l6 l7 l8 l9 l10 l11 : AV} {s0 : Int} {h : AH} : evL 110 23 [l0, l1, l2, l3, l4, l5, l6, l7, l8, l9, l10, l11] [I s0] h = evL 110 25 [l0, l1, l2, l3, l4, l5, l6, l7, I s0, l9, l10, l11] [] h := ev_go c110_23 rfl
set_option maxRecDepth 20000 in
theorem c110_25 : cd 110 25 = some (25, .aload_n 0, 1, 0, 0, 0) := rfl
theorem s110_25 {l1 l2 l3 l4 l5 l6 l7 l8 l9 l10 l11 : AV} {l0 : Option Nat} {h : AH} : evL 110 25 [.inr (.inl l0), l1, l2, l3, l4, l5, l6, l7, l8, l9, l10, l11] [] h = evL 110 26 [.inr (.inl l0), l1, l2, l3, l4, l5, l6, l7, l8, l9, l10, l11] [.inr (.inl l0)] h := ev_go c110_25 rfl
set_option maxRecDepth 20000 in
theorem c110_26 : cd 110 26 = some (26, .iconst 4, 1, 0, 0, 0) := rfl
theorem s110_26 {l0 l1 l2 l3 l4 l5 l6 l7 l8 l9 l10 l11 s0 : AV} {h : AH} : evL 110 26 [l0, l1, l2, l3, l4, l5, l6, l7, l8, l9, l10, l11] [s0] h = evL 110 27 [l0, l1, l2, l3, l4, l5, l6, l7, l8, l9, l10, l11] [I 4, s0] h := ev_go c110_26 rfl
set_option maxRecDepth 20000 in
theorem c110_27 : cd 110 27 = some (27, .invokevirtual 13, 3, 100, 0, 258) := rfl
theorem s110_27 {l0 l1 l2 l3 l4 l5 l6 l7 l8 l9 l10 l11 : AV} {s0 : Int} {s1 : Nat} {M : Mem} {P : PMem} (hk : kd s1 = 7) : evL 110 27 [l0, l1, l2, l3, l4, l5, l6, l7, l8, l9, l10, l11] [I s0, Rf s1] (Hp M P) = cont (evM 100 [Rf s1, I s0] (Hp M P)) (fun r h => evL 110 30 [l0, l1, l2, l3, l4, l5, l6, l7, l8, l9, l10, l11] (rl r []) h) := e_callV (av' := [I s0]) (rest := []) (c := 7) c110_27 rfl rfl rfl rfl rfl rfl rfl hk rfl
set_option maxRecDepth 20000 in
theorem c110_30 : cd 110 30 = some (30, .iconst 2, 1, 0, 0, 0) := rfl
theorem s110_30 {l0 l1 l2 l3 l4 l5 l6 l7 l8 l9 l10 l11 s0 : AV} {h : AH} : evL 110 30 [l0, l1, l2, l3, l4, l5, l6, l7, l8, l9, l10, l11] [s0] h = evL 110 31 [l0, l1, l2, l3, l4, l5, l6, l7, l8, l9, l10, l11] [I 2, s0] h := ev_go c110_30 rfl
set_option maxRecDepth 20000 in
theorem c110_31 : cd 110 31 = some (31, .if_icmp .ne 7, 3, 0, 0, 0) := rfl
theorem s110_31 {l0 l1 l2 l3 l4 l5 l6 l7 l8 l9 l10 l11 : AV} {s0 s1 : Int} {h : AH} : evL 110 31 [l0, l1, l2, l3, l4, l5, l6, l7, l8, l9, l10, l11] [I s0, I s1] h = if s1 = s0 then evL 110 34 [l0, l1, l2, l3, l4, l5, l6, l7, l8, l9, l10, l11] [] h else evL 110 38 [l0, l1, l2, l3, l4, l5, l6, l7, l8, l9, l10, l11] [] h := e_icmp_ne c110_31 rfl rfl
set_option maxRecDepth 20000 in
theorem c110_34 : cd 110 34 = some (34, .iconst 1, 1, 0, 0, 0) := rfl
theorem s110_34 {l0 l1 l2 l3 l4 l5 l6 l7 l8 l9 l10 l11 : AV} {h : AH} : evL 110 34 [l0, l1, l2, l3, l4, l5, l6, l7, l8, l9, l10, l11] [] h = evL 110 35 [l0, l1, l2, l3, l4, l5, l6, l7, l8, l9, l10, l11] [I 1] h := ev_go c110_34 rfl
set_option maxRecDepth 20000 in
theorem c110_35 : cd 110 35 = some (35, .goto 4, 3, 0, 0, 0) := rfl
theorem s110_35 {l0 l1 l2 l3 l4 l5 l6 l7 l8 l9 l10 l11 s0 : AV} {h : AH} : evL 110 35 [l0, l1, l2, l3, l4, l5, l6, l7, l8, l9, l10, l11] [s0] h = evL 110 39 [l0, l1, l2, l3, l4, l5, l6, l7, l8, l9, l10, l11] [s0] h := ev_go c110_35 rfl
set_option maxRecDepth 20000 in
theorem c110_38 : cd 110 38 = some (38, .iconst 0, 1, 0, 0, 0) := rfl
theorem s110_38 {l0 l1 l2 l3 l4 l5 l6 l7 l8 l9 l10 l11 : AV} {h : AH} : evL 110 38 [l0, l1, l2, l3, l4, l5, l6, l7, l8, l9, l10, l11] [] h = evL 110 39 [l0, l1, l2, l3, l4, l5, l6, l7, l8, l9, l10, l11] [I 0] h := ev_go c110_38 rfl
set_option maxRecDepth 20000 in
theorem c110_39 : cd 110 39 = some (39, .istore 9, 2, 0, 0, 0) := rfl
theorem s110_39 {l0 l1 l2 l3 l4 l5 l6 l7 l8 l9 l10 l11 : AV} {s0 : Int} {h : AH} : evL 110 39 [l0, l1, l2, l3, l4, l5, l6, l7, l8, l9, l10, l11] [I s0] h = evL 110 41 [l0, l1, l2, l3, l4, l5, l6, l7, l8, I s0, l10, l11] [] h := ev_go c110_39 rfl
set_option maxRecDepth 20000 in
theorem c110_41 : cd 110 41 = some (41, .iload 8, 2, 0, 0, 0) := rfl
theorem s110_41 {l0 l1 l2 l3 l4 l5 l6 l7 l9 l10 l11 : AV} {l8 : Int} {h : AH} : evL 110 41 [l0, l1, l2, l3, l4, l5, l6, l7, I l8, l9, l10, l11] [] h = evL 110 43 [l0, l1, l2, l3, l4, l5, l6, l7, I l8, l9, l10, l11] [I l8] h := ev_go c110_41 rfl
set_option maxRecDepth 20000 in
theorem c110_43 : cd 110 43 = some (43, .iconst 2, 1, 0, 0, 0) := rfl
theorem s110_43 {l0 l1 l2 l3 l4 l5 l6 l7 l8 l9 l10 l11 s0 : AV} {h : AH} : evL 110 43 [l0, l1, l2, l3, l4, l5, l6, l7, l8, l9, l10, l11] [s0] h = evL 110 44 [l0, l1, l2, l3, l4, l5, l6, l7, l8, l9, l10, l11] [I 2, s0] h := ev_go c110_43 rfl
set_option maxRecDepth 20000 in
theorem c110_44 : cd 110 44 = some (44, .if_icmp .lt 127, 3, 0, 0, 0) := rfl
theorem s110_44 {l0 l1 l2 l3 l4 l5 l6 l7 l8 l9 l10 l11 : AV} {s0 s1 : Int} {h : AH} : evL 110 44 [l0, l1, l2, l3, l4, l5, l6, l7, l8, l9, l10, l11] [I s0, I s1] h = if s1 < s0 then evL 110 171 [l0, l1, l2, l3, l4, l5, l6, l7, l8, l9, l10, l11] [] h else evL 110 47 [l0, l1, l2, l3, l4, l5, l6, l7, l8, l9, l10, l11] [] h := e_icmp_lt c110_44 rfl rfl
set_option maxRecDepth 20000 in
theorem c110_47 : cd 110 47 = some (47, .iload 8, 2, 0, 0, 0) := rfl
theorem s110_47 {l0 l1 l2 l3 l4 l5 l6 l7 l9 l10 l11 : AV} {l8 : Int} {h : AH} : evL 110 47 [l0, l1, l2, l3, l4, l5, l6, l7, I l8, l9, l10, l11] [] h = evL 110 49 [l0, l1, l2, l3, l4, l5, l6, l7, I l8, l9, l10, l11] [I l8] h := ev_go c110_47 rfl
set_option maxRecDepth 20000 in
theorem c110_49 : cd 110 49 = some (49, .iconst 4, 1, 0, 0, 0) := rfl
theorem s110_49 {l0 l1 l2 l3 l4 l5 l6 l7 l8 l9 l10 l11 s0 : AV} {h : AH} : evL 110 49 [l0, l1, l2, l3, l4, l5, l6, l7, l8, l9, l10, l11] [s0] h = evL 110 50 [l0, l1, l2, l3, l4, l5, l6, l7, l8, l9, l10, l11] [I 4, s0] h := ev_go c110_49 rfl
set_option maxRecDepth 20000 in
theorem c110_50 : cd 110 50 = some (50, .if_icmp .gt 121, 3, 0, 0, 0) := rfl
theorem s110_50 {l0 l1 l2 l3 l4 l5 l6 l7 l8 l9 l10 l11 : AV} {s0 s1 : Int} {h : AH} : evL 110 50 [l0, l1, l2, l3, l4, l5, l6, l7, l8, l9, l10, l11] [I s0, I s1] h = if s0 < s1 then evL 110 171 [l0, l1, l2, l3, l4, l5, l6, l7, l8, l9, l10, l11] [] h else evL 110 53 [l0, l1, l2, l3, l4, l5, l6, l7, l8, l9, l10, l11] [] h := e_icmp_gt c110_50 rfl rfl
set_option maxRecDepth 20000 in
theorem c110_53 : cd 110 53 = some (53, .aload_n 0, 1, 0, 0, 0) := rfl
theorem s110_53 {l1 l2 l3 l4 l5 l6 l7 l8 l9 l10 l11 : AV} {l0 : Option Nat} {h : AH} : evL 110 53 [.inr (.inl l0), l1, l2, l3, l4, l5, l6, l7, l8, l9, l10, l11] [] h = evL 110 54 [.inr (.inl l0), l1, l2, l3, l4, l5, l6, l7, l8, l9, l10, l11] [.inr (.inl l0)] h := ev_go c110_53 rfl
set_option maxRecDepth 20000 in
theorem c110_54 : cd 110 54 = some (54, .iconst 2, 1, 0, 0, 0) := rfl
theorem s110_54 {l0 l1 l2 l3 l4 l5 l6 l7 l8 l9 l10 l11 s0 : AV} {h : AH} : evL 110 54 [l0, l1, l2, l3, l4, l5, l6, l7, l8, l9, l10, l11] [s0] h = evL 110 55 [l0, l1, l2, l3, l4, l5, l6, l7, l8, l9, l10, l11] [I 2, s0] h := ev_go c110_54 rfl
set_option maxRecDepth 20000 in
theorem c110_55 : cd 110 55 = some (55, .invokevirtual 13, 3, 100, 0, 258) := rfl
theorem s110_55 {l0 l1 l2 l3 l4 l5 l6 l7 l8 l9 l10 l11 : AV} {s0 : Int} {s1 : Nat} {M : Mem} {P : PMem} (hk : kd s1 = 7) : evL 110 55 [l0, l1, l2, l3, l4, l5, l6, l7, l8, l9, l10, l11] [I s0, Rf s1] (Hp M P) = cont (evM 100 [Rf s1, I s0] (Hp M P)) (fun r h => evL 110 58 [l0, l1, l2, l3, l4, l5, l6, l7, l8, l9, l10, l11] (rl r []) h) := e_callV (av' := [I s0]) (rest := []) (c := 7) c110_55 rfl rfl rfl rfl rfl rfl rfl hk rfl
set_option maxRecDepth 20000 in
theorem c110_58 : cd 110 58 = some (58, .iconst 3, 1, 0, 0, 0) := rfl
theorem s110_58 {l0 l1 l2 l3 l4 l5 l6 l7 l8 l9 l10 l11 s0 : AV} {h : AH} : evL 110 58 [l0, l1, l2, l3, l4, l5, l6, l7, l8, l9, l10, l11] [s0] h = evL 110 59 [l0, l1, l2, l3, l4, l5, l6, l7, l8, l9, l10, l11] [I 3, s0] h := ev_go c110_58 rfl
set_option maxRecDepth 20000 in
theorem c110_59 : cd 110 59 = some (59, .if_icmp .gt 112, 3, 0, 0, 0) := rfl
theorem s110_59 {l0 l1 l2 l3 l4 l5 l6 l7 l8 l9 l10 l11 : AV} {s0 s1 : Int} {h : AH} : evL 110 59 [l0, l1, l2, l3, l4, l5, l6, l7, l8, l9, l10, l11] [I s0, I s1] h = if s0 < s1 then evL 110 171 [l0, l1, l2, l3, l4, l5, l6, l7, l8, l9, l10, l11] [] h else evL 110 62 [l0, l1, l2, l3, l4, l5, l6, l7, l8, l9, l10, l11] [] h := e_icmp_gt c110_59 rfl rfl
set_option maxRecDepth 20000 in
theorem c110_62 : cd 110 62 = some (62, .iload 9, 2, 0, 0, 0) := rfl
theorem s110_62 {l0 l1 l2 l3 l4 l5 l6 l7 l8 l10 l11 : AV} {l9 : Int} {h : AH} : evL 110 62 [l0, l1, l2, l3, l4, l5, l6, l7, l8, I l9, l10, l11] [] h = evL 110 64 [l0, l1, l2, l3, l4, l5, l6, l7, l8, I l9, l10, l11] [I l9] h := ev_go c110_62 rfl
set_option maxRecDepth 20000 in
theorem c110_64 : cd 110 64 = some (64, .aload_n 0, 1, 0, 0, 0) := rfl
theorem s110_64 {l1 l2 l3 l4 l5 l6 l7 l8 l9 l10 l11 s0 : AV} {l0 : Option Nat} {h : AH} : evL 110 64 [.inr (.inl l0), l1, l2, l3, l4, l5, l6, l7, l8, l9, l10, l11] [s0] h = evL 110 65 [.inr (.inl l0), l1, l2, l3, l4, l5, l6, l7, l8, l9, l10, l11] [.inr (.inl l0), s0] h := ev_go c110_64 rfl
set_option maxRecDepth 20000 in
theorem c110_65 : cd 110 65 = some (65, .iconst 2, 1, 0, 0, 0) := rfl
theorem s110_65 {l0 l1 l2 l3 l4 l5 l6 l7 l8 l9 l10 l11 s0 s1 : AV} {h : AH} : evL 110 65 [l0, l1, l2, l3, l4, l5, l6, l7, l8, l9, l10, l11] [s0, s1] h = evL 110 66 [l0, l1, l2, l3, l4, l5, l6, l7, l8, l9, l10, l11] [I 2, s0, s1] h := ev_go c110_65 rfl
set_option maxRecDepth 20000 in
theorem c110_66 : cd 110 66 = some (66, .invokevirtual 13, 3, 100, 0, 258) := rfl
theorem s110_66 {l0 l1 l2 l3 l4 l5 l6 l7 l8 l9 l10 l11 s2 : AV} {s0 : Int} {s1 : Nat} {M : Mem} {P : PMem} (hk : kd s1 = 7) : evL 110 66 [l0, l1, l2, l3, l4, l5, l6, l7, l8, l9, l10, l11] [I s0, Rf s1, s2] (Hp M P) = cont (evM 100 [Rf s1, I s0] (Hp M P)) (fun r h => evL 110 69 [l0, l1, l2, l3, l4, l5, l6, l7, l8, l9, l10, l11] (rl r [s2]) h) := e_callV (av' := [I s0]) (rest := [s2]) (c := 7) c110_66 rfl rfl rfl rfl rfl rfl rfl hk rfl
set_option maxRecDepth 20000 in
theorem c110_69 : cd 110 69 = some (69, .iconst 3, 1, 0, 0, 0) := rfl
theorem s110_69 {l0 l1 l2 l3 l4 l5 l6 l7 l8 l9 l10 l11 s0 s1 : AV} {h : AH} : evL 110 69 [l0, l1, l2, l3, l4, l5, l6, l7, l8, l9, l10, l11] [s0, s1] h = evL 110 70 [l0, l1, l2, l3, l4, l5, l6, l7, l8, l9, l10, l11] [I 3, s0, s1] h := ev_go c110_69 rfl
set_option maxRecDepth 20000 in
theorem c110_70 : cd 110 70 = some (70, .if_icmp .ne 7, 3, 0, 0, 0) := rfl
theorem s110_70 {l0 l1 l2 l3 l4 l5 l6 l7 l8 l9 l10 l11 s2 : AV} {s0 s1 : Int} {h : AH} : evL 110 70 [l0, l1, l2, l3, l4, l5, l6, l7, l8, l9, l10, l11] [I s0, I s1, s2] h = if s1 = s0 then evL 110 73 [l0, l1, l2, l3, l4, l5, l6, l7, l8, l9, l10, l11] [s2] h else evL 110 77 [l0, l1, l2, l3, l4, l5, l6, l7, l8, l9, l10, l11] [s2] h := e_icmp_ne c110_70 rfl rfl
set_option maxRecDepth 20000 in
theorem c110_73 : cd 110 73 = some (73, .iconst 1, 1, 0, 0, 0) := rfl
theorem s110_73 {l0 l1 l2 l3 l4 l5 l6 l7 l8 l9 l10 l11 s0 : AV} {h : AH} : evL 110 73 [l0, l1, l2, l3, l4, l5, l6, l7, l8, l9, l10, l11] [s0] h = evL 110 74 [l0, l1, l2, l3, l4, l5, l6, l7, l8, l9, l10, l11] [I 1, s0] h := ev_go c110_73 rfl
set_option maxRecDepth 20000 in
theorem c110_74 : cd 110 74 = some (74, .goto 4, 3, 0, 0, 0) := rfl
theorem s110_74 {l0 l1 l2 l3 l4 l5 l6 l7 l8 l9 l10 l11 s0 s1 : AV} {h : AH} : evL 110 74 [l0, l1, l2, l3, l4, l5, l6, l7, l8, l9, l10, l11] [s0, s1] h = evL 110 78 [l0, l1, l2, l3, l4, l5, l6, l7, l8, l9, l10, l11] [s0, s1] h := ev_go c110_74 rfl
set_option maxRecDepth 20000 in
theorem c110_77 : cd 110 77 = some (77, .iconst 0, 1, 0, 0, 0) := rfl
theorem s110_77 {l0 l1 l2 l3 l4 l5 l6 l7 l8 l9 l10 l11 s0 : AV} {h : AH} : evL 110 77 [l0, l1, l2, l3, l4, l5, l6, l7, l8, l9, l10, l11] [s0] h = evL 110 78 [l0, l1, l2, l3, l4, l5, l6, l7, l8, l9, l10, l11] [I 0, s0] h := ev_go c110_77 rfl
set_option maxRecDepth 20000 in
theorem c110_78 : cd 110 78 = some (78, .if_icmp .ne 93, 3, 0, 0, 0) := rfl
theorem s110_78 {l0 l1 l2 l3 l4 l5 l6 l7 l8 l9 l10 l11 : AV} {s0 s1 : Int} {h : AH} : evL 110 78 [l0, l1, l2, l3, l4, l5, l6, l7, l8, l9, l10, l11] [I s0, I s1] h = if s1 = s0 then evL 110 81 [l0, l1, l2, l3, l4, l5, l6, l7, l8, l9, l10, l11] [] h else evL 110 171 [l0, l1, l2, l3, l4, l5, l6, l7, l8, l9, l10, l11] [] h := e_icmp_ne c110_78 rfl rfl
set_option maxRecDepth 20000 in
theorem c110_81 : cd 110 81 = some (81, .aload_n 0, 1, 0, 0, 0) := rfl
theorem s110_81 {l1 l2 l3 l4 l5 l6 l7 l8 l9 l10 l11 : AV} {l0 : Option Nat} {h : AH} : evL 110 81 [.inr (.inl l0), l1, l2, l3, l4, l5, l6, l7, l8, l9, l10, l11] [] h = evL 110 82 [.inr (.inl l0), l1, l2, l3, l4, l5, l6, l7, l8, l9, l10, l11] [.inr (.inl l0)] h := ev_go c110_81 rfl
set_option maxRecDepth 20000 in
theorem c110_82 : cd 110 82 = some (82, .iconst 5, 1, 0, 0, 0) := rfl
theorem s110_82 {l0 l1 l2 l3 l4 l5 l6 l7 l8 l9 l10 l11 s0 : AV} {h : AH} : evL 110 82 [l0, l1, l2, l3, l4, l5, l6, l7, l8, l9, l10, l11] [s0] h = evL 110 83 [l0, l1, l2, l3, l4, l5, l6, l7, l8, l9, l10, l11] [I 5, s0] h := ev_go c110_82 rfl
set_option maxRecDepth 20000 in
theorem c110_83 : cd 110 83 = some (83, .invokevirtual 13, 3, 100, 0, 258) := rfl
theorem s110_83 {l0 l1 l2 l3 l4 l5 l6 l7 l8 l9 l10 l11 : AV} {s0 : Int} {s1 : Nat} {M : Mem} {P : PMem} (hk : kd s1 = 7) : evL 110 83 [l0, l1, l2, l3, l4, l5, l6, l7, l8, l9, l10, l11] [I s0, Rf s1] (Hp M P) = cont (evM 100 [Rf s1, I s0] (Hp M P)) (fun r h => evL 110 86 [l0, l1, l2, l3, l4, l5, l6, l7, l8, l9, l10, l11] (rl r []) h) := e_callV (av' := [I s0]) (rest := []) (c := 7) c110_83 rfl rfl rfl rfl rfl rfl rfl hk rfl
set_option maxRecDepth 20000 in
theorem c110_86 : cd 110 86 = some (86, .bipush 25, 2, 0, 0, 0) := rfl
theorem s110_86 {l0 l1 l2 l3 l4 l5 l6 l7 l8 l9 l10 l11 s0 : AV} {h : AH} : evL 110 86 [l0, l1, l2, l3, l4, l5, l6, l7, l8, l9, l10, l11] [s0] h = evL 110 88 [l0, l1, l2, l3, l4, l5, l6, l7, l8, l9, l10, l11] [I 25, s0] h := ev_go c110_86 rfl
set_option maxRecDepth 20000 in
theorem c110_88 : cd 110 88 = some (88, .if_icmp .gt 83, 3, 0, 0, 0) := rfl
theorem s110_88 {l0 l1 l2 l3 l4 l5 l6 l7 l8 l9 l10 l11 : AV} {s0 s1 : Int} {h : AH} : evL 110 88 [l0, l1, l2, l3, l4, l5, l6, l7, l8, l9, l10, l11] [I s0, I s1] h = if s0 < s1 then evL 110 171 [l0, l1, l2, l3, l4, l5, l6, l7, l8, l9, l10, l11] [] h else evL 110 91 [l0, l1, l2, l3, l4, l5, l6, l7, l8, l9, l10, l11] [] h := e_icmp_gt c110_88 rfl rfl
set_option maxRecDepth 20000 in
theorem c110_91 : cd 110 91 = some (91, .aload_n 0, 1, 0, 0, 0) := rfl
theorem s110_91 {l1 l2 l3 l4 l5 l6 l7 l8 l9 l10 l11 : AV} {l0 : Option Nat} {h : AH} : evL 110 91 [.inr (.inl l0), l1, l2, l3, l4, l5, l6, l7, l8, l9, l10, l11] [] h = evL 110 92 [.inr (.inl l0), l1, l2, l3, l4, l5, l6, l7, l8, l9, l10, l11] [.inr (.inl l0)] h := ev_go c110_91 rfl
set_option maxRecDepth 20000 in
theorem c110_92 : cd 110 92 = some (92, .iconst 5, 1, 0, 0, 0) := rfl
theorem s110_92 {l0 l1 l2 l3 l4 l5 l6 l7 l8 l9 l10 l11 s0 : AV} {h : AH} : evL 110 92 [l0, l1, l2, l3, l4, l5, l6, l7, l8, l9, l10, l11] [s0] h = evL 110 93 [l0, l1, l2, l3, l4, l5, l6, l7, l8, l9, l10, l11] [I 5, s0] h := ev_go c110_92 rfl
set_option maxRecDepth 20000 in
theorem c110_93 : cd 110 93 = some (93, .invokevirtual 13, 3, 100, 0, 258) := rfl
theorem s110_93 {l0 l1 l2 l3 l4 l5 l6 l7 l8 l9 l10 l11 : AV} {s0 : Int} {s1 : Nat} {M : Mem} {P : PMem} (hk : kd s1 = 7) : evL 110 93 [l0, l1, l2, l3, l4, l5, l6, l7, l8, l9, l10, l11] [I s0, Rf s1] (Hp M P) = cont (evM 100 [Rf s1, I s0] (Hp M P)) (fun r h => evL 110 96 [l0, l1, l2, l3, l4, l5, l6, l7, l8, l9, l10, l11] (rl r []) h) := e_callV (av' := [I s0]) (rest := []) (c := 7) c110_93 rfl rfl rfl rfl rfl rfl rfl hk rfl
set_option maxRecDepth 20000 in
theorem c110_96 : cd 110 96 = some (96, .ifCond .lt 75, 3, 0, 0, 0) := rfl
theorem s110_96 {l0 l1 l2 l3 l4 l5 l6 l7 l8 l9 l10 l11 : AV} {s0 : Int} {h : AH} : evL 110 96 [l0, l1, l2, l3, l4, l5, l6, l7, l8, l9, l10, l11] [I s0] h = if s0 < 0 then evL 110 171 [l0, l1, l2, l3, l4, l5, l6, l7, l8, l9, l10, l11] [] h else evL 110 99 [l0, l1, l2, l3, l4, l5, l6, l7, l8, l9, l10, l11] [] h := e_if_lt c110_96 rfl rfl
set_option maxRecDepth 20000 in
theorem c110_99 : cd 110 99 = some (99, .iload 9, 2, 0, 0, 0) := rfl
theorem s110_99 {l0 l1 l2 l3 l4 l5 l6 l7 l8 l10 l11 : AV} {l9 : Int} {h : AH} : evL 110 99 [l0, l1, l2, l3, l4, l5, l6, l7, l8, I l9, l10, l11] [] h = evL 110 101 [l0, l1, l2, l3, l4, l5, l6, l7, l8, I l9, l10, l11] [I l9] h := ev_go c110_99 rfl
set_option maxRecDepth 20000 in
theorem c110_101 : cd 110 101 = some (101, .ifCond .eq 16, 3, 0, 0, 0) := rfl
theorem s110_101 {l0 l1 l2 l3 l4 l5 l6 l7 l8 l9 l10 l11 : AV} {s0 : Int} {h : AH} : evL 110 101 [l0, l1, l2, l3, l4, l5, l6, l7, l8, l9, l10, l11] [I s0] h = if s0 = 0 then evL 110 117 [l0, l1, l2, l3, l4, l5, l6, l7, l8, l9, l10, l11] [] h else evL 110 104 [l0, l1, l2, l3, l4, l5, l6, l7, l8, l9, l10, l11] [] h := e_if_eq c110_101 rfl rfl
set_option maxRecDepth 20000 in
theorem c110_104 : cd 110 104 = some (104, .aload_n 0, 1, 0, 0, 0) := rfl
theorem s110_104 {l1 l2 l3 l4 l5 l6 l7 l8 l9 l10 l11 : AV} {l0 : Option Nat} {h : AH} : evL 110 104 [.inr (.inl l0), l1, l2, l3, l4, l5, l6, l7, l8, l9, l10, l11] [] h = evL 110 105 [.inr (.inl l0), l1, l2, l3, l4, l5, l6, l7, l8, l9, l10, l11] [.inr (.inl l0)] h := ev_go c110_104 rfl
set_option maxRecDepth 20000 in
theorem c110_105 : cd 110 105 = some (105, .iconst 3, 1, 0, 0, 0) := rfl
theorem s110_105 {l0 l1 l2 l3 l4 l5 l6 l7 l8 l9 l10 l11 s0 : AV} {h : AH} : evL 110 105 [l0, l1, l2, l3, l4, l5, l6, l7, l8, l9, l10, l11] [s0] h = evL 110 106 [l0, l1, l2, l3, l4, l5, l6, l7, l8, l9, l10, l11] [I 3, s0] h := ev_go c110_105 rfl
set_option maxRecDepth 20000 in
theorem c110_106 : cd 110 106 = some (106, .invokevirtual 13, 3, 100, 0, 258) := rfl
theorem s110_106 {l0 l1 l2 l3 l4 l5 l6 l7 l8 l9 l10 l11 : AV} {s0 : Int} {s1 : Nat} {M : Mem} {P : PMem} (hk : kd s1 = 7) : evL 110 106 [l0, l1, l2, l3, l4, l5, l6, l7, l8, l9, l10, l11] [I s0, Rf s1] (Hp M P) = cont (evM 100 [Rf s1, I s0] (Hp M P)) (fun r h => evL 110 109 [l0, l1, l2, l3, l4, l5, l6, l7, l8, l9, l10, l11] (rl r []) h) := e_callV (av' := [I s0]) (rest := []) (c := 7) c110_106 rfl rfl rfl rfl rfl rfl rfl hk rfl
set_option maxRecDepth 20000 in
theorem c110_109 : cd 110 109 = some (109, .bipush (-4), 2, 0, 0, 0) := rfl
theorem s110_109 {l0 l1 l2 l3 l4 l5 l6 l7 l8 l9 l10 l11 s0 : AV} {h : AH} : evL 110 109 [l0, l1, l2, l3, l4, l5, l6, l7, l8, l9, l10, l11] [s0] h = evL 110 111 [l0, l1, l2, l3, l4, l5, l6, l7, l8, l9, l10, l11] [I (-4), s0] h := ev_go c110_109 rfl
set_option maxRecDepth 20000 in
theorem c110_111 : cd 110 111 = some (111, .if_icmp .ne 60, 3, 0, 0, 0) := rfl
theorem s110_111 {l0 l1 l2 l3 l4 l5 l6 l7 l8 l9 l10 l11 : AV} {s0 s1 : Int} {h : AH} : evL 110 111 [l0, l1, l2, l3, l4, l5, l6, l7, l8, l9, l10, l11] [I s0, I s1] h = if s1 = s0 then evL 110 114 [l0, l1, l2, l3, l4, l5, l6, l7, l8, l9, l10, l11] [] h else evL 110 171 [l0, l1, l2, l3, l4, l5, l6, l7, l8, l9, l10, l11] [] h := e_icmp_ne c110_111 rfl rfl
set_option maxRecDepth 20000 in
theorem c110_114 : cd 110 114 = some (114, .goto 21, 3, 0, 0, 0) := rfl
theorem s110_114 {l0 l1 l2 l3 l4 l5 l6 l7 l8 l9 l10 l11 : AV} {h : AH} : evL 110 114 [l0, l1, l2, l3, l4, l5, l6, l7, l8, l9, l10, l11] [] h = evL 110 135 [l0, l1, l2, l3, l4, l5, l6, l7, l8, l9, l10, l11] [] h := ev_go c110_114 rfl
set_option maxRecDepth 20000 in
theorem c110_117 : cd 110 117 = some (117, .aload_n 0, 1, 0, 0, 0) := rfl
theorem s110_117 {l1 l2 l3 l4 l5 l6 l7 l8 l9 l10 l11 : AV} {l0 : Option Nat} {h : AH} : evL 110 117 [.inr (.inl l0), l1, l2, l3, l4, l5, l6, l7, l8, l9, l10, l11] [] h = evL 110 118 [.inr (.inl l0), l1, l2, l3, l4, l5, l6, l7, l8, l9, l10, l11] [.inr (.inl l0)] h := ev_go c110_117 rfl
set_option maxRecDepth 20000 in
theorem c110_118 : cd 110 118 = some (118, .iconst 3, 1, 0, 0, 0) := rfl
theorem s110_118 {l0 l1 l2 l3 l4 l5 l6 l7 l8 l9 l10 l11 s0 : AV} {h : AH} : evL 110 118 [l0, l1, l2, l3, l4, l5, l6, l7, l8, l9, l10, l11] [s0] h = evL 110 119 [l0, l1, l2, l3, l4, l5, l6, l7, l8, l9, l10, l11] [I 3, s0] h := ev_go c110_118 rfl
set_option maxRecDepth 20000 in
theorem c110_119 : cd 110 119 = some (119, .invokevirtual 13, 3, 100, 0, 258) := rfl
theorem s110_119 {l0 l1 l2 l3 l4 l5 l6 l7 l8 l9 l10 l11 : AV} {s0 : Int} {s1 : Nat} {M : Mem} {P : PMem} (hk : kd s1 = 7) : evL 110 119 [l0, l1, l2, l3, l4, l5, l6, l7, l8, l9, l10, l11] [I s0, Rf s1] (Hp M P) = cont (evM 100 [Rf s1, I s0] (Hp M P)) (fun r h => evL 110 122 [l0, l1, l2, l3, l4, l5, l6, l7, l8, l9, l10, l11] (rl r []) h) := e_callV (av' := [I s0]) (rest := []) (c := 7) c110_119 rfl rfl rfl rfl rfl rfl rfl hk rfl
set_option maxRecDepth 20000 in
theorem c110_122 : cd 110 122 = some (122, .ifCond .lt 49, 3, 0, 0, 0) := rfl
theorem s110_122 {l0 l1 l2 l3 l4 l5 l6 l7 l8 l9 l10 l11 : AV} {s0 : Int} {h : AH} : evL 110 122 [l0, l1, l2, l3, l4, l5, l6, l7, l8, l9, l10, l11] [I s0] h = if s0 < 0 then evL 110 171 [l0, l1, l2, l3, l4, l5, l6, l7, l8, l9, l10, l11] [] h else evL 110 125 [l0, l1, l2, l3, l4, l5, l6, l7, l8, l9, l10, l11] [] h := e_if_lt c110_122 rfl rfl
set_option maxRecDepth 20000 in
theorem c110_125 : cd 110 125 = some (125, .aload_n 0, 1, 0, 0, 0) := rfl
theorem s110_125 {l1 l2 l3 l4 l5 l6 l7 l8 l9 l10 l11 : AV} {l0 : Option Nat} {h : AH} : evL 110 125 [.inr (.inl l0), l1, l2, l3, l4, l5, l6, l7, l8, l9, l10, l11] [] h = evL 110 126 [.inr (.inl l0), l1, l2, l3, l4, l5, l6, l7, l8, l9, l10, l11] [.inr (.inl l0)] h := ev_go c110_125 rfl
set_option maxRecDepth 20000 in
theorem c110_126 : cd 110 126 = some (126, .iconst 3, 1, 0, 0, 0) := rfl
theorem s110_126 {l0 l1 l2 l3 l4 l5 l6 l7 l8 l9 l10 l11 s0 : AV} {h : AH} : evL 110 126 [l0, l1, l2, l3, l4, l5, l6, l7, l8, l9, l10, l11] [s0] h = evL 110 127 [l0, l1, l2, l3, l4, l5, l6, l7, l8, l9, l10, l11] [I 3, s0] h := ev_go c110_126 rfl
set_option maxRecDepth 20000 in
theorem c110_127 : cd 110 127 = some (127, .invokevirtual 13, 3, 100, 0, 258) := rfl
theorem s110_127 {l0 l1 l2 l3 l4 l5 l6 l7 l8 l9 l10 l11 : AV} {s0 : Int} {s1 : Nat} {M : Mem} {P : PMem} (hk : kd s1 = 7) : evL 110 127 [l0, l1, l2, l3, l4, l5, l6, l7, l8, l9, l10, l11] [I s0, Rf s1] (Hp M P) = cont (evM 100 [Rf s1, I s0] (Hp M P)) (fun r h => evL 110 130 [l0, l1, l2, l3, l4, l5, l6, l7, l8, l9, l10, l11] (rl r []) h) := e_callV (av' := [I s0]) (rest := []) (c := 7) c110_127 rfl rfl rfl rfl rfl rfl rfl hk rfl
set_option maxRecDepth 20000 in
theorem c110_130 : cd 110 130 = some (130, .iload 8, 2, 0, 0, 0) := rfl
theorem s110_130 {l0 l1 l2 l3 l4 l5 l6 l7 l9 l10 l11 s0 : AV} {l8 : Int} {h : AH} : evL 110 130 [l0, l1, l2, l3, l4, l5, l6, l7, I l8, l9, l10, l11] [s0] h = evL 110 132 [l0, l1, l2, l3, l4, l5, l6, l7, I l8, l9, l10, l11] [I l8, s0] h := ev_go c110_130 rfl
set_option maxRecDepth 20000 in
theorem c110_132 : cd 110 132 = some (132, .if_icmp .ge 39, 3, 0, 0, 0) := rfl
theorem s110_132 {l0 l1 l2 l3 l4 l5 l6 l7 l8 l9 l10 l11 : AV} {s0 s1 : Int} {h : AH} : evL 110 132 [l0, l1, l2, l3, l4, l5, l6, l7, l8, l9, l10, l11] [I s0, I s1] h = if s0 ≤ s1 then evL 110 171 [l0, l1, l2, l3, l4, l5, l6, l7, l8, l9, l10, l11] [] h else evL 110 135 [l0, l1, l2, l3, l4, l5, l6, l7, l8, l9, l10, l11] [] h := e_icmp_ge c110_132 rfl rfl
set_option maxRecDepth 20000 in
theorem c110_135 : cd 110 135 = some (135, .aload_n 0, 1, 0, 0, 0) := rfl
theorem s110_135 {l1 l2 l3 l4 l5 l6 l7 l8 l9 l10 l11 : AV} {l0 : Option Nat} {h : AH} : evL 110 135 [.inr (.inl l0), l1, l2, l3, l4, l5, l6, l7, l8, l9, l10, l11] [] h = evL 110 136 [.inr (.inl l0), l1, l2, l3, l4, l5, l6, l7, l8, l9, l10, l11] [.inr (.inl l0)] h := ev_go c110_135 rfl
set_option maxRecDepth 20000 in
theorem c110_136 : cd 110 136 = some (136, .bipush 11, 2, 0, 0, 0) := rfl
theorem s110_136 {l0 l1 l2 l3 l4 l5 l6 l7 l8 l9 l10 l11 s0 : AV} {h : AH} : evL 110 136 [l0, l1, l2, l3, l4, l5, l6, l7, l8, l9, l10, l11] [s0] h = evL 110 138 [l0, l1, l2, l3, l4, l5, l6, l7, l8, l9, l10, l11] [I 11, s0] h := ev_go c110_136 rfl
set_option maxRecDepth 20000 in
theorem c110_138 : cd 110 138 = some (138, .invokevirtual 13, 3, 100, 0, 258) := rfl
theorem s110_138 {l0 l1 l2 l3 l4 l5 l6 l7 l8 l9 l10 l11 : AV} {s0 : Int} {s1 : Nat} {M : Mem} {P : PMem} (hk : kd s1 = 7) : evL 110 138 [l0, l1, l2, l3, l4, l5, l6, l7, l8, l9, l10, l11] [I s0, Rf s1] (Hp M P) = cont (evM 100 [Rf s1, I s0] (Hp M P)) (fun r h => evL 110 141 [l0, l1, l2, l3, l4, l5, l6, l7, l8, l9, l10, l11] (rl r []) h) := e_callV (av' := [I s0]) (rest := []) (c := 7) c110_138 rfl rfl rfl rfl rfl rfl rfl hk rfl
set_option maxRecDepth 20000 in
theorem c110_141 : cd 110 141 = some (141, .bipush 6, 2, 0, 0, 0) := rfl
theorem s110_141 {l0 l1 l2 l3 l4 l5 l6 l7 l8 l9 l10 l11 s0 : AV} {h : AH} : evL 110 141 [l0, l1, l2, l3, l4, l5, l6, l7, l8, l9, l10, l11] [s0] h = evL 110 143 [l0, l1, l2, l3, l4, l5, l6, l7, l8, l9, l10, l11] [I 6, s0] h := ev_go c110_141 rfl
set_option maxRecDepth 20000 in
theorem c110_143 : cd 110 143 = some (143, .if_icmp .gt 28, 3, 0, 0, 0) := rfl
theorem s110_143 {l0 l1 l2 l3 l4 l5 l6 l7 l8 l9 l10 l11 : AV} {s0 s1 : Int} {h : AH} : evL 110 143 [l0, l1, l2, l3, l4, l5, l6, l7, l8, l9, l10, l11] [I s0, I s1] h = if s0 < s1 then evL 110 171 [l0, l1, l2, l3, l4, l5, l6, l7, l8, l9, l10, l11] [] h else evL 110 146 [l0, l1, l2, l3, l4, l5, l6, l7, l8, l9, l10, l11] [] h := e_icmp_gt c110_143 rfl rfl
set_option maxRecDepth 20000 in
theorem c110_146 : cd 110 146 = some (146, .aload_n 0, 1, 0, 0, 0) := rfl
theorem s110_146 {l1 l2 l3 l4 l5 l6 l7 l8 l9 l10 l11 : AV} {l0 : Option Nat} {h : AH} : evL 110 146 [.inr (.inl l0), l1, l2, l3, l4, l5, l6, l7, l8, l9, l10, l11] [] h = evL 110 147 [.inr (.inl l0), l1, l2, l3, l4, l5, l6, l7, l8, l9, l10, l11] [.inr (.inl l0)] h := ev_go c110_146 rfl
set_option maxRecDepth 20000 in
theorem c110_147 : cd 110 147 = some (147, .bipush 13, 2, 0, 0, 0) := rfl
theorem s110_147 {l0 l1 l2 l3 l4 l5 l6 l7 l8 l9 l10 l11 s0 : AV} {h : AH} : evL 110 147 [l0, l1, l2, l3, l4, l5, l6, l7, l8, l9, l10, l11] [s0] h = evL 110 149 [l0, l1, l2, l3, l4, l5, l6, l7, l8, l9, l10, l11] [I 13, s0] h := ev_go c110_147 rfl
set_option maxRecDepth 20000 in
theorem c110_149 : cd 110 149 = some (149, .invokevirtual 13, 3, 100, 0, 258) := rfl
theorem s110_149 {l0 l1 l2 l3 l4 l5 l6 l7 l8 l9 l10 l11 : AV} {s0 : Int} {s1 : Nat} {M : Mem} {P : PMem} (hk : kd s1 = 7) : evL 110 149 [l0, l1, l2, l3, l4, l5, l6, l7, l8, l9, l10, l11] [I s0, Rf s1] (Hp M P) = cont (evM 100 [Rf s1, I s0] (Hp M P)) (fun r h => evL 110 152 [l0, l1, l2, l3, l4, l5, l6, l7, l8, l9, l10, l11] (rl r []) h) := e_callV (av' := [I s0]) (rest := []) (c := 7) c110_149 rfl rfl rfl rfl rfl rfl rfl hk rfl
set_option maxRecDepth 20000 in
theorem c110_152 : cd 110 152 = some (152, .ifCond .lt 19, 3, 0, 0, 0) := rfl
theorem s110_152 {l0 l1 l2 l3 l4 l5 l6 l7 l8 l9 l10 l11 : AV} {s0 : Int} {h : AH} : evL 110 152 [l0, l1, l2, l3, l4, l5, l6, l7, l8, l9, l10, l11] [I s0] h = if s0 < 0 then evL 110 171 [l0, l1, l2, l3, l4, l5, l6, l7, l8, l9, l10, l11] [] h else evL 110 155 [l0, l1, l2, l3, l4, l5, l6, l7, l8, l9, l10, l11] [] h := e_if_lt c110_152 rfl rfl
set_option maxRecDepth 20000 in
theorem c110_155 : cd 110 155 = some (155, .aload_n 0, 1, 0, 0, 0) := rfl
theorem s110_155 {l1 l2 l3 l4 l5 l6 l7 l8 l9 l10 l11 : AV} {l0 : Option Nat} {h : AH} : evL 110 155 [.inr (.inl l0), l1, l2, l3, l4, l5, l6, l7, l8, l9, l10, l11] [] h = evL 110 156 [.inr (.inl l0), l1, l2, l3, l4, l5, l6, l7, l8, l9, l10, l11] [.inr (.inl l0)] h := ev_go c110_155 rfl
set_option maxRecDepth 20000 in
theorem c110_156 : cd 110 156 = some (156, .bipush 13, 2, 0, 0, 0) := rfl
theorem s110_156 {l0 l1 l2 l3 l4 l5 l6 l7 l8 l9 l10 l11 s0 : AV} {h : AH} : evL 110 156 [l0, l1, l2, l3, l4, l5, l6, l7, l8, l9, l10, l11] [s0] h = evL 110 158 [l0, l1, l2, l3, l4, l5, l6, l7, l8, l9, l10, l11] [I 13, s0] h := ev_go c110_156 rfl
set_option maxRecDepth 20000 in
theorem c110_158 : cd 110 158 = some (158, .invokevirtual 13, 3, 100, 0, 258) := rfl
theorem s110_158 {l0 l1 l2 l3 l4 l5 l6 l7 l8 l9 l10 l11 : AV} {s0 : Int} {s1 : Nat} {M : Mem} {P : PMem} (hk : kd s1 = 7) : evL 110 158 [l0, l1, l2, l3, l4, l5, l6, l7, l8, l9, l10, l11] [I s0, Rf s1] (Hp M P) = cont (evM 100 [Rf s1, I s0] (Hp M P)) (fun r h => evL 110 161 [l0, l1, l2, l3, l4, l5, l6, l7, l8, l9, l10, l11] (rl r []) h) := e_callV (av' := [I s0]) (rest := []) (c := 7) c110_158 rfl rfl rfl rfl rfl rfl rfl hk rfl
set_option maxRecDepth 20000 in
theorem c110_161 : cd 110 161 = some (161, .sipush 10000, 3, 0, 0, 0) := rfl
theorem s110_161 {l0 l1 l2 l3 l4 l5 l6 l7 l8 l9 l10 l11 s0 : AV} {h : AH} : evL 110 161 [l0, l1, l2, l3, l4, l5, l6, l7, l8, l9, l10, l11] [s0] h = evL 110 164 [l0, l1, l2, l3, l4, l5, l6, l7, l8, l9, l10, l11] [I 10000, s0] h := ev_go c110_161 rfl
set_option maxRecDepth 20000 in
theorem c110_164 : cd 110 164 = some (164, .if_icmp .ge 7, 3, 0, 0, 0) := rfl
theorem s110_164 {l0 l1 l2 l3 l4 l5 l6 l7 l8 l9 l10 l11 : AV} {s0 s1 : Int} {h : AH} : evL 110 164 [l0, l1, l2, l3, l4, l5, l6, l7, l8, l9, l10, l11] [I s0, I s1] h = if s0 ≤ s1 then evL 110 171 [l0, l1, l2, l3, l4, l5, l6, l7, l8, l9, l10, l11] [] h else evL 110 167 [l0, l1, l2, l3, l4, l5, l6, l7, l8, l9, l10, l11] [] h := e_icmp_ge c110_164 rfl rfl
set_option maxRecDepth 20000 in
theorem c110_167 : cd 110 167 = some (167, .iconst 1, 1, 0, 0, 0) := rfl
theorem s110_167 {l0 l1 l2 l3 l4 l5 l6 l7 l8 l9 l10 l11 : AV} {h : AH} : evL 110 167 [l0, l1, l2, l3, l4, l5, l6, l7, l8, l9, l10, l11] [] h = evL 110 168 [l0, l1, l2, l3, l4, l5, l6, l7, l8, l9, l10, l11] [I 1] h := ev_go c110_167 rfl
set_option maxRecDepth 20000 in
theorem c110_168 : cd 110 168 = some (168, .goto 4, 3, 0, 0, 0) := rfl
theorem s110_168 {l0 l1 l2 l3 l4 l5 l6 l7 l8 l9 l10 l11 s0 : AV} {h : AH} : evL 110 168 [l0, l1, l2, l3, l4, l5, l6, l7, l8, l9, l10, l11] [s0] h = evL 110 172 [l0, l1, l2, l3, l4, l5, l6, l7, l8, l9, l10, l11] [s0] h := ev_go c110_168 rfl
set_option maxRecDepth 20000 in
theorem c110_171 : cd 110 171 = some (171, .iconst 0, 1, 0, 0, 0) := rfl
theorem s110_171 {l0 l1 l2 l3 l4 l5 l6 l7 l8 l9 l10 l11 : AV} {h : AH} : evL 110 171 [l0, l1, l2, l3, l4, l5, l6, l7, l8, l9, l10, l11] [] h = evL 110 172 [l0, l1, l2, l3, l4, l5, l6, l7, l8, l9, l10, l11] [I 0] h := ev_go c110_171 rfl
set_option maxRecDepth 20000 in
theorem c110_172 : cd 110 172 = some (172, .istore 10, 2, 0, 0, 0) := rfl
theorem s110_172 {l0 l1 l2 l3 l4 l5 l6 l7 l8 l9 l10 l11 : AV} {s0 : Int} {h : AH} : evL 110 172 [l0, l1, l2, l3, l4, l5, l6, l7, l8, l9, l10, l11] [I s0] h = evL 110 174 [l0, l1, l2, l3, l4, l5, l6, l7, l8, l9, I s0, l11] [] h := ev_go c110_172 rfl
set_option maxRecDepth 20000 in
theorem c110_174 : cd 110 174 = some (174, .iconst 1, 1, 0, 0, 0) := rfl
theorem s110_174 {l0 l1 l2 l3 l4 l5 l6 l7 l8 l9 l10 l11 : AV} {h : AH} : evL 110 174 [l0, l1, l2, l3, l4, l5, l6, l7, l8, l9, l10, l11] [] h = evL 110 175 [l0, l1, l2, l3, l4, l5, l6, l7, l8, l9, l10, l11] [I 1] h := ev_go c110_174 rfl
set_option maxRecDepth 20000 in
theorem c110_175 : cd 110 175 = some (175, .istore 11, 2, 0, 0, 0) := rfl
theorem s110_175 {l0 l1 l2 l3 l4 l5 l6 l7 l8 l9 l10 l11 : AV} {s0 : Int} {h : AH} : evL 110 175 [l0, l1, l2, l3, l4, l5, l6, l7, l8, l9, l10, l11] [I s0] h = evL 110 177 [l0, l1, l2, l3, l4, l5, l6, l7, l8, l9, l10, I s0] [] h := ev_go c110_175 rfl
set_option maxRecDepth 20000 in
theorem c110_177 : cd 110 177 = some (177, .iload 11, 2, 0, 0, 0) := rfl
theorem s110_177 {l0 l1 l2 l3 l4 l5 l6 l7 l8 l9 l10 : AV} {l11 : Int} {h : AH} : evL 110 177 [l0, l1, l2, l3, l4, l5, l6, l7, l8, l9, l10, I l11] [] h = evL 110 179 [l0, l1, l2, l3, l4, l5, l6, l7, l8, l9, l10, I l11] [I l11] h := ev_go c110_177 rfl
set_option maxRecDepth 20000 in
theorem c110_179 : cd 110 179 = some (179, .aload_n 0, 1, 0, 0, 0) := rfl
theorem s110_179 {l1 l2 l3 l4 l5 l6 l7 l8 l9 l10 l11 s0 : AV} {l0 : Option Nat} {h : AH} : evL 110 179 [.inr (.inl l0), l1, l2, l3, l4, l5, l6, l7, l8, l9, l10, l11] [s0] h = evL 110 180 [.inr (.inl l0), l1, l2, l3, l4, l5, l6, l7, l8, l9, l10, l11] [.inr (.inl l0), s0] h := ev_go c110_179 rfl
set_option maxRecDepth 20000 in
theorem c110_180 : cd 110 180 = some (180, .iconst 1, 1, 0, 0, 0) := rfl
theorem s110_180 {l0 l1 l2 l3 l4 l5 l6 l7 l8 l9 l10 l11 s0 s1 : AV} {h : AH} : evL 110 180 [l0, l1, l2, l3, l4, l5, l6, l7, l8, l9, l10, l11] [s0, s1] h = evL 110 181 [l0, l1, l2, l3, l4, l5, l6, l7, l8, l9, l10, l11] [I 1, s0, s1] h := ev_go c110_180 rfl
set_option maxRecDepth 20000 in
theorem c110_181 : cd 110 181 = some (181, .invokevirtual 13, 3, 100, 0, 258) := rfl
theorem s110_181 {l0 l1 l2 l3 l4 l5 l6 l7 l8 l9 l10 l11 s2 : AV} {s0 : Int} {s1 : Nat} {M : Mem} {P : PMem} (hk : kd s1 = 7) : evL 110 181 [l0, l1, l2, l3, l4, l5, l6, l7, l8, l9, l10, l11] [I s0, Rf s1, s2] (Hp M P) = cont (evM 100 [Rf s1, I s0] (Hp M P)) (fun r h => evL 110 184 [l0, l1, l2, l3, l4, l5, l6, l7, l8, l9, l10, l11] (rl r [s2]) h) := e_callV (av' := [I s0]) (rest := [s2]) (c := 7) c110_181 rfl rfl rfl rfl rfl rfl rfl hk rfl
set_option maxRecDepth 20000 in
theorem c110_184 : cd 110 184 = some (184, .if_icmp .gt 51, 3, 0, 0, 0) := rfl
theorem s110_184 {l0 l1 l2 l3 l4 l5 l6 l7 l8 l9 l10 l11 : AV} {s0 s1 : Int} {h : AH} : evL 110 184 [l0, l1, l2, l3, l4, l5, l6, l7, l8, l9, l10, l11] [I s0, I s1] h = if s0 < s1 then evL 110 235 [l0, l1, l2, l3, l4, l5, l6, l7, l8, l9, l10, l11] [] h else evL 110 187 [l0, l1, l2, l3, l4, l5, l6, l7, l8, l9, l10, l11] [] h := e_icmp_gt c110_184 rfl rfl
set_option maxRecDepth 20000 in
theorem c110_187 : cd 110 187 = some (187, .iload 4, 2, 0, 0, 0) := rfl
theorem s110_187 {l0 l1 l2 l3 l5 l6 l7 l8 l9 l10 l11 : AV} {l4 : Int} {h : AH} : evL 110 187 [l0, l1, l2, l3, I l4, l5, l6, l7, l8, l9, l10, l11] [] h = evL 110 189 [l0, l1, l2, l3, I l4, l5, l6, l7, l8, l9, l10, l11] [I l4] h := ev_go c110_187 rfl
set_option maxRecDepth 20000 in
theorem c110_189 : cd 110 189 = some (189, .aload_n 0, 1, 0, 0, 0) := rfl
theorem s110_189 {l1 l2 l3 l4 l5 l6 l7 l8 l9 l10 l11 s0 : AV} {l0 : Option Nat} {h : AH} : evL 110 189 [.inr (.inl l0), l1, l2, l3, l4, l5, l6, l7, l8, l9, l10, l11] [s0] h = evL 110 190 [.inr (.inl l0), l1, l2, l3, l4, l5, l6, l7, l8, l9, l10, l11] [.inr (.inl l0), s0] h := ev_go c110_189 rfl
set_option maxRecDepth 20000 in
theorem c110_190 : cd 110 190 = some (190, .iload 11, 2, 0, 0, 0) := rfl
theorem s110_190 {l0 l1 l2 l3 l4 l5 l6 l7 l8 l9 l10 s0 s1 : AV} {l11 : Int} {h : AH} : evL 110 190 [l0, l1, l2, l3, l4, l5, l6, l7, l8, l9, l10, I l11] [s0, s1] h = evL 110 192 [l0, l1, l2, l3, l4, l5, l6, l7, l8, l9, l10, I l11] [I l11, s0, s1] h := ev_go c110_190 rfl
set_option maxRecDepth 20000 in
theorem c110_192 : cd 110 192 = some (192, .iconst 1, 1, 0, 0, 0) := rfl
theorem s110_192 {l0 l1 l2 l3 l4 l5 l6 l7 l8 l9 l10 l11 s0 s1 s2 : AV} {h : AH} : evL 110 192 [l0, l1, l2, l3, l4, l5, l6, l7, l8, l9, l10, l11] [s0, s1, s2] h = evL 110 193 [l0, l1, l2, l3, l4, l5, l6, l7, l8, l9, l10, l11] [I 1, s0, s1, s2] h := ev_go c110_192 rfl
set_option maxRecDepth 20000 in
theorem c110_193 : cd 110 193 = some (193, .invokevirtual 19, 3, 99, 0, 392) := rfl
theorem s110_193 {l0 l1 l2 l3 l4 l5 l6 l7 l8 l9 l10 l11 s3 : AV} {s0 s1 : Int} {s2 : Nat} {M : Mem} {P : PMem} (hk : kd s2 = 7) : evL 110 193 [l0, l1, l2, l3, l4, l5, l6, l7, l8, l9, l10, l11] [I s0, I s1, Rf s2, s3] (Hp M P) = cont (evM 99 [Rf s2, I s1, I s0] (Hp M P)) (fun r h => evL 110 196 [l0, l1, l2, l3, l4, l5, l6, l7, l8, l9, l10, l11] (rl r [s3]) h) := e_callV (av' := [I s1, I s0]) (rest := [s3]) (c := 7) c110_193 rfl rfl rfl rfl rfl rfl rfl hk rfl
set_option maxRecDepth 20000 in
theorem c110_196 : cd 110 196 = some (196, .iadd, 1, 0, 0, 0) := rfl
theorem s110_196 {l0 l1 l2 l3 l4 l5 l6 l7 l8 l9 l10 l11 : AV} {s0 s1 : Int} {h : AH} : evL 110 196 [l0, l1, l2, l3, l4, l5, l6, l7, l8, l9, l10, l11] [I s0, I s1] h = evL 110 197 [l0, l1, l2, l3, l4, l5, l6, l7, l8, l9, l10, l11] [I (ad s1 s0)] h := ev_go c110_196 rfl
set_option maxRecDepth 20000 in
theorem c110_197 : cd 110 197 = some (197, .istore 4, 2, 0, 0, 0) := rfl
theorem s110_197 {l0 l1 l2 l3 l4 l5 l6 l7 l8 l9 l10 l11 : AV} {s0 : Int} {h : AH} : evL 110 197 [l0, l1, l2, l3, l4, l5, l6, l7, l8, l9, l10, l11] [I s0] h = evL 110 199 [l0, l1, l2, l3, I s0, l5, l6, l7, l8, l9, l10, l11] [] h := ev_go c110_197 rfl
set_option maxRecDepth 20000 in
theorem c110_199 : cd 110 199 = some (199, .iload_n 1, 1, 0, 0, 0) := rfl
theorem s110_199 {l0 l2 l3 l4 l5 l6 l7 l8 l9 l10 l11 : AV} {l1 : Int} {h : AH} : evL 110 199 [l0, I l1, l2, l3, l4, l5, l6, l7, l8, l9, l10, l11] [] h = evL 110 200 [l0, I l1, l2, l3, l4, l5, l6, l7, l8, l9, l10, l11] [I l1] h := ev_go c110_199 rfl
set_option maxRecDepth 20000 in
theorem c110_200 : cd 110 200 = some (200, .aload_n 0, 1, 0, 0, 0) := rfl
theorem s110_200 {l1 l2 l3 l4 l5 l6 l7 l8 l9 l10 l11 s0 : AV} {l0 : Option Nat} {h : AH} : evL 110 200 [.inr (.inl l0), l1, l2, l3, l4, l5, l6, l7, l8, l9, l10, l11] [s0] h = evL 110 201 [.inr (.inl l0), l1, l2, l3, l4, l5, l6, l7, l8, l9, l10, l11] [.inr (.inl l0), s0] h := ev_go c110_200 rfl
set_option maxRecDepth 20000 in
theorem c110_201 : cd 110 201 = some (201, .iload 11, 2, 0, 0, 0) := rfl
theorem s110_201 {l0 l1 l2 l3 l4 l5 l6 l7 l8 l9 l10 s0 s1 : AV} {l11 : Int} {h : AH} : evL 110 201 [l0, l1, l2, l3, l4, l5, l6, l7, l8, l9, l10, I l11] [s0, s1] h = evL 110 203 [l0, l1, l2, l3, l4, l5, l6, l7, l8, l9, l10, I l11] [I l11, s0, s1] h := ev_go c110_201 rfl
set_option maxRecDepth 20000 in
theorem c110_203 : cd 110 203 = some (203, .iconst 0, 1, 0, 0, 0) := rfl
theorem s110_203 {l0 l1 l2 l3 l4 l5 l6 l7 l8 l9 l10 l11 s0 s1 s2 : AV} {h : AH} : evL 110 203 [l0, l1, l2, l3, l4, l5, l6, l7, l8, l9, l10, l11] [s0, s1, s2] h = evL 110 204 [l0, l1, l2, l3, l4, l5, l6, l7, l8, l9, l10, l11] [I 0, s0, s1, s2] h := ev_go c110_203 rfl
set_option maxRecDepth 20000 in
theorem c110_204 : cd 110 204 = some (204, .invokevirtual 19, 3, 99, 0, 392) := rfl
theorem s110_204 {l0 l1 l2 l3 l4 l5 l6 l7 l8 l9 l10 l11 s3 : AV} {s0 s1 : Int} {s2 : Nat} {M : Mem} {P : PMem} (hk : kd s2 = 7) : evL 110 204 [l0, l1, l2, l3, l4, l5, l6, l7, l8, l9, l10, l11] [I s0, I s1, Rf s2, s3] (Hp M P) = cont (evM 99 [Rf s2, I s1, I s0] (Hp M P)) (fun r h => evL 110 207 [l0, l1, l2, l3, l4, l5, l6, l7, l8, l9, l10, l11] (rl r [s3]) h) := e_callV (av' := [I s1, I s0]) (rest := [s3]) (c := 7) c110_204 rfl rfl rfl rfl rfl rfl rfl hk rfl
set_option maxRecDepth 20000 in
theorem c110_207 : cd 110 207 = some (207, .iadd, 1, 0, 0, 0) := rfl
theorem s110_207 {l0 l1 l2 l3 l4 l5 l6 l7 l8 l9 l10 l11 : AV} {s0 s1 : Int} {h : AH} : evL 110 207 [l0, l1, l2, l3, l4, l5, l6, l7, l8, l9, l10, l11] [I s0, I s1] h = evL 110 208 [l0, l1, l2, l3, l4, l5, l6, l7, l8, l9, l10, l11] [I (ad s1 s0)] h := ev_go c110_207 rfl
set_option maxRecDepth 20000 in
theorem c110_208 : cd 110 208 = some (208, .istore_n 1, 1, 0, 0, 0) := rfl
theorem s110_208 {l0 l1 l2 l3 l4 l5 l6 l7 l8 l9 l10 l11 : AV} {s0 : Int} {h : AH} : evL 110 208 [l0, l1, l2, l3, l4, l5, l6, l7, l8, l9, l10, l11] [I s0] h = evL 110 209 [l0, I s0, l2, l3, l4, l5, l6, l7, l8, l9, l10, l11] [] h := ev_go c110_208 rfl
set_option maxRecDepth 20000 in
theorem c110_209 : cd 110 209 = some (209, .iload 5, 2, 0, 0, 0) := rfl
theorem s110_209 {l0 l1 l2 l3 l4 l6 l7 l8 l9 l10 l11 : AV} {l5 : Int} {h : AH} : evL 110 209 [l0, l1, l2, l3, l4, I l5, l6, l7, l8, l9, l10, l11] [] h = evL 110 211 [l0, l1, l2, l3, l4, I l5, l6, l7, l8, l9, l10, l11] [I l5] h := ev_go c110_209 rfl
set_option maxRecDepth 20000 in
theorem c110_211 : cd 110 211 = some (211, .aload_n 0, 1, 0, 0, 0) := rfl
theorem s110_211 {l1 l2 l3 l4 l5 l6 l7 l8 l9 l10 l11 s0 : AV} {l0 : Option Nat} {h : AH} : evL 110 211 [.inr (.inl l0), l1, l2, l3, l4, l5, l6, l7, l8, l9, l10, l11] [s0] h = evL 110 212 [.inr (.inl l0), l1, l2, l3, l4, l5, l6, l7, l8, l9, l10, l11] [.inr (.inl l0), s0] h := ev_go c110_211 rfl
set_option maxRecDepth 20000 in
theorem c110_212 : cd 110 212 = some (212, .iload 11, 2, 0, 0, 0) := rfl
theorem s110_212 {l0 l1 l2 l3 l4 l5 l6 l7 l8 l9 l10 s0 s1 : AV} {l11 : Int} {h : AH} : evL 110 212 [l0, l1, l2, l3, l4, l5, l6, l7, l8, l9, l10, I l11] [s0, s1] h = evL 110 214 [l0, l1, l2, l3, l4, l5, l6, l7, l8, l9, l10, I l11] [I l11, s0, s1] h := ev_go c110_212 rfl
set_option maxRecDepth 20000 in
theorem c110_214 : cd 110 214 = some (214, .iconst 0, 1, 0, 0, 0) := rfl
theorem s110_214 {l0 l1 l2 l3 l4 l5 l6 l7 l8 l9 l10 l11 s0 s1 s2 : AV} {h : AH} : evL 110 214 [l0, l1, l2, l3, l4, l5, l6, l7, l8, l9, l10, l11] [s0, s1, s2] h = evL 110 215 [l0, l1, l2, l3, l4, l5, l6, l7, l8, l9, l10, l11] [I 0, s0, s1, s2] h := ev_go c110_214 rfl
set_option maxRecDepth 20000 in
theorem c110_215 : cd 110 215 = some (215, .invokevirtual 19, 3, 99, 0, 392) := rfl
theorem s110_215 {l0 l1 l2 l3 l4 l5 l6 l7 l8 l9 l10 l11 s3 : AV} {s0 s1 : Int} {s2 : Nat} {M : Mem} {P : PMem} (hk : kd s2 = 7) : evL 110 215 [l0, l1, l2, l3, l4, l5, l6, l7, l8, l9, l10, l11] [I s0, I s1, Rf s2, s3] (Hp M P) = cont (evM 99 [Rf s2, I s1, I s0] (Hp M P)) (fun r h => evL 110 218 [l0, l1, l2, l3, l4, l5, l6, l7, l8, l9, l10, l11] (rl r [s3]) h) := e_callV (av' := [I s1, I s0]) (rest := [s3]) (c := 7) c110_215 rfl rfl rfl rfl rfl rfl rfl hk rfl
set_option maxRecDepth 20000 in
theorem c110_218 : cd 110 218 = some (218, .ifCond .ne 7, 3, 0, 0, 0) := rfl
theorem s110_218 {l0 l1 l2 l3 l4 l5 l6 l7 l8 l9 l10 l11 s1 : AV} {s0 : Int} {h : AH} : evL 110 218 [l0, l1, l2, l3, l4, l5, l6, l7, l8, l9, l10, l11] [I s0, s1] h = if s0 = 0 then evL 110 221 [l0, l1, l2, l3, l4, l5, l6, l7, l8, l9, l10, l11] [s1] h else evL 110 225 [l0, l1, l2, l3, l4, l5, l6, l7, l8, l9, l10, l11] [s1] h := e_if_ne c110_218 rfl rfl
set_option maxRecDepth 20000 in
theorem c110_221 : cd 110 221 = some (221, .iconst 1, 1, 0, 0, 0) := rfl
theorem s110_221 {l0 l1 l2 l3 l4 l5 l6 l7 l8 l9 l10 l11 s0 : AV} {h : AH} : evL 110 221 [l0, l1, l2, l3, l4, l5, l6, l7, l8, l9, l10, l11] [s0] h = evL 110 222 [l0, l1, l2, l3, l4, l5, l6, l7, l8, l9, l10, l11] [I 1, s0] h := ev_go c110_221 rfl
set_option maxRecDepth 20000 in
theorem c110_222 : cd 110 222 = some (222, .goto 4, 3, 0, 0, 0) := rfl
theorem s110_222 {l0 l1 l2 l3 l4 l5 l6 l7 l8 l9 l10 l11 s0 s1 : AV} {h : AH} : evL 110 222 [l0, l1, l2, l3, l4, l5, l6, l7, l8, l9, l10, l11] [s0, s1] h = evL 110 226 [l0, l1, l2, l3, l4, l5, l6, l7, l8, l9, l10, l11] [s0, s1] h := ev_go c110_222 rfl
set_option maxRecDepth 20000 in
theorem c110_225 : cd 110 225 = some (225, .iconst 0, 1, 0, 0, 0) := rfl
theorem s110_225 {l0 l1 l2 l3 l4 l5 l6 l7 l8 l9 l10 l11 s0 : AV} {h : AH} : evL 110 225 [l0, l1, l2, l3, l4, l5, l6, l7, l8, l9, l10, l11] [s0] h = evL 110 226 [l0, l1, l2, l3, l4, l5, l6, l7, l8, l9, l10, l11] [I 0, s0] h := ev_go c110_225 rfl
set_option maxRecDepth 20000 in
theorem c110_226 : cd 110 226 = some (226, .iadd, 1, 0, 0, 0) := rfl
theorem s110_226 {l0 l1 l2 l3 l4 l5 l6 l7 l8 l9 l10 l11 : AV} {s0 s1 : Int} {h : AH} : evL 110 226 [l0, l1, l2, l3, l4, l5, l6, l7, l8, l9, l10, l11] [I s0, I s1] h = evL 110 227 [l0, l1, l2, l3, l4, l5, l6, l7, l8, l9, l10, l11] [I (ad s1 s0)] h := ev_go c110_226 rfl
set_option maxRecDepth 20000 in
theorem c110_227 : cd 110 227 = some (227, .istore 5, 2, 0, 0, 0) := rfl
theorem s110_227 {l0 l1 l2 l3 l4 l5 l6 l7 l8 l9 l10 l11 : AV} {s0 : Int} {h : AH} : evL 110 227 [l0, l1, l2, l3, l4, l5, l6, l7, l8, l9, l10, l11] [I s0] h = evL 110 229 [l0, l1, l2, l3, l4, I s0, l6, l7, l8, l9, l10, l11] [] h := ev_go c110_227 rfl
set_option maxRecDepth 20000 in
theorem c110_229 : cd 110 229 = some (229, .iinc 11 1, 3, 0, 0, 0) := rfl
theorem s110_229 {l0 l1 l2 l3 l4 l5 l6 l7 l8 l9 l10 : AV} {l11 : Int} {h : AH} : evL 110 229 [l0, l1, l2, l3, l4, l5, l6, l7, l8, l9, l10, I l11] [] h = evL 110 232 [l0, l1, l2, l3, l4, l5, l6, l7, l8, l9, l10, I (ad l11 1)] [] h := ev_go c110_229 rfl
set_option maxRecDepth 20000 in
theorem c110_232 : cd 110 232 = some (232, .goto (-55), 3, 0, 0, 0) := rfl
theorem s110_232 {l0 l1 l2 l3 l4 l5 l6 l7 l8 l9 l10 l11 : AV} {h : AH} : evL 110 232 [l0, l1, l2, l3, l4, l5, l6, l7, l8, l9, l10, l11] [] h = evL 110 177 [l0, l1, l2, l3, l4, l5, l6, l7, l8, l9, l10, l11] [] h := ev_go c110_232 rfl
set_option maxRecDepth 20000 in
theorem c110_235 : cd 110 235 = some (235, .iconst 0, 1, 0, 0, 0) := rfl
theorem s110_235 {l0 l1 l2 l3 l4 l5 l6 l7 l8 l9 l10 l11 : AV} {h : AH} : evL 110 235 [l0, l1, l2, l3, l4, l5, l6, l7, l8, l9, l10, l11] [] h = evL 110 236 [l0, l1, l2, l3, l4, l5, l6, l7, l8, l9, l10, l11] [I 0] h := ev_go c110_235 rfl
set_option maxRecDepth 20000 in
theorem c110_236 : cd 110 236 = some (236, .istore 11, 2, 0, 0, 0) := rfl
theorem s110_236 {l0 l1 l2 l3 l4 l5 l6 l7 l8 l9 l10 l11 : AV} {s0 : Int} {h : AH} : evL 110 236 [l0, l1, l2, l3, l4, l5, l6, l7, l8, l9, l10, l11] [I s0] h = evL 110 238 [l0, l1, l2, l3, l4, l5, l6, l7, l8, l9, l10, I s0] [] h := ev_go c110_236 rfl
set_option maxRecDepth 20000 in
theorem c110_238 : cd 110 238 = some (238, .iload 11, 2, 0, 0, 0) := rfl
theorem s110_238 {l0 l1 l2 l3 l4 l5 l6 l7 l8 l9 l10 : AV} {l11 : Int} {h : AH} : evL 110 238 [l0, l1, l2, l3, l4, l5, l6, l7, l8, l9, l10, I l11] [] h = evL 110 240 [l0, l1, l2, l3, l4, l5, l6, l7, l8, l9, l10, I l11] [I l11] h := ev_go c110_238 rfl
set_option maxRecDepth 20000 in
theorem c110_240 : cd 110 240 = some (240, .iload 8, 2, 0, 0, 0) := rfl
theorem s110_240 {l0 l1 l2 l3 l4 l5 l6 l7 l9 l10 l11 s0 : AV} {l8 : Int} {h : AH} : evL 110 240 [l0, l1, l2, l3, l4, l5, l6, l7, I l8, l9, l10, l11] [s0] h = evL 110 242 [l0, l1, l2, l3, l4, l5, l6, l7, I l8, l9, l10, l11] [I l8, s0] h := ev_go c110_240 rfl
set_option maxRecDepth 20000 in
theorem c110_242 : cd 110 242 = some (242, .if_icmp .ge 264, 3, 0, 0, 0) := rfl
theorem s110_242 {l0 l1 l2 l3 l4 l5 l6 l7 l8 l9 l10 l11 : AV} {s0 s1 : Int} {h : AH} : evL 110 242 [l0, l1, l2, l3, l4, l5, l6, l7, l8, l9, l10, l11] [I s0, I s1] h = if s0 ≤ s1 then evL 110 506 [l0, l1, l2, l3, l4, l5, l6, l7, l8, l9, l10, l11] [] h else evL 110 245 [l0, l1, l2, l3, l4, l5, l6, l7, l8, l9, l10, l11] [] h := e_icmp_ge c110_242 rfl rfl
set_option maxRecDepth 20000 in
theorem c110_245 : cd 110 245 = some (245, .iload 10, 2, 0, 0, 0) := rfl
theorem s110_245 {l0 l1 l2 l3 l4 l5 l6 l7 l8 l9 l11 : AV} {l10 : Int} {h : AH} : evL 110 245 [l0, l1, l2, l3, l4, l5, l6, l7, l8, l9, I l10, l11] [] h = evL 110 247 [l0, l1, l2, l3, l4, l5, l6, l7, l8, l9, I l10, l11] [I l10] h := ev_go c110_245 rfl
set_option maxRecDepth 20000 in
theorem c110_247 : cd 110 247 = some (247, .ifCond .eq 259, 3, 0, 0, 0) := rfl
theorem s110_247 {l0 l1 l2 l3 l4 l5 l6 l7 l8 l9 l10 l11 : AV} {s0 : Int} {h : AH} : evL 110 247 [l0, l1, l2, l3, l4, l5, l6, l7, l8, l9, l10, l11] [I s0] h = if s0 = 0 then evL 110 506 [l0, l1, l2, l3, l4, l5, l6, l7, l8, l9, l10, l11] [] h else evL 110 250 [l0, l1, l2, l3, l4, l5, l6, l7, l8, l9, l10, l11] [] h := e_if_eq c110_247 rfl rfl
set_option maxRecDepth 20000 in
theorem c110_250 : cd 110 250 = some (250, .iload_n 2, 1, 0, 0, 0) := rfl
theorem s110_250 {l0 l1 l3 l4 l5 l6 l7 l8 l9 l10 l11 : AV} {l2 : Int} {h : AH} : evL 110 250 [l0, l1, I l2, l3, l4, l5, l6, l7, l8, l9, l10, l11] [] h = evL 110 251 [l0, l1, I l2, l3, l4, l5, l6, l7, l8, l9, l10, l11] [I l2] h := ev_go c110_250 rfl
set_option maxRecDepth 20000 in
theorem c110_251 : cd 110 251 = some (251, .aload_n 0, 1, 0, 0, 0) := rfl
theorem s110_251 {l1 l2 l3 l4 l5 l6 l7 l8 l9 l10 l11 s0 : AV} {l0 : Option Nat} {h : AH} : evL 110 251 [.inr (.inl l0), l1, l2, l3, l4, l5, l6, l7, l8, l9, l10, l11] [s0] h = evL 110 252 [.inr (.inl l0), l1, l2, l3, l4, l5, l6, l7, l8, l9, l10, l11] [.inr (.inl l0), s0] h := ev_go c110_251 rfl
set_option maxRecDepth 20000 in
theorem c110_252 : cd 110 252 = some (252, .iload 11, 2, 0, 0, 0) := rfl
theorem s110_252 {l0 l1 l2 l3 l4 l5 l6 l7 l8 l9 l10 s0 s1 : AV} {l11 : Int} {h : AH} : evL 110 252 [l0, l1, l2, l3, l4, l5, l6, l7, l8, l9, l10, I l11] [s0, s1] h = evL 110 254 [l0, l1, l2, l3, l4, l5, l6, l7, l8, l9, l10, I l11] [I l11, s0, s1] h := ev_go c110_252 rfl
set_option maxRecDepth 20000 in
theorem c110_254 : cd 110 254 = some (254, .iconst 5, 1, 0, 0, 0) := rfl
theorem s110_254 {l0 l1 l2 l3 l4 l5 l6 l7 l8 l9 l10 l11 s0 s1 s2 : AV} {h : AH} : evL 110 254 [l0, l1, l2, l3, l4, l5, l6, l7, l8, l9, l10, l11] [s0, s1, s2] h = evL 110 255 [l0, l1, l2, l3, l4, l5, l6, l7, l8, l9, l10, l11] [I 5, s0, s1, s2] h := ev_go c110_254 rfl
set_option maxRecDepth 20000 in
theorem c110_255 : cd 110 255 = some (255, .invokevirtual 23, 3, 97, 0, 406) := rfl
theorem s110_255 {l0 l1 l2 l3 l4 l5 l6 l7 l8 l9 l10 l11 s3 : AV} {s0 s1 : Int} {s2 : Nat} {M : Mem} {P : PMem} (hk : kd s2 = 7) : evL 110 255 [l0, l1, l2, l3, l4, l5, l6, l7, l8, l9, l10, l11] [I s0, I s1, Rf s2, s3] (Hp M P) = cont (evM 97 [Rf s2, I s1, I s0] (Hp M P)) (fun r h => evL 110 258 [l0, l1, l2, l3, l4, l5, l6, l7, l8, l9, l10, l11] (rl r [s3]) h) := e_callV (av' := [I s1, I s0]) (rest := [s3]) (c := 7) c110_255 rfl rfl rfl rfl rfl rfl rfl hk rfl
set_option maxRecDepth 20000 in
theorem c110_258 : cd 110 258 = some (258, .iadd, 1, 0, 0, 0) := rfl
theorem s110_258 {l0 l1 l2 l3 l4 l5 l6 l7 l8 l9 l10 l11 : AV} {s0 s1 : Int} {h : AH} : evL 110 258 [l0, l1, l2, l3, l4, l5, l6, l7, l8, l9, l10, l11] [I s0, I s1] h = evL 110 259 [l0, l1, l2, l3, l4, l5, l6, l7, l8, l9, l10, l11] [I (ad s1 s0)] h := ev_go c110_258 rfl
set_option maxRecDepth 20000 in
theorem c110_259 : cd 110 259 = some (259, .istore_n 2, 1, 0, 0, 0) := rfl
theorem s110_259 {l0 l1 l2 l3 l4 l5 l6 l7 l8 l9 l10 l11 : AV} {s0 : Int} {h : AH} : evL 110 259 [l0, l1, l2, l3, l4, l5, l6, l7, l8, l9, l10, l11] [I s0] h = evL 110 260 [l0, l1, I s0, l3, l4, l5, l6, l7, l8, l9, l10, l11] [] h := ev_go c110_259 rfl
set_option maxRecDepth 20000 in
theorem c110_260 : cd 110 260 = some (260, .iload_n 3, 1, 0, 0, 0) := rfl
theorem s110_260 {l0 l1 l2 l4 l5 l6 l7 l8 l9 l10 l11 : AV} {l3 : Int} {h : AH} : evL 110 260 [l0, l1, l2, I l3, l4, l5, l6, l7, l8, l9, l10, l11] [] h = evL 110 261 [l0, l1, l2, I l3, l4, l5, l6, l7, l8, l9, l10, l11] [I l3] h := ev_go c110_260 rfl
set_option maxRecDepth 20000 in
theorem c110_261 : cd 110 261 = some (261, .aload_n 0, 1, 0, 0, 0) := rfl
theorem s110_261 {l1 l2 l3 l4 l5 l6 l7 l8 l9 l10 l11 s0 : AV} {l0 : Option Nat} {h : AH} : evL 110 261 [.inr (.inl l0), l1, l2, l3, l4, l5, l6, l7, l8, l9, l10, l11] [s0] h = evL 110 262 [.inr (.inl l0), l1, l2, l3, l4, l5, l6, l7, l8, l9, l10, l11] [.inr (.inl l0), s0] h := ev_go c110_261 rfl
set_option maxRecDepth 20000 in
theorem c110_262 : cd 110 262 = some (262, .iload 11, 2, 0, 0, 0) := rfl
theorem s110_262 {l0 l1 l2 l3 l4 l5 l6 l7 l8 l9 l10 s0 s1 : AV} {l11 : Int} {h : AH} : evL 110 262 [l0, l1, l2, l3, l4, l5, l6, l7, l8, l9, l10, I l11] [s0, s1] h = evL 110 264 [l0, l1, l2, l3, l4, l5, l6, l7, l8, l9, l10, I l11] [I l11, s0, s1] h := ev_go c110_262 rfl
set_option maxRecDepth 20000 in
theorem c110_264 : cd 110 264 = some (264, .bipush 6, 2, 0, 0, 0) := rfl
theorem s110_264 {l0 l1 l2 l3 l4 l5 l6 l7 l8 l9 l10 l11 s0 s1 s2 : AV} {h : AH} : evL 110 264 [l0, l1, l2, l3, l4, l5, l6, l7, l8, l9, l10, l11] [s0, s1, s2] h = evL 110 266 [l0, l1, l2, l3, l4, l5, l6, l7, l8, l9, l10, l11] [I 6, s0, s1, s2] h := ev_go c110_264 rfl
set_option maxRecDepth 20000 in
theorem c110_266 : cd 110 266 = some (266, .invokevirtual 23, 3, 97, 0, 406) := rfl
theorem s110_266 {l0 l1 l2 l3 l4 l5 l6 l7 l8 l9 l10 l11 s3 : AV} {s0 s1 : Int} {s2 : Nat} {M : Mem} {P : PMem} (hk : kd s2 = 7) : evL 110 266 [l0, l1, l2, l3, l4, l5, l6, l7, l8, l9, l10, l11] [I s0, I s1, Rf s2, s3] (Hp M P) = cont (evM 97 [Rf s2, I s1, I s0] (Hp M P)) (fun r h => evL 110 269 [l0, l1, l2, l3, l4, l5, l6, l7, l8, l9, l10, l11] (rl r [s3]) h) := e_callV (av' := [I s1, I s0]) (rest := [s3]) (c := 7) c110_266 rfl rfl rfl rfl rfl rfl rfl hk rfl
set_option maxRecDepth 20000 in
theorem c110_269 : cd 110 269 = some (269, .iadd, 1, 0, 0, 0) := rfl
theorem s110_269 {l0 l1 l2 l3 l4 l5 l6 l7 l8 l9 l10 l11 : AV} {s0 s1 : Int} {h : AH} : evL 110 269 [l0, l1, l2, l3, l4, l5, l6, l7, l8, l9, l10, l11] [I s0, I s1] h = evL 110 270 [l0, l1, l2, l3, l4, l5, l6, l7, l8, l9, l10, l11] [I (ad s1 s0)] h := ev_go c110_269 rfl
set_option maxRecDepth 20000 in
theorem c110_270 : cd 110 270 = some (270, .istore_n 3, 1, 0, 0, 0) := rfl
theorem s110_270 {l0 l1 l2 l3 l4 l5 l6 l7 l8 l9 l10 l11 : AV} {s0 : Int} {h : AH} : evL 110 270 [l0, l1, l2, l3, l4, l5, l6, l7, l8, l9, l10, l11] [I s0] h = evL 110 271 [l0, l1, l2, I s0, l4, l5, l6, l7, l8, l9, l10, l11] [] h := ev_go c110_270 rfl
set_option maxRecDepth 20000 in
theorem c110_271 : cd 110 271 = some (271, .iload_n 1, 1, 0, 0, 0) := rfl
theorem s110_271 {l0 l2 l3 l4 l5 l6 l7 l8 l9 l10 l11 : AV} {l1 : Int} {h : AH} : evL 110 271 [l0, I l1, l2, l3, l4, l5, l6, l7, l8, l9, l10, l11] [] h = evL 110 272 [l0, I l1, l2, l3, l4, l5, l6, l7, l8, l9, l10, l11] [I l1] h := ev_go c110_271 rfl
set_option maxRecDepth 20000 in
theorem c110_272 : cd 110 272 = some (272, .aload_n 0, 1, 0, 0, 0) := rfl
theorem s110_272 {l1 l2 l3 l4 l5 l6 l7 l8 l9 l10 l11 s0 : AV} {l0 : Option Nat} {h : AH} : evL 110 272 [.inr (.inl l0), l1, l2, l3, l4, l5, l6, l7, l8, l9, l10, l11] [s0] h = evL 110 273 [.inr (.inl l0), l1, l2, l3, l4, l5, l6, l7, l8, l9, l10, l11] [.inr (.inl l0), s0] h := ev_go c110_272 rfl
set_option maxRecDepth 20000 in
theorem c110_273 : cd 110 273 = some (273, .iload 11, 2, 0, 0, 0) := rfl
theorem s110_273 {l0 l1 l2 l3 l4 l5 l6 l7 l8 l9 l10 s0 s1 : AV} {l11 : Int} {h : AH} : evL 110 273 [l0, l1, l2, l3, l4, l5, l6, l7, l8, l9, l10, I l11] [s0, s1] h = evL 110 275 [l0, l1, l2, l3, l4, l5, l6, l7, l8, l9, l10, I l11] [I l11, s0, s1] h := ev_go c110_273 rfl
set_option maxRecDepth 20000 in
theorem c110_275 : cd 110 275 = some (275, .iconst 4, 1, 0, 0, 0) := rfl
theorem s110_275 {l0 l1 l2 l3 l4 l5 l6 l7 l8 l9 l10 l11 s0 s1 s2 : AV} {h : AH} : evL 110 275 [l0, l1, l2, l3, l4, l5, l6, l7, l8, l9, l10, l11] [s0, s1, s2] h = evL 110 276 [l0, l1, l2, l3, l4, l5, l6, l7, l8, l9, l10, l11] [I 4, s0, s1, s2] h := ev_go c110_275 rfl
set_option maxRecDepth 20000 in
theorem c110_276 : cd 110 276 = some (276, .invokevirtual 23, 3, 97, 0, 406) := rfl
theorem s110_276 {l0 l1 l2 l3 l4 l5 l6 l7 l8 l9 l10 l11 s3 : AV} {s0 s1 : Int} {s2 : Nat} {M : Mem} {P : PMem} (hk : kd s2 = 7) : evL 110 276 [l0, l1, l2, l3, l4, l5, l6, l7, l8, l9, l10, l11] [I s0, I s1, Rf s2, s3] (Hp M P) = cont (evM 97 [Rf s2, I s1, I s0] (Hp M P)) (fun r h => evL 110 279 [l0, l1, l2, l3, l4, l5, l6, l7, l8, l9, l10, l11] (rl r [s3]) h) := e_callV (av' := [I s1, I s0]) (rest := [s3]) (c := 7) c110_276 rfl rfl rfl rfl rfl rfl rfl hk rfl
set_option maxRecDepth 20000 in
theorem c110_279 : cd 110 279 = some (279, .aload_n 0, 1, 0, 0, 0) := rfl
theorem s110_279 {l1 l2 l3 l4 l5 l6 l7 l8 l9 l10 l11 s0 s1 : AV} {l0 : Option Nat} {h : AH} : evL 110 279 [.inr (.inl l0), l1, l2, l3, l4, l5, l6, l7, l8, l9, l10, l11] [s0, s1] h = evL 110 280 [.inr (.inl l0), l1, l2, l3, l4, l5, l6, l7, l8, l9, l10, l11] [.inr (.inl l0), s0, s1] h := ev_go c110_279 rfl
set_option maxRecDepth 20000 in
theorem c110_280 : cd 110 280 = some (280, .iload 11, 2, 0, 0, 0) := rfl
theorem s110_280 {l0 l1 l2 l3 l4 l5 l6 l7 l8 l9 l10 s0 s1 s2 : AV} {l11 : Int} {h : AH} : evL 110 280 [l0, l1, l2, l3, l4, l5, l6, l7, l8, l9, l10, I l11] [s0, s1, s2] h = evL 110 282 [l0, l1, l2, l3, l4, l5, l6, l7, l8, l9, l10, I l11] [I l11, s0, s1, s2] h := ev_go c110_280 rfl
set_option maxRecDepth 20000 in
theorem c110_282 : cd 110 282 = some (282, .bipush 7, 2, 0, 0, 0) := rfl
theorem s110_282 {l0 l1 l2 l3 l4 l5 l6 l7 l8 l9 l10 l11 s0 s1 s2 s3 : AV} {h : AH} : evL 110 282 [l0, l1, l2, l3, l4, l5, l6, l7, l8, l9, l10, l11] [s0, s1, s2, s3] h = evL 110 284 [l0, l1, l2, l3, l4, l5, l6, l7, l8, l9, l10, l11] [I 7, s0, s1, s2, s3] h := ev_go c110_282 rfl
set_option maxRecDepth 20000 in
theorem c110_284 : cd 110 284 = some (284, .invokevirtual 23, 3, 97, 0, 406) := rfl
theorem s110_284 {l0 l1 l2 l3 l4 l5 l6 l7 l8 l9 l10 l11 s3 s4 : AV} {s0 s1 : Int} {s2 : Nat} {M : Mem} {P : PMem} (hk : kd s2 = 7) : evL 110 284 [l0, l1, l2, l3, l4, l5, l6, l7, l8, l9, l10, l11] [I s0, I s1, Rf s2, s3, s4] (Hp M P) = cont (evM 97 [Rf s2, I s1, I s0] (Hp M P)) (fun r h => evL 110 287 [l0, l1, l2, l3, l4, l5, l6, l7, l8, l9, l10, l11] (rl r [s3, s4]) h) := e_callV (av' := [I s1, I s0]) (rest := [s3, s4]) (c := 7) c110_284 rfl rfl rfl rfl rfl rfl rfl hk rfl
set_option maxRecDepth 20000 in
theorem c110_287 : cd 110 287 = some (287, .iadd, 1, 0, 0, 0) := rfl
theorem s110_287 {l0 l1 l2 l3 l4 l5 l6 l7 l8 l9 l10 l11 s2 : AV} {s0 s1 : Int} {h : AH} : evL 110 287 [l0, l1, l2, l3, l4, l5, l6, l7, l8, l9, l10, l11] [I s0, I s1, s2] h = evL 110 288 [l0, l1, l2, l3, l4, l5, l6, l7, l8, l9, l10, l11] [I (ad s1 s0), s2] h := ev_go c110_287 rfl
set_option maxRecDepth 20000 in
theorem c110_288 : cd 110 288 = some (288, .iadd, 1, 0, 0, 0) := rfl
theorem s110_288 {l0 l1 l2 l3 l4 l5 l6 l7 l8 l9 l10 l11 : AV} {s0 s1 : Int} {h : AH} : evL 110 288 [l0, l1, l2, l3, l4, l5, l6, l7, l8, l9, l10, l11] [I s0, I s1] h = evL 110 289 [l0, l1, l2, l3, l4, l5, l6, l7, l8, l9, l10, l11] [I (ad s1 s0)] h := ev_go c110_288 rfl
set_option maxRecDepth 20000 in
theorem c110_289 : cd 110 289 = some (289, .istore_n 1, 1, 0, 0, 0) := rfl
theorem s110_289 {l0 l1 l2 l3 l4 l5 l6 l7 l8 l9 l10 l11 : AV} {s0 : Int} {h : AH} : evL 110 289 [l0, l1, l2, l3, l4, l5, l6, l7, l8, l9, l10, l11] [I s0] h = evL 110 290 [l0, I s0, l2, l3, l4, l5, l6, l7, l8, l9, l10, l11] [] h := ev_go c110_289 rfl
set_option maxRecDepth 20000 in
theorem c110_290 : cd 110 290 = some (290, .iload 6, 2, 0, 0, 0) := rfl
theorem s110_290 {l0 l1 l2 l3 l4 l5 l7 l8 l9 l10 l11 : AV} {l6 : Int} {h : AH} : evL 110 290 [l0, l1, l2, l3, l4, l5, I l6, l7, l8, l9, l10, l11] [] h = evL 110 292 [l0, l1, l2, l3, l4, l5, I l6, l7, l8, l9, l10, l11] [I l6] h := ev_go c110_290 rfl
set_option maxRecDepth 20000 in
theorem c110_292 : cd 110 292 = some (292, .aload_n 0, 1, 0, 0, 0) := rfl
theorem s110_292 {l1 l2 l3 l4 l5 l6 l7 l8 l9 l10 l11 s0 : AV} {l0 : Option Nat} {h : AH} : evL 110 292 [.inr (.inl l0), l1, l2, l3, l4, l5, l6, l7, l8, l9, l10, l11] [s0] h = evL 110 293 [.inr (.inl l0), l1, l2, l3, l4, l5, l6, l7, l8, l9, l10, l11] [.inr (.inl l0), s0] h := ev_go c110_292 rfl
set_option maxRecDepth 20000 in
theorem c110_293 : cd 110 293 = some (293, .iload 11, 2, 0, 0, 0) := rfl
theorem s110_293 {l0 l1 l2 l3 l4 l5 l6 l7 l8 l9 l10 s0 s1 : AV} {l11 : Int} {h : AH} : evL 110 293 [l0, l1, l2, l3, l4, l5, l6, l7, l8, l9, l10, I l11] [s0, s1] h = evL 110 295 [l0, l1, l2, l3, l4, l5, l6, l7, l8, l9, l10, I l11] [I l11, s0, s1] h := ev_go c110_293 rfl
set_option maxRecDepth 20000 in
theorem c110_295 : cd 110 295 = some (295, .iconst 2, 1, 0, 0, 0) := rfl
theorem s110_295 {l0 l1 l2 l3 l4 l5 l6 l7 l8 l9 l10 l11 s0 s1 s2 : AV} {h : AH} : evL 110 295 [l0, l1, l2, l3, l4, l5, l6, l7, l8, l9, l10, l11] [s0, s1, s2] h = evL 110 296 [l0, l1, l2, l3, l4, l5, l6, l7, l8, l9, l10, l11] [I 2, s0, s1, s2] h := ev_go c110_295 rfl
set_option maxRecDepth 20000 in
theorem c110_296 : cd 110 296 = some (296, .invokevirtual 23, 3, 97, 0, 406) := rfl
theorem s110_296 {l0 l1 l2 l3 l4 l5 l6 l7 l8 l9 l10 l11 s3 : AV} {s0 s1 : Int} {s2 : Nat} {M : Mem} {P : PMem} (hk : kd s2 = 7) : evL 110 296 [l0, l1, l2, l3, l4, l5, l6, l7, l8, l9, l10, l11] [I s0, I s1, Rf s2, s3] (Hp M P) = cont (evM 97 [Rf s2, I s1, I s0] (Hp M P)) (fun r h => evL 110 299 [l0, l1, l2, l3, l4, l5, l6, l7, l8, l9, l10, l11] (rl r [s3]) h) := e_callV (av' := [I s1, I s0]) (rest := [s3]) (c := 7) c110_296 rfl rfl rfl rfl rfl rfl rfl hk rfl
set_option maxRecDepth 20000 in
theorem c110_299 : cd 110 299 = some (299, .iconst 1, 1, 0, 0, 0) := rfl
theorem s110_299 {l0 l1 l2 l3 l4 l5 l6 l7 l8 l9 l10 l11 s0 s1 : AV} {h : AH} : evL 110 299 [l0, l1, l2, l3, l4, l5, l6, l7, l8, l9, l10, l11] [s0, s1] h = evL 110 300 [l0, l1, l2, l3, l4, l5, l6, l7, l8, l9, l10, l11] [I 1, s0, s1] h := ev_go c110_299 rfl
set_option maxRecDepth 20000 in
theorem c110_300 : cd 110 300 = some (300, .if_icmp .ne 7, 3, 0, 0, 0) := rfl
theorem s110_300 {l0 l1 l2 l3 l4 l5 l6 l7 l8 l9 l10 l11 s2 : AV} {s0 s1 : Int} {h : AH} : evL 110 300 [l0, l1, l2, l3, l4, l5, l6, l7, l8, l9, l10, l11] [I s0, I s1, s2] h = if s1 = s0 then evL 110 303 [l0, l1, l2, l3, l4, l5, l6, l7, l8, l9, l10, l11] [s2] h else evL 110 307 [l0, l1, l2, l3, l4, l5, l6, l7, l8, l9, l10, l11] [s2] h := e_icmp_ne c110_300 rfl rfl
set_option maxRecDepth 20000 in
theorem c110_303 : cd 110 303 = some (303, .iconst 0, 1, 0, 0, 0) := rfl
theorem s110_303 {l0 l1 l2 l3 l4 l5 l6 l7 l8 l9 l10 l11 s0 : AV} {h : AH} : evL 110 303 [l0, l1, l2, l3, l4, l5, l6, l7, l8, l9, l10, l11] [s0] h = evL 110 304 [l0, l1, l2, l3, l4, l5, l6, l7, l8, l9, l10, l11] [I 0, s0] h := ev_go c110_303 rfl
set_option maxRecDepth 20000 in
theorem c110_304 : cd 110 304 = some (304, .goto 10, 3, 0, 0, 0) := rfl
theorem s110_304 {l0 l1 l2 l3 l4 l5 l6 l7 l8 l9 l10 l11 s0 s1 : AV} {h : AH} : evL 110 304 [l0, l1, l2, l3, l4, l5, l6, l7, l8, l9, l10, l11] [s0, s1] h = evL 110 314 [l0, l1, l2, l3, l4, l5, l6, l7, l8, l9, l10, l11] [s0, s1] h := ev_go c110_304 rfl
set_option maxRecDepth 20000 in
theorem c110_307 : cd 110 307 = some (307, .aload_n 0, 1, 0, 0, 0) := rfl
theorem s110_307 {l1 l2 l3 l4 l5 l6 l7 l8 l9 l10 l11 s0 : AV} {l0 : Option Nat} {h : AH} : evL 110 307 [.inr (.inl l0), l1, l2, l3, l4, l5, l6, l7, l8, l9, l10, l11] [s0] h = evL 110 308 [.inr (.inl l0), l1, l2, l3, l4, l5, l6, l7, l8, l9, l10, l11] [.inr (.inl l0), s0] h := ev_go c110_307 rfl
set_option maxRecDepth 20000 in
theorem c110_308 : cd 110 308 = some (308, .iload 11, 2, 0, 0, 0) := rfl
theorem s110_308 {l0 l1 l2 l3 l4 l5 l6 l7 l8 l9 l10 s0 s1 : AV} {l11 : Int} {h : AH} : evL 110 308 [l0, l1, l2, l3, l4, l5, l6, l7, l8, l9, l10, I l11] [s0, s1] h = evL 110 310 [l0, l1, l2, l3, l4, l5, l6, l7, l8, l9, l10, I l11] [I l11, s0, s1] h := ev_go c110_308 rfl
set_option maxRecDepth 20000 in
theorem c110_310 : cd 110 310 = some (310, .iconst 3, 1, 0, 0, 0) := rfl
theorem s110_310 {l0 l1 l2 l3 l4 l5 l6 l7 l8 l9 l10 l11 s0 s1 s2 : AV} {h : AH} : evL 110 310 [l0, l1, l2, l3, l4, l5, l6, l7, l8, l9, l10, l11] [s0, s1, s2] h = evL 110 311 [l0, l1, l2, l3, l4, l5, l6, l7, l8, l9, l10, l11] [I 3, s0, s1, s2] h := ev_go c110_310 rfl
set_option maxRecDepth 20000 in
theorem c110_311 : cd 110 311 = some (311, .invokevirtual 23, 3, 97, 0, 406) := rfl
theorem s110_311 {l0 l1 l2 l3 l4 l5 l6 l7 l8 l9 l10 l11 s3 : AV} {s0 s1 : Int} {s2 : Nat} {M : Mem} {P : PMem} (hk : kd s2 = 7) : evL 110 311 [l0, l1, l2, l3, l4, l5, l6, l7, l8, l9, l10, l11] [I s0, I s1, Rf s2, s3] (Hp M P) = cont (evM 97 [Rf s2, I s1, I s0] (Hp M P)) (fun r h => evL 110 314 [l0, l1, l2, l3, l4, l5, l6, l7, l8, l9, l10, l11] (rl r [s3]) h) := e_callV (av' := [I s1, I s0]) (rest := [s3]) (c := 7) c110_311 rfl rfl rfl rfl rfl rfl rfl hk rfl
set_option maxRecDepth 20000 in
theorem c110_314 : cd 110 314 = some (314, .iadd, 1, 0, 0, 0) := rfl
theorem s110_314 {l0 l1 l2 l3 l4 l5 l6 l7 l8 l9 l10 l11 : AV} {s0 s1 : Int} {h : AH} : evL 110 314 [l0, l1, l2, l3, l4, l5, l6, l7, l8, l9, l10, l11] [I s0, I s1] h = evL 110 315 [l0, l1, l2, l3, l4, l5, l6, l7, l8, l9, l10, l11] [I (ad s1 s0)] h := ev_go c110_314 rfl
set_option maxRecDepth 20000 in
theorem c110_315 : cd 110 315 = some (315, .istore 6, 2, 0, 0, 0) := rfl
theorem s110_315 {l0 l1 l2 l3 l4 l5 l6 l7 l8 l9 l10 l11 : AV} {s0 : Int} {h : AH} : evL 110 315 [l0, l1, l2, l3, l4, l5, l6, l7, l8, l9, l10, l11] [I s0] h = evL 110 317 [l0, l1, l2, l3, l4, l5, I s0, l7, l8, l9, l10, l11] [] h := ev_go c110_315 rfl
set_option maxRecDepth 20000 in
theorem c110_317 : cd 110 317 = some (317, .iload 7, 2, 0, 0, 0) := rfl
theorem s110_317 {l0 l1 l2 l3 l4 l5 l6 l8 l9 l10 l11 : AV} {l7 : Int} {h : AH} : evL 110 317 [l0, l1, l2, l3, l4, l5, l6, I l7, l8, l9, l10, l11] [] h = evL 110 319 [l0, l1, l2, l3, l4, l5, l6, I l7, l8, l9, l10, l11] [I l7] h := ev_go c110_317 rfl
set_option maxRecDepth 20000 in
theorem c110_319 : cd 110 319 = some (319, .aload_n 0, 1, 0, 0, 0) := rfl
theorem s110_319 {l1 l2 l3 l4 l5 l6 l7 l8 l9 l10 l11 s0 : AV} {l0 : Option Nat} {h : AH} : evL 110 319 [.inr (.inl l0), l1, l2, l3, l4, l5, l6, l7, l8, l9, l10, l11] [s0] h = evL 110 320 [.inr (.inl l0), l1, l2, l3, l4, l5, l6, l7, l8, l9, l10, l11] [.inr (.inl l0), s0] h := ev_go c110_319 rfl
set_option maxRecDepth 20000 in
theorem c110_320 : cd 110 320 = some (320, .iload 11, 2, 0, 0, 0) := rfl
theorem s110_320 {l0 l1 l2 l3 l4 l5 l6 l7 l8 l9 l10 s0 s1 : AV} {l11 : Int} {h : AH} : evL 110 320 [l0, l1, l2, l3, l4, l5, l6, l7, l8, l9, l10, I l11] [s0, s1] h = evL 110 322 [l0, l1, l2, l3, l4, l5, l6, l7, l8, l9, l10, I l11] [I l11, s0, s1] h := ev_go c110_320 rfl
set_option maxRecDepth 20000 in
theorem c110_322 : cd 110 322 = some (322, .iconst 2, 1, 0, 0, 0) := rfl
theorem s110_322 {l0 l1 l2 l3 l4 l5 l6 l7 l8 l9 l10 l11 s0 s1 s2 : AV} {h : AH} : evL 110 322 [l0, l1, l2, l3, l4, l5, l6, l7, l8, l9, l10, l11] [s0, s1, s2] h = evL 110 323 [l0, l1, l2, l3, l4, l5, l6, l7, l8, l9, l10, l11] [I 2, s0, s1, s2] h := ev_go c110_322 rfl
set_option maxRecDepth 20000 in
theorem c110_323 : cd 110 323 = some (323, .invokevirtual 23, 3, 97, 0, 406) := rfl
theorem s110_323 {l0 l1 l2 l3 l4 l5 l6 l7 l8 l9 l10 l11 s3 : AV} {s0 s1 : Int} {s2 : Nat} {M : Mem} {P : PMem} (hk : kd s2 = 7) : evL 110 323 [l0, l1, l2, l3, l4, l5, l6, l7, l8, l9, l10, l11] [I s0, I s1, Rf s2, s3] (Hp M P) = cont (evM 97 [Rf s2, I s1, I s0] (Hp M P)) (fun r h => evL 110 326 [l0, l1, l2, l3, l4, l5, l6, l7, l8, l9, l10, l11] (rl r [s3]) h) := e_callV (av' := [I s1, I s0]) (rest := [s3]) (c := 7) c110_323 rfl rfl rfl rfl rfl rfl rfl hk rfl
set_option maxRecDepth 20000 in
theorem c110_326 : cd 110 326 = some (326, .iadd, 1, 0, 0, 0) := rfl
theorem s110_326 {l0 l1 l2 l3 l4 l5 l6 l7 l8 l9 l10 l11 : AV} {s0 s1 : Int} {h : AH} : evL 110 326 [l0, l1, l2, l3, l4, l5, l6, l7, l8, l9, l10, l11] [I s0, I s1] h = evL 110 327 [l0, l1, l2, l3, l4, l5, l6, l7, l8, l9, l10, l11] [I (ad s1 s0)] h := ev_go c110_326 rfl
set_option maxRecDepth 20000 in
theorem c110_327 : cd 110 327 = some (327, .istore 7, 2, 0, 0, 0) := rfl
theorem s110_327 {l0 l1 l2 l3 l4 l5 l6 l7 l8 l9 l10 l11 : AV} {s0 : Int} {h : AH} : evL 110 327 [l0, l1, l2, l3, l4, l5, l6, l7, l8, l9, l10, l11] [I s0] h = evL 110 329 [l0, l1, l2, l3, l4, l5, l6, I s0, l8, l9, l10, l11] [] h := ev_go c110_327 rfl
set_option maxRecDepth 20000 in
theorem c110_329 : cd 110 329 = some (329, .aload_n 0, 1, 0, 0, 0) := rfl
theorem s110_329 {l1 l2 l3 l4 l5 l6 l7 l8 l9 l10 l11 : AV} {l0 : Option Nat} {h : AH} : evL 110 329 [.inr (.inl l0), l1, l2, l3, l4, l5, l6, l7, l8, l9, l10, l11] [] h = evL 110 330 [.inr (.inl l0), l1, l2, l3, l4, l5, l6, l7, l8, l9, l10, l11] [.inr (.inl l0)] h := ev_go c110_329 rfl
set_option maxRecDepth 20000 in
theorem c110_330 : cd 110 330 = some (330, .aload_n 0, 1, 0, 0, 0) := rfl
theorem s110_330 {l1 l2 l3 l4 l5 l6 l7 l8 l9 l10 l11 s0 : AV} {l0 : Option Nat} {h : AH} : evL 110 330 [.inr (.inl l0), l1, l2, l3, l4, l5, l6, l7, l8, l9, l10, l11] [s0] h = evL 110 331 [.inr (.inl l0), l1, l2, l3, l4, l5, l6, l7, l8, l9, l10, l11] [.inr (.inl l0), s0] h := ev_go c110_330 rfl
set_option maxRecDepth 20000 in
theorem c110_331 : cd 110 331 = some (331, .invokevirtual 32, 3, 101, 0, 431) := rfl
theorem s110_331 {l0 l1 l2 l3 l4 l5 l6 l7 l8 l9 l10 l11 s1 : AV} {s0 : Nat} {M : Mem} {P : PMem} (hk : kd s0 = 7) : evL 110 331 [l0, l1, l2, l3, l4, l5, l6, l7, l8, l9, l10, l11] [Rf s0, s1] (Hp M P) = cont (evM 101 [Rf s0] (Hp M P)) (fun r h => evL 110 334 [l0, l1, l2, l3, l4, l5, l6, l7, l8, l9, l10, l11] (rl r [s1]) h) := e_callV (av' := []) (rest := [s1]) (c := 7) c110_331 rfl rfl rfl rfl rfl rfl rfl hk rfl
set_option maxRecDepth 20000 in
theorem c110_334 : cd 110 334 = some (334, .bipush 6, 2, 0, 0, 0) := rfl
theorem s110_334 {l0 l1 l2 l3 l4 l5 l6 l7 l8 l9 l10 l11 s0 s1 : AV} {h : AH} : evL 110 334 [l0, l1, l2, l3, l4, l5, l6, l7, l8, l9, l10, l11] [s0, s1] h = evL 110 336 [l0, l1, l2, l3, l4, l5, l6, l7, l8, l9, l10, l11] [I 6, s0, s1] h := ev_go c110_334 rfl
set_option maxRecDepth 20000 in
theorem c110_336 : cd 110 336 = some (336, .invokevirtual 23, 3, 97, 0, 406) := rfl
theorem s110_336 {l0 l1 l2 l3 l4 l5 l6 l7 l8 l9 l10 l11 : AV} {s0 s1 : Int} {s2 : Nat} {M : Mem} {P : PMem} (hk : kd s2 = 7) : evL 110 336 [l0, l1, l2, l3, l4, l5, l6, l7, l8, l9, l10, l11] [I s0, I s1, Rf s2] (Hp M P) = cont (evM 97 [Rf s2, I s1, I s0] (Hp M P)) (fun r h => evL 110 339 [l0, l1, l2, l3, l4, l5, l6, l7, l8, l9, l10, l11] (rl r []) h) := e_callV (av' := [I s1, I s0]) (rest := []) (c := 7) c110_336 rfl rfl rfl rfl rfl rfl rfl hk rfl
set_option maxRecDepth 20000 in
theorem c110_339 : cd 110 339 = some (339, .aload_n 0, 1, 0, 0, 0) := rfl
theorem s110_339 {l1 l2 l3 l4 l5 l6 l7 l8 l9 l10 l11 s0 : AV} {l0 : Option Nat} {h : AH} : evL 110 339 [.inr (.inl l0), l1, l2, l3, l4, l5, l6, l7, l8, l9, l10, l11] [s0] h = evL 110 340 [.inr (.inl l0), l1, l2, l3, l4, l5, l6, l7, l8, l9, l10, l11] [.inr (.inl l0), s0] h := ev_go c110_339 rfl
set_option maxRecDepth 20000 in
theorem c110_340 : cd 110 340 = some (340, .iload 11, 2, 0, 0, 0) := rfl
theorem s110_340 {l0 l1 l2 l3 l4 l5 l6 l7 l8 l9 l10 s0 s1 : AV} {l11 : Int} {h : AH} : evL 110 340 [l0, l1, l2, l3, l4, l5, l6, l7, l8, l9, l10, I l11] [s0, s1] h = evL 110 342 [l0, l1, l2, l3, l4, l5, l6, l7, l8, l9, l10, I l11] [I l11, s0, s1] h := ev_go c110_340 rfl
set_option maxRecDepth 20000 in
theorem c110_342 : cd 110 342 = some (342, .bipush 6, 2, 0, 0, 0) := rfl
theorem s110_342 {l0 l1 l2 l3 l4 l5 l6 l7 l8 l9 l10 l11 s0 s1 s2 : AV} {h : AH} : evL 110 342 [l0, l1, l2, l3, l4, l5, l6, l7, l8, l9, l10, l11] [s0, s1, s2] h = evL 110 344 [l0, l1, l2, l3, l4, l5, l6, l7, l8, l9, l10, l11] [I 6, s0, s1, s2] h := ev_go c110_342 rfl
set_option maxRecDepth 20000 in
theorem c110_344 : cd 110 344 = some (344, .invokevirtual 23, 3, 97, 0, 406) := rfl
theorem s110_344 {l0 l1 l2 l3 l4 l5 l6 l7 l8 l9 l10 l11 s3 : AV} {s0 s1 : Int} {s2 : Nat} {M : Mem} {P : PMem} (hk : kd s2 = 7) : evL 110 344 [l0, l1, l2, l3, l4, l5, l6, l7, l8, l9, l10, l11] [I s0, I s1, Rf s2, s3] (Hp M P) = cont (evM 97 [Rf s2, I s1, I s0] (Hp M P)) (fun r h => evL 110 347 [l0, l1, l2, l3, l4, l5, l6, l7, l8, l9, l10, l11] (rl r [s3]) h) := e_callV (av' := [I s1, I s0]) (rest := [s3]) (c := 7) c110_344 rfl rfl rfl rfl rfl rfl rfl hk rfl
set_option maxRecDepth 20000 in
theorem c110_347 : cd 110 347 = some (347, .if_icmp .lt 150, 3, 0, 0, 0) := rfl
theorem s110_347 {l0 l1 l2 l3 l4 l5 l6 l7 l8 l9 l10 l11 : AV} {s0 s1 : Int} {h : AH} : evL 110 347 [l0, l1, l2, l3, l4, l5, l6, l7, l8, l9, l10, l11] [I s0, I s1] h = if s1 < s0 then evL 110 497 [l0, l1, l2, l3, l4, l5, l6, l7, l8, l9, l10, l11] [] h else evL 110 350 [l0, l1, l2, l3, l4, l5, l6, l7, l8, l9, l10, l11] [] h := e_icmp_lt c110_347 rfl rfl
set_option maxRecDepth 20000 in
theorem c110_350 : cd 110 350 = some (350, .aload_n 0, 1, 0, 0, 0) := rfl
theorem s110_350 {l1 l2 l3 l4 l5 l6 l7 l8 l9 l10 l11 : AV} {l0 : Option Nat} {h : AH} : evL 110 350 [.inr (.inl l0), l1, l2, l3, l4, l5, l6, l7, l8, l9, l10, l11] [] h = evL 110 351 [.inr (.inl l0), l1, l2, l3, l4, l5, l6, l7, l8, l9, l10, l11] [.inr (.inl l0)] h := ev_go c110_350 rfl
set_option maxRecDepth 20000 in
theorem c110_351 : cd 110 351 = some (351, .iload 11, 2, 0, 0, 0) := rfl
theorem s110_351 {l0 l1 l2 l3 l4 l5 l6 l7 l8 l9 l10 s0 : AV} {l11 : Int} {h : AH} : evL 110 351 [l0, l1, l2, l3, l4, l5, l6, l7, l8, l9, l10, I l11] [s0] h = evL 110 353 [l0, l1, l2, l3, l4, l5, l6, l7, l8, l9, l10, I l11] [I l11, s0] h := ev_go c110_351 rfl
set_option maxRecDepth 20000 in
theorem c110_353 : cd 110 353 = some (353, .bipush 6, 2, 0, 0, 0) := rfl
theorem s110_353 {l0 l1 l2 l3 l4 l5 l6 l7 l8 l9 l10 l11 s0 s1 : AV} {h : AH} : evL 110 353 [l0, l1, l2, l3, l4, l5, l6, l7, l8, l9, l10, l11] [s0, s1] h = evL 110 355 [l0, l1, l2, l3, l4, l5, l6, l7, l8, l9, l10, l11] [I 6, s0, s1] h := ev_go c110_353 rfl
set_option maxRecDepth 20000 in
theorem c110_355 : cd 110 355 = some (355, .invokevirtual 23, 3, 97, 0, 406) := rfl
theorem s110_355 {l0 l1 l2 l3 l4 l5 l6 l7 l8 l9 l10 l11 : AV} {s0 s1 : Int} {s2 : Nat} {M : Mem} {P : PMem} (hk : kd s2 = 7) : evL 110 355 [l0, l1, l2, l3, l4, l5, l6, l7, l8, l9, l10, l11] [I s0, I s1, Rf s2] (Hp M P) = cont (evM 97 [Rf s2, I s1, I s0] (Hp M P)) (fun r h => evL 110 358 [l0, l1, l2, l3, l4, l5, l6, l7, l8, l9, l10, l11] (rl r []) h) := e_callV (av' := [I s1, I s0]) (rest := []) (c := 7) c110_355 rfl rfl rfl rfl rfl rfl rfl hk rfl
set_option maxRecDepth 20000 in
theorem c110_358 : cd 110 358 = some (358, .aload_n 0, 1, 0, 0, 0) := rfl
theorem s110_358 {l1 l2 l3 l4 l5 l6 l7 l8 l9 l10 l11 s0 : AV} {l0 : Option Nat} {h : AH} : evL 110 358 [.inr (.inl l0), l1, l2, l3, l4, l5, l6, l7, l8, l9, l10, l11] [s0] h = evL 110 359 [.inr (.inl l0), l1, l2, l3, l4, l5, l6, l7, l8, l9, l10, l11] [.inr (.inl l0), s0] h := ev_go c110_358 rfl
set_option maxRecDepth 20000 in
theorem c110_359 : cd 110 359 = some (359, .aload_n 0, 1, 0, 0, 0) := rfl
theorem s110_359 {l1 l2 l3 l4 l5 l6 l7 l8 l9 l10 l11 s0 s1 : AV} {l0 : Option Nat} {h : AH} : evL 110 359 [.inr (.inl l0), l1, l2, l3, l4, l5, l6, l7, l8, l9, l10, l11] [s0, s1] h = evL 110 360 [.inr (.inl l0), l1, l2, l3, l4, l5, l6, l7, l8, l9, l10, l11] [.inr (.inl l0), s0, s1] h := ev_go c110_359 rfl
set_option maxRecDepth 20000 in
theorem c110_360 : cd 110 360 = some (360, .invokevirtual 32, 3, 101, 0, 431) := rfl
theorem s110_360 {l0 l1 l2 l3 l4 l5 l6 l7 l8 l9 l10 l11 s1 s2 : AV} {s0 : Nat} {M : Mem} {P : PMem} (hk : kd s0 = 7) : evL 110 360 [l0, l1, l2, l3, l4, l5, l6, l7, l8, l9, l10, l11] [Rf s0, s1, s2] (Hp M P) = cont (evM 101 [Rf s0] (Hp M P)) (fun r h => evL 110 363 [l0, l1, l2, l3, l4, l5, l6, l7, l8, l9, l10, l11] (rl r [s1, s2]) h) := e_callV (av' := []) (rest := [s1, s2]) (c := 7) c110_360 rfl rfl rfl rfl rfl rfl rfl hk rfl
set_option maxRecDepth 20000 in
theorem c110_363 : cd 110 363 = some (363, .bipush 6, 2, 0, 0, 0) := rfl
theorem s110_363 {l0 l1 l2 l3 l4 l5 l6 l7 l8 l9 l10 l11 s0 s1 s2 : AV} {h : AH} : evL 110 363 [l0, l1, l2, l3, l4, l5, l6, l7, l8, l9, l10, l11] [s0, s1, s2] h = evL 110 365 [l0, l1, l2, l3, l4, l5, l6, l7, l8, l9, l10, l11] [I 6, s0, s1, s2] h := ev_go c110_363 rfl
set_option maxRecDepth 20000 in
theorem c110_365 : cd 110 365 = some (365, .invokevirtual 23, 3, 97, 0, 406) := rfl
theorem s110_365 {l0 l1 l2 l3 l4 l5 l6 l7 l8 l9 l10 l11 s3 : AV} {s0 s1 : Int} {s2 : Nat} {M : Mem} {P : PMem} (hk : kd s2 = 7) : evL 110 365 [l0, l1, l2, l3, l4, l5, l6, l7, l8, l9, l10, l11] [I s0, I s1, Rf s2, s3] (Hp M P) = cont (evM 97 [Rf s2, I s1, I s0] (Hp M P)) (fun r h => evL 110 368 [l0, l1, l2, l3, l4, l5, l6, l7, l8, l9, l10, l11] (rl r [s3]) h) := e_callV (av' := [I s1, I s0]) (rest := [s3]) (c := 7) c110_365 rfl rfl rfl rfl rfl rfl rfl hk rfl
set_option maxRecDepth 20000 in
theorem c110_368 : cd 110 368 = some (368, .if_icmp .lt 12, 3, 0, 0, 0) := rfl
theorem s110_368 {l0 l1 l2 l3 l4 l5 l6 l7 l8 l9 l10 l11 : AV} {s0 s1 : Int} {h : AH} : evL 110 368 [l0, l1, l2, l3, l4, l5, l6, l7, l8, l9, l10, l11] [I s0, I s1] h = if s1 < s0 then evL 110 380 [l0, l1, l2, l3, l4, l5, l6, l7, l8, l9, l10, l11] [] h else evL 110 371 [l0, l1, l2, l3, l4, l5, l6, l7, l8, l9, l10, l11] [] h := e_icmp_lt c110_368 rfl rfl
set_option maxRecDepth 20000 in
theorem c110_371 : cd 110 371 = some (371, .aload_n 0, 1, 0, 0, 0) := rfl
theorem s110_371 {l1 l2 l3 l4 l5 l6 l7 l8 l9 l10 l11 : AV} {l0 : Option Nat} {h : AH} : evL 110 371 [.inr (.inl l0), l1, l2, l3, l4, l5, l6, l7, l8, l9, l10, l11] [] h = evL 110 372 [.inr (.inl l0), l1, l2, l3, l4, l5, l6, l7, l8, l9, l10, l11] [.inr (.inl l0)] h := ev_go c110_371 rfl
set_option maxRecDepth 20000 in
theorem c110_372 : cd 110 372 = some (372, .invokevirtual 32, 3, 101, 0, 431) := rfl
theorem s110_372 {l0 l1 l2 l3 l4 l5 l6 l7 l8 l9 l10 l11 : AV} {s0 : Nat} {M : Mem} {P : PMem} (hk : kd s0 = 7) : evL 110 372 [l0, l1, l2, l3, l4, l5, l6, l7, l8, l9, l10, l11] [Rf s0] (Hp M P) = cont (evM 101 [Rf s0] (Hp M P)) (fun r h => evL 110 375 [l0, l1, l2, l3, l4, l5, l6, l7, l8, l9, l10, l11] (rl r []) h) := e_callV (av' := []) (rest := []) (c := 7) c110_372 rfl rfl rfl rfl rfl rfl rfl hk rfl
set_option maxRecDepth 20000 in
theorem c110_375 : cd 110 375 = some (375, .iload 11, 2, 0, 0, 0) := rfl
theorem s110_375 {l0 l1 l2 l3 l4 l5 l6 l7 l8 l9 l10 s0 : AV} {l11 : Int} {h : AH} : evL 110 375 [l0, l1, l2, l3, l4, l5, l6, l7, l8, l9, l10, I l11] [s0] h = evL 110 377 [l0, l1, l2, l3, l4, l5, l6, l7, l8, l9, l10, I l11] [I l11, s0] h := ev_go c110_375 rfl
set_option maxRecDepth 20000 in
theorem c110_377 : cd 110 377 = some (377, .if_icmp .gt 120, 3, 0, 0, 0) := rfl
theorem s110_377 {l0 l1 l2 l3 l4 l5 l6 l7 l8 l9 l10 l11 : AV} {s0 s1 : Int} {h : AH} : evL 110 377 [l0, l1, l2, l3, l4, l5, l6, l7, l8, l9, l10, l11] [I s0, I s1] h = if s0 < s1 then evL 110 497 [l0, l1, l2, l3, l4, l5, l6, l7, l8, l9, l10, l11] [] h else evL 110 380 [l0, l1, l2, l3, l4, l5, l6, l7, l8, l9, l10, l11] [] h := e_icmp_gt c110_377 rfl rfl
set_option maxRecDepth 20000 in
theorem c110_380 : cd 110 380 = some (380, .aload_n 0, 1, 0, 0, 0) := rfl
theorem s110_380 {l1 l2 l3 l4 l5 l6 l7 l8 l9 l10 l11 : AV} {l0 : Option Nat} {h : AH} : evL 110 380 [.inr (.inl l0), l1, l2, l3, l4, l5, l6, l7, l8, l9, l10, l11] [] h = evL 110 381 [.inr (.inl l0), l1, l2, l3, l4, l5, l6, l7, l8, l9, l10, l11] [.inr (.inl l0)] h := ev_go c110_380 rfl
set_option maxRecDepth 20000 in
theorem c110_381 : cd 110 381 = some (381, .iload 11, 2, 0, 0, 0) := rfl
theorem s110_381 {l0 l1 l2 l3 l4 l5 l6 l7 l8 l9 l10 s0 : AV} {l11 : Int} {h : AH} : evL 110 381 [l0, l1, l2, l3, l4, l5, l6, l7, l8, l9, l10, I l11] [s0] h = evL 110 383 [l0, l1, l2, l3, l4, l5, l6, l7, l8, l9, l10, I l11] [I l11, s0] h := ev_go c110_381 rfl
set_option maxRecDepth 20000 in
theorem c110_383 : cd 110 383 = some (383, .iconst 3, 1, 0, 0, 0) := rfl
theorem s110_383 {l0 l1 l2 l3 l4 l5 l6 l7 l8 l9 l10 l11 s0 s1 : AV} {h : AH} : evL 110 383 [l0, l1, l2, l3, l4, l5, l6, l7, l8, l9, l10, l11] [s0, s1] h = evL 110 384 [l0, l1, l2, l3, l4, l5, l6, l7, l8, l9, l10, l11] [I 3, s0, s1] h := ev_go c110_383 rfl
set_option maxRecDepth 20000 in
theorem c110_384 : cd 110 384 = some (384, .invokevirtual 23, 3, 97, 0, 406) := rfl
theorem s110_384 {l0 l1 l2 l3 l4 l5 l6 l7 l8 l9 l10 l11 : AV} {s0 s1 : Int} {s2 : Nat} {M : Mem} {P : PMem} (hk : kd s2 = 7) : evL 110 384 [l0, l1, l2, l3, l4, l5, l6, l7, l8, l9, l10, l11] [I s0, I s1, Rf s2] (Hp M P) = cont (evM 97 [Rf s2, I s1, I s0] (Hp M P)) (fun r h => evL 110 387 [l0, l1, l2, l3, l4, l5, l6, l7, l8, l9, l10, l11] (rl r []) h) := e_callV (av' := [I s1, I s0]) (rest := []) (c := 7) c110_384 rfl rfl rfl rfl rfl rfl rfl hk rfl
set_option maxRecDepth 20000 in
theorem c110_387 : cd 110 387 = some (387, .bipush 6, 2, 0, 0, 0) := rfl
theorem s110_387 {l0 l1 l2 l3 l4 l5 l6 l7 l8 l9 l10 l11 s0 : AV} {h : AH} : evL 110 387 [l0, l1, l2, l3, l4, l5, l6, l7, l8, l9, l10, l11] [s0] h = evL 110 389 [l0, l1, l2, l3, l4, l5, l6, l7, l8, l9, l10, l11] [I 6, s0] h := ev_go c110_387 rfl
set_option maxRecDepth 20000 in
theorem c110_389 : cd 110 389 = some (389, .if_icmp .gt 108, 3, 0, 0, 0) := rfl
theorem s110_389 {l0 l1 l2 l3 l4 l5 l6 l7 l8 l9 l10 l11 : AV} {s0 s1 : Int} {h : AH} : evL 110 389 [l0, l1, l2, l3, l4, l5, l6, l7, l8, l9, l10, l11] [I s0, I s1] h = if s0 < s1 then evL 110 497 [l0, l1, l2, l3, l4, l5, l6, l7, l8, l9, l10, l11] [] h else evL 110 392 [l0, l1, l2, l3, l4, l5, l6, l7, l8, l9, l10, l11] [] h := e_icmp_gt c110_389 rfl rfl
set_option maxRecDepth 20000 in
theorem c110_392 : cd 110 392 = some (392, .aload_n 0, 1, 0, 0, 0) := rfl
theorem s110_392 {l1 l2 l3 l4 l5 l6 l7 l8 l9 l10 l11 : AV} {l0 : Option Nat} {h : AH} : evL 110 392 [.inr (.inl l0), l1, l2, l3, l4, l5, l6, l7, l8, l9, l10, l11] [] h = evL 110 393 [.inr (.inl l0), l1, l2, l3, l4, l5, l6, l7, l8, l9, l10, l11] [.inr (.inl l0)] h := ev_go c110_392 rfl
set_option maxRecDepth 20000 in
theorem c110_393 : cd 110 393 = some (393, .iload 11, 2, 0, 0, 0) := rfl
theorem s110_393 {l0 l1 l2 l3 l4 l5 l6 l7 l8 l9 l10 s0 : AV} {l11 : Int} {h : AH} : evL 110 393 [l0, l1, l2, l3, l4, l5, l6, l7, l8, l9, l10, I l11] [s0] h = evL 110 395 [l0, l1, l2, l3, l4, l5, l6, l7, l8, l9, l10, I l11] [I l11, s0] h := ev_go c110_393 rfl
set_option maxRecDepth 20000 in
theorem c110_395 : cd 110 395 = some (395, .bipush 8, 2, 0, 0, 0) := rfl
theorem s110_395 {l0 l1 l2 l3 l4 l5 l6 l7 l8 l9 l10 l11 s0 s1 : AV} {h : AH} : evL 110 395 [l0, l1, l2, l3, l4, l5, l6, l7, l8, l9, l10, l11] [s0, s1] h = evL 110 397 [l0, l1, l2, l3, l4, l5, l6, l7, l8, l9, l10, l11] [I 8, s0, s1] h := ev_go c110_395 rfl
set_option maxRecDepth 20000 in
theorem c110_397 : cd 110 397 = some (397, .invokevirtual 23, 3, 97, 0, 406) := rfl
theorem s110_397 {l0 l1 l2 l3 l4 l5 l6 l7 l8 l9 l10 l11 : AV} {s0 s1 : Int} {s2 : Nat} {M : Mem} {P : PMem} (hk : kd s2 = 7) : evL 110 397 [l0, l1, l2, l3, l4, l5, l6, l7, l8, l9, l10, l11] [I s0, I s1, Rf s2] (Hp M P) = cont (evM 97 [Rf s2, I s1, I s0] (Hp M P)) (fun r h => evL 110 400 [l0, l1, l2, l3, l4, l5, l6, l7, l8, l9, l10, l11] (rl r []) h) := e_callV (av' := [I s1, I s0]) (rest := []) (c := 7) c110_397 rfl rfl rfl rfl rfl rfl rfl hk rfl
set_option maxRecDepth 20000 in
theorem c110_400 : cd 110 400 = some (400, .aload_n 0, 1, 0, 0, 0) := rfl
theorem s110_400 {l1 l2 l3 l4 l5 l6 l7 l8 l9 l10 l11 s0 : AV} {l0 : Option Nat} {h : AH} : evL 110 400 [.inr (.inl l0), l1, l2, l3, l4, l5, l6, l7, l8, l9, l10, l11] [s0] h = evL 110 401 [.inr (.inl l0), l1, l2, l3, l4, l5, l6, l7, l8, l9, l10, l11] [.inr (.inl l0), s0] h := ev_go c110_400 rfl
set_option maxRecDepth 20000 in
theorem c110_401 : cd 110 401 = some (401, .iconst 2, 1, 0, 0, 0) := rfl
theorem s110_401 {l0 l1 l2 l3 l4 l5 l6 l7 l8 l9 l10 l11 s0 s1 : AV} {h : AH} : evL 110 401 [l0, l1, l2, l3, l4, l5, l6, l7, l8, l9, l10, l11] [s0, s1] h = evL 110 402 [l0, l1, l2, l3, l4, l5, l6, l7, l8, l9, l10, l11] [I 2, s0, s1] h := ev_go c110_401 rfl
set_option maxRecDepth 20000 in
theorem c110_402 : cd 110 402 = some (402, .invokevirtual 13, 3, 100, 0, 258) := rfl
theorem s110_402 {l0 l1 l2 l3 l4 l5 l6 l7 l8 l9 l10 l11 s2 : AV} {s0 : Int} {s1 : Nat} {M : Mem} {P : PMem} (hk : kd s1 = 7) : evL 110 402 [l0, l1, l2, l3, l4, l5, l6, l7, l8, l9, l10, l11] [I s0, Rf s1, s2] (Hp M P) = cont (evM 100 [Rf s1, I s0] (Hp M P)) (fun r h => evL 110 405 [l0, l1, l2, l3, l4, l5, l6, l7, l8, l9, l10, l11] (rl r [s2]) h) := e_callV (av' := [I s0]) (rest := [s2]) (c := 7) c110_402 rfl rfl rfl rfl rfl rfl rfl hk rfl
set_option maxRecDepth 20000 in
theorem c110_405 : cd 110 405 = some (405, .if_icmp .gt 92, 3, 0, 0, 0) := rfl
theorem s110_405 {l0 l1 l2 l3 l4 l5 l6 l7 l8 l9 l10 l11 : AV} {s0 s1 : Int} {h : AH} : evL 110 405 [l0, l1, l2, l3, l4, l5, l6, l7, l8, l9, l10, l11] [I s0, I s1] h = if s0 < s1 then evL 110 497 [l0, l1, l2, l3, l4, l5, l6, l7, l8, l9, l10, l11] [] h else evL 110 408 [l0, l1, l2, l3, l4, l5, l6, l7, l8, l9, l10, l11] [] h := e_icmp_gt c110_405 rfl rfl
set_option maxRecDepth 20000 in
theorem c110_408 : cd 110 408 = some (408, .aload_n 0, 1, 0, 0, 0) := rfl
theorem s110_408 {l1 l2 l3 l4 l5 l6 l7 l8 l9 l10 l11 : AV} {l0 : Option Nat} {h : AH} : evL 110 408 [.inr (.inl l0), l1, l2, l3, l4, l5, l6, l7, l8, l9, l10, l11] [] h = evL 110 409 [.inr (.inl l0), l1, l2, l3, l4, l5, l6, l7, l8, l9, l10, l11] [.inr (.inl l0)] h := ev_go c110_408 rfl
set_option maxRecDepth 20000 in
theorem c110_409 : cd 110 409 = some (409, .iload 11, 2, 0, 0, 0) := rfl
theorem s110_409 {l0 l1 l2 l3 l4 l5 l6 l7 l8 l9 l10 s0 : AV} {l11 : Int} {h : AH} : evL 110 409 [l0, l1, l2, l3, l4, l5, l6, l7, l8, l9, l10, I l11] [s0] h = evL 110 411 [l0, l1, l2, l3, l4, l5, l6, l7, l8, l9, l10, I l11] [I l11, s0] h := ev_go c110_409 rfl
set_option maxRecDepth 20000 in
theorem c110_411 : cd 110 411 = some (411, .iconst 0, 1, 0, 0, 0) := rfl
theorem s110_411 {l0 l1 l2 l3 l4 l5 l6 l7 l8 l9 l10 l11 s0 s1 : AV} {h : AH} : evL 110 411 [l0, l1, l2, l3, l4, l5, l6, l7, l8, l9, l10, l11] [s0, s1] h = evL 110 412 [l0, l1, l2, l3, l4, l5, l6, l7, l8, l9, l10, l11] [I 0, s0, s1] h := ev_go c110_411 rfl
set_option maxRecDepth 20000 in
theorem c110_412 : cd 110 412 = some (412, .invokevirtual 23, 3, 97, 0, 406) := rfl
theorem s110_412 {l0 l1 l2 l3 l4 l5 l6 l7 l8 l9 l10 l11 : AV} {s0 s1 : Int} {s2 : Nat} {M : Mem} {P : PMem} (hk : kd s2 = 7) : evL 110 412 [l0, l1, l2, l3, l4, l5, l6, l7, l8, l9, l10, l11] [I s0, I s1, Rf s2] (Hp M P) = cont (evM 97 [Rf s2, I s1, I s0] (Hp M P)) (fun r h => evL 110 415 [l0, l1, l2, l3, l4, l5, l6, l7, l8, l9, l10, l11] (rl r []) h) := e_callV (av' := [I s1, I s0]) (rest := []) (c := 7) c110_412 rfl rfl rfl rfl rfl rfl rfl hk rfl
set_option maxRecDepth 20000 in
theorem c110_415 : cd 110 415 = some (415, .ifCond .eq 20, 3, 0, 0, 0) := rfl
theorem s110_415 {l0 l1 l2 l3 l4 l5 l6 l7 l8 l9 l10 l11 : AV} {s0 : Int} {h : AH} : evL 110 415 [l0, l1, l2, l3, l4, l5, l6, l7, l8, l9, l10, l11] [I s0] h = if s0 = 0 then evL 110 435 [l0, l1, l2, l3, l4, l5, l6, l7, l8, l9, l10, l11] [] h else evL 110 418 [l0, l1, l2, l3, l4, l5, l6, l7, l8, l9, l10, l11] [] h := e_if_eq c110_415 rfl rfl
set_option maxRecDepth 20000 in
theorem c110_418 : cd 110 418 = some (418, .aload_n 0, 1, 0, 0, 0) := rfl
theorem s110_418 {l1 l2 l3 l4 l5 l6 l7 l8 l9 l10 l11 : AV} {l0 : Option Nat} {h : AH} : evL 110 418 [.inr (.inl l0), l1, l2, l3, l4, l5, l6, l7, l8, l9, l10, l11] [] h = evL 110 419 [.inr (.inl l0), l1, l2, l3, l4, l5, l6, l7, l8, l9, l10, l11] [.inr (.inl l0)] h := ev_go c110_418 rfl
set_option maxRecDepth 20000 in
theorem c110_419 : cd 110 419 = some (419, .aload_n 0, 1, 0, 0, 0) := rfl
theorem s110_419 {l1 l2 l3 l4 l5 l6 l7 l8 l9 l10 l11 s0 : AV} {l0 : Option Nat} {h : AH} : evL 110 419 [.inr (.inl l0), l1, l2, l3, l4, l5, l6, l7, l8, l9, l10, l11] [s0] h = evL 110 420 [.inr (.inl l0), l1, l2, l3, l4, l5, l6, l7, l8, l9, l10, l11] [.inr (.inl l0), s0] h := ev_go c110_419 rfl
set_option maxRecDepth 20000 in
theorem c110_420 : cd 110 420 = some (420, .iload 11, 2, 0, 0, 0) := rfl
theorem s110_420 {l0 l1 l2 l3 l4 l5 l6 l7 l8 l9 l10 s0 s1 : AV} {l11 : Int} {h : AH} : evL 110 420 [l0, l1, l2, l3, l4, l5, l6, l7, l8, l9, l10, I l11] [s0, s1] h = evL 110 422 [l0, l1, l2, l3, l4, l5, l6, l7, l8, l9, l10, I l11] [I l11, s0, s1] h := ev_go c110_420 rfl
set_option maxRecDepth 20000 in
theorem c110_422 : cd 110 422 = some (422, .iconst 0, 1, 0, 0, 0) := rfl
theorem s110_422 {l0 l1 l2 l3 l4 l5 l6 l7 l8 l9 l10 l11 s0 s1 s2 : AV} {h : AH} : evL 110 422 [l0, l1, l2, l3, l4, l5, l6, l7, l8, l9, l10, l11] [s0, s1, s2] h = evL 110 423 [l0, l1, l2, l3, l4, l5, l6, l7, l8, l9, l10, l11] [I 0, s0, s1, s2] h := ev_go c110_422 rfl
set_option maxRecDepth 20000 in
theorem c110_423 : cd 110 423 = some (423, .invokevirtual 23, 3, 97, 0, 406) := rfl
theorem s110_423 {l0 l1 l2 l3 l4 l5 l6 l7 l8 l9 l10 l11 s3 : AV} {s0 s1 : Int} {s2 : Nat} {M : Mem} {P : PMem} (hk : kd s2 = 7) : evL 110 423 [l0, l1, l2, l3, l4, l5, l6, l7, l8, l9, l10, l11] [I s0, I s1, Rf s2, s3] (Hp M P) = cont (evM 97 [Rf s2, I s1, I s0] (Hp M P)) (fun r h => evL 110 426 [l0, l1, l2, l3, l4, l5, l6, l7, l8, l9, l10, l11] (rl r [s3]) h) := e_callV (av' := [I s1, I s0]) (rest := [s3]) (c := 7) c110_423 rfl rfl rfl rfl rfl rfl rfl hk rfl
set_option maxRecDepth 20000 in
theorem c110_426 : cd 110 426 = some (426, .iconst 2, 1, 0, 0, 0) := rfl
theorem s110_426 {l0 l1 l2 l3 l4 l5 l6 l7 l8 l9 l10 l11 s0 s1 : AV} {h : AH} : evL 110 426 [l0, l1, l2, l3, l4, l5, l6, l7, l8, l9, l10, l11] [s0, s1] h = evL 110 427 [l0, l1, l2, l3, l4, l5, l6, l7, l8, l9, l10, l11] [I 2, s0, s1] h := ev_go c110_426 rfl
set_option maxRecDepth 20000 in
theorem c110_427 : cd 110 427 = some (427, .invokevirtual 19, 3, 99, 0, 392) := rfl
theorem s110_427 {l0 l1 l2 l3 l4 l5 l6 l7 l8 l9 l10 l11 : AV} {s0 s1 : Int} {s2 : Nat} {M : Mem} {P : PMem} (hk : kd s2 = 7) : evL 110 427 [l0, l1, l2, l3, l4, l5, l6, l7, l8, l9, l10, l11] [I s0, I s1, Rf s2] (Hp M P) = cont (evM 99 [Rf s2, I s1, I s0] (Hp M P)) (fun r h => evL 110 430 [l0, l1, l2, l3, l4, l5, l6, l7, l8, l9, l10, l11] (rl r []) h) := e_callV (av' := [I s1, I s0]) (rest := []) (c := 7) c110_427 rfl rfl rfl rfl rfl rfl rfl hk rfl
set_option maxRecDepth 20000 in
theorem c110_430 : cd 110 430 = some (430, .iload 11, 2, 0, 0, 0) := rfl
theorem s110_430 {l0 l1 l2 l3 l4 l5 l6 l7 l8 l9 l10 s0 : AV} {l11 : Int} {h : AH} : evL 110 430 [l0, l1, l2, l3, l4, l5, l6, l7, l8, l9, l10, I l11] [s0] h = evL 110 432 [l0, l1, l2, l3, l4, l5, l6, l7, l8, l9, l10, I l11] [I l11, s0] h := ev_go c110_430 rfl
set_option maxRecDepth 20000 in
theorem c110_432 : cd 110 432 = some (432, .if_icmp .ne 65, 3, 0, 0, 0) := rfl
theorem s110_432 {l0 l1 l2 l3 l4 l5 l6 l7 l8 l9 l10 l11 : AV} {s0 s1 : Int} {h : AH} : evL 110 432 [l0, l1, l2, l3, l4, l5, l6, l7, l8, l9, l10, l11] [I s0, I s1] h = if s1 = s0 then evL 110 435 [l0, l1, l2, l3, l4, l5, l6, l7, l8, l9, l10, l11] [] h else evL 110 497 [l0, l1, l2, l3, l4, l5, l6, l7, l8, l9, l10, l11] [] h := e_icmp_ne c110_432 rfl rfl
set_option maxRecDepth 20000 in
theorem c110_435 : cd 110 435 = some (435, .iload 9, 2, 0, 0, 0) := rfl
theorem s110_435 {l0 l1 l2 l3 l4 l5 l6 l7 l8 l10 l11 : AV} {l9 : Int} {h : AH} : evL 110 435 [l0, l1, l2, l3, l4, l5, l6, l7, l8, I l9, l10, l11] [] h = evL 110 437 [l0, l1, l2, l3, l4, l5, l6, l7, l8, I l9, l10, l11] [I l9] h := ev_go c110_435 rfl
set_option maxRecDepth 20000 in
theorem c110_437 : cd 110 437 = some (437, .ifCond .eq 37, 3, 0, 0, 0) := rfl
theorem s110_437 {l0 l1 l2 l3 l4 l5 l6 l7 l8 l9 l10 l11 : AV} {s0 : Int} {h : AH} : evL 110 437 [l0, l1, l2, l3, l4, l5, l6, l7, l8, l9, l10, l11] [I s0] h = if s0 = 0 then evL 110 474 [l0, l1, l2, l3, l4, l5, l6, l7, l8, l9, l10, l11] [] h else evL 110 440 [l0, l1, l2, l3, l4, l5, l6, l7, l8, l9, l10, l11] [] h := e_if_eq c110_437 rfl rfl
set_option maxRecDepth 20000 in
theorem c110_440 : cd 110 440 = some (440, .aload_n 0, 1, 0, 0, 0) := rfl
theorem s110_440 {l1 l2 l3 l4 l5 l6 l7 l8 l9 l10 l11 : AV} {l0 : Option Nat} {h : AH} : evL 110 440 [.inr (.inl l0), l1, l2, l3, l4, l5, l6, l7, l8, l9, l10, l11] [] h = evL 110 441 [.inr (.inl l0), l1, l2, l3, l4, l5, l6, l7, l8, l9, l10, l11] [.inr (.inl l0)] h := ev_go c110_440 rfl
set_option maxRecDepth 20000 in
theorem c110_441 : cd 110 441 = some (441, .iload 11, 2, 0, 0, 0) := rfl
theorem s110_441 {l0 l1 l2 l3 l4 l5 l6 l7 l8 l9 l10 s0 : AV} {l11 : Int} {h : AH} : evL 110 441 [l0, l1, l2, l3, l4, l5, l6, l7, l8, l9, l10, I l11] [s0] h = evL 110 443 [l0, l1, l2, l3, l4, l5, l6, l7, l8, l9, l10, I l11] [I l11, s0] h := ev_go c110_441 rfl
set_option maxRecDepth 20000 in
theorem c110_443 : cd 110 443 = some (443, .iconst 0, 1, 0, 0, 0) := rfl
theorem s110_443 {l0 l1 l2 l3 l4 l5 l6 l7 l8 l9 l10 l11 s0 s1 : AV} {h : AH} : evL 110 443 [l0, l1, l2, l3, l4, l5, l6, l7, l8, l9, l10, l11] [s0, s1] h = evL 110 444 [l0, l1, l2, l3, l4, l5, l6, l7, l8, l9, l10, l11] [I 0, s0, s1] h := ev_go c110_443 rfl
set_option maxRecDepth 20000 in
theorem c110_444 : cd 110 444 = some (444, .invokevirtual 23, 3, 97, 0, 406) := rfl
theorem s110_444 {l0 l1 l2 l3 l4 l5 l6 l7 l8 l9 l10 l11 : AV} {s0 s1 : Int} {s2 : Nat} {M : Mem} {P : PMem} (hk : kd s2 = 7) : evL 110 444 [l0, l1, l2, l3, l4, l5, l6, l7, l8, l9, l10, l11] [I s0, I s1, Rf s2] (Hp M P) = cont (evM 97 [Rf s2, I s1, I s0] (Hp M P)) (fun r h => evL 110 447 [l0, l1, l2, l3, l4, l5, l6, l7, l8, l9, l10, l11] (rl r []) h) := e_callV (av' := [I s1, I s0]) (rest := []) (c := 7) c110_444 rfl rfl rfl rfl rfl rfl rfl hk rfl
set_option maxRecDepth 20000 in
theorem c110_447 : cd 110 447 = some (447, .aload_n 0, 1, 0, 0, 0) := rfl
theorem s110_447 {l1 l2 l3 l4 l5 l6 l7 l8 l9 l10 l11 s0 : AV} {l0 : Option Nat} {h : AH} : evL 110 447 [.inr (.inl l0), l1, l2, l3, l4, l5, l6, l7, l8, l9, l10, l11] [s0] h = evL 110 448 [.inr (.inl l0), l1, l2, l3, l4, l5, l6, l7, l8, l9, l10, l11] [.inr (.inl l0), s0] h := ev_go c110_447 rfl
set_option maxRecDepth 20000 in
theorem c110_448 : cd 110 448 = some (448, .iload 11, 2, 0, 0, 0) := rfl
theorem s110_448 {l0 l1 l2 l3 l4 l5 l6 l7 l8 l9 l10 s0 s1 : AV} {l11 : Int} {h : AH} : evL 110 448 [l0, l1, l2, l3, l4, l5, l6, l7, l8, l9, l10, I l11] [s0, s1] h = evL 110 450 [l0, l1, l2, l3, l4, l5, l6, l7, l8, l9, l10, I l11] [I l11, s0, s1] h := ev_go c110_448 rfl
set_option maxRecDepth 20000 in
theorem c110_450 : cd 110 450 = some (450, .iconst 1, 1, 0, 0, 0) := rfl
theorem s110_450 {l0 l1 l2 l3 l4 l5 l6 l7 l8 l9 l10 l11 s0 s1 s2 : AV} {h : AH} : evL 110 450 [l0, l1, l2, l3, l4, l5, l6, l7, l8, l9, l10, l11] [s0, s1, s2] h = evL 110 451 [l0, l1, l2, l3, l4, l5, l6, l7, l8, l9, l10, l11] [I 1, s0, s1, s2] h := ev_go c110_450 rfl
set_option maxRecDepth 20000 in
theorem c110_451 : cd 110 451 = some (451, .invokevirtual 23, 3, 97, 0, 406) := rfl
theorem s110_451 {l0 l1 l2 l3 l4 l5 l6 l7 l8 l9 l10 l11 s3 : AV} {s0 s1 : Int} {s2 : Nat} {M : Mem} {P : PMem} (hk : kd s2 = 7) : evL 110 451 [l0, l1, l2, l3, l4, l5, l6, l7, l8, l9, l10, l11] [I s0, I s1, Rf s2, s3] (Hp M P) = cont (evM 97 [Rf s2, I s1, I s0] (Hp M P)) (fun r h => evL 110 454 [l0, l1, l2, l3, l4, l5, l6, l7, l8, l9, l10, l11] (rl r [s3]) h) := e_callV (av' := [I s1, I s0]) (rest := [s3]) (c := 7) c110_451 rfl rfl rfl rfl rfl rfl rfl hk rfl
set_option maxRecDepth 20000 in
theorem c110_454 : cd 110 454 = some (454, .iadd, 1, 0, 0, 0) := rfl
theorem s110_454 {l0 l1 l2 l3 l4 l5 l6 l7 l8 l9 l10 l11 : AV} {s0 s1 : Int} {h : AH} : evL 110 454 [l0, l1, l2, l3, l4, l5, l6, l7, l8, l9, l10, l11] [I s0, I s1] h = evL 110 455 [l0, l1, l2, l3, l4, l5, l6, l7, l8, l9, l10, l11] [I (ad s1 s0)] h := ev_go c110_454 rfl
set_option maxRecDepth 20000 in
theorem c110_455 : cd 110 455 = some (455, .aload_n 0, 1, 0, 0, 0) := rfl
theorem s110_455 {l1 l2 l3 l4 l5 l6 l7 l8 l9 l10 l11 s0 : AV} {l0 : Option Nat} {h : AH} : evL 110 455 [.inr (.inl l0), l1, l2, l3, l4, l5, l6, l7, l8, l9, l10, l11] [s0] h = evL 110 456 [.inr (.inl l0), l1, l2, l3, l4, l5, l6, l7, l8, l9, l10, l11] [.inr (.inl l0), s0] h := ev_go c110_455 rfl
set_option maxRecDepth 20000 in
theorem c110_456 : cd 110 456 = some (456, .iload 11, 2, 0, 0, 0) := rfl
theorem s110_456 {l0 l1 l2 l3 l4 l5 l6 l7 l8 l9 l10 s0 s1 : AV} {l11 : Int} {h : AH} : evL 110 456 [l0, l1, l2, l3, l4, l5, l6, l7, l8, l9, l10, I l11] [s0, s1] h = evL 110 458 [l0, l1, l2, l3, l4, l5, l6, l7, l8, l9, l10, I l11] [I l11, s0, s1] h := ev_go c110_456 rfl
set_option maxRecDepth 20000 in
theorem c110_458 : cd 110 458 = some (458, .iconst 2, 1, 0, 0, 0) := rfl
theorem s110_458 {l0 l1 l2 l3 l4 l5 l6 l7 l8 l9 l10 l11 s0 s1 s2 : AV} {h : AH} : evL 110 458 [l0, l1, l2, l3, l4, l5, l6, l7, l8, l9, l10, l11] [s0, s1, s2] h = evL 110 459 [l0, l1, l2, l3, l4, l5, l6, l7, l8, l9, l10, l11] [I 2, s0, s1, s2] h := ev_go c110_458 rfl
set_option maxRecDepth 20000 in
theorem c110_459 : cd 110 459 = some (459, .invokevirtual 23, 3, 97, 0, 406) := rfl
theorem s110_459 {l0 l1 l2 l3 l4 l5 l6 l7 l8 l9 l10 l11 s3 : AV} {s0 s1 : Int} {s2 : Nat} {M : Mem} {P : PMem} (hk : kd s2 = 7) : evL 110 459 [l0, l1, l2, l3, l4, l5, l6, l7, l8, l9, l10, l11] [I s0, I s1, Rf s2, s3] (Hp M P) = cont (evM 97 [Rf s2, I s1, I s0] (Hp M P)) (fun r h => evL 110 462 [l0, l1, l2, l3, l4, l5, l6, l7, l8, l9, l10, l11] (rl r [s3]) h) := e_callV (av' := [I s1, I s0]) (rest := [s3]) (c := 7) c110_459 rfl rfl rfl rfl rfl rfl rfl hk rfl
set_option maxRecDepth 20000 in
theorem c110_462 : cd 110 462 = some (462, .iadd, 1, 0, 0, 0) := rfl
theorem s110_462 {l0 l1 l2 l3 l4 l5 l6 l7 l8 l9 l10 l11 : AV} {s0 s1 : Int} {h : AH} : evL 110 462 [l0, l1, l2, l3, l4, l5, l6, l7, l8, l9, l10, l11] [I s0, I s1] h = evL 110 463 [l0, l1, l2, l3, l4, l5, l6, l7, l8, l9, l10, l11] [I (ad s1 s0)] h := ev_go c110_462 rfl
set_option maxRecDepth 20000 in
theorem c110_463 : cd 110 463 = some (463, .aload_n 0, 1, 0, 0, 0) := rfl
theorem s110_463 {l1 l2 l3 l4 l5 l6 l7 l8 l9 l10 l11 s0 : AV} {l0 : Option Nat} {h : AH} : evL 110 463 [.inr (.inl l0), l1, l2, l3, l4, l5, l6, l7, l8, l9, l10, l11] [s0] h = evL 110 464 [.inr (.inl l0), l1, l2, l3, l4, l5, l6, l7, l8, l9, l10, l11] [.inr (.inl l0), s0] h := ev_go c110_463 rfl
set_option maxRecDepth 20000 in
theorem c110_464 : cd 110 464 = some (464, .iload 11, 2, 0, 0, 0) := rfl
theorem s110_464 {l0 l1 l2 l3 l4 l5 l6 l7 l8 l9 l10 s0 s1 : AV} {l11 : Int} {h : AH} : evL 110 464 [l0, l1, l2, l3, l4, l5, l6, l7, l8, l9, l10, I l11] [s0, s1] h = evL 110 466 [l0, l1, l2, l3, l4, l5, l6, l7, l8, l9, l10, I l11] [I l11, s0, s1] h := ev_go c110_464 rfl
set_option maxRecDepth 20000 in
theorem c110_466 : cd 110 466 = some (466, .iconst 3, 1, 0, 0, 0) := rfl
theorem s110_466 {l0 l1 l2 l3 l4 l5 l6 l7 l8 l9 l10 l11 s0 s1 s2 : AV} {h : AH} : evL 110 466 [l0, l1, l2, l3, l4, l5, l6, l7, l8, l9, l10, l11] [s0, s1, s2] h = evL 110 467 [l0, l1, l2, l3, l4, l5, l6, l7, l8, l9, l10, l11] [I 3, s0, s1, s2] h := ev_go c110_466 rfl
set_option maxRecDepth 20000 in
theorem c110_467 : cd 110 467 = some (467, .invokevirtual 23, 3, 97, 0, 406) := rfl
theorem s110_467 {l0 l1 l2 l3 l4 l5 l6 l7 l8 l9 l10 l11 s3 : AV} {s0 s1 : Int} {s2 : Nat} {M : Mem} {P : PMem} (hk : kd s2 = 7) : evL 110 467 [l0, l1, l2, l3, l4, l5, l6, l7, l8, l9, l10, l11] [I s0, I s1, Rf s2, s3] (Hp M P) = cont (evM 97 [Rf s2, I s1, I s0] (Hp M P)) (fun r h => evL 110 470 [l0, l1, l2, l3, l4, l5, l6, l7, l8, l9, l10, l11] (rl r [s3]) h) := e_callV (av' := [I s1, I s0]) (rest := [s3]) (c := 7) c110_467 rfl rfl rfl rfl rfl rfl rfl hk rfl
set_option maxRecDepth 20000 in
theorem c110_470 : cd 110 470 = some (470, .iadd, 1, 0, 0, 0) := rfl
theorem s110_470 {l0 l1 l2 l3 l4 l5 l6 l7 l8 l9 l10 l11 : AV} {s0 s1 : Int} {h : AH} : evL 110 470 [l0, l1, l2, l3, l4, l5, l6, l7, l8, l9, l10, l11] [I s0, I s1] h = evL 110 471 [l0, l1, l2, l3, l4, l5, l6, l7, l8, l9, l10, l11] [I (ad s1 s0)] h := ev_go c110_470 rfl
set_option maxRecDepth 20000 in
theorem c110_471 : cd 110 471 = some (471, .ifCond .ne 26, 3, 0, 0, 0) := rfl
theorem s110_471 {l0 l1 l2 l3 l4 l5 l6 l7 l8 l9 l10 l11 : AV} {s0 : Int} {h : AH} : evL 110 471 [l0, l1, l2, l3, l4, l5, l6, l7, l8, l9, l10, l11] [I s0] h = if s0 = 0 then evL 110 474 [l0, l1, l2, l3, l4, l5, l6, l7, l8, l9, l10, l11] [] h else evL 110 497 [l0, l1, l2, l3, l4, l5, l6, l7, l8, l9, l10, l11] [] h := e_if_ne c110_471 rfl rfl
set_option maxRecDepth 20000 in
theorem c110_474 : cd 110 474 = some (474, .aload_n 0, 1, 0, 0, 0) := rfl
theorem s110_474 {l1 l2 l3 l4 l5 l6 l7 l8 l9 l10 l11 : AV} {l0 : Option Nat} {h : AH} : evL 110 474 [.inr (.inl l0), l1, l2, l3, l4, l5, l6, l7, l8, l9, l10, l11] [] h = evL 110 475 [.inr (.inl l0), l1, l2, l3, l4, l5, l6, l7, l8, l9, l10, l11] [.inr (.inl l0)] h := ev_go c110_474 rfl
set_option maxRecDepth 20000 in
theorem c110_475 : cd 110 475 = some (475, .iload 11, 2, 0, 0, 0) := rfl
theorem s110_475 {l0 l1 l2 l3 l4 l5 l6 l7 l8 l9 l10 s0 : AV} {l11 : Int} {h : AH} : evL 110 475 [l0, l1, l2, l3, l4, l5, l6, l7, l8, l9, l10, I l11] [s0] h = evL 110 477 [l0, l1, l2, l3, l4, l5, l6, l7, l8, l9, l10, I l11] [I l11, s0] h := ev_go c110_475 rfl
set_option maxRecDepth 20000 in
theorem c110_477 : cd 110 477 = some (477, .aload_n 0, 1, 0, 0, 0) := rfl
theorem s110_477 {l1 l2 l3 l4 l5 l6 l7 l8 l9 l10 l11 s0 s1 : AV} {l0 : Option Nat} {h : AH} : evL 110 477 [.inr (.inl l0), l1, l2, l3, l4, l5, l6, l7, l8, l9, l10, l11] [s0, s1] h = evL 110 478 [.inr (.inl l0), l1, l2, l3, l4, l5, l6, l7, l8, l9, l10, l11] [.inr (.inl l0), s0, s1] h := ev_go c110_477 rfl
set_option maxRecDepth 20000 in
theorem c110_478 : cd 110 478 = some (478, .iload 11, 2, 0, 0, 0) := rfl
theorem s110_478 {l0 l1 l2 l3 l4 l5 l6 l7 l8 l9 l10 s0 s1 s2 : AV} {l11 : Int} {h : AH} : evL 110 478 [l0, l1, l2, l3, l4, l5, l6, l7, l8, l9, l10, I l11] [s0, s1, s2] h = evL 110 480 [l0, l1, l2, l3, l4, l5, l6, l7, l8, l9, l10, I l11] [I l11, s0, s1, s2] h := ev_go c110_478 rfl
set_option maxRecDepth 20000 in
theorem c110_480 : cd 110 480 = some (480, .iconst 3, 1, 0, 0, 0) := rfl
theorem s110_480 {l0 l1 l2 l3 l4 l5 l6 l7 l8 l9 l10 l11 s0 s1 s2 s3 : AV} {h : AH} : evL 110 480 [l0, l1, l2, l3, l4, l5, l6, l7, l8, l9, l10, l11] [s0, s1, s2, s3] h = evL 110 481 [l0, l1, l2, l3, l4, l5, l6, l7, l8, l9, l10, l11] [I 3, s0, s1, s2, s3] h := ev_go c110_480 rfl
set_option maxRecDepth 20000 in
theorem c110_481 : cd 110 481 = some (481, .invokevirtual 23, 3, 97, 0, 406) := rfl
theorem s110_481 {l0 l1 l2 l3 l4 l5 l6 l7 l8 l9 l10 l11 s3 s4 : AV} {s0 s1 : Int} {s2 : Nat} {M : Mem} {P : PMem} (hk : kd s2 = 7) : evL 110 481 [l0, l1, l2, l3, l4, l5, l6, l7, l8, l9, l10, l11] [I s0, I s1, Rf s2, s3, s4] (Hp M P) = cont (evM 97 [Rf s2, I s1, I s0] (Hp M P)) (fun r h => evL 110 484 [l0, l1, l2, l3, l4, l5, l6, l7, l8, l9, l10, l11] (rl r [s3, s4]) h) := e_callV (av' := [I s1, I s0]) (rest := [s3, s4]) (c := 7) c110_481 rfl rfl rfl rfl rfl rfl rfl hk rfl
set_option maxRecDepth 20000 in
theorem c110_484 : cd 110 484 = some (484, .iconst 0, 1, 0, 0, 0) := rfl
theorem s110_484 {l0 l1 l2 l3 l4 l5 l6 l7 l8 l9 l10 l11 s0 s1 s2 : AV} {h : AH} : evL 110 484 [l0, l1, l2, l3, l4, l5, l6, l7, l8, l9, l10, l11] [s0, s1, s2] h = evL 110 485 [l0, l1, l2, l3, l4, l5, l6, l7, l8, l9, l10, l11] [I 0, s0, s1, s2] h := ev_go c110_484 rfl
set_option maxRecDepth 20000 in
theorem c110_485 : cd 110 485 = some (485, .invokevirtual 26, 3, 98, 0, 418) := rfl
theorem s110_485 {l0 l1 l2 l3 l4 l5 l6 l7 l8 l9 l10 l11 : AV} {s0 s1 s2 : Int} {s3 : Nat} {M : Mem} {P : PMem} (hk : kd s3 = 7) : evL 110 485 [l0, l1, l2, l3, l4, l5, l6, l7, l8, l9, l10, l11] [I s0, I s1, I s2, Rf s3] (Hp M P) = cont (evM 98 [Rf s3, I s2, I s1, I s0] (Hp M P)) (fun r h => evL 110 488 [l0, l1, l2, l3, l4, l5, l6, l7, l8, l9, l10, l11] (rl r []) h) := e_callV (av' := [I s2, I s1, I s0]) (rest := []) (c := 7) c110_485 rfl rfl rfl rfl rfl rfl rfl hk rfl
set_option maxRecDepth 20000 in
theorem c110_488 : cd 110 488 = some (488, .bipush (-4), 2, 0, 0, 0) := rfl
theorem s110_488 {l0 l1 l2 l3 l4 l5 l6 l7 l8 l9 l10 l11 s0 : AV} {h : AH} : evL 110 488 [l0, l1, l2, l3, l4, l5, l6, l7, l8, l9, l10, l11] [s0] h = evL 110 490 [l0, l1, l2, l3, l4, l5, l6, l7, l8, l9, l10, l11] [I (-4), s0] h := ev_go c110_488 rfl
set_option maxRecDepth 20000 in
theorem c110_490 : cd 110 490 = some (490, .if_icmp .ne 7, 3, 0, 0, 0) := rfl
theorem s110_490 {l0 l1 l2 l3 l4 l5 l6 l7 l8 l9 l10 l11 : AV} {s0 s1 : Int} {h : AH} : evL 110 490 [l0, l1, l2, l3, l4, l5, l6, l7, l8, l9, l10, l11] [I s0, I s1] h = if s1 = s0 then evL 110 493 [l0, l1, l2, l3, l4, l5, l6, l7, l8, l9, l10, l11] [] h else evL 110 497 [l0, l1, l2, l3, l4, l5, l6, l7, l8, l9, l10, l11] [] h := e_icmp_ne c110_490 rfl rfl
set_option maxRecDepth 20000 in
theorem c110_493 : cd 110 493 = some (493, .iconst 1, 1, 0, 0, 0) := rfl
theorem s110_493 {l0 l1 l2 l3 l4 l5 l6 l7 l8 l9 l10 l11 : AV} {h : AH} : evL 110 493 [l0, l1, l2, l3, l4, l5, l6, l7, l8, l9, l10, l11] [] h = evL 110 494 [l0, l1, l2, l3, l4, l5, l6, l7, l8, l9, l10, l11] [I 1] h := ev_go c110_493 rfl
set_option maxRecDepth 20000 in
theorem c110_494 : cd 110 494 = some (494, .goto 4, 3, 0, 0, 0) := rfl
theorem s110_494 {l0 l1 l2 l3 l4 l5 l6 l7 l8 l9 l10 l11 s0 : AV} {h : AH} : evL 110 494 [l0, l1, l2, l3, l4, l5, l6, l7, l8, l9, l10, l11] [s0] h = evL 110 498 [l0, l1, l2, l3, l4, l5, l6, l7, l8, l9, l10, l11] [s0] h := ev_go c110_494 rfl
set_option maxRecDepth 20000 in
theorem c110_497 : cd 110 497 = some (497, .iconst 0, 1, 0, 0, 0) := rfl
theorem s110_497 {l0 l1 l2 l3 l4 l5 l6 l7 l8 l9 l10 l11 : AV} {h : AH} : evL 110 497 [l0, l1, l2, l3, l4, l5, l6, l7, l8, l9, l10, l11] [] h = evL 110 498 [l0, l1, l2, l3, l4, l5, l6, l7, l8, l9, l10, l11] [I 0] h := ev_go c110_497 rfl
set_option maxRecDepth 20000 in
theorem c110_498 : cd 110 498 = some (498, .istore 10, 2, 0, 0, 0) := rfl
theorem s110_498 {l0 l1 l2 l3 l4 l5 l6 l7 l8 l9 l10 l11 : AV} {s0 : Int} {h : AH} : evL 110 498 [l0, l1, l2, l3, l4, l5, l6, l7, l8, l9, l10, l11] [I s0] h = evL 110 500 [l0, l1, l2, l3, l4, l5, l6, l7, l8, l9, I s0, l11] [] h := ev_go c110_498 rfl
set_option maxRecDepth 20000 in
theorem c110_500 : cd 110 500 = some (500, .iinc 11 1, 3, 0, 0, 0) := rfl
theorem s110_500 {l0 l1 l2 l3 l4 l5 l6 l7 l8 l9 l10 : AV} {l11 : Int} {h : AH} : evL 110 500 [l0, l1, l2, l3, l4, l5, l6, l7, l8, l9, l10, I l11] [] h = evL 110 503 [l0, l1, l2, l3, l4, l5, l6, l7, l8, l9, l10, I (ad l11 1)] [] h := ev_go c110_500 rfl
set_option maxRecDepth 20000 in
theorem c110_503 : cd 110 503 = some (503, .goto (-265), 3, 0, 0, 0) := rfl
theorem s110_503 {l0 l1 l2 l3 l4 l5 l6 l7 l8 l9 l10 l11 : AV} {h : AH} : evL 110 503 [l0, l1, l2, l3, l4, l5, l6, l7, l8, l9, l10, l11] [] h = evL 110 238 [l0, l1, l2, l3, l4, l5, l6, l7, l8, l9, l10, l11] [] h := ev_go c110_503 rfl
set_option maxRecDepth 20000 in
theorem c110_506 : cd 110 506 = some (506, .iload 10, 2, 0, 0, 0) := rfl
theorem s110_506 {l0 l1 l2 l3 l4 l5 l6 l7 l8 l9 l11 : AV} {l10 : Int} {h : AH} : evL 110 506 [l0, l1, l2, l3, l4, l5, l6, l7, l8, l9, I l10, l11] [] h = evL 110 508 [l0, l1, l2, l3, l4, l5, l6, l7, l8, l9, I l10, l11] [I l10] h := ev_go c110_506 rfl
set_option maxRecDepth 20000 in
theorem c110_508 : cd 110 508 = some (508, .ifCond .eq 107, 3, 0, 0, 0) := rfl
theorem s110_508 {l0 l1 l2 l3 l4 l5 l6 l7 l8 l9 l10 l11 : AV} {s0 : Int} {h : AH} : evL 110 508 [l0, l1, l2, l3, l4, l5, l6, l7, l8, l9, l10, l11] [I s0] h = if s0 = 0 then evL 110 615 [l0, l1, l2, l3, l4, l5, l6, l7, l8, l9, l10, l11] [] h else evL 110 511 [l0, l1, l2, l3, l4, l5, l6, l7, l8, l9, l10, l11] [] h := e_if_eq c110_508 rfl rfl
set_option maxRecDepth 20000 in
theorem c110_511 : cd 110 511 = some (511, .iload 4, 2, 0, 0, 0) := rfl
theorem s110_511 {l0 l1 l2 l3 l5 l6 l7 l8 l9 l10 l11 : AV} {l4 : Int} {h : AH} : evL 110 511 [l0, l1, l2, l3, I l4, l5, l6, l7, l8, l9, l10, l11] [] h = evL 110 513 [l0, l1, l2, l3, I l4, l5, l6, l7, l8, l9, l10, l11] [I l4] h := ev_go c110_511 rfl
set_option maxRecDepth 20000 in
theorem c110_513 : cd 110 513 = some (513, .aload_n 0, 1, 0, 0, 0) := rfl
theorem s110_513 {l1 l2 l3 l4 l5 l6 l7 l8 l9 l10 l11 s0 : AV} {l0 : Option Nat} {h : AH} : evL 110 513 [.inr (.inl l0), l1, l2, l3, l4, l5, l6, l7, l8, l9, l10, l11] [s0] h = evL 110 514 [.inr (.inl l0), l1, l2, l3, l4, l5, l6, l7, l8, l9, l10, l11] [.inr (.inl l0), s0] h := ev_go c110_513 rfl
set_option maxRecDepth 20000 in
theorem c110_514 : cd 110 514 = some (514, .bipush 7, 2, 0, 0, 0) := rfl
theorem s110_514 {l0 l1 l2 l3 l4 l5 l6 l7 l8 l9 l10 l11 s0 s1 : AV} {h : AH} : evL 110 514 [l0, l1, l2, l3, l4, l5, l6, l7, l8, l9, l10, l11] [s0, s1] h = evL 110 516 [l0, l1, l2, l3, l4, l5, l6, l7, l8, l9, l10, l11] [I 7, s0, s1] h := ev_go c110_514 rfl
set_option maxRecDepth 20000 in
theorem c110_516 : cd 110 516 = some (516, .invokevirtual 13, 3, 100, 0, 258) := rfl
theorem s110_516 {l0 l1 l2 l3 l4 l5 l6 l7 l8 l9 l10 l11 s2 : AV} {s0 : Int} {s1 : Nat} {M : Mem} {P : PMem} (hk : kd s1 = 7) : evL 110 516 [l0, l1, l2, l3, l4, l5, l6, l7, l8, l9, l10, l11] [I s0, Rf s1, s2] (Hp M P) = cont (evM 100 [Rf s1, I s0] (Hp M P)) (fun r h => evL 110 519 [l0, l1, l2, l3, l4, l5, l6, l7, l8, l9, l10, l11] (rl r [s2]) h) := e_callV (av' := [I s0]) (rest := [s2]) (c := 7) c110_516 rfl rfl rfl rfl rfl rfl rfl hk rfl
set_option maxRecDepth 20000 in
theorem c110_519 : cd 110 519 = some (519, .if_icmp .ne 96, 3, 0, 0, 0) := rfl
theorem s110_519 {l0 l1 l2 l3 l4 l5 l6 l7 l8 l9 l10 l11 : AV} {s0 s1 : Int} {h : AH} : evL 110 519 [l0, l1, l2, l3, l4, l5, l6, l7, l8, l9, l10, l11] [I s0, I s1] h = if s1 = s0 then evL 110 522 [l0, l1, l2, l3, l4, l5, l6, l7, l8, l9, l10, l11] [] h else evL 110 615 [l0, l1, l2, l3, l4, l5, l6, l7, l8, l9, l10, l11] [] h := e_icmp_ne c110_519 rfl rfl
set_option maxRecDepth 20000 in
theorem c110_522 : cd 110 522 = some (522, .iload_n 2, 1, 0, 0, 0) := rfl
theorem s110_522 {l0 l1 l3 l4 l5 l6 l7 l8 l9 l10 l11 : AV} {l2 : Int} {h : AH} : evL 110 522 [l0, l1, I l2, l3, l4, l5, l6, l7, l8, l9, l10, l11] [] h = evL 110 523 [l0, l1, I l2, l3, l4, l5, l6, l7, l8, l9, l10, l11] [I l2] h := ev_go c110_522 rfl
set_option maxRecDepth 20000 in
theorem c110_523 : cd 110 523 = some (523, .aload_n 0, 1, 0, 0, 0) := rfl
theorem s110_523 {l1 l2 l3 l4 l5 l6 l7 l8 l9 l10 l11 s0 : AV} {l0 : Option Nat} {h : AH} : evL 110 523 [.inr (.inl l0), l1, l2, l3, l4, l5, l6, l7, l8, l9, l10, l11] [s0] h = evL 110 524 [.inr (.inl l0), l1, l2, l3, l4, l5, l6, l7, l8, l9, l10, l11] [.inr (.inl l0), s0] h := ev_go c110_523 rfl
set_option maxRecDepth 20000 in
theorem c110_524 : cd 110 524 = some (524, .bipush 8, 2, 0, 0, 0) := rfl
theorem s110_524 {l0 l1 l2 l3 l4 l5 l6 l7 l8 l9 l10 l11 s0 s1 : AV} {h : AH} : evL 110 524 [l0, l1, l2, l3, l4, l5, l6, l7, l8, l9, l10, l11] [s0, s1] h = evL 110 526 [l0, l1, l2, l3, l4, l5, l6, l7, l8, l9, l10, l11] [I 8, s0, s1] h := ev_go c110_524 rfl
set_option maxRecDepth 20000 in
theorem c110_526 : cd 110 526 = some (526, .invokevirtual 13, 3, 100, 0, 258) := rfl
theorem s110_526 {l0 l1 l2 l3 l4 l5 l6 l7 l8 l9 l10 l11 s2 : AV} {s0 : Int} {s1 : Nat} {M : Mem} {P : PMem} (hk : kd s1 = 7) : evL 110 526 [l0, l1, l2, l3, l4, l5, l6, l7, l8, l9, l10, l11] [I s0, Rf s1, s2] (Hp M P) = cont (evM 100 [Rf s1, I s0] (Hp M P)) (fun r h => evL 110 529 [l0, l1, l2, l3, l4, l5, l6, l7, l8, l9, l10, l11] (rl r [s2]) h) := e_callV (av' := [I s0]) (rest := [s2]) (c := 7) c110_526 rfl rfl rfl rfl rfl rfl rfl hk rfl
set_option maxRecDepth 20000 in
theorem c110_529 : cd 110 529 = some (529, .if_icmp .ne 86, 3, 0, 0, 0) := rfl
theorem s110_529 {l0 l1 l2 l3 l4 l5 l6 l7 l8 l9 l10 l11 : AV} {s0 s1 : Int} {h : AH} : evL 110 529 [l0, l1, l2, l3, l4, l5, l6, l7, l8, l9, l10, l11] [I s0, I s1] h = if s1 = s0 then evL 110 532 [l0, l1, l2, l3, l4, l5, l6, l7, l8, l9, l10, l11] [] h else evL 110 615 [l0, l1, l2, l3, l4, l5, l6, l7, l8, l9, l10, l11] [] h := e_icmp_ne c110_529 rfl rfl
set_option maxRecDepth 20000 in
theorem c110_532 : cd 110 532 = some (532, .iload_n 3, 1, 0, 0, 0) := rfl
theorem s110_532 {l0 l1 l2 l4 l5 l6 l7 l8 l9 l10 l11 : AV} {l3 : Int} {h : AH} : evL 110 532 [l0, l1, l2, I l3, l4, l5, l6, l7, l8, l9, l10, l11] [] h = evL 110 533 [l0, l1, l2, I l3, l4, l5, l6, l7, l8, l9, l10, l11] [I l3] h := ev_go c110_532 rfl
set_option maxRecDepth 20000 in
theorem c110_533 : cd 110 533 = some (533, .aload_n 0, 1, 0, 0, 0) := rfl
theorem s110_533 {l1 l2 l3 l4 l5 l6 l7 l8 l9 l10 l11 s0 : AV} {l0 : Option Nat} {h : AH} : evL 110 533 [.inr (.inl l0), l1, l2, l3, l4, l5, l6, l7, l8, l9, l10, l11] [s0] h = evL 110 534 [.inr (.inl l0), l1, l2, l3, l4, l5, l6, l7, l8, l9, l10, l11] [.inr (.inl l0), s0] h := ev_go c110_533 rfl
set_option maxRecDepth 20000 in
theorem c110_534 : cd 110 534 = some (534, .bipush 9, 2, 0, 0, 0) := rfl
theorem s110_534 {l0 l1 l2 l3 l4 l5 l6 l7 l8 l9 l10 l11 s0 s1 : AV} {h : AH} : evL 110 534 [l0, l1, l2, l3, l4, l5, l6, l7, l8, l9, l10, l11] [s0, s1] h = evL 110 536 [l0, l1, l2, l3, l4, l5, l6, l7, l8, l9, l10, l11] [I 9, s0, s1] h := ev_go c110_534 rfl
set_option maxRecDepth 20000 in
theorem c110_536 : cd 110 536 = some (536, .invokevirtual 13, 3, 100, 0, 258) := rfl
theorem s110_536 {l0 l1 l2 l3 l4 l5 l6 l7 l8 l9 l10 l11 s2 : AV} {s0 : Int} {s1 : Nat} {M : Mem} {P : PMem} (hk : kd s1 = 7) : evL 110 536 [l0, l1, l2, l3, l4, l5, l6, l7, l8, l9, l10, l11] [I s0, Rf s1, s2] (Hp M P) = cont (evM 100 [Rf s1, I s0] (Hp M P)) (fun r h => evL 110 539 [l0, l1, l2, l3, l4, l5, l6, l7, l8, l9, l10, l11] (rl r [s2]) h) := e_callV (av' := [I s0]) (rest := [s2]) (c := 7) c110_536 rfl rfl rfl rfl rfl rfl rfl hk rfl
set_option maxRecDepth 20000 in
theorem c110_539 : cd 110 539 = some (539, .if_icmp .ne 76, 3, 0, 0, 0) := rfl
theorem s110_539 {l0 l1 l2 l3 l4 l5 l6 l7 l8 l9 l10 l11 : AV} {s0 s1 : Int} {h : AH} : evL 110 539 [l0, l1, l2, l3, l4, l5, l6, l7, l8, l9, l10, l11] [I s0, I s1] h = if s1 = s0 then evL 110 542 [l0, l1, l2, l3, l4, l5, l6, l7, l8, l9, l10, l11] [] h else evL 110 615 [l0, l1, l2, l3, l4, l5, l6, l7, l8, l9, l10, l11] [] h := e_icmp_ne c110_539 rfl rfl
set_option maxRecDepth 20000 in
theorem c110_542 : cd 110 542 = some (542, .iload_n 1, 1, 0, 0, 0) := rfl
theorem s110_542 {l0 l2 l3 l4 l5 l6 l7 l8 l9 l10 l11 : AV} {l1 : Int} {h : AH} : evL 110 542 [l0, I l1, l2, l3, l4, l5, l6, l7, l8, l9, l10, l11] [] h = evL 110 543 [l0, I l1, l2, l3, l4, l5, l6, l7, l8, l9, l10, l11] [I l1] h := ev_go c110_542 rfl
set_option maxRecDepth 20000 in
theorem c110_543 : cd 110 543 = some (543, .bipush 16, 2, 0, 0, 0) := rfl
theorem s110_543 {l0 l1 l2 l3 l4 l5 l6 l7 l8 l9 l10 l11 s0 : AV} {h : AH} : evL 110 543 [l0, l1, l2, l3, l4, l5, l6, l7, l8, l9, l10, l11] [s0] h = evL 110 545 [l0, l1, l2, l3, l4, l5, l6, l7, l8, l9, l10, l11] [I 16, s0] h := ev_go c110_543 rfl
set_option maxRecDepth 20000 in
theorem c110_545 : cd 110 545 = some (545, .if_icmp .ne 70, 3, 0, 0, 0) := rfl
theorem s110_545 {l0 l1 l2 l3 l4 l5 l6 l7 l8 l9 l10 l11 : AV} {s0 s1 : Int} {h : AH} : evL 110 545 [l0, l1, l2, l3, l4, l5, l6, l7, l8, l9, l10, l11] [I s0, I s1] h = if s1 = s0 then evL 110 548 [l0, l1, l2, l3, l4, l5, l6, l7, l8, l9, l10, l11] [] h else evL 110 615 [l0, l1, l2, l3, l4, l5, l6, l7, l8, l9, l10, l11] [] h := e_icmp_ne c110_545 rfl rfl
set_option maxRecDepth 20000 in
theorem c110_548 : cd 110 548 = some (548, .iload 5, 2, 0, 0, 0) := rfl
theorem s110_548 {l0 l1 l2 l3 l4 l6 l7 l8 l9 l10 l11 : AV} {l5 : Int} {h : AH} : evL 110 548 [l0, l1, l2, l3, l4, I l5, l6, l7, l8, l9, l10, l11] [] h = evL 110 550 [l0, l1, l2, l3, l4, I l5, l6, l7, l8, l9, l10, l11] [I l5] h := ev_go c110_548 rfl
set_option maxRecDepth 20000 in
theorem c110_550 : cd 110 550 = some (550, .aload_n 0, 1, 0, 0, 0) := rfl
theorem s110_550 {l1 l2 l3 l4 l5 l6 l7 l8 l9 l10 l11 s0 : AV} {l0 : Option Nat} {h : AH} : evL 110 550 [.inr (.inl l0), l1, l2, l3, l4, l5, l6, l7, l8, l9, l10, l11] [s0] h = evL 110 551 [.inr (.inl l0), l1, l2, l3, l4, l5, l6, l7, l8, l9, l10, l11] [.inr (.inl l0), s0] h := ev_go c110_550 rfl
set_option maxRecDepth 20000 in
theorem c110_551 : cd 110 551 = some (551, .bipush 6, 2, 0, 0, 0) := rfl
theorem s110_551 {l0 l1 l2 l3 l4 l5 l6 l7 l8 l9 l10 l11 s0 s1 : AV} {h : AH} : evL 110 551 [l0, l1, l2, l3, l4, l5, l6, l7, l8, l9, l10, l11] [s0, s1] h = evL 110 553 [l0, l1, l2, l3, l4, l5, l6, l7, l8, l9, l10, l11] [I 6, s0, s1] h := ev_go c110_551 rfl
set_option maxRecDepth 20000 in
theorem c110_553 : cd 110 553 = some (553, .invokevirtual 13, 3, 100, 0, 258) := rfl
theorem s110_553 {l0 l1 l2 l3 l4 l5 l6 l7 l8 l9 l10 l11 s2 : AV} {s0 : Int} {s1 : Nat} {M : Mem} {P : PMem} (hk : kd s1 = 7) : evL 110 553 [l0, l1, l2, l3, l4, l5, l6, l7, l8, l9, l10, l11] [I s0, Rf s1, s2] (Hp M P) = cont (evM 100 [Rf s1, I s0] (Hp M P)) (fun r h => evL 110 556 [l0, l1, l2, l3, l4, l5, l6, l7, l8, l9, l10, l11] (rl r [s2]) h) := e_callV (av' := [I s0]) (rest := [s2]) (c := 7) c110_553 rfl rfl rfl rfl rfl rfl rfl hk rfl
set_option maxRecDepth 20000 in
theorem c110_556 : cd 110 556 = some (556, .if_icmp .ne 59, 3, 0, 0, 0) := rfl
theorem s110_556 {l0 l1 l2 l3 l4 l5 l6 l7 l8 l9 l10 l11 : AV} {s0 s1 : Int} {h : AH} : evL 110 556 [l0, l1, l2, l3, l4, l5, l6, l7, l8, l9, l10, l11] [I s0, I s1] h = if s1 = s0 then evL 110 559 [l0, l1, l2, l3, l4, l5, l6, l7, l8, l9, l10, l11] [] h else evL 110 615 [l0, l1, l2, l3, l4, l5, l6, l7, l8, l9, l10, l11] [] h := e_icmp_ne c110_556 rfl rfl
set_option maxRecDepth 20000 in
theorem c110_559 : cd 110 559 = some (559, .iload 6, 2, 0, 0, 0) := rfl
theorem s110_559 {l0 l1 l2 l3 l4 l5 l7 l8 l9 l10 l11 : AV} {l6 : Int} {h : AH} : evL 110 559 [l0, l1, l2, l3, l4, l5, I l6, l7, l8, l9, l10, l11] [] h = evL 110 561 [l0, l1, l2, l3, l4, l5, I l6, l7, l8, l9, l10, l11] [I l6] h := ev_go c110_559 rfl
set_option maxRecDepth 20000 in
theorem c110_561 : cd 110 561 = some (561, .aload_n 0, 1, 0, 0, 0) := rfl
theorem s110_561 {l1 l2 l3 l4 l5 l6 l7 l8 l9 l10 l11 s0 : AV} {l0 : Option Nat} {h : AH} : evL 110 561 [.inr (.inl l0), l1, l2, l3, l4, l5, l6, l7, l8, l9, l10, l11] [s0] h = evL 110 562 [.inr (.inl l0), l1, l2, l3, l4, l5, l6, l7, l8, l9, l10, l11] [.inr (.inl l0), s0] h := ev_go c110_561 rfl
set_option maxRecDepth 20000 in
theorem c110_562 : cd 110 562 = some (562, .invokevirtual 36, 3, 104, 0, 439) := rfl
theorem s110_562 {l0 l1 l2 l3 l4 l5 l6 l7 l8 l9 l10 l11 s1 : AV} {s0 : Nat} {M : Mem} {P : PMem} (hk : kd s0 = 7) : evL 110 562 [l0, l1, l2, l3, l4, l5, l6, l7, l8, l9, l10, l11] [Rf s0, s1] (Hp M P) = cont (evM 104 [Rf s0] (Hp M P)) (fun r h => evL 110 565 [l0, l1, l2, l3, l4, l5, l6, l7, l8, l9, l10, l11] (rl r [s1]) h) := e_callV (av' := []) (rest := [s1]) (c := 7) c110_562 rfl rfl rfl rfl rfl rfl rfl hk rfl
set_option maxRecDepth 20000 in
theorem c110_565 : cd 110 565 = some (565, .if_icmp .ne 50, 3, 0, 0, 0) := rfl
theorem s110_565 {l0 l1 l2 l3 l4 l5 l6 l7 l8 l9 l10 l11 : AV} {s0 s1 : Int} {h : AH} : evL 110 565 [l0, l1, l2, l3, l4, l5, l6, l7, l8, l9, l10, l11] [I s0, I s1] h = if s1 = s0 then evL 110 568 [l0, l1, l2, l3, l4, l5, l6, l7, l8, l9, l10, l11] [] h else evL 110 615 [l0, l1, l2, l3, l4, l5, l6, l7, l8, l9, l10, l11] [] h := e_icmp_ne c110_565 rfl rfl
set_option maxRecDepth 20000 in
theorem c110_568 : cd 110 568 = some (568, .iload 7, 2, 0, 0, 0) := rfl
theorem s110_568 {l0 l1 l2 l3 l4 l5 l6 l8 l9 l10 l11 : AV} {l7 : Int} {h : AH} : evL 110 568 [l0, l1, l2, l3, l4, l5, l6, I l7, l8, l9, l10, l11] [] h = evL 110 570 [l0, l1, l2, l3, l4, l5, l6, I l7, l8, l9, l10, l11] [I l7] h := ev_go c110_568 rfl
set_option maxRecDepth 20000 in
theorem c110_570 : cd 110 570 = some (570, .iload 8, 2, 0, 0, 0) := rfl
theorem s110_570 {l0 l1 l2 l3 l4 l5 l6 l7 l9 l10 l11 s0 : AV} {l8 : Int} {h : AH} : evL 110 570 [l0, l1, l2, l3, l4, l5, l6, l7, I l8, l9, l10, l11] [s0] h = evL 110 572 [l0, l1, l2, l3, l4, l5, l6, l7, I l8, l9, l10, l11] [I l8, s0] h := ev_go c110_570 rfl
set_option maxRecDepth 20000 in
theorem c110_572 : cd 110 572 = some (572, .if_icmp .lt 12, 3, 0, 0, 0) := rfl
theorem s110_572 {l0 l1 l2 l3 l4 l5 l6 l7 l8 l9 l10 l11 : AV} {s0 s1 : Int} {h : AH} : evL 110 572 [l0, l1, l2, l3, l4, l5, l6, l7, l8, l9, l10, l11] [I s0, I s1] h = if s1 < s0 then evL 110 584 [l0, l1, l2, l3, l4, l5, l6, l7, l8, l9, l10, l11] [] h else evL 110 575 [l0, l1, l2, l3, l4, l5, l6, l7, l8, l9, l10, l11] [] h := e_icmp_lt c110_572 rfl rfl
set_option maxRecDepth 20000 in
theorem c110_575 : cd 110 575 = some (575, .aload_n 0, 1, 0, 0, 0) := rfl
theorem s110_575 {l1 l2 l3 l4 l5 l6 l7 l8 l9 l10 l11 : AV} {l0 : Option Nat} {h : AH} : evL 110 575 [.inr (.inl l0), l1, l2, l3, l4, l5, l6, l7, l8, l9, l10, l11] [] h = evL 110 576 [.inr (.inl l0), l1, l2, l3, l4, l5, l6, l7, l8, l9, l10, l11] [.inr (.inl l0)] h := ev_go c110_575 rfl
set_option maxRecDepth 20000 in
theorem c110_576 : cd 110 576 = some (576, .iconst 4, 1, 0, 0, 0) := rfl
theorem s110_576 {l0 l1 l2 l3 l4 l5 l6 l7 l8 l9 l10 l11 s0 : AV} {h : AH} : evL 110 576 [l0, l1, l2, l3, l4, l5, l6, l7, l8, l9, l10, l11] [s0] h = evL 110 577 [l0, l1, l2, l3, l4, l5, l6, l7, l8, l9, l10, l11] [I 4, s0] h := ev_go c110_576 rfl
set_option maxRecDepth 20000 in
theorem c110_577 : cd 110 577 = some (577, .invokevirtual 13, 3, 100, 0, 258) := rfl
theorem s110_577 {l0 l1 l2 l3 l4 l5 l6 l7 l8 l9 l10 l11 : AV} {s0 : Int} {s1 : Nat} {M : Mem} {P : PMem} (hk : kd s1 = 7) : evL 110 577 [l0, l1, l2, l3, l4, l5, l6, l7, l8, l9, l10, l11] [I s0, Rf s1] (Hp M P) = cont (evM 100 [Rf s1, I s0] (Hp M P)) (fun r h => evL 110 580 [l0, l1, l2, l3, l4, l5, l6, l7, l8, l9, l10, l11] (rl r []) h) := e_callV (av' := [I s0]) (rest := []) (c := 7) c110_577 rfl rfl rfl rfl rfl rfl rfl hk rfl
set_option maxRecDepth 20000 in
theorem c110_580 : cd 110 580 = some (580, .iconst 1, 1, 0, 0, 0) := rfl
theorem s110_580 {l0 l1 l2 l3 l4 l5 l6 l7 l8 l9 l10 l11 s0 : AV} {h : AH} : evL 110 580 [l0, l1, l2, l3, l4, l5, l6, l7, l8, l9, l10, l11] [s0] h = evL 110 581 [l0, l1, l2, l3, l4, l5, l6, l7, l8, l9, l10, l11] [I 1, s0] h := ev_go c110_580 rfl
set_option maxRecDepth 20000 in
theorem c110_581 : cd 110 581 = some (581, .if_icmp .ne 34, 3, 0, 0, 0) := rfl
theorem s110_581 {l0 l1 l2 l3 l4 l5 l6 l7 l8 l9 l10 l11 : AV} {s0 s1 : Int} {h : AH} : evL 110 581 [l0, l1, l2, l3, l4, l5, l6, l7, l8, l9, l10, l11] [I s0, I s1] h = if s1 = s0 then evL 110 584 [l0, l1, l2, l3, l4, l5, l6, l7, l8, l9, l10, l11] [] h else evL 110 615 [l0, l1, l2, l3, l4, l5, l6, l7, l8, l9, l10, l11] [] h := e_icmp_ne c110_581 rfl rfl
set_option maxRecDepth 20000 in
theorem c110_584 : cd 110 584 = some (584, .aload_n 0, 1, 0, 0, 0) := rfl
theorem s110_584 {l1 l2 l3 l4 l5 l6 l7 l8 l9 l10 l11 : AV} {l0 : Option Nat} {h : AH} : evL 110 584 [.inr (.inl l0), l1, l2, l3, l4, l5, l6, l7, l8, l9, l10, l11] [] h = evL 110 585 [.inr (.inl l0), l1, l2, l3, l4, l5, l6, l7, l8, l9, l10, l11] [.inr (.inl l0)] h := ev_go c110_584 rfl
set_option maxRecDepth 20000 in
theorem c110_585 : cd 110 585 = some (585, .aload_n 0, 1, 0, 0, 0) := rfl
theorem s110_585 {l1 l2 l3 l4 l5 l6 l7 l8 l9 l10 l11 s0 : AV} {l0 : Option Nat} {h : AH} : evL 110 585 [.inr (.inl l0), l1, l2, l3, l4, l5, l6, l7, l8, l9, l10, l11] [s0] h = evL 110 586 [.inr (.inl l0), l1, l2, l3, l4, l5, l6, l7, l8, l9, l10, l11] [.inr (.inl l0), s0] h := ev_go c110_585 rfl
set_option maxRecDepth 20000 in
theorem c110_586 : cd 110 586 = some (586, .iconst 1, 1, 0, 0, 0) := rfl
theorem s110_586 {l0 l1 l2 l3 l4 l5 l6 l7 l8 l9 l10 l11 s0 s1 : AV} {h : AH} : evL 110 586 [l0, l1, l2, l3, l4, l5, l6, l7, l8, l9, l10, l11] [s0, s1] h = evL 110 587 [l0, l1, l2, l3, l4, l5, l6, l7, l8, l9, l10, l11] [I 1, s0, s1] h := ev_go c110_586 rfl
set_option maxRecDepth 20000 in
theorem c110_587 : cd 110 587 = some (587, .invokevirtual 13, 3, 100, 0, 258) := rfl
theorem s110_587 {l0 l1 l2 l3 l4 l5 l6 l7 l8 l9 l10 l11 s2 : AV} {s0 : Int} {s1 : Nat} {M : Mem} {P : PMem} (hk : kd s1 = 7) : evL 110 587 [l0, l1, l2, l3, l4, l5, l6, l7, l8, l9, l10, l11] [I s0, Rf s1, s2] (Hp M P) = cont (evM 100 [Rf s1, I s0] (Hp M P)) (fun r h => evL 110 590 [l0, l1, l2, l3, l4, l5, l6, l7, l8, l9, l10, l11] (rl r [s2]) h) := e_callV (av' := [I s0]) (rest := [s2]) (c := 7) c110_587 rfl rfl rfl rfl rfl rfl rfl hk rfl
set_option maxRecDepth 20000 in
theorem c110_590 : cd 110 590 = some (590, .iconst 1, 1, 0, 0, 0) := rfl
theorem s110_590 {l0 l1 l2 l3 l4 l5 l6 l7 l8 l9 l10 l11 s0 s1 : AV} {h : AH} : evL 110 590 [l0, l1, l2, l3, l4, l5, l6, l7, l8, l9, l10, l11] [s0, s1] h = evL 110 591 [l0, l1, l2, l3, l4, l5, l6, l7, l8, l9, l10, l11] [I 1, s0, s1] h := ev_go c110_590 rfl
set_option maxRecDepth 20000 in
theorem c110_591 : cd 110 591 = some (591, .iadd, 1, 0, 0, 0) := rfl
theorem s110_591 {l0 l1 l2 l3 l4 l5 l6 l7 l8 l9 l10 l11 s2 : AV} {s0 s1 : Int} {h : AH} : evL 110 591 [l0, l1, l2, l3, l4, l5, l6, l7, l8, l9, l10, l11] [I s0, I s1, s2] h = evL 110 592 [l0, l1, l2, l3, l4, l5, l6, l7, l8, l9, l10, l11] [I (ad s1 s0), s2] h := ev_go c110_591 rfl
set_option maxRecDepth 20000 in
theorem c110_592 : cd 110 592 = some (592, .iconst 0, 1, 0, 0, 0) := rfl
theorem s110_592 {l0 l1 l2 l3 l4 l5 l6 l7 l8 l9 l10 l11 s0 s1 : AV} {h : AH} : evL 110 592 [l0, l1, l2, l3, l4, l5, l6, l7, l8, l9, l10, l11] [s0, s1] h = evL 110 593 [l0, l1, l2, l3, l4, l5, l6, l7, l8, l9, l10, l11] [I 0, s0, s1] h := ev_go c110_592 rfl
set_option maxRecDepth 20000 in
theorem c110_593 : cd 110 593 = some (593, .invokevirtual 19, 3, 99, 0, 392) := rfl
theorem s110_593 {l0 l1 l2 l3 l4 l5 l6 l7 l8 l9 l10 l11 : AV} {s0 s1 : Int} {s2 : Nat} {M : Mem} {P : PMem} (hk : kd s2 = 7) : evL 110 593 [l0, l1, l2, l3, l4, l5, l6, l7, l8, l9, l10, l11] [I s0, I s1, Rf s2] (Hp M P) = cont (evM 99 [Rf s2, I s1, I s0] (Hp M P)) (fun r h => evL 110 596 [l0, l1, l2, l3, l4, l5, l6, l7, l8, l9, l10, l11] (rl r []) h) := e_callV (av' := [I s1, I s0]) (rest := []) (c := 7) c110_593 rfl rfl rfl rfl rfl rfl rfl hk rfl
set_option maxRecDepth 20000 in
theorem c110_596 : cd 110 596 = some (596, .iconst (-1), 1, 0, 0, 0) := rfl
theorem s110_596 {l0 l1 l2 l3 l4 l5 l6 l7 l8 l9 l10 l11 s0 : AV} {h : AH} : evL 110 596 [l0, l1, l2, l3, l4, l5, l6, l7, l8, l9, l10, l11] [s0] h = evL 110 597 [l0, l1, l2, l3, l4, l5, l6, l7, l8, l9, l10, l11] [I (-1), s0] h := ev_go c110_596 rfl
set_option maxRecDepth 20000 in
theorem c110_597 : cd 110 597 = some (597, .if_icmp .ne 18, 3, 0, 0, 0) := rfl
theorem s110_597 {l0 l1 l2 l3 l4 l5 l6 l7 l8 l9 l10 l11 : AV} {s0 s1 : Int} {h : AH} : evL 110 597 [l0, l1, l2, l3, l4, l5, l6, l7, l8, l9, l10, l11] [I s0, I s1] h = if s1 = s0 then evL 110 600 [l0, l1, l2, l3, l4, l5, l6, l7, l8, l9, l10, l11] [] h else evL 110 615 [l0, l1, l2, l3, l4, l5, l6, l7, l8, l9, l10, l11] [] h := e_icmp_ne c110_597 rfl rfl
set_option maxRecDepth 20000 in
theorem c110_600 : cd 110 600 = some (600, .aload_n 0, 1, 0, 0, 0) := rfl
theorem s110_600 {l1 l2 l3 l4 l5 l6 l7 l8 l9 l10 l11 : AV} {l0 : Option Nat} {h : AH} : evL 110 600 [.inr (.inl l0), l1, l2, l3, l4, l5, l6, l7, l8, l9, l10, l11] [] h = evL 110 601 [.inr (.inl l0), l1, l2, l3, l4, l5, l6, l7, l8, l9, l10, l11] [.inr (.inl l0)] h := ev_go c110_600 rfl
set_option maxRecDepth 20000 in
theorem c110_601 : cd 110 601 = some (601, .iload 8, 2, 0, 0, 0) := rfl
theorem s110_601 {l0 l1 l2 l3 l4 l5 l6 l7 l9 l10 l11 s0 : AV} {l8 : Int} {h : AH} : evL 110 601 [l0, l1, l2, l3, l4, l5, l6, l7, I l8, l9, l10, l11] [s0] h = evL 110 603 [l0, l1, l2, l3, l4, l5, l6, l7, I l8, l9, l10, l11] [I l8, s0] h := ev_go c110_601 rfl
set_option maxRecDepth 20000 in
theorem c110_603 : cd 110 603 = some (603, .iconst 0, 1, 0, 0, 0) := rfl
theorem s110_603 {l0 l1 l2 l3 l4 l5 l6 l7 l8 l9 l10 l11 s0 s1 : AV} {h : AH} : evL 110 603 [l0, l1, l2, l3, l4, l5, l6, l7, l8, l9, l10, l11] [s0, s1] h = evL 110 604 [l0, l1, l2, l3, l4, l5, l6, l7, l8, l9, l10, l11] [I 0, s0, s1] h := ev_go c110_603 rfl
set_option maxRecDepth 20000 in
theorem c110_604 : cd 110 604 = some (604, .invokevirtual 23, 3, 97, 0, 406) := rfl
theorem s110_604 {l0 l1 l2 l3 l4 l5 l6 l7 l8 l9 l10 l11 : AV} {s0 s1 : Int} {s2 : Nat} {M : Mem} {P : PMem} (hk : kd s2 = 7) : evL 110 604 [l0, l1, l2, l3, l4, l5, l6, l7, l8, l9, l10, l11] [I s0, I s1, Rf s2] (Hp M P) = cont (evM 97 [Rf s2, I s1, I s0] (Hp M P)) (fun r h => evL 110 607 [l0, l1, l2, l3, l4, l5, l6, l7, l8, l9, l10, l11] (rl r []) h) := e_callV (av' := [I s1, I s0]) (rest := []) (c := 7) c110_604 rfl rfl rfl rfl rfl rfl rfl hk rfl
set_option maxRecDepth 20000 in
theorem c110_607 : cd 110 607 = some (607, .iconst (-1), 1, 0, 0, 0) := rfl
theorem s110_607 {l0 l1 l2 l3 l4 l5 l6 l7 l8 l9 l10 l11 s0 : AV} {h : AH} : evL 110 607 [l0, l1, l2, l3, l4, l5, l6, l7, l8, l9, l10, l11] [s0] h = evL 110 608 [l0, l1, l2, l3, l4, l5, l6, l7, l8, l9, l10, l11] [I (-1), s0] h := ev_go c110_607 rfl
set_option maxRecDepth 20000 in
theorem c110_608 : cd 110 608 = some (608, .if_icmp .ne 7, 3, 0, 0, 0) := rfl
theorem s110_608 {l0 l1 l2 l3 l4 l5 l6 l7 l8 l9 l10 l11 : AV} {s0 s1 : Int} {h : AH} : evL 110 608 [l0, l1, l2, l3, l4, l5, l6, l7, l8, l9, l10, l11] [I s0, I s1] h = if s1 = s0 then evL 110 611 [l0, l1, l2, l3, l4, l5, l6, l7, l8, l9, l10, l11] [] h else evL 110 615 [l0, l1, l2, l3, l4, l5, l6, l7, l8, l9, l10, l11] [] h := e_icmp_ne c110_608 rfl rfl
set_option maxRecDepth 20000 in
theorem c110_611 : cd 110 611 = some (611, .iconst 1, 1, 0, 0, 0) := rfl
theorem s110_611 {l0 l1 l2 l3 l4 l5 l6 l7 l8 l9 l10 l11 : AV} {h : AH} : evL 110 611 [l0, l1, l2, l3, l4, l5, l6, l7, l8, l9, l10, l11] [] h = evL 110 612 [l0, l1, l2, l3, l4, l5, l6, l7, l8, l9, l10, l11] [I 1] h := ev_go c110_611 rfl
set_option maxRecDepth 20000 in
theorem c110_612 : cd 110 612 = some (612, .goto 4, 3, 0, 0, 0) := rfl
theorem s110_612 {l0 l1 l2 l3 l4 l5 l6 l7 l8 l9 l10 l11 s0 : AV} {h : AH} : evL 110 612 [l0, l1, l2, l3, l4, l5, l6, l7, l8, l9, l10, l11] [s0] h = evL 110 616 [l0, l1, l2, l3, l4, l5, l6, l7, l8, l9, l10, l11] [s0] h := ev_go c110_612 rfl
set_option maxRecDepth 20000 in
theorem c110_615 : cd 110 615 = some (615, .iconst 0, 1, 0, 0, 0) := rfl
theorem s110_615 {l0 l1 l2 l3 l4 l5 l6 l7 l8 l9 l10 l11 : AV} {h : AH} : evL 110 615 [l0, l1, l2, l3, l4, l5, l6, l7, l8, l9, l10, l11] [] h = evL 110 616 [l0, l1, l2, l3, l4, l5, l6, l7, l8, l9, l10, l11] [I 0] h := ev_go c110_615 rfl
set_option maxRecDepth 20000 in
theorem c110_616 : cd 110 616 = some (616, .ireturn, 1, 0, 0, 0) := rfl
theorem s110_616 {l0 l1 l2 l3 l4 l5 l6 l7 l8 l9 l10 l11 : AV} {s0 : Int} {h : AH} (hz : s0 = 0 ∨ s0 = 1) : evL 110 616 [l0, l1, l2, l3, l4, l5, l6, l7, l8, l9, l10, l11] [I s0] h = some (some (I s0), h) := e_ret c110_616 (if_pos hz)
/-! 111: TankDiversLaw.would(LTankDivers;I)Z -/
theorem en111 {l0 l1 : AV} {h : AH} : evM 111 [l0, l1] h = evL 111 0 [l0, l1, Db 0, Db 0, Db 0, Db 0, Db 0, Db 0, Db 0, Db 0, Db 0] [] h := rfl
theorem c111_0 : cd 111 0 = some (0, .iload_n 1, 1, 0, 0, 0) := rfl
theorem s111_0 {l0 l2 l3 l4 l5 l6 l7 l8 l9 l10 : AV} {l1 : Int} {h : AH} : evL 111 0 [l0, I l1, l2, l3, l4, l5, l6, l7, l8, l9, l10] [] h = evL 111 1 [l0, I l1, l2, l3, l4, l5, l6, l7, l8, l9, l10] [I l1] h := ev_go c111_0 rfl
theorem c111_1 : cd 111 1 = some (1, .aload_n 0, 1, 0, 0, 0) := rfl
theorem s111_1 {l1 l2 l3 l4 l5 l6 l7 l8 l9 l10 s0 : AV} {l0 : Option Nat} {h : AH} : evL 111 1 [.inr (.inl l0), l1, l2, l3, l4, l5, l6, l7, l8, l9, l10] [s0] h = evL 111 2 [.inr (.inl l0), l1, l2, l3, l4, l5, l6, l7, l8, l9, l10] [.inr (.inl l0), s0] h := ev_go c111_1 rfl
theorem c111_2 : cd 111 2 = some (2, .iconst 1, 1, 0, 0, 0) := rfl
theorem s111_2 {l0 l1 l2 l3 l4 l5 l6 l7 l8 l9 l10 s0 s1 : AV} {h : AH} : evL 111 2 [l0, l1, l2, l3, l4, l5, l6, l7, l8, l9, l10] [s0, s1] h = evL 111 3 [l0, l1, l2, l3, l4, l5, l6, l7, l8, l9, l10] [I 1, s0, s1] h := ev_go c111_2 rfl
theorem c111_3 : cd 111 3 = some (3, .invokevirtual 13, 3, 100, 0, 258) := rfl
theorem s111_3 {l0 l1 l2 l3 l4 l5 l6 l7 l8 l9 l10 s2 : AV} {s0 : Int} {s1 : Nat} {M : Mem} {P : PMem} (hk : kd s1 = 7) : evL 111 3 [l0, l1, l2, l3, l4, l5, l6, l7, l8, l9, l10] [I s0, Rf s1, s2] (Hp M P) = cont (evM 100 [Rf s1, I s0] (Hp M P)) (fun r h => evL 111 6 [l0, l1, l2, l3, l4, l5, l6, l7, l8, l9, l10] (rl r [s2]) h) := e_callV (av' := [I s0]) (rest := [s2]) (c := 7) c111_3 rfl rfl rfl rfl rfl rfl rfl hk rfl
theorem c111_6 : cd 111 6 = some (6, .iconst 3, 1, 0, 0, 0) := rfl
theorem s111_6 {l0 l1 l2 l3 l4 l5 l6 l7 l8 l9 l10 s0 s1 : AV} {h : AH} : evL 111 6 [l0, l1, l2, l3, l4, l5, l6, l7, l8, l9, l10] [s0, s1] h = evL 111 7 [l0, l1, l2, l3, l4, l5, l6, l7, l8, l9, l10] [I 3, s0, s1] h := ev_go c111_6 rfl
theorem c111_7 : cd 111 7 = some (7, .iadd, 1, 0, 0, 0) := rfl
theorem s111_7 {l0 l1 l2 l3 l4 l5 l6 l7 l8 l9 l10 s2 : AV} {s0 s1 : Int} {h : AH} : evL 111 7 [l0, l1, l2, l3, l4, l5, l6, l7, l8, l9, l10] [I s0, I s1, s2] h = evL 111 8 [l0, l1, l2, l3, l4, l5, l6, l7, l8, l9, l10] [I (ad s1 s0), s2] h := ev_go c111_7 rfl
theorem c111_8 : cd 111 8 = some (8, .invokestatic 39, 3, 105, 0, 383) := rfl
theorem s111_8 {l0 l1 l2 l3 l4 l5 l6 l7 l8 l9 l10 : AV} {s0 s1 : Int} {M : Mem} {P : PMem} : evL 111 8 [l0, l1, l2, l3, l4, l5, l6, l7, l8, l9, l10] [I s0, I s1] (Hp M P) = cont (evM 105 [I s1, I s0] (Hp M P)) (fun r h => evL 111 11 [l0, l1, l2, l3, l4, l5, l6, l7, l8, l9, l10] (rl r []) h) := e_callS (av := [I s1, I s0]) (rest := []) c111_8 rfl rfl rfl rfl rfl rfl
theorem c111_11 : cd 111 11 = some (11, .iconst 1, 1, 0, 0, 0) := rfl
theorem s111_11 {l0 l1 l2 l3 l4 l5 l6 l7 l8 l9 l10 s0 : AV} {h : AH} : evL 111 11 [l0, l1, l2, l3, l4, l5, l6, l7, l8, l9, l10] [s0] h = evL 111 12 [l0, l1, l2, l3, l4, l5, l6, l7, l8, l9, l10] [I 1, s0] h := ev_go c111_11 rfl
theorem c111_12 : cd 111 12 = some (12, .isub, 1, 0, 0, 0) := rfl
theorem s111_12 {l0 l1 l2 l3 l4 l5 l6 l7 l8 l9 l10 : AV} {s0 s1 : Int} {h : AH} : evL 111 12 [l0, l1, l2, l3, l4, l5, l6, l7, l8, l9, l10] [I s0, I s1] h = evL 111 13 [l0, l1, l2, l3, l4, l5, l6, l7, l8, l9, l10] [I (sb s1 s0)] h := ev_go c111_12 rfl
theorem c111_13 : cd 111 13 = some (13, .istore_n 2, 1, 0, 0, 0) := rfl
theorem s111_13 {l0 l1 l2 l3 l4 l5 l6 l7 l8 l9 l10 : AV} {s0 : Int} {h : AH} : evL 111 13 [l0, l1, l2, l3, l4, l5, l6, l7, l8, l9, l10] [I s0] h = evL 111 14 [l0, l1, I s0, l3, l4, l5, l6, l7, l8, l9, l10] [] h := ev_go c111_13 rfl
theorem c111_14 : cd 111 14 = some (14, .iload_n 1, 1, 0, 0, 0) := rfl
theorem s111_14 {l0 l2 l3 l4 l5 l6 l7 l8 l9 l10 : AV} {l1 : Int} {h : AH} : evL 111 14 [l0, I l1, l2, l3, l4, l5, l6, l7, l8, l9, l10] [] h = evL 111 15 [l0, I l1, l2, l3, l4, l5, l6, l7, l8, l9, l10] [I l1] h := ev_go c111_14 rfl
theorem c111_15 : cd 111 15 = some (15, .iconst 5, 1, 0, 0, 0) := rfl
theorem s111_15 {l0 l1 l2 l3 l4 l5 l6 l7 l8 l9 l10 s0 : AV} {h : AH} : evL 111 15 [l0, l1, l2, l3, l4, l5, l6, l7, l8, l9, l10] [s0] h = evL 111 16 [l0, l1, l2, l3, l4, l5, l6, l7, l8, l9, l10] [I 5, s0] h := ev_go c111_15 rfl
theorem c111_16 : cd 111 16 = some (16, .ishr, 1, 0, 0, 0) := rfl
theorem s111_16 {l0 l1 l2 l3 l4 l5 l6 l7 l8 l9 l10 : AV} {s0 s1 : Int} {h : AH} : evL 111 16 [l0, l1, l2, l3, l4, l5, l6, l7, l8, l9, l10] [I s0, I s1] h = evL 111 17 [l0, l1, l2, l3, l4, l5, l6, l7, l8, l9, l10] [I (shr s1 s0)] h := ev_go c111_16 rfl
theorem c111_17 : cd 111 17 = some (17, .iconst 3, 1, 0, 0, 0) := rfl
theorem s111_17 {l0 l1 l2 l3 l4 l5 l6 l7 l8 l9 l10 s0 : AV} {h : AH} : evL 111 17 [l0, l1, l2, l3, l4, l5, l6, l7, l8, l9, l10] [s0] h = evL 111 18 [l0, l1, l2, l3, l4, l5, l6, l7, l8, l9, l10] [I 3, s0] h := ev_go c111_17 rfl
theorem c111_18 : cd 111 18 = some (18, .invokestatic 39, 3, 105, 0, 383) := rfl
theorem s111_18 {l0 l1 l2 l3 l4 l5 l6 l7 l8 l9 l10 : AV} {s0 s1 : Int} {M : Mem} {P : PMem} : evL 111 18 [l0, l1, l2, l3, l4, l5, l6, l7, l8, l9, l10] [I s0, I s1] (Hp M P) = cont (evM 105 [I s1, I s0] (Hp M P)) (fun r h => evL 111 21 [l0, l1, l2, l3, l4, l5, l6, l7, l8, l9, l10] (rl r []) h) := e_callS (av := [I s1, I s0]) (rest := []) c111_18 rfl rfl rfl rfl rfl rfl
theorem c111_21 : cd 111 21 = some (21, .istore_n 3, 1, 0, 0, 0) := rfl
theorem s111_21 {l0 l1 l2 l3 l4 l5 l6 l7 l8 l9 l10 : AV} {s0 : Int} {h : AH} : evL 111 21 [l0, l1, l2, l3, l4, l5, l6, l7, l8, l9, l10] [I s0] h = evL 111 22 [l0, l1, l2, I s0, l4, l5, l6, l7, l8, l9, l10] [] h := ev_go c111_21 rfl
theorem c111_22 : cd 111 22 = some (22, .iload_n 1, 1, 0, 0, 0) := rfl
theorem s111_22 {l0 l2 l3 l4 l5 l6 l7 l8 l9 l10 : AV} {l1 : Int} {h : AH} : evL 111 22 [l0, I l1, l2, l3, l4, l5, l6, l7, l8, l9, l10] [] h = evL 111 23 [l0, I l1, l2, l3, l4, l5, l6, l7, l8, l9, l10] [I l1] h := ev_go c111_22 rfl
theorem c111_23 : cd 111 23 = some (23, .bipush 7, 2, 0, 0, 0) := rfl
theorem s111_23 {l0 l1 l2 l3 l4 l5 l6 l7 l8 l9 l10 s0 : AV} {h : AH} : evL 111 23 [l0, l1, l2, l3, l4, l5, l6, l7, l8, l9, l10] [s0] h = evL 111 25 [l0, l1, l2, l3, l4, l5, l6, l7, l8, l9, l10] [I 7, s0] h := ev_go c111_23 rfl
theorem c111_25 : cd 111 25 = some (25, .ishr, 1, 0, 0, 0) := rfl
theorem s111_25 {l0 l1 l2 l3 l4 l5 l6 l7 l8 l9 l10 : AV} {s0 s1 : Int} {h : AH} : evL 111 25 [l0, l1, l2, l3, l4, l5, l6, l7, l8, l9, l10] [I s0, I s1] h = evL 111 26 [l0, l1, l2, l3, l4, l5, l6, l7, l8, l9, l10] [I (shr s1 s0)] h := ev_go c111_25 rfl
theorem c111_26 : cd 111 26 = some (26, .iconst 2, 1, 0, 0, 0) := rfl
theorem s111_26 {l0 l1 l2 l3 l4 l5 l6 l7 l8 l9 l10 s0 : AV} {h : AH} : evL 111 26 [l0, l1, l2, l3, l4, l5, l6, l7, l8, l9, l10] [s0] h = evL 111 27 [l0, l1, l2, l3, l4, l5, l6, l7, l8, l9, l10] [I 2, s0] h := ev_go c111_26 rfl
theorem c111_27 : cd 111 27 = some (27, .invokestatic 39, 3, 105, 0, 383) := rfl
theorem s111_27 {l0 l1 l2 l3 l4 l5 l6 l7 l8 l9 l10 : AV} {s0 s1 : Int} {M : Mem} {P : PMem} : evL 111 27 [l0, l1, l2, l3, l4, l5, l6, l7, l8, l9, l10] [I s0, I s1] (Hp M P) = cont (evM 105 [I s1, I s0] (Hp M P)) (fun r h => evL 111 30 [l0, l1, l2, l3, l4, l5, l6, l7, l8, l9, l10] (rl r []) h) := e_callS (av := [I s1, I s0]) (rest := []) c111_27 rfl rfl rfl rfl rfl rfl
theorem c111_30 : cd 111 30 = some (30, .ifCond .ne 7, 3, 0, 0, 0) := rfl
theorem s111_30 {l0 l1 l2 l3 l4 l5 l6 l7 l8 l9 l10 : AV} {s0 : Int} {h : AH} : evL 111 30 [l0, l1, l2, l3, l4, l5, l6, l7, l8, l9, l10] [I s0] h = if s0 = 0 then evL 111 33 [l0, l1, l2, l3, l4, l5, l6, l7, l8, l9, l10] [] h else evL 111 37 [l0, l1, l2, l3, l4, l5, l6, l7, l8, l9, l10] [] h := e_if_ne c111_30 rfl rfl
theorem c111_33 : cd 111 33 = some (33, .iconst 1, 1, 0, 0, 0) := rfl
theorem s111_33 {l0 l1 l2 l3 l4 l5 l6 l7 l8 l9 l10 : AV} {h : AH} : evL 111 33 [l0, l1, l2, l3, l4, l5, l6, l7, l8, l9, l10] [] h = evL 111 34 [l0, l1, l2, l3, l4, l5, l6, l7, l8, l9, l10] [I 1] h := ev_go c111_33 rfl
theorem c111_34 : cd 111 34 = some (34, .goto 4, 3, 0, 0, 0) := rfl
theorem s111_34 {l0 l1 l2 l3 l4 l5 l6 l7 l8 l9 l10 s0 : AV} {h : AH} : evL 111 34 [l0, l1, l2, l3, l4, l5, l6, l7, l8, l9, l10] [s0] h = evL 111 38 [l0, l1, l2, l3, l4, l5, l6, l7, l8, l9, l10] [s0] h := ev_go c111_34 rfl
theorem c111_37 : cd 111 37 = some (37, .iconst 0, 1, 0, 0, 0) := rfl
theorem s111_37 {l0 l1 l2 l3 l4 l5 l6 l7 l8 l9 l10 : AV} {h : AH} : evL 111 37 [l0, l1, l2, l3, l4, l5, l6, l7, l8, l9, l10] [] h = evL 111 38 [l0, l1, l2, l3, l4, l5, l6, l7, l8, l9, l10] [I 0] h := ev_go c111_37 rfl
theorem c111_38 : cd 111 38 = some (38, .istore 4, 2, 0, 0, 0) := rfl
theorem s111_38 {l0 l1 l2 l3 l4 l5 l6 l7 l8 l9 l10 : AV} {s0 : Int} {h : AH} : evL 111 38 [l0, l1, l2, l3, l4, l5, l6, l7, l8, l9, l10] [I s0] h = evL 111 40 [l0, l1, l2, l3, I s0, l5, l6, l7, l8, l9, l10] [] h := ev_go c111_38 rfl
theorem c111_40 : cd 111 40 = some (40, .iload_n 1, 1, 0, 0, 0) := rfl
theorem s111_40 {l0 l2 l3 l4 l5 l6 l7 l8 l9 l10 : AV} {l1 : Int} {h : AH} : evL 111 40 [l0, I l1, l2, l3, l4, l5, l6, l7, l8, l9, l10] [] h = evL 111 41 [l0, I l1, l2, l3, l4, l5, l6, l7, l8, l9, l10] [I l1] h := ev_go c111_40 rfl
theorem c111_41 : cd 111 41 = some (41, .bipush 9, 2, 0, 0, 0) := rfl
theorem s111_41 {l0 l1 l2 l3 l4 l5 l6 l7 l8 l9 l10 s0 : AV} {h : AH} : evL 111 41 [l0, l1, l2, l3, l4, l5, l6, l7, l8, l9, l10] [s0] h = evL 111 43 [l0, l1, l2, l3, l4, l5, l6, l7, l8, l9, l10] [I 9, s0] h := ev_go c111_41 rfl
theorem c111_43 : cd 111 43 = some (43, .ishr, 1, 0, 0, 0) := rfl
theorem s111_43 {l0 l1 l2 l3 l4 l5 l6 l7 l8 l9 l10 : AV} {s0 s1 : Int} {h : AH} : evL 111 43 [l0, l1, l2, l3, l4, l5, l6, l7, l8, l9, l10] [I s0, I s1] h = evL 111 44 [l0, l1, l2, l3, l4, l5, l6, l7, l8, l9, l10] [I (shr s1 s0)] h := ev_go c111_43 rfl
theorem c111_44 : cd 111 44 = some (44, .bipush 8, 2, 0, 0, 0) := rfl
theorem s111_44 {l0 l1 l2 l3 l4 l5 l6 l7 l8 l9 l10 s0 : AV} {h : AH} : evL 111 44 [l0, l1, l2, l3, l4, l5, l6, l7, l8, l9, l10] [s0] h = evL 111 46 [l0, l1, l2, l3, l4, l5, l6, l7, l8, l9, l10] [I 8, s0] h := ev_go c111_44 rfl
theorem c111_46 : cd 111 46 = some (46, .invokestatic 39, 3, 105, 0, 383) := rfl
theorem s111_46 {l0 l1 l2 l3 l4 l5 l6 l7 l8 l9 l10 : AV} {s0 s1 : Int} {M : Mem} {P : PMem} : evL 111 46 [l0, l1, l2, l3, l4, l5, l6, l7, l8, l9, l10] [I s0, I s1] (Hp M P) = cont (evM 105 [I s1, I s0] (Hp M P)) (fun r h => evL 111 49 [l0, l1, l2, l3, l4, l5, l6, l7, l8, l9, l10] (rl r []) h) := e_callS (av := [I s1, I s0]) (rest := []) c111_46 rfl rfl rfl rfl rfl rfl
theorem c111_49 : cd 111 49 = some (49, .istore 5, 2, 0, 0, 0) := rfl
theorem s111_49 {l0 l1 l2 l3 l4 l5 l6 l7 l8 l9 l10 : AV} {s0 : Int} {h : AH} : evL 111 49 [l0, l1, l2, l3, l4, l5, l6, l7, l8, l9, l10] [I s0] h = evL 111 51 [l0, l1, l2, l3, l4, I s0, l6, l7, l8, l9, l10] [] h := ev_go c111_49 rfl
theorem c111_51 : cd 111 51 = some (51, .aload_n 0, 1, 0, 0, 0) := rfl
theorem s111_51 {l1 l2 l3 l4 l5 l6 l7 l8 l9 l10 : AV} {l0 : Option Nat} {h : AH} : evL 111 51 [.inr (.inl l0), l1, l2, l3, l4, l5, l6, l7, l8, l9, l10] [] h = evL 111 52 [.inr (.inl l0), l1, l2, l3, l4, l5, l6, l7, l8, l9, l10] [.inr (.inl l0)] h := ev_go c111_51 rfl
theorem c111_52 : cd 111 52 = some (52, .iload_n 2, 1, 0, 0, 0) := rfl
theorem s111_52 {l0 l1 l3 l4 l5 l6 l7 l8 l9 l10 s0 : AV} {l2 : Int} {h : AH} : evL 111 52 [l0, l1, I l2, l3, l4, l5, l6, l7, l8, l9, l10] [s0] h = evL 111 53 [l0, l1, I l2, l3, l4, l5, l6, l7, l8, l9, l10] [I l2, s0] h := ev_go c111_52 rfl
theorem c111_53 : cd 111 53 = some (53, .iload 4, 2, 0, 0, 0) := rfl
theorem s111_53 {l0 l1 l2 l3 l5 l6 l7 l8 l9 l10 s0 s1 : AV} {l4 : Int} {h : AH} : evL 111 53 [l0, l1, l2, l3, I l4, l5, l6, l7, l8, l9, l10] [s0, s1] h = evL 111 55 [l0, l1, l2, l3, I l4, l5, l6, l7, l8, l9, l10] [I l4, s0, s1] h := ev_go c111_53 rfl
theorem c111_55 : cd 111 55 = some (55, .iload_n 3, 1, 0, 0, 0) := rfl
theorem s111_55 {l0 l1 l2 l4 l5 l6 l7 l8 l9 l10 s0 s1 s2 : AV} {l3 : Int} {h : AH} : evL 111 55 [l0, l1, l2, I l3, l4, l5, l6, l7, l8, l9, l10] [s0, s1, s2] h = evL 111 56 [l0, l1, l2, I l3, l4, l5, l6, l7, l8, l9, l10] [I l3, s0, s1, s2] h := ev_go c111_55 rfl
theorem c111_56 : cd 111 56 = some (56, .invokevirtual 42, 3, 102, 0, 454) := rfl
theorem s111_56 {l0 l1 l2 l3 l4 l5 l6 l7 l8 l9 l10 : AV} {s0 s1 s2 : Int} {s3 : Nat} {M : Mem} {P : PMem} (hk : kd s3 = 7) : evL 111 56 [l0, l1, l2, l3, l4, l5, l6, l7, l8, l9, l10] [I s0, I s1, I s2, Rf s3] (Hp M P) = cont (evM 102 [Rf s3, I s2, I s1, I s0] (Hp M P)) (fun r h => evL 111 59 [l0, l1, l2, l3, l4, l5, l6, l7, l8, l9, l10] (rl r []) h) := e_callV (av' := [I s2, I s1, I s0]) (rest := []) (c := 7) c111_56 rfl rfl rfl rfl rfl rfl rfl hk rfl
theorem c111_59 : cd 111 59 = some (59, .istore 6, 2, 0, 0, 0) := rfl
theorem s111_59 {l0 l1 l2 l3 l4 l5 l6 l7 l8 l9 l10 : AV} {s0 : Int} {h : AH} : evL 111 59 [l0, l1, l2, l3, l4, l5, l6, l7, l8, l9, l10] [I s0] h = evL 111 61 [l0, l1, l2, l3, l4, l5, I s0, l7, l8, l9, l10] [] h := ev_go c111_59 rfl
theorem c111_61 : cd 111 61 = some (61, .aload_n 0, 1, 0, 0, 0) := rfl
theorem s111_61 {l1 l2 l3 l4 l5 l6 l7 l8 l9 l10 : AV} {l0 : Option Nat} {h : AH} : evL 111 61 [.inr (.inl l0), l1, l2, l3, l4, l5, l6, l7, l8, l9, l10] [] h = evL 111 62 [.inr (.inl l0), l1, l2, l3, l4, l5, l6, l7, l8, l9, l10] [.inr (.inl l0)] h := ev_go c111_61 rfl
theorem c111_62 : cd 111 62 = some (62, .iload 5, 2, 0, 0, 0) := rfl
theorem s111_62 {l0 l1 l2 l3 l4 l6 l7 l8 l9 l10 s0 : AV} {l5 : Int} {h : AH} : evL 111 62 [l0, l1, l2, l3, l4, I l5, l6, l7, l8, l9, l10] [s0] h = evL 111 64 [l0, l1, l2, l3, l4, I l5, l6, l7, l8, l9, l10] [I l5, s0] h := ev_go c111_62 rfl
theorem c111_64 : cd 111 64 = some (64, .invokevirtual 46, 3, 103, 0, 504) := rfl
theorem s111_64 {l0 l1 l2 l3 l4 l5 l6 l7 l8 l9 l10 : AV} {s0 : Int} {s1 : Nat} {M : Mem} {P : PMem} (hk : kd s1 = 7) : evL 111 64 [l0, l1, l2, l3, l4, l5, l6, l7, l8, l9, l10] [I s0, Rf s1] (Hp M P) = cont (evM 103 [Rf s1, I s0] (Hp M P)) (fun r h => evL 111 67 [l0, l1, l2, l3, l4, l5, l6, l7, l8, l9, l10] (rl r []) h) := e_callV (av' := [I s0]) (rest := []) (c := 7) c111_64 rfl rfl rfl rfl rfl rfl rfl hk rfl
theorem c111_67 : cd 111 67 = some (67, .istore 7, 2, 0, 0, 0) := rfl
theorem s111_67 {l0 l1 l2 l3 l4 l5 l6 l7 l8 l9 l10 : AV} {s0 : Int} {h : AH} : evL 111 67 [l0, l1, l2, l3, l4, l5, l6, l7, l8, l9, l10] [I s0] h = evL 111 69 [l0, l1, l2, l3, l4, l5, l6, I s0, l8, l9, l10] [] h := ev_go c111_67 rfl
theorem c111_69 : cd 111 69 = some (69, .aload_n 0, 1, 0, 0, 0) := rfl
theorem s111_69 {l1 l2 l3 l4 l5 l6 l7 l8 l9 l10 : AV} {l0 : Option Nat} {h : AH} : evL 111 69 [.inr (.inl l0), l1, l2, l3, l4, l5, l6, l7, l8, l9, l10] [] h = evL 111 70 [.inr (.inl l0), l1, l2, l3, l4, l5, l6, l7, l8, l9, l10] [.inr (.inl l0)] h := ev_go c111_69 rfl
theorem c111_70 : cd 111 70 = some (70, .iconst 3, 1, 0, 0, 0) := rfl
theorem s111_70 {l0 l1 l2 l3 l4 l5 l6 l7 l8 l9 l10 s0 : AV} {h : AH} : evL 111 70 [l0, l1, l2, l3, l4, l5, l6, l7, l8, l9, l10] [s0] h = evL 111 71 [l0, l1, l2, l3, l4, l5, l6, l7, l8, l9, l10] [I 3, s0] h := ev_go c111_70 rfl
theorem c111_71 : cd 111 71 = some (71, .invokevirtual 13, 3, 100, 0, 258) := rfl
theorem s111_71 {l0 l1 l2 l3 l4 l5 l6 l7 l8 l9 l10 : AV} {s0 : Int} {s1 : Nat} {M : Mem} {P : PMem} (hk : kd s1 = 7) : evL 111 71 [l0, l1, l2, l3, l4, l5, l6, l7, l8, l9, l10] [I s0, Rf s1] (Hp M P) = cont (evM 100 [Rf s1, I s0] (Hp M P)) (fun r h => evL 111 74 [l0, l1, l2, l3, l4, l5, l6, l7, l8, l9, l10] (rl r []) h) := e_callV (av' := [I s0]) (rest := []) (c := 7) c111_71 rfl rfl rfl rfl rfl rfl rfl hk rfl
theorem c111_74 : cd 111 74 = some (74, .istore 8, 2, 0, 0, 0) := rfl
theorem s111_74 {l0 l1 l2 l3 l4 l5 l6 l7 l8 l9 l10 : AV} {s0 : Int} {h : AH} : evL 111 74 [l0, l1, l2, l3, l4, l5, l6, l7, l8, l9, l10] [I s0] h = evL 111 76 [l0, l1, l2, l3, l4, l5, l6, l7, I s0, l9, l10] [] h := ev_go c111_74 rfl
theorem c111_76 : cd 111 76 = some (76, .aload_n 0, 1, 0, 0, 0) := rfl
theorem s111_76 {l1 l2 l3 l4 l5 l6 l7 l8 l9 l10 : AV} {l0 : Option Nat} {h : AH} : evL 111 76 [.inr (.inl l0), l1, l2, l3, l4, l5, l6, l7, l8, l9, l10] [] h = evL 111 77 [.inr (.inl l0), l1, l2, l3, l4, l5, l6, l7, l8, l9, l10] [.inr (.inl l0)] h := ev_go c111_76 rfl
theorem c111_77 : cd 111 77 = some (77, .iconst 4, 1, 0, 0, 0) := rfl
theorem s111_77 {l0 l1 l2 l3 l4 l5 l6 l7 l8 l9 l10 s0 : AV} {h : AH} : evL 111 77 [l0, l1, l2, l3, l4, l5, l6, l7, l8, l9, l10] [s0] h = evL 111 78 [l0, l1, l2, l3, l4, l5, l6, l7, l8, l9, l10] [I 4, s0] h := ev_go c111_77 rfl
theorem c111_78 : cd 111 78 = some (78, .invokevirtual 13, 3, 100, 0, 258) := rfl
theorem s111_78 {l0 l1 l2 l3 l4 l5 l6 l7 l8 l9 l10 : AV} {s0 : Int} {s1 : Nat} {M : Mem} {P : PMem} (hk : kd s1 = 7) : evL 111 78 [l0, l1, l2, l3, l4, l5, l6, l7, l8, l9, l10] [I s0, Rf s1] (Hp M P) = cont (evM 100 [Rf s1, I s0] (Hp M P)) (fun r h => evL 111 81 [l0, l1, l2, l3, l4, l5, l6, l7, l8, l9, l10] (rl r []) h) := e_callV (av' := [I s0]) (rest := []) (c := 7) c111_78 rfl rfl rfl rfl rfl rfl rfl hk rfl
theorem c111_81 : cd 111 81 = some (81, .ifCond .ne 32, 3, 0, 0, 0) := rfl
theorem s111_81 {l0 l1 l2 l3 l4 l5 l6 l7 l8 l9 l10 : AV} {s0 : Int} {h : AH} : evL 111 81 [l0, l1, l2, l3, l4, l5, l6, l7, l8, l9, l10] [I s0] h = if s0 = 0 then evL 111 84 [l0, l1, l2, l3, l4, l5, l6, l7, l8, l9, l10] [] h else evL 111 113 [l0, l1, l2, l3, l4, l5, l6, l7, l8, l9, l10] [] h := e_if_ne c111_81 rfl rfl
theorem c111_84 : cd 111 84 = some (84, .iload 4, 2, 0, 0, 0) := rfl
theorem s111_84 {l0 l1 l2 l3 l5 l6 l7 l8 l9 l10 : AV} {l4 : Int} {h : AH} : evL 111 84 [l0, l1, l2, l3, I l4, l5, l6, l7, l8, l9, l10] [] h = evL 111 86 [l0, l1, l2, l3, I l4, l5, l6, l7, l8, l9, l10] [I l4] h := ev_go c111_84 rfl
theorem c111_86 : cd 111 86 = some (86, .ifCond .eq 23, 3, 0, 0, 0) := rfl
theorem s111_86 {l0 l1 l2 l3 l4 l5 l6 l7 l8 l9 l10 : AV} {s0 : Int} {h : AH} : evL 111 86 [l0, l1, l2, l3, l4, l5, l6, l7, l8, l9, l10] [I s0] h = if s0 = 0 then evL 111 109 [l0, l1, l2, l3, l4, l5, l6, l7, l8, l9, l10] [] h else evL 111 89 [l0, l1, l2, l3, l4, l5, l6, l7, l8, l9, l10] [] h := e_if_eq c111_86 rfl rfl
theorem c111_89 : cd 111 89 = some (89, .aload_n 0, 1, 0, 0, 0) := rfl
theorem s111_89 {l1 l2 l3 l4 l5 l6 l7 l8 l9 l10 : AV} {l0 : Option Nat} {h : AH} : evL 111 89 [.inr (.inl l0), l1, l2, l3, l4, l5, l6, l7, l8, l9, l10] [] h = evL 111 90 [.inr (.inl l0), l1, l2, l3, l4, l5, l6, l7, l8, l9, l10] [.inr (.inl l0)] h := ev_go c111_89 rfl
theorem c111_90 : cd 111 90 = some (90, .iload 8, 2, 0, 0, 0) := rfl
theorem s111_90 {l0 l1 l2 l3 l4 l5 l6 l7 l9 l10 s0 : AV} {l8 : Int} {h : AH} : evL 111 90 [l0, l1, l2, l3, l4, l5, l6, l7, I l8, l9, l10] [s0] h = evL 111 92 [l0, l1, l2, l3, l4, l5, l6, l7, I l8, l9, l10] [I l8, s0] h := ev_go c111_90 rfl
theorem c111_92 : cd 111 92 = some (92, .iconst 1, 1, 0, 0, 0) := rfl
theorem s111_92 {l0 l1 l2 l3 l4 l5 l6 l7 l8 l9 l10 s0 s1 : AV} {h : AH} : evL 111 92 [l0, l1, l2, l3, l4, l5, l6, l7, l8, l9, l10] [s0, s1] h = evL 111 93 [l0, l1, l2, l3, l4, l5, l6, l7, l8, l9, l10] [I 1, s0, s1] h := ev_go c111_92 rfl
theorem c111_93 : cd 111 93 = some (93, .invokevirtual 23, 3, 97, 0, 406) := rfl
theorem s111_93 {l0 l1 l2 l3 l4 l5 l6 l7 l8 l9 l10 : AV} {s0 s1 : Int} {s2 : Nat} {M : Mem} {P : PMem} (hk : kd s2 = 7) : evL 111 93 [l0, l1, l2, l3, l4, l5, l6, l7, l8, l9, l10] [I s0, I s1, Rf s2] (Hp M P) = cont (evM 97 [Rf s2, I s1, I s0] (Hp M P)) (fun r h => evL 111 96 [l0, l1, l2, l3, l4, l5, l6, l7, l8, l9, l10] (rl r []) h) := e_callV (av' := [I s1, I s0]) (rest := []) (c := 7) c111_93 rfl rfl rfl rfl rfl rfl rfl hk rfl
theorem c111_96 : cd 111 96 = some (96, .ifCond .ne 17, 3, 0, 0, 0) := rfl
theorem s111_96 {l0 l1 l2 l3 l4 l5 l6 l7 l8 l9 l10 : AV} {s0 : Int} {h : AH} : evL 111 96 [l0, l1, l2, l3, l4, l5, l6, l7, l8, l9, l10] [I s0] h = if s0 = 0 then evL 111 99 [l0, l1, l2, l3, l4, l5, l6, l7, l8, l9, l10] [] h else evL 111 113 [l0, l1, l2, l3, l4, l5, l6, l7, l8, l9, l10] [] h := e_if_ne c111_96 rfl rfl
theorem c111_99 : cd 111 99 = some (99, .aload_n 0, 1, 0, 0, 0) := rfl
theorem s111_99 {l1 l2 l3 l4 l5 l6 l7 l8 l9 l10 : AV} {l0 : Option Nat} {h : AH} : evL 111 99 [.inr (.inl l0), l1, l2, l3, l4, l5, l6, l7, l8, l9, l10] [] h = evL 111 100 [.inr (.inl l0), l1, l2, l3, l4, l5, l6, l7, l8, l9, l10] [.inr (.inl l0)] h := ev_go c111_99 rfl
theorem c111_100 : cd 111 100 = some (100, .iload 8, 2, 0, 0, 0) := rfl
theorem s111_100 {l0 l1 l2 l3 l4 l5 l6 l7 l9 l10 s0 : AV} {l8 : Int} {h : AH} : evL 111 100 [l0, l1, l2, l3, l4, l5, l6, l7, I l8, l9, l10] [s0] h = evL 111 102 [l0, l1, l2, l3, l4, l5, l6, l7, I l8, l9, l10] [I l8, s0] h := ev_go c111_100 rfl
theorem c111_102 : cd 111 102 = some (102, .iconst 0, 1, 0, 0, 0) := rfl
theorem s111_102 {l0 l1 l2 l3 l4 l5 l6 l7 l8 l9 l10 s0 s1 : AV} {h : AH} : evL 111 102 [l0, l1, l2, l3, l4, l5, l6, l7, l8, l9, l10] [s0, s1] h = evL 111 103 [l0, l1, l2, l3, l4, l5, l6, l7, l8, l9, l10] [I 0, s0, s1] h := ev_go c111_102 rfl
theorem c111_103 : cd 111 103 = some (103, .invokevirtual 23, 3, 97, 0, 406) := rfl
theorem s111_103 {l0 l1 l2 l3 l4 l5 l6 l7 l8 l9 l10 : AV} {s0 s1 : Int} {s2 : Nat} {M : Mem} {P : PMem} (hk : kd s2 = 7) : evL 111 103 [l0, l1, l2, l3, l4, l5, l6, l7, l8, l9, l10] [I s0, I s1, Rf s2] (Hp M P) = cont (evM 97 [Rf s2, I s1, I s0] (Hp M P)) (fun r h => evL 111 106 [l0, l1, l2, l3, l4, l5, l6, l7, l8, l9, l10] (rl r []) h) := e_callV (av' := [I s1, I s0]) (rest := []) (c := 7) c111_103 rfl rfl rfl rfl rfl rfl rfl hk rfl
theorem c111_106 : cd 111 106 = some (106, .ifCond .le 7, 3, 0, 0, 0) := rfl
theorem s111_106 {l0 l1 l2 l3 l4 l5 l6 l7 l8 l9 l10 : AV} {s0 : Int} {h : AH} : evL 111 106 [l0, l1, l2, l3, l4, l5, l6, l7, l8, l9, l10] [I s0] h = if s0 ≤ 0 then evL 111 113 [l0, l1, l2, l3, l4, l5, l6, l7, l8, l9, l10] [] h else evL 111 109 [l0, l1, l2, l3, l4, l5, l6, l7, l8, l9, l10] [] h := e_if_le c111_106 rfl rfl
theorem c111_109 : cd 111 109 = some (109, .iconst 1, 1, 0, 0, 0) := rfl
theorem s111_109 {l0 l1 l2 l3 l4 l5 l6 l7 l8 l9 l10 : AV} {h : AH} : evL 111 109 [l0, l1, l2, l3, l4, l5, l6, l7, l8, l9, l10] [] h = evL 111 110 [l0, l1, l2, l3, l4, l5, l6, l7, l8, l9, l10] [I 1] h := ev_go c111_109 rfl
theorem c111_110 : cd 111 110 = some (110, .goto 4, 3, 0, 0, 0) := rfl
theorem s111_110 {l0 l1 l2 l3 l4 l5 l6 l7 l8 l9 l10 s0 : AV} {h : AH} : evL 111 110 [l0, l1, l2, l3, l4, l5, l6, l7, l8, l9, l10] [s0] h = evL 111 114 [l0, l1, l2, l3, l4, l5, l6, l7, l8, l9, l10] [s0] h := ev_go c111_110 rfl
theorem c111_113 : cd 111 113 = some (113, .iconst 0, 1, 0, 0, 0) := rfl
theorem s111_113 {l0 l1 l2 l3 l4 l5 l6 l7 l8 l9 l10 : AV} {h : AH} : evL 111 113 [l0, l1, l2, l3, l4, l5, l6, l7, l8, l9, l10] [] h = evL 111 114 [l0, l1, l2, l3, l4, l5, l6, l7, l8, l9, l10] [I 0] h := ev_go c111_113 rfl
theorem c111_114 : cd 111 114 = some (114, .istore 9, 2, 0, 0, 0) := rfl
theorem s111_114 {l0 l1 l2 l3 l4 l5 l6 l7 l8 l9 l10 : AV} {s0 : Int} {h : AH} : evL 111 114 [l0, l1, l2, l3, l4, l5, l6, l7, l8, l9, l10] [I s0] h = evL 111 116 [l0, l1, l2, l3, l4, l5, l6, l7, l8, I s0, l10] [] h := ev_go c111_114 rfl
theorem c111_116 : cd 111 116 = some (116, .aload_n 0, 1, 0, 0, 0) := rfl
theorem s111_116 {l1 l2 l3 l4 l5 l6 l7 l8 l9 l10 : AV} {l0 : Option Nat} {h : AH} : evL 111 116 [.inr (.inl l0), l1, l2, l3, l4, l5, l6, l7, l8, l9, l10] [] h = evL 111 117 [.inr (.inl l0), l1, l2, l3, l4, l5, l6, l7, l8, l9, l10] [.inr (.inl l0)] h := ev_go c111_116 rfl
theorem c111_117 : cd 111 117 = some (117, .iconst 4, 1, 0, 0, 0) := rfl
theorem s111_117 {l0 l1 l2 l3 l4 l5 l6 l7 l8 l9 l10 s0 : AV} {h : AH} : evL 111 117 [l0, l1, l2, l3, l4, l5, l6, l7, l8, l9, l10] [s0] h = evL 111 118 [l0, l1, l2, l3, l4, l5, l6, l7, l8, l9, l10] [I 4, s0] h := ev_go c111_117 rfl
theorem c111_118 : cd 111 118 = some (118, .invokevirtual 13, 3, 100, 0, 258) := rfl
theorem s111_118 {l0 l1 l2 l3 l4 l5 l6 l7 l8 l9 l10 : AV} {s0 : Int} {s1 : Nat} {M : Mem} {P : PMem} (hk : kd s1 = 7) : evL 111 118 [l0, l1, l2, l3, l4, l5, l6, l7, l8, l9, l10] [I s0, Rf s1] (Hp M P) = cont (evM 100 [Rf s1, I s0] (Hp M P)) (fun r h => evL 111 121 [l0, l1, l2, l3, l4, l5, l6, l7, l8, l9, l10] (rl r []) h) := e_callV (av' := [I s0]) (rest := []) (c := 7) c111_118 rfl rfl rfl rfl rfl rfl rfl hk rfl
theorem c111_121 : cd 111 121 = some (121, .ifCond .ne 17, 3, 0, 0, 0) := rfl
theorem s111_121 {l0 l1 l2 l3 l4 l5 l6 l7 l8 l9 l10 : AV} {s0 : Int} {h : AH} : evL 111 121 [l0, l1, l2, l3, l4, l5, l6, l7, l8, l9, l10] [I s0] h = if s0 = 0 then evL 111 124 [l0, l1, l2, l3, l4, l5, l6, l7, l8, l9, l10] [] h else evL 111 138 [l0, l1, l2, l3, l4, l5, l6, l7, l8, l9, l10] [] h := e_if_ne c111_121 rfl rfl
theorem c111_124 : cd 111 124 = some (124, .aload_n 0, 1, 0, 0, 0) := rfl
theorem s111_124 {l1 l2 l3 l4 l5 l6 l7 l8 l9 l10 : AV} {l0 : Option Nat} {h : AH} : evL 111 124 [.inr (.inl l0), l1, l2, l3, l4, l5, l6, l7, l8, l9, l10] [] h = evL 111 125 [.inr (.inl l0), l1, l2, l3, l4, l5, l6, l7, l8, l9, l10] [.inr (.inl l0)] h := ev_go c111_124 rfl
theorem c111_125 : cd 111 125 = some (125, .iload 8, 2, 0, 0, 0) := rfl
theorem s111_125 {l0 l1 l2 l3 l4 l5 l6 l7 l9 l10 s0 : AV} {l8 : Int} {h : AH} : evL 111 125 [l0, l1, l2, l3, l4, l5, l6, l7, I l8, l9, l10] [s0] h = evL 111 127 [l0, l1, l2, l3, l4, l5, l6, l7, I l8, l9, l10] [I l8, s0] h := ev_go c111_125 rfl
theorem c111_127 : cd 111 127 = some (127, .iconst 0, 1, 0, 0, 0) := rfl
theorem s111_127 {l0 l1 l2 l3 l4 l5 l6 l7 l8 l9 l10 s0 s1 : AV} {h : AH} : evL 111 127 [l0, l1, l2, l3, l4, l5, l6, l7, l8, l9, l10] [s0, s1] h = evL 111 128 [l0, l1, l2, l3, l4, l5, l6, l7, l8, l9, l10] [I 0, s0, s1] h := ev_go c111_127 rfl
theorem c111_128 : cd 111 128 = some (128, .invokevirtual 23, 3, 97, 0, 406) := rfl
theorem s111_128 {l0 l1 l2 l3 l4 l5 l6 l7 l8 l9 l10 : AV} {s0 s1 : Int} {s2 : Nat} {M : Mem} {P : PMem} (hk : kd s2 = 7) : evL 111 128 [l0, l1, l2, l3, l4, l5, l6, l7, l8, l9, l10] [I s0, I s1, Rf s2] (Hp M P) = cont (evM 97 [Rf s2, I s1, I s0] (Hp M P)) (fun r h => evL 111 131 [l0, l1, l2, l3, l4, l5, l6, l7, l8, l9, l10] (rl r []) h) := e_callV (av' := [I s1, I s0]) (rest := []) (c := 7) c111_128 rfl rfl rfl rfl rfl rfl rfl hk rfl
theorem c111_131 : cd 111 131 = some (131, .ifCond .le 7, 3, 0, 0, 0) := rfl
theorem s111_131 {l0 l1 l2 l3 l4 l5 l6 l7 l8 l9 l10 : AV} {s0 : Int} {h : AH} : evL 111 131 [l0, l1, l2, l3, l4, l5, l6, l7, l8, l9, l10] [I s0] h = if s0 ≤ 0 then evL 111 138 [l0, l1, l2, l3, l4, l5, l6, l7, l8, l9, l10] [] h else evL 111 134 [l0, l1, l2, l3, l4, l5, l6, l7, l8, l9, l10] [] h := e_if_le c111_131 rfl rfl
theorem c111_134 : cd 111 134 = some (134, .iconst 1, 1, 0, 0, 0) := rfl
theorem s111_134 {l0 l1 l2 l3 l4 l5 l6 l7 l8 l9 l10 : AV} {h : AH} : evL 111 134 [l0, l1, l2, l3, l4, l5, l6, l7, l8, l9, l10] [] h = evL 111 135 [l0, l1, l2, l3, l4, l5, l6, l7, l8, l9, l10] [I 1] h := ev_go c111_134 rfl
theorem c111_135 : cd 111 135 = some (135, .goto 4, 3, 0, 0, 0) := rfl
theorem s111_135 {l0 l1 l2 l3 l4 l5 l6 l7 l8 l9 l10 s0 : AV} {h : AH} : evL 111 135 [l0, l1, l2, l3, l4, l5, l6, l7, l8, l9, l10] [s0] h = evL 111 139 [l0, l1, l2, l3, l4, l5, l6, l7, l8, l9, l10] [s0] h := ev_go c111_135 rfl
theorem c111_138 : cd 111 138 = some (138, .iconst 0, 1, 0, 0, 0) := rfl
theorem s111_138 {l0 l1 l2 l3 l4 l5 l6 l7 l8 l9 l10 : AV} {h : AH} : evL 111 138 [l0, l1, l2, l3, l4, l5, l6, l7, l8, l9, l10] [] h = evL 111 139 [l0, l1, l2, l3, l4, l5, l6, l7, l8, l9, l10] [I 0] h := ev_go c111_138 rfl
theorem c111_139 : cd 111 139 = some (139, .istore 10, 2, 0, 0, 0) := rfl
theorem s111_139 {l0 l1 l2 l3 l4 l5 l6 l7 l8 l9 l10 : AV} {s0 : Int} {h : AH} : evL 111 139 [l0, l1, l2, l3, l4, l5, l6, l7, l8, l9, l10] [I s0] h = evL 111 141 [l0, l1, l2, l3, l4, l5, l6, l7, l8, l9, I s0] [] h := ev_go c111_139 rfl
theorem c111_141 : cd 111 141 = some (141, .iload_n 2, 1, 0, 0, 0) := rfl
theorem s111_141 {l0 l1 l3 l4 l5 l6 l7 l8 l9 l10 : AV} {l2 : Int} {h : AH} : evL 111 141 [l0, l1, I l2, l3, l4, l5, l6, l7, l8, l9, l10] [] h = evL 111 142 [l0, l1, I l2, l3, l4, l5, l6, l7, l8, l9, l10] [I l2] h := ev_go c111_141 rfl
theorem c111_142 : cd 111 142 = some (142, .ifCond .lt 17, 3, 0, 0, 0) := rfl
theorem s111_142 {l0 l1 l2 l3 l4 l5 l6 l7 l8 l9 l10 : AV} {s0 : Int} {h : AH} : evL 111 142 [l0, l1, l2, l3, l4, l5, l6, l7, l8, l9, l10] [I s0] h = if s0 < 0 then evL 111 159 [l0, l1, l2, l3, l4, l5, l6, l7, l8, l9, l10] [] h else evL 111 145 [l0, l1, l2, l3, l4, l5, l6, l7, l8, l9, l10] [] h := e_if_lt c111_142 rfl rfl
theorem c111_145 : cd 111 145 = some (145, .iload_n 2, 1, 0, 0, 0) := rfl
theorem s111_145 {l0 l1 l3 l4 l5 l6 l7 l8 l9 l10 : AV} {l2 : Int} {h : AH} : evL 111 145 [l0, l1, I l2, l3, l4, l5, l6, l7, l8, l9, l10] [] h = evL 111 146 [l0, l1, I l2, l3, l4, l5, l6, l7, l8, l9, l10] [I l2] h := ev_go c111_145 rfl
theorem c111_146 : cd 111 146 = some (146, .aload_n 0, 1, 0, 0, 0) := rfl
theorem s111_146 {l1 l2 l3 l4 l5 l6 l7 l8 l9 l10 s0 : AV} {l0 : Option Nat} {h : AH} : evL 111 146 [.inr (.inl l0), l1, l2, l3, l4, l5, l6, l7, l8, l9, l10] [s0] h = evL 111 147 [.inr (.inl l0), l1, l2, l3, l4, l5, l6, l7, l8, l9, l10] [.inr (.inl l0), s0] h := ev_go c111_146 rfl
theorem c111_147 : cd 111 147 = some (147, .iconst 1, 1, 0, 0, 0) := rfl
theorem s111_147 {l0 l1 l2 l3 l4 l5 l6 l7 l8 l9 l10 s0 s1 : AV} {h : AH} : evL 111 147 [l0, l1, l2, l3, l4, l5, l6, l7, l8, l9, l10] [s0, s1] h = evL 111 148 [l0, l1, l2, l3, l4, l5, l6, l7, l8, l9, l10] [I 1, s0, s1] h := ev_go c111_147 rfl
theorem c111_148 : cd 111 148 = some (148, .invokevirtual 13, 3, 100, 0, 258) := rfl
theorem s111_148 {l0 l1 l2 l3 l4 l5 l6 l7 l8 l9 l10 s2 : AV} {s0 : Int} {s1 : Nat} {M : Mem} {P : PMem} (hk : kd s1 = 7) : evL 111 148 [l0, l1, l2, l3, l4, l5, l6, l7, l8, l9, l10] [I s0, Rf s1, s2] (Hp M P) = cont (evM 100 [Rf s1, I s0] (Hp M P)) (fun r h => evL 111 151 [l0, l1, l2, l3, l4, l5, l6, l7, l8, l9, l10] (rl r [s2]) h) := e_callV (av' := [I s0]) (rest := [s2]) (c := 7) c111_148 rfl rfl rfl rfl rfl rfl rfl hk rfl
theorem c111_151 : cd 111 151 = some (151, .if_icmp .gt 8, 3, 0, 0, 0) := rfl
theorem s111_151 {l0 l1 l2 l3 l4 l5 l6 l7 l8 l9 l10 : AV} {s0 s1 : Int} {h : AH} : evL 111 151 [l0, l1, l2, l3, l4, l5, l6, l7, l8, l9, l10] [I s0, I s1] h = if s0 < s1 then evL 111 159 [l0, l1, l2, l3, l4, l5, l6, l7, l8, l9, l10] [] h else evL 111 154 [l0, l1, l2, l3, l4, l5, l6, l7, l8, l9, l10] [] h := e_icmp_gt c111_151 rfl rfl
theorem c111_154 : cd 111 154 = some (154, .iload_n 3, 1, 0, 0, 0) := rfl
theorem s111_154 {l0 l1 l2 l4 l5 l6 l7 l8 l9 l10 : AV} {l3 : Int} {h : AH} : evL 111 154 [l0, l1, l2, I l3, l4, l5, l6, l7, l8, l9, l10] [] h = evL 111 155 [l0, l1, l2, I l3, l4, l5, l6, l7, l8, l9, l10] [I l3] h := ev_go c111_154 rfl
theorem c111_155 : cd 111 155 = some (155, .iconst 2, 1, 0, 0, 0) := rfl
theorem s111_155 {l0 l1 l2 l3 l4 l5 l6 l7 l8 l9 l10 s0 : AV} {h : AH} : evL 111 155 [l0, l1, l2, l3, l4, l5, l6, l7, l8, l9, l10] [s0] h = evL 111 156 [l0, l1, l2, l3, l4, l5, l6, l7, l8, l9, l10] [I 2, s0] h := ev_go c111_155 rfl
theorem c111_156 : cd 111 156 = some (156, .if_icmp .ne 12, 3, 0, 0, 0) := rfl
theorem s111_156 {l0 l1 l2 l3 l4 l5 l6 l7 l8 l9 l10 : AV} {s0 s1 : Int} {h : AH} : evL 111 156 [l0, l1, l2, l3, l4, l5, l6, l7, l8, l9, l10] [I s0, I s1] h = if s1 = s0 then evL 111 159 [l0, l1, l2, l3, l4, l5, l6, l7, l8, l9, l10] [] h else evL 111 168 [l0, l1, l2, l3, l4, l5, l6, l7, l8, l9, l10] [] h := e_icmp_ne c111_156 rfl rfl
theorem c111_159 : cd 111 159 = some (159, .iload 6, 2, 0, 0, 0) := rfl
theorem s111_159 {l0 l1 l2 l3 l4 l5 l7 l8 l9 l10 : AV} {l6 : Int} {h : AH} : evL 111 159 [l0, l1, l2, l3, l4, l5, I l6, l7, l8, l9, l10] [] h = evL 111 161 [l0, l1, l2, l3, l4, l5, I l6, l7, l8, l9, l10] [I l6] h := ev_go c111_159 rfl
theorem c111_161 : cd 111 161 = some (161, .iconst (-1), 1, 0, 0, 0) := rfl
theorem s111_161 {l0 l1 l2 l3 l4 l5 l6 l7 l8 l9 l10 s0 : AV} {h : AH} : evL 111 161 [l0, l1, l2, l3, l4, l5, l6, l7, l8, l9, l10] [s0] h = evL 111 162 [l0, l1, l2, l3, l4, l5, l6, l7, l8, l9, l10] [I (-1), s0] h := ev_go c111_161 rfl
theorem c111_162 : cd 111 162 = some (162, .if_icmp .ne 85, 3, 0, 0, 0) := rfl
theorem s111_162 {l0 l1 l2 l3 l4 l5 l6 l7 l8 l9 l10 : AV} {s0 s1 : Int} {h : AH} : evL 111 162 [l0, l1, l2, l3, l4, l5, l6, l7, l8, l9, l10] [I s0, I s1] h = if s1 = s0 then evL 111 165 [l0, l1, l2, l3, l4, l5, l6, l7, l8, l9, l10] [] h else evL 111 247 [l0, l1, l2, l3, l4, l5, l6, l7, l8, l9, l10] [] h := e_icmp_ne c111_162 rfl rfl
theorem c111_165 : cd 111 165 = some (165, .goto 30, 3, 0, 0, 0) := rfl
theorem s111_165 {l0 l1 l2 l3 l4 l5 l6 l7 l8 l9 l10 : AV} {h : AH} : evL 111 165 [l0, l1, l2, l3, l4, l5, l6, l7, l8, l9, l10] [] h = evL 111 195 [l0, l1, l2, l3, l4, l5, l6, l7, l8, l9, l10] [] h := ev_go c111_165 rfl
theorem c111_168 : cd 111 168 = some (168, .iload 9, 2, 0, 0, 0) := rfl
theorem s111_168 {l0 l1 l2 l3 l4 l5 l6 l7 l8 l10 : AV} {l9 : Int} {h : AH} : evL 111 168 [l0, l1, l2, l3, l4, l5, l6, l7, l8, I l9, l10] [] h = evL 111 170 [l0, l1, l2, l3, l4, l5, l6, l7, l8, I l9, l10] [I l9] h := ev_go c111_168 rfl
theorem c111_170 : cd 111 170 = some (170, .ifCond .eq 18, 3, 0, 0, 0) := rfl
theorem s111_170 {l0 l1 l2 l3 l4 l5 l6 l7 l8 l9 l10 : AV} {s0 : Int} {h : AH} : evL 111 170 [l0, l1, l2, l3, l4, l5, l6, l7, l8, l9, l10] [I s0] h = if s0 = 0 then evL 111 188 [l0, l1, l2, l3, l4, l5, l6, l7, l8, l9, l10] [] h else evL 111 173 [l0, l1, l2, l3, l4, l5, l6, l7, l8, l9, l10] [] h := e_if_eq c111_170 rfl rfl
theorem c111_173 : cd 111 173 = some (173, .iload 6, 2, 0, 0, 0) := rfl
theorem s111_173 {l0 l1 l2 l3 l4 l5 l7 l8 l9 l10 : AV} {l6 : Int} {h : AH} : evL 111 173 [l0, l1, l2, l3, l4, l5, I l6, l7, l8, l9, l10] [] h = evL 111 175 [l0, l1, l2, l3, l4, l5, I l6, l7, l8, l9, l10] [I l6] h := ev_go c111_173 rfl
theorem c111_175 : cd 111 175 = some (175, .ifCond .lt 72, 3, 0, 0, 0) := rfl
theorem s111_175 {l0 l1 l2 l3 l4 l5 l6 l7 l8 l9 l10 : AV} {s0 : Int} {h : AH} : evL 111 175 [l0, l1, l2, l3, l4, l5, l6, l7, l8, l9, l10] [I s0] h = if s0 < 0 then evL 111 247 [l0, l1, l2, l3, l4, l5, l6, l7, l8, l9, l10] [] h else evL 111 178 [l0, l1, l2, l3, l4, l5, l6, l7, l8, l9, l10] [] h := e_if_lt c111_175 rfl rfl
theorem c111_178 : cd 111 178 = some (178, .iload 6, 2, 0, 0, 0) := rfl
theorem s111_178 {l0 l1 l2 l3 l4 l5 l7 l8 l9 l10 : AV} {l6 : Int} {h : AH} : evL 111 178 [l0, l1, l2, l3, l4, l5, I l6, l7, l8, l9, l10] [] h = evL 111 180 [l0, l1, l2, l3, l4, l5, I l6, l7, l8, l9, l10] [I l6] h := ev_go c111_178 rfl
theorem c111_180 : cd 111 180 = some (180, .bipush 9, 2, 0, 0, 0) := rfl
theorem s111_180 {l0 l1 l2 l3 l4 l5 l6 l7 l8 l9 l10 s0 : AV} {h : AH} : evL 111 180 [l0, l1, l2, l3, l4, l5, l6, l7, l8, l9, l10] [s0] h = evL 111 182 [l0, l1, l2, l3, l4, l5, l6, l7, l8, l9, l10] [I 9, s0] h := ev_go c111_180 rfl
theorem c111_182 : cd 111 182 = some (182, .if_icmp .gt 65, 3, 0, 0, 0) := rfl
theorem s111_182 {l0 l1 l2 l3 l4 l5 l6 l7 l8 l9 l10 : AV} {s0 s1 : Int} {h : AH} : evL 111 182 [l0, l1, l2, l3, l4, l5, l6, l7, l8, l9, l10] [I s0, I s1] h = if s0 < s1 then evL 111 247 [l0, l1, l2, l3, l4, l5, l6, l7, l8, l9, l10] [] h else evL 111 185 [l0, l1, l2, l3, l4, l5, l6, l7, l8, l9, l10] [] h := e_icmp_gt c111_182 rfl rfl
theorem c111_185 : cd 111 185 = some (185, .goto 10, 3, 0, 0, 0) := rfl
theorem s111_185 {l0 l1 l2 l3 l4 l5 l6 l7 l8 l9 l10 : AV} {h : AH} : evL 111 185 [l0, l1, l2, l3, l4, l5, l6, l7, l8, l9, l10] [] h = evL 111 195 [l0, l1, l2, l3, l4, l5, l6, l7, l8, l9, l10] [] h := ev_go c111_185 rfl
theorem c111_188 : cd 111 188 = some (188, .iload 6, 2, 0, 0, 0) := rfl
theorem s111_188 {l0 l1 l2 l3 l4 l5 l7 l8 l9 l10 : AV} {l6 : Int} {h : AH} : evL 111 188 [l0, l1, l2, l3, l4, l5, I l6, l7, l8, l9, l10] [] h = evL 111 190 [l0, l1, l2, l3, l4, l5, I l6, l7, l8, l9, l10] [I l6] h := ev_go c111_188 rfl
theorem c111_190 : cd 111 190 = some (190, .bipush (-2), 2, 0, 0, 0) := rfl
theorem s111_190 {l0 l1 l2 l3 l4 l5 l6 l7 l8 l9 l10 s0 : AV} {h : AH} : evL 111 190 [l0, l1, l2, l3, l4, l5, l6, l7, l8, l9, l10] [s0] h = evL 111 192 [l0, l1, l2, l3, l4, l5, l6, l7, l8, l9, l10] [I (-2), s0] h := ev_go c111_190 rfl
theorem c111_192 : cd 111 192 = some (192, .if_icmp .ne 55, 3, 0, 0, 0) := rfl
theorem s111_192 {l0 l1 l2 l3 l4 l5 l6 l7 l8 l9 l10 : AV} {s0 s1 : Int} {h : AH} : evL 111 192 [l0, l1, l2, l3, l4, l5, l6, l7, l8, l9, l10] [I s0, I s1] h = if s1 = s0 then evL 111 195 [l0, l1, l2, l3, l4, l5, l6, l7, l8, l9, l10] [] h else evL 111 247 [l0, l1, l2, l3, l4, l5, l6, l7, l8, l9, l10] [] h := e_icmp_ne c111_192 rfl rfl
theorem c111_195 : cd 111 195 = some (195, .iload 5, 2, 0, 0, 0) := rfl
theorem s111_195 {l0 l1 l2 l3 l4 l6 l7 l8 l9 l10 : AV} {l5 : Int} {h : AH} : evL 111 195 [l0, l1, l2, l3, l4, I l5, l6, l7, l8, l9, l10] [] h = evL 111 197 [l0, l1, l2, l3, l4, I l5, l6, l7, l8, l9, l10] [I l5] h := ev_go c111_195 rfl
theorem c111_197 : cd 111 197 = some (197, .ifCond .eq 10, 3, 0, 0, 0) := rfl
theorem s111_197 {l0 l1 l2 l3 l4 l5 l6 l7 l8 l9 l10 : AV} {s0 : Int} {h : AH} : evL 111 197 [l0, l1, l2, l3, l4, l5, l6, l7, l8, l9, l10] [I s0] h = if s0 = 0 then evL 111 207 [l0, l1, l2, l3, l4, l5, l6, l7, l8, l9, l10] [] h else evL 111 200 [l0, l1, l2, l3, l4, l5, l6, l7, l8, l9, l10] [] h := e_if_eq c111_197 rfl rfl
theorem c111_200 : cd 111 200 = some (200, .iload 5, 2, 0, 0, 0) := rfl
theorem s111_200 {l0 l1 l2 l3 l4 l6 l7 l8 l9 l10 : AV} {l5 : Int} {h : AH} : evL 111 200 [l0, l1, l2, l3, l4, I l5, l6, l7, l8, l9, l10] [] h = evL 111 202 [l0, l1, l2, l3, l4, I l5, l6, l7, l8, l9, l10] [I l5] h := ev_go c111_200 rfl
theorem c111_202 : cd 111 202 = some (202, .bipush 7, 2, 0, 0, 0) := rfl
theorem s111_202 {l0 l1 l2 l3 l4 l5 l6 l7 l8 l9 l10 s0 : AV} {h : AH} : evL 111 202 [l0, l1, l2, l3, l4, l5, l6, l7, l8, l9, l10] [s0] h = evL 111 204 [l0, l1, l2, l3, l4, l5, l6, l7, l8, l9, l10] [I 7, s0] h := ev_go c111_202 rfl
theorem c111_204 : cd 111 204 = some (204, .if_icmp .ne 12, 3, 0, 0, 0) := rfl
theorem s111_204 {l0 l1 l2 l3 l4 l5 l6 l7 l8 l9 l10 : AV} {s0 s1 : Int} {h : AH} : evL 111 204 [l0, l1, l2, l3, l4, l5, l6, l7, l8, l9, l10] [I s0, I s1] h = if s1 = s0 then evL 111 207 [l0, l1, l2, l3, l4, l5, l6, l7, l8, l9, l10] [] h else evL 111 216 [l0, l1, l2, l3, l4, l5, l6, l7, l8, l9, l10] [] h := e_icmp_ne c111_204 rfl rfl
theorem c111_207 : cd 111 207 = some (207, .iload 7, 2, 0, 0, 0) := rfl
theorem s111_207 {l0 l1 l2 l3 l4 l5 l6 l8 l9 l10 : AV} {l7 : Int} {h : AH} : evL 111 207 [l0, l1, l2, l3, l4, l5, l6, I l7, l8, l9, l10] [] h = evL 111 209 [l0, l1, l2, l3, l4, l5, l6, I l7, l8, l9, l10] [I l7] h := ev_go c111_207 rfl
theorem c111_209 : cd 111 209 = some (209, .iconst (-1), 1, 0, 0, 0) := rfl
theorem s111_209 {l0 l1 l2 l3 l4 l5 l6 l7 l8 l9 l10 s0 : AV} {h : AH} : evL 111 209 [l0, l1, l2, l3, l4, l5, l6, l7, l8, l9, l10] [s0] h = evL 111 210 [l0, l1, l2, l3, l4, l5, l6, l7, l8, l9, l10] [I (-1), s0] h := ev_go c111_209 rfl
theorem c111_210 : cd 111 210 = some (210, .if_icmp .ne 37, 3, 0, 0, 0) := rfl
theorem s111_210 {l0 l1 l2 l3 l4 l5 l6 l7 l8 l9 l10 : AV} {s0 s1 : Int} {h : AH} : evL 111 210 [l0, l1, l2, l3, l4, l5, l6, l7, l8, l9, l10] [I s0, I s1] h = if s1 = s0 then evL 111 213 [l0, l1, l2, l3, l4, l5, l6, l7, l8, l9, l10] [] h else evL 111 247 [l0, l1, l2, l3, l4, l5, l6, l7, l8, l9, l10] [] h := e_icmp_ne c111_210 rfl rfl
theorem c111_213 : cd 111 213 = some (213, .goto 30, 3, 0, 0, 0) := rfl
theorem s111_213 {l0 l1 l2 l3 l4 l5 l6 l7 l8 l9 l10 : AV} {h : AH} : evL 111 213 [l0, l1, l2, l3, l4, l5, l6, l7, l8, l9, l10] [] h = evL 111 243 [l0, l1, l2, l3, l4, l5, l6, l7, l8, l9, l10] [] h := ev_go c111_213 rfl
theorem c111_216 : cd 111 216 = some (216, .iload 10, 2, 0, 0, 0) := rfl
theorem s111_216 {l0 l1 l2 l3 l4 l5 l6 l7 l8 l9 : AV} {l10 : Int} {h : AH} : evL 111 216 [l0, l1, l2, l3, l4, l5, l6, l7, l8, l9, I l10] [] h = evL 111 218 [l0, l1, l2, l3, l4, l5, l6, l7, l8, l9, I l10] [I l10] h := ev_go c111_216 rfl
theorem c111_218 : cd 111 218 = some (218, .ifCond .eq 18, 3, 0, 0, 0) := rfl
theorem s111_218 {l0 l1 l2 l3 l4 l5 l6 l7 l8 l9 l10 : AV} {s0 : Int} {h : AH} : evL 111 218 [l0, l1, l2, l3, l4, l5, l6, l7, l8, l9, l10] [I s0] h = if s0 = 0 then evL 111 236 [l0, l1, l2, l3, l4, l5, l6, l7, l8, l9, l10] [] h else evL 111 221 [l0, l1, l2, l3, l4, l5, l6, l7, l8, l9, l10] [] h := e_if_eq c111_218 rfl rfl
theorem c111_221 : cd 111 221 = some (221, .iload 7, 2, 0, 0, 0) := rfl
theorem s111_221 {l0 l1 l2 l3 l4 l5 l6 l8 l9 l10 : AV} {l7 : Int} {h : AH} : evL 111 221 [l0, l1, l2, l3, l4, l5, l6, I l7, l8, l9, l10] [] h = evL 111 223 [l0, l1, l2, l3, l4, l5, l6, I l7, l8, l9, l10] [I l7] h := ev_go c111_221 rfl
theorem c111_223 : cd 111 223 = some (223, .ifCond .lt 24, 3, 0, 0, 0) := rfl
theorem s111_223 {l0 l1 l2 l3 l4 l5 l6 l7 l8 l9 l10 : AV} {s0 : Int} {h : AH} : evL 111 223 [l0, l1, l2, l3, l4, l5, l6, l7, l8, l9, l10] [I s0] h = if s0 < 0 then evL 111 247 [l0, l1, l2, l3, l4, l5, l6, l7, l8, l9, l10] [] h else evL 111 226 [l0, l1, l2, l3, l4, l5, l6, l7, l8, l9, l10] [] h := e_if_lt c111_223 rfl rfl
theorem c111_226 : cd 111 226 = some (226, .iload 7, 2, 0, 0, 0) := rfl
theorem s111_226 {l0 l1 l2 l3 l4 l5 l6 l8 l9 l10 : AV} {l7 : Int} {h : AH} : evL 111 226 [l0, l1, l2, l3, l4, l5, l6, I l7, l8, l9, l10] [] h = evL 111 228 [l0, l1, l2, l3, l4, l5, l6, I l7, l8, l9, l10] [I l7] h := ev_go c111_226 rfl
theorem c111_228 : cd 111 228 = some (228, .ldc 49, 2, 531441, 0, 526) := rfl
theorem s111_228 {l0 l1 l2 l3 l4 l5 l6 l7 l8 l9 l10 s0 : AV} {h : AH} : evL 111 228 [l0, l1, l2, l3, l4, l5, l6, l7, l8, l9, l10] [s0] h = evL 111 230 [l0, l1, l2, l3, l4, l5, l6, l7, l8, l9, l10] [I 531441, s0] h := ev_go c111_228 rfl
theorem c111_230 : cd 111 230 = some (230, .if_icmp .gt 17, 3, 0, 0, 0) := rfl
theorem s111_230 {l0 l1 l2 l3 l4 l5 l6 l7 l8 l9 l10 : AV} {s0 s1 : Int} {h : AH} : evL 111 230 [l0, l1, l2, l3, l4, l5, l6, l7, l8, l9, l10] [I s0, I s1] h = if s0 < s1 then evL 111 247 [l0, l1, l2, l3, l4, l5, l6, l7, l8, l9, l10] [] h else evL 111 233 [l0, l1, l2, l3, l4, l5, l6, l7, l8, l9, l10] [] h := e_icmp_gt c111_230 rfl rfl
theorem c111_233 : cd 111 233 = some (233, .goto 10, 3, 0, 0, 0) := rfl
theorem s111_233 {l0 l1 l2 l3 l4 l5 l6 l7 l8 l9 l10 : AV} {h : AH} : evL 111 233 [l0, l1, l2, l3, l4, l5, l6, l7, l8, l9, l10] [] h = evL 111 243 [l0, l1, l2, l3, l4, l5, l6, l7, l8, l9, l10] [] h := ev_go c111_233 rfl
theorem c111_236 : cd 111 236 = some (236, .iload 7, 2, 0, 0, 0) := rfl
theorem s111_236 {l0 l1 l2 l3 l4 l5 l6 l8 l9 l10 : AV} {l7 : Int} {h : AH} : evL 111 236 [l0, l1, l2, l3, l4, l5, l6, I l7, l8, l9, l10] [] h = evL 111 238 [l0, l1, l2, l3, l4, l5, l6, I l7, l8, l9, l10] [I l7] h := ev_go c111_236 rfl
theorem c111_238 : cd 111 238 = some (238, .bipush (-2), 2, 0, 0, 0) := rfl
theorem s111_238 {l0 l1 l2 l3 l4 l5 l6 l7 l8 l9 l10 s0 : AV} {h : AH} : evL 111 238 [l0, l1, l2, l3, l4, l5, l6, l7, l8, l9, l10] [s0] h = evL 111 240 [l0, l1, l2, l3, l4, l5, l6, l7, l8, l9, l10] [I (-2), s0] h := ev_go c111_238 rfl
theorem c111_240 : cd 111 240 = some (240, .if_icmp .ne 7, 3, 0, 0, 0) := rfl
theorem s111_240 {l0 l1 l2 l3 l4 l5 l6 l7 l8 l9 l10 : AV} {s0 s1 : Int} {h : AH} : evL 111 240 [l0, l1, l2, l3, l4, l5, l6, l7, l8, l9, l10] [I s0, I s1] h = if s1 = s0 then evL 111 243 [l0, l1, l2, l3, l4, l5, l6, l7, l8, l9, l10] [] h else evL 111 247 [l0, l1, l2, l3, l4, l5, l6, l7, l8, l9, l10] [] h := e_icmp_ne c111_240 rfl rfl
theorem c111_243 : cd 111 243 = some (243, .iconst 1, 1, 0, 0, 0) := rfl
theorem s111_243 {l0 l1 l2 l3 l4 l5 l6 l7 l8 l9 l10 : AV} {h : AH} : evL 111 243 [l0, l1, l2, l3, l4, l5, l6, l7, l8, l9, l10] [] h = evL 111 244 [l0, l1, l2, l3, l4, l5, l6, l7, l8, l9, l10] [I 1] h := ev_go c111_243 rfl
theorem c111_244 : cd 111 244 = some (244, .goto 4, 3, 0, 0, 0) := rfl
theorem s111_244 {l0 l1 l2 l3 l4 l5 l6 l7 l8 l9 l10 s0 : AV} {h : AH} : evL 111 244 [l0, l1, l2, l3, l4, l5, l6, l7, l8, l9, l10] [s0] h = evL 111 248 [l0, l1, l2, l3, l4, l5, l6, l7, l8, l9, l10] [s0] h := ev_go c111_244 rfl
theorem c111_247 : cd 111 247 = some (247, .iconst 0, 1, 0, 0, 0) := rfl
theorem s111_247 {l0 l1 l2 l3 l4 l5 l6 l7 l8 l9 l10 : AV} {h : AH} : evL 111 247 [l0, l1, l2, l3, l4, l5, l6, l7, l8, l9, l10] [] h = evL 111 248 [l0, l1, l2, l3, l4, l5, l6, l7, l8, l9, l10] [I 0] h := ev_go c111_247 rfl
theorem c111_248 : cd 111 248 = some (248, .ireturn, 1, 0, 0, 0) := rfl
theorem s111_248 {l0 l1 l2 l3 l4 l5 l6 l7 l8 l9 l10 : AV} {s0 : Int} {h : AH} (hz : s0 = 0 ∨ s0 = 1) : evL 111 248 [l0, l1, l2, l3, l4, l5, l6, l7, l8, l9, l10] [I s0] h = some (some (I s0), h) := e_ret c111_248 (if_pos hz)
/-! 112: TankDiversLaw.types(LTankDivers;I)Z -/
theorem en112 {l0 l1 : AV} {h : AH} : evM 112 [l0, l1] h = evL 112 0 [l0, l1, Db 0, Db 0, Db 0, Db 0, Db 0] [] h := rfl
theorem c112_0 : cd 112 0 = some (0, .iload_n 1, 1, 0, 0, 0) := rfl
theorem s112_0 {l0 l2 l3 l4 l5 l6 : AV} {l1 : Int} {h : AH} : evL 112 0 [l0, I l1, l2, l3, l4, l5, l6] [] h = evL 112 1 [l0, I l1, l2, l3, l4, l5, l6] [I l1] h := ev_go c112_0 rfl
theorem c112_1 : cd 112 1 = some (1, .bipush 11, 2, 0, 0, 0) := rfl
theorem s112_1 {l0 l1 l2 l3 l4 l5 l6 s0 : AV} {h : AH} : evL 112 1 [l0, l1, l2, l3, l4, l5, l6] [s0] h = evL 112 3 [l0, l1, l2, l3, l4, l5, l6] [I 11, s0] h := ev_go c112_1 rfl
theorem c112_3 : cd 112 3 = some (3, .invokestatic 39, 3, 105, 0, 383) := rfl
theorem s112_3 {l0 l1 l2 l3 l4 l5 l6 : AV} {s0 s1 : Int} {M : Mem} {P : PMem} : evL 112 3 [l0, l1, l2, l3, l4, l5, l6] [I s0, I s1] (Hp M P) = cont (evM 105 [I s1, I s0] (Hp M P)) (fun r h => evL 112 6 [l0, l1, l2, l3, l4, l5, l6] (rl r []) h) := e_callS (av := [I s1, I s0]) (rest := []) c112_3 rfl rfl rfl rfl rfl rfl
theorem c112_6 : cd 112 6 = some (6, .istore_n 2, 1, 0, 0, 0) := rfl
theorem s112_6 {l0 l1 l2 l3 l4 l5 l6 : AV} {s0 : Int} {h : AH} : evL 112 6 [l0, l1, l2, l3, l4, l5, l6] [I s0] h = evL 112 7 [l0, l1, I s0, l3, l4, l5, l6] [] h := ev_go c112_6 rfl
theorem c112_7 : cd 112 7 = some (7, .aload_n 0, 1, 0, 0, 0) := rfl
theorem s112_7 {l1 l2 l3 l4 l5 l6 : AV} {l0 : Option Nat} {h : AH} : evL 112 7 [.inr (.inl l0), l1, l2, l3, l4, l5, l6] [] h = evL 112 8 [.inr (.inl l0), l1, l2, l3, l4, l5, l6] [.inr (.inl l0)] h := ev_go c112_7 rfl
theorem c112_8 : cd 112 8 = some (8, .invokevirtual 50, 3, 93, 0, 648) := rfl
theorem s112_8 {l0 l1 l2 l3 l4 l5 l6 : AV} {s0 : Nat} {M : Mem} {P : PMem} (hk : kd s0 = 7) : evL 112 8 [l0, l1, l2, l3, l4, l5, l6] [Rf s0] (Hp M P) = cont (evM 93 [Rf s0] (Hp M P)) (fun r h => evL 112 11 [l0, l1, l2, l3, l4, l5, l6] (rl r []) h) := e_callV (av' := []) (rest := []) (c := 7) c112_8 rfl rfl rfl rfl rfl rfl rfl hk rfl
theorem c112_11 : cd 112 11 = some (11, .ifCond .lt 7, 3, 0, 0, 0) := rfl
theorem s112_11 {l0 l1 l2 l3 l4 l5 l6 : AV} {s0 : Int} {h : AH} : evL 112 11 [l0, l1, l2, l3, l4, l5, l6] [I s0] h = if s0 < 0 then evL 112 18 [l0, l1, l2, l3, l4, l5, l6] [] h else evL 112 14 [l0, l1, l2, l3, l4, l5, l6] [] h := e_if_lt c112_11 rfl rfl
theorem c112_14 : cd 112 14 = some (14, .iconst 1, 1, 0, 0, 0) := rfl
theorem s112_14 {l0 l1 l2 l3 l4 l5 l6 : AV} {h : AH} : evL 112 14 [l0, l1, l2, l3, l4, l5, l6] [] h = evL 112 15 [l0, l1, l2, l3, l4, l5, l6] [I 1] h := ev_go c112_14 rfl
theorem c112_15 : cd 112 15 = some (15, .goto 4, 3, 0, 0, 0) := rfl
theorem s112_15 {l0 l1 l2 l3 l4 l5 l6 s0 : AV} {h : AH} : evL 112 15 [l0, l1, l2, l3, l4, l5, l6] [s0] h = evL 112 19 [l0, l1, l2, l3, l4, l5, l6] [s0] h := ev_go c112_15 rfl
theorem c112_18 : cd 112 18 = some (18, .iconst 0, 1, 0, 0, 0) := rfl
theorem s112_18 {l0 l1 l2 l3 l4 l5 l6 : AV} {h : AH} : evL 112 18 [l0, l1, l2, l3, l4, l5, l6] [] h = evL 112 19 [l0, l1, l2, l3, l4, l5, l6] [I 0] h := ev_go c112_18 rfl
theorem c112_19 : cd 112 19 = some (19, .istore_n 3, 1, 0, 0, 0) := rfl
theorem s112_19 {l0 l1 l2 l3 l4 l5 l6 : AV} {s0 : Int} {h : AH} : evL 112 19 [l0, l1, l2, l3, l4, l5, l6] [I s0] h = evL 112 20 [l0, l1, l2, I s0, l4, l5, l6] [] h := ev_go c112_19 rfl
theorem c112_20 : cd 112 20 = some (20, .iconst 0, 1, 0, 0, 0) := rfl
theorem s112_20 {l0 l1 l2 l3 l4 l5 l6 : AV} {h : AH} : evL 112 20 [l0, l1, l2, l3, l4, l5, l6] [] h = evL 112 21 [l0, l1, l2, l3, l4, l5, l6] [I 0] h := ev_go c112_20 rfl
theorem c112_21 : cd 112 21 = some (21, .istore 4, 2, 0, 0, 0) := rfl
theorem s112_21 {l0 l1 l2 l3 l4 l5 l6 : AV} {s0 : Int} {h : AH} : evL 112 21 [l0, l1, l2, l3, l4, l5, l6] [I s0] h = evL 112 23 [l0, l1, l2, l3, I s0, l5, l6] [] h := ev_go c112_21 rfl
theorem c112_23 : cd 112 23 = some (23, .iload 4, 2, 0, 0, 0) := rfl
theorem s112_23 {l0 l1 l2 l3 l5 l6 : AV} {l4 : Int} {h : AH} : evL 112 23 [l0, l1, l2, l3, I l4, l5, l6] [] h = evL 112 25 [l0, l1, l2, l3, I l4, l5, l6] [I l4] h := ev_go c112_23 rfl
theorem c112_25 : cd 112 25 = some (25, .iload_n 2, 1, 0, 0, 0) := rfl
theorem s112_25 {l0 l1 l3 l4 l5 l6 s0 : AV} {l2 : Int} {h : AH} : evL 112 25 [l0, l1, I l2, l3, l4, l5, l6] [s0] h = evL 112 26 [l0, l1, I l2, l3, l4, l5, l6] [I l2, s0] h := ev_go c112_25 rfl
theorem c112_26 : cd 112 26 = some (26, .if_icmp .ge 137, 3, 0, 0, 0) := rfl
theorem s112_26 {l0 l1 l2 l3 l4 l5 l6 : AV} {s0 s1 : Int} {h : AH} : evL 112 26 [l0, l1, l2, l3, l4, l5, l6] [I s0, I s1] h = if s0 ≤ s1 then evL 112 163 [l0, l1, l2, l3, l4, l5, l6] [] h else evL 112 29 [l0, l1, l2, l3, l4, l5, l6] [] h := e_icmp_ge c112_26 rfl rfl
theorem c112_29 : cd 112 29 = some (29, .iload_n 1, 1, 0, 0, 0) := rfl
theorem s112_29 {l0 l2 l3 l4 l5 l6 : AV} {l1 : Int} {h : AH} : evL 112 29 [l0, I l1, l2, l3, l4, l5, l6] [] h = evL 112 30 [l0, I l1, l2, l3, l4, l5, l6] [I l1] h := ev_go c112_29 rfl
theorem c112_30 : cd 112 30 = some (30, .iconst 2, 1, 0, 0, 0) := rfl
theorem s112_30 {l0 l1 l2 l3 l4 l5 l6 s0 : AV} {h : AH} : evL 112 30 [l0, l1, l2, l3, l4, l5, l6] [s0] h = evL 112 31 [l0, l1, l2, l3, l4, l5, l6] [I 2, s0] h := ev_go c112_30 rfl
theorem c112_31 : cd 112 31 = some (31, .iconst 2, 1, 0, 0, 0) := rfl
theorem s112_31 {l0 l1 l2 l3 l4 l5 l6 s0 s1 : AV} {h : AH} : evL 112 31 [l0, l1, l2, l3, l4, l5, l6] [s0, s1] h = evL 112 32 [l0, l1, l2, l3, l4, l5, l6] [I 2, s0, s1] h := ev_go c112_31 rfl
theorem c112_32 : cd 112 32 = some (32, .iload 4, 2, 0, 0, 0) := rfl
theorem s112_32 {l0 l1 l2 l3 l5 l6 s0 s1 s2 : AV} {l4 : Int} {h : AH} : evL 112 32 [l0, l1, l2, l3, I l4, l5, l6] [s0, s1, s2] h = evL 112 34 [l0, l1, l2, l3, I l4, l5, l6] [I l4, s0, s1, s2] h := ev_go c112_32 rfl
theorem c112_34 : cd 112 34 = some (34, .imul, 1, 0, 0, 0) := rfl
theorem s112_34 {l0 l1 l2 l3 l4 l5 l6 s2 s3 : AV} {s0 s1 : Int} {h : AH} : evL 112 34 [l0, l1, l2, l3, l4, l5, l6] [I s0, I s1, s2, s3] h = evL 112 35 [l0, l1, l2, l3, l4, l5, l6] [I (ml s1 s0), s2, s3] h := ev_go c112_34 rfl
theorem c112_35 : cd 112 35 = some (35, .iadd, 1, 0, 0, 0) := rfl
theorem s112_35 {l0 l1 l2 l3 l4 l5 l6 s2 : AV} {s0 s1 : Int} {h : AH} : evL 112 35 [l0, l1, l2, l3, l4, l5, l6] [I s0, I s1, s2] h = evL 112 36 [l0, l1, l2, l3, l4, l5, l6] [I (ad s1 s0), s2] h := ev_go c112_35 rfl
theorem c112_36 : cd 112 36 = some (36, .ishr, 1, 0, 0, 0) := rfl
theorem s112_36 {l0 l1 l2 l3 l4 l5 l6 : AV} {s0 s1 : Int} {h : AH} : evL 112 36 [l0, l1, l2, l3, l4, l5, l6] [I s0, I s1] h = evL 112 37 [l0, l1, l2, l3, l4, l5, l6] [I (shr s1 s0)] h := ev_go c112_36 rfl
theorem c112_37 : cd 112 37 = some (37, .istore 5, 2, 0, 0, 0) := rfl
theorem s112_37 {l0 l1 l2 l3 l4 l5 l6 : AV} {s0 : Int} {h : AH} : evL 112 37 [l0, l1, l2, l3, l4, l5, l6] [I s0] h = evL 112 39 [l0, l1, l2, l3, l4, I s0, l6] [] h := ev_go c112_37 rfl
theorem c112_39 : cd 112 39 = some (39, .iload 5, 2, 0, 0, 0) := rfl
theorem s112_39 {l0 l1 l2 l3 l4 l6 : AV} {l5 : Int} {h : AH} : evL 112 39 [l0, l1, l2, l3, l4, I l5, l6] [] h = evL 112 41 [l0, l1, l2, l3, l4, I l5, l6] [I l5] h := ev_go c112_39 rfl
theorem c112_41 : cd 112 41 = some (41, .iconst 1, 1, 0, 0, 0) := rfl
theorem s112_41 {l0 l1 l2 l3 l4 l5 l6 s0 : AV} {h : AH} : evL 112 41 [l0, l1, l2, l3, l4, l5, l6] [s0] h = evL 112 42 [l0, l1, l2, l3, l4, l5, l6] [I 1, s0] h := ev_go c112_41 rfl
theorem c112_42 : cd 112 42 = some (42, .ishr, 1, 0, 0, 0) := rfl
theorem s112_42 {l0 l1 l2 l3 l4 l5 l6 : AV} {s0 s1 : Int} {h : AH} : evL 112 42 [l0, l1, l2, l3, l4, l5, l6] [I s0, I s1] h = evL 112 43 [l0, l1, l2, l3, l4, l5, l6] [I (shr s1 s0)] h := ev_go c112_42 rfl
theorem c112_43 : cd 112 43 = some (43, .bipush 7, 2, 0, 0, 0) := rfl
theorem s112_43 {l0 l1 l2 l3 l4 l5 l6 s0 : AV} {h : AH} : evL 112 43 [l0, l1, l2, l3, l4, l5, l6] [s0] h = evL 112 45 [l0, l1, l2, l3, l4, l5, l6] [I 7, s0] h := ev_go c112_43 rfl
theorem c112_45 : cd 112 45 = some (45, .invokestatic 39, 3, 105, 0, 383) := rfl
theorem s112_45 {l0 l1 l2 l3 l4 l5 l6 : AV} {s0 s1 : Int} {M : Mem} {P : PMem} : evL 112 45 [l0, l1, l2, l3, l4, l5, l6] [I s0, I s1] (Hp M P) = cont (evM 105 [I s1, I s0] (Hp M P)) (fun r h => evL 112 48 [l0, l1, l2, l3, l4, l5, l6] (rl r []) h) := e_callS (av := [I s1, I s0]) (rest := []) c112_45 rfl rfl rfl rfl rfl rfl
theorem c112_48 : cd 112 48 = some (48, .istore 6, 2, 0, 0, 0) := rfl
theorem s112_48 {l0 l1 l2 l3 l4 l5 l6 : AV} {s0 : Int} {h : AH} : evL 112 48 [l0, l1, l2, l3, l4, l5, l6] [I s0] h = evL 112 50 [l0, l1, l2, l3, l4, l5, I s0] [] h := ev_go c112_48 rfl
theorem c112_50 : cd 112 50 = some (50, .iload_n 3, 1, 0, 0, 0) := rfl
theorem s112_50 {l0 l1 l2 l4 l5 l6 : AV} {l3 : Int} {h : AH} : evL 112 50 [l0, l1, l2, I l3, l4, l5, l6] [] h = evL 112 51 [l0, l1, l2, I l3, l4, l5, l6] [I l3] h := ev_go c112_50 rfl
theorem c112_51 : cd 112 51 = some (51, .ifCond .eq 104, 3, 0, 0, 0) := rfl
theorem s112_51 {l0 l1 l2 l3 l4 l5 l6 : AV} {s0 : Int} {h : AH} : evL 112 51 [l0, l1, l2, l3, l4, l5, l6] [I s0] h = if s0 = 0 then evL 112 155 [l0, l1, l2, l3, l4, l5, l6] [] h else evL 112 54 [l0, l1, l2, l3, l4, l5, l6] [] h := e_if_eq c112_51 rfl rfl
theorem c112_54 : cd 112 54 = some (54, .aload_n 0, 1, 0, 0, 0) := rfl
theorem s112_54 {l1 l2 l3 l4 l5 l6 : AV} {l0 : Option Nat} {h : AH} : evL 112 54 [.inr (.inl l0), l1, l2, l3, l4, l5, l6] [] h = evL 112 55 [.inr (.inl l0), l1, l2, l3, l4, l5, l6] [.inr (.inl l0)] h := ev_go c112_54 rfl
theorem c112_55 : cd 112 55 = some (55, .iload 5, 2, 0, 0, 0) := rfl
theorem s112_55 {l0 l1 l2 l3 l4 l6 s0 : AV} {l5 : Int} {h : AH} : evL 112 55 [l0, l1, l2, l3, l4, I l5, l6] [s0] h = evL 112 57 [l0, l1, l2, l3, l4, I l5, l6] [I l5, s0] h := ev_go c112_55 rfl
theorem c112_57 : cd 112 57 = some (57, .iconst 5, 1, 0, 0, 0) := rfl
theorem s112_57 {l0 l1 l2 l3 l4 l5 l6 s0 s1 : AV} {h : AH} : evL 112 57 [l0, l1, l2, l3, l4, l5, l6] [s0, s1] h = evL 112 58 [l0, l1, l2, l3, l4, l5, l6] [I 5, s0, s1] h := ev_go c112_57 rfl
theorem c112_58 : cd 112 58 = some (58, .invokestatic 39, 3, 105, 0, 383) := rfl
theorem s112_58 {l0 l1 l2 l3 l4 l5 l6 s2 : AV} {s0 s1 : Int} {M : Mem} {P : PMem} : evL 112 58 [l0, l1, l2, l3, l4, l5, l6] [I s0, I s1, s2] (Hp M P) = cont (evM 105 [I s1, I s0] (Hp M P)) (fun r h => evL 112 61 [l0, l1, l2, l3, l4, l5, l6] (rl r [s2]) h) := e_callS (av := [I s1, I s0]) (rest := [s2]) c112_58 rfl rfl rfl rfl rfl rfl
theorem c112_61 : cd 112 61 = some (61, .ifCond .ne 8, 3, 0, 0, 0) := rfl
theorem s112_61 {l0 l1 l2 l3 l4 l5 l6 s1 : AV} {s0 : Int} {h : AH} : evL 112 61 [l0, l1, l2, l3, l4, l5, l6] [I s0, s1] h = if s0 = 0 then evL 112 64 [l0, l1, l2, l3, l4, l5, l6] [s1] h else evL 112 69 [l0, l1, l2, l3, l4, l5, l6] [s1] h := e_if_ne c112_61 rfl rfl
theorem c112_64 : cd 112 64 = some (64, .bipush 117, 2, 0, 0, 0) := rfl
theorem s112_64 {l0 l1 l2 l3 l4 l5 l6 s0 : AV} {h : AH} : evL 112 64 [l0, l1, l2, l3, l4, l5, l6] [s0] h = evL 112 66 [l0, l1, l2, l3, l4, l5, l6] [I 117, s0] h := ev_go c112_64 rfl
theorem c112_66 : cd 112 66 = some (66, .goto 5, 3, 0, 0, 0) := rfl
theorem s112_66 {l0 l1 l2 l3 l4 l5 l6 s0 s1 : AV} {h : AH} : evL 112 66 [l0, l1, l2, l3, l4, l5, l6] [s0, s1] h = evL 112 71 [l0, l1, l2, l3, l4, l5, l6] [s0, s1] h := ev_go c112_66 rfl
theorem c112_69 : cd 112 69 = some (69, .bipush 100, 2, 0, 0, 0) := rfl
theorem s112_69 {l0 l1 l2 l3 l4 l5 l6 s0 : AV} {h : AH} : evL 112 69 [l0, l1, l2, l3, l4, l5, l6] [s0] h = evL 112 71 [l0, l1, l2, l3, l4, l5, l6] [I 100, s0] h := ev_go c112_69 rfl
theorem c112_71 : cd 112 71 = some (71, .invokevirtual 53, 3, 92, 0, 656) := rfl
theorem s112_71 {l0 l1 l2 l3 l4 l5 l6 : AV} {s0 : Int} {s1 : Nat} {M : Mem} {P : PMem} (hk : kd s1 = 7) : evL 112 71 [l0, l1, l2, l3, l4, l5, l6] [I s0, Rf s1] (Hp M P) = cont (evM 92 [Rf s1, I s0] (Hp M P)) (fun r h => evL 112 74 [l0, l1, l2, l3, l4, l5, l6] (rl r []) h) := e_callV (av' := [I s0]) (rest := []) (c := 7) c112_71 rfl rfl rfl rfl rfl rfl rfl hk rfl
theorem c112_74 : cd 112 74 = some (74, .ifCond .le 81, 3, 0, 0, 0) := rfl
theorem s112_74 {l0 l1 l2 l3 l4 l5 l6 : AV} {s0 : Int} {h : AH} : evL 112 74 [l0, l1, l2, l3, l4, l5, l6] [I s0] h = if s0 ≤ 0 then evL 112 155 [l0, l1, l2, l3, l4, l5, l6] [] h else evL 112 77 [l0, l1, l2, l3, l4, l5, l6] [] h := e_if_le c112_74 rfl rfl
theorem c112_77 : cd 112 77 = some (77, .aload_n 0, 1, 0, 0, 0) := rfl
theorem s112_77 {l1 l2 l3 l4 l5 l6 : AV} {l0 : Option Nat} {h : AH} : evL 112 77 [.inr (.inl l0), l1, l2, l3, l4, l5, l6] [] h = evL 112 78 [.inr (.inl l0), l1, l2, l3, l4, l5, l6] [.inr (.inl l0)] h := ev_go c112_77 rfl
theorem c112_78 : cd 112 78 = some (78, .iload 6, 2, 0, 0, 0) := rfl
theorem s112_78 {l0 l1 l2 l3 l4 l5 s0 : AV} {l6 : Int} {h : AH} : evL 112 78 [l0, l1, l2, l3, l4, l5, I l6] [s0] h = evL 112 80 [l0, l1, l2, l3, l4, l5, I l6] [I l6, s0] h := ev_go c112_78 rfl
theorem c112_80 : cd 112 80 = some (80, .iconst 3, 1, 0, 0, 0) := rfl
theorem s112_80 {l0 l1 l2 l3 l4 l5 l6 s0 s1 : AV} {h : AH} : evL 112 80 [l0, l1, l2, l3, l4, l5, l6] [s0, s1] h = evL 112 81 [l0, l1, l2, l3, l4, l5, l6] [I 3, s0, s1] h := ev_go c112_80 rfl
theorem c112_81 : cd 112 81 = some (81, .if_icmp .ge 8, 3, 0, 0, 0) := rfl
theorem s112_81 {l0 l1 l2 l3 l4 l5 l6 s2 : AV} {s0 s1 : Int} {h : AH} : evL 112 81 [l0, l1, l2, l3, l4, l5, l6] [I s0, I s1, s2] h = if s0 ≤ s1 then evL 112 89 [l0, l1, l2, l3, l4, l5, l6] [s2] h else evL 112 84 [l0, l1, l2, l3, l4, l5, l6] [s2] h := e_icmp_ge c112_81 rfl rfl
theorem c112_84 : cd 112 84 = some (84, .bipush 116, 2, 0, 0, 0) := rfl
theorem s112_84 {l0 l1 l2 l3 l4 l5 l6 s0 : AV} {h : AH} : evL 112 84 [l0, l1, l2, l3, l4, l5, l6] [s0] h = evL 112 86 [l0, l1, l2, l3, l4, l5, l6] [I 116, s0] h := ev_go c112_84 rfl
theorem c112_86 : cd 112 86 = some (86, .goto 17, 3, 0, 0, 0) := rfl
theorem s112_86 {l0 l1 l2 l3 l4 l5 l6 s0 s1 : AV} {h : AH} : evL 112 86 [l0, l1, l2, l3, l4, l5, l6] [s0, s1] h = evL 112 103 [l0, l1, l2, l3, l4, l5, l6] [s0, s1] h := ev_go c112_86 rfl
theorem c112_89 : cd 112 89 = some (89, .iload 6, 2, 0, 0, 0) := rfl
theorem s112_89 {l0 l1 l2 l3 l4 l5 s0 : AV} {l6 : Int} {h : AH} : evL 112 89 [l0, l1, l2, l3, l4, l5, I l6] [s0] h = evL 112 91 [l0, l1, l2, l3, l4, l5, I l6] [I l6, s0] h := ev_go c112_89 rfl
theorem c112_91 : cd 112 91 = some (91, .bipush 6, 2, 0, 0, 0) := rfl
theorem s112_91 {l0 l1 l2 l3 l4 l5 l6 s0 s1 : AV} {h : AH} : evL 112 91 [l0, l1, l2, l3, l4, l5, l6] [s0, s1] h = evL 112 93 [l0, l1, l2, l3, l4, l5, l6] [I 6, s0, s1] h := ev_go c112_91 rfl
theorem c112_93 : cd 112 93 = some (93, .if_icmp .ge 8, 3, 0, 0, 0) := rfl
theorem s112_93 {l0 l1 l2 l3 l4 l5 l6 s2 : AV} {s0 s1 : Int} {h : AH} : evL 112 93 [l0, l1, l2, l3, l4, l5, l6] [I s0, I s1, s2] h = if s0 ≤ s1 then evL 112 101 [l0, l1, l2, l3, l4, l5, l6] [s2] h else evL 112 96 [l0, l1, l2, l3, l4, l5, l6] [s2] h := e_icmp_ge c112_93 rfl rfl
theorem c112_96 : cd 112 96 = some (96, .bipush 110, 2, 0, 0, 0) := rfl
theorem s112_96 {l0 l1 l2 l3 l4 l5 l6 s0 : AV} {h : AH} : evL 112 96 [l0, l1, l2, l3, l4, l5, l6] [s0] h = evL 112 98 [l0, l1, l2, l3, l4, l5, l6] [I 110, s0] h := ev_go c112_96 rfl
theorem c112_98 : cd 112 98 = some (98, .goto 5, 3, 0, 0, 0) := rfl
theorem s112_98 {l0 l1 l2 l3 l4 l5 l6 s0 s1 : AV} {h : AH} : evL 112 98 [l0, l1, l2, l3, l4, l5, l6] [s0, s1] h = evL 112 103 [l0, l1, l2, l3, l4, l5, l6] [s0, s1] h := ev_go c112_98 rfl
theorem c112_101 : cd 112 101 = some (101, .bipush 108, 2, 0, 0, 0) := rfl
theorem s112_101 {l0 l1 l2 l3 l4 l5 l6 s0 : AV} {h : AH} : evL 112 101 [l0, l1, l2, l3, l4, l5, l6] [s0] h = evL 112 103 [l0, l1, l2, l3, l4, l5, l6] [I 108, s0] h := ev_go c112_101 rfl
theorem c112_103 : cd 112 103 = some (103, .invokevirtual 53, 3, 92, 0, 656) := rfl
theorem s112_103 {l0 l1 l2 l3 l4 l5 l6 : AV} {s0 : Int} {s1 : Nat} {M : Mem} {P : PMem} (hk : kd s1 = 7) : evL 112 103 [l0, l1, l2, l3, l4, l5, l6] [I s0, Rf s1] (Hp M P) = cont (evM 92 [Rf s1, I s0] (Hp M P)) (fun r h => evL 112 106 [l0, l1, l2, l3, l4, l5, l6] (rl r []) h) := e_callV (av' := [I s0]) (rest := []) (c := 7) c112_103 rfl rfl rfl rfl rfl rfl rfl hk rfl
theorem c112_106 : cd 112 106 = some (106, .ifCond .le 49, 3, 0, 0, 0) := rfl
theorem s112_106 {l0 l1 l2 l3 l4 l5 l6 : AV} {s0 : Int} {h : AH} : evL 112 106 [l0, l1, l2, l3, l4, l5, l6] [I s0] h = if s0 ≤ 0 then evL 112 155 [l0, l1, l2, l3, l4, l5, l6] [] h else evL 112 109 [l0, l1, l2, l3, l4, l5, l6] [] h := e_if_le c112_106 rfl rfl
theorem c112_109 : cd 112 109 = some (109, .iload 6, 2, 0, 0, 0) := rfl
theorem s112_109 {l0 l1 l2 l3 l4 l5 : AV} {l6 : Int} {h : AH} : evL 112 109 [l0, l1, l2, l3, l4, l5, I l6] [] h = evL 112 111 [l0, l1, l2, l3, l4, l5, I l6] [I l6] h := ev_go c112_109 rfl
theorem c112_111 : cd 112 111 = some (111, .bipush 6, 2, 0, 0, 0) := rfl
theorem s112_111 {l0 l1 l2 l3 l4 l5 l6 s0 : AV} {h : AH} : evL 112 111 [l0, l1, l2, l3, l4, l5, l6] [s0] h = evL 112 113 [l0, l1, l2, l3, l4, l5, l6] [I 6, s0] h := ev_go c112_111 rfl
theorem c112_113 : cd 112 113 = some (113, .if_icmp .lt 38, 3, 0, 0, 0) := rfl
theorem s112_113 {l0 l1 l2 l3 l4 l5 l6 : AV} {s0 s1 : Int} {h : AH} : evL 112 113 [l0, l1, l2, l3, l4, l5, l6] [I s0, I s1] h = if s1 < s0 then evL 112 151 [l0, l1, l2, l3, l4, l5, l6] [] h else evL 112 116 [l0, l1, l2, l3, l4, l5, l6] [] h := e_icmp_lt c112_113 rfl rfl
theorem c112_116 : cd 112 116 = some (116, .aload_n 0, 1, 0, 0, 0) := rfl
theorem s112_116 {l1 l2 l3 l4 l5 l6 : AV} {l0 : Option Nat} {h : AH} : evL 112 116 [.inr (.inl l0), l1, l2, l3, l4, l5, l6] [] h = evL 112 117 [.inr (.inl l0), l1, l2, l3, l4, l5, l6] [.inr (.inl l0)] h := ev_go c112_116 rfl
theorem c112_117 : cd 112 117 = some (117, .bipush 48, 2, 0, 0, 0) := rfl
theorem s112_117 {l0 l1 l2 l3 l4 l5 l6 s0 : AV} {h : AH} : evL 112 117 [l0, l1, l2, l3, l4, l5, l6] [s0] h = evL 112 119 [l0, l1, l2, l3, l4, l5, l6] [I 48, s0] h := ev_go c112_117 rfl
theorem c112_119 : cd 112 119 = some (119, .iload 5, 2, 0, 0, 0) := rfl
theorem s112_119 {l0 l1 l2 l3 l4 l6 s0 s1 : AV} {l5 : Int} {h : AH} : evL 112 119 [l0, l1, l2, l3, l4, I l5, l6] [s0, s1] h = evL 112 121 [l0, l1, l2, l3, l4, I l5, l6] [I l5, s0, s1] h := ev_go c112_119 rfl
theorem c112_121 : cd 112 121 = some (121, .iconst 3, 1, 0, 0, 0) := rfl
theorem s112_121 {l0 l1 l2 l3 l4 l5 l6 s0 s1 s2 : AV} {h : AH} : evL 112 121 [l0, l1, l2, l3, l4, l5, l6] [s0, s1, s2] h = evL 112 122 [l0, l1, l2, l3, l4, l5, l6] [I 3, s0, s1, s2] h := ev_go c112_121 rfl
theorem c112_122 : cd 112 122 = some (122, .ishr, 1, 0, 0, 0) := rfl
theorem s112_122 {l0 l1 l2 l3 l4 l5 l6 s2 s3 : AV} {s0 s1 : Int} {h : AH} : evL 112 122 [l0, l1, l2, l3, l4, l5, l6] [I s0, I s1, s2, s3] h = evL 112 123 [l0, l1, l2, l3, l4, l5, l6] [I (shr s1 s0), s2, s3] h := ev_go c112_122 rfl
theorem c112_123 : cd 112 123 = some (123, .iload_n 1, 1, 0, 0, 0) := rfl
theorem s112_123 {l0 l2 l3 l4 l5 l6 s0 s1 s2 : AV} {l1 : Int} {h : AH} : evL 112 123 [l0, I l1, l2, l3, l4, l5, l6] [s0, s1, s2] h = evL 112 124 [l0, I l1, l2, l3, l4, l5, l6] [I l1, s0, s1, s2] h := ev_go c112_123 rfl
theorem c112_124 : cd 112 124 = some (124, .bipush 22, 2, 0, 0, 0) := rfl
theorem s112_124 {l0 l1 l2 l3 l4 l5 l6 s0 s1 s2 s3 : AV} {h : AH} : evL 112 124 [l0, l1, l2, l3, l4, l5, l6] [s0, s1, s2, s3] h = evL 112 126 [l0, l1, l2, l3, l4, l5, l6] [I 22, s0, s1, s2, s3] h := ev_go c112_124 rfl
theorem c112_126 : cd 112 126 = some (126, .ishr, 1, 0, 0, 0) := rfl
theorem s112_126 {l0 l1 l2 l3 l4 l5 l6 s2 s3 s4 : AV} {s0 s1 : Int} {h : AH} : evL 112 126 [l0, l1, l2, l3, l4, l5, l6] [I s0, I s1, s2, s3, s4] h = evL 112 127 [l0, l1, l2, l3, l4, l5, l6] [I (shr s1 s0), s2, s3, s4] h := ev_go c112_126 rfl
theorem c112_127 : cd 112 127 = some (127, .iconst 5, 1, 0, 0, 0) := rfl
theorem s112_127 {l0 l1 l2 l3 l4 l5 l6 s0 s1 s2 s3 : AV} {h : AH} : evL 112 127 [l0, l1, l2, l3, l4, l5, l6] [s0, s1, s2, s3] h = evL 112 128 [l0, l1, l2, l3, l4, l5, l6] [I 5, s0, s1, s2, s3] h := ev_go c112_127 rfl
theorem c112_128 : cd 112 128 = some (128, .invokestatic 39, 3, 105, 0, 383) := rfl
theorem s112_128 {l0 l1 l2 l3 l4 l5 l6 s2 s3 s4 : AV} {s0 s1 : Int} {M : Mem} {P : PMem} : evL 112 128 [l0, l1, l2, l3, l4, l5, l6] [I s0, I s1, s2, s3, s4] (Hp M P) = cont (evM 105 [I s1, I s0] (Hp M P)) (fun r h => evL 112 131 [l0, l1, l2, l3, l4, l5, l6] (rl r [s2, s3, s4]) h) := e_callS (av := [I s1, I s0]) (rest := [s2, s3, s4]) c112_128 rfl rfl rfl rfl rfl rfl
theorem c112_131 : cd 112 131 = some (131, .ifCond .ne 8, 3, 0, 0, 0) := rfl
theorem s112_131 {l0 l1 l2 l3 l4 l5 l6 s1 s2 s3 : AV} {s0 : Int} {h : AH} : evL 112 131 [l0, l1, l2, l3, l4, l5, l6] [I s0, s1, s2, s3] h = if s0 = 0 then evL 112 134 [l0, l1, l2, l3, l4, l5, l6] [s1, s2, s3] h else evL 112 139 [l0, l1, l2, l3, l4, l5, l6] [s1, s2, s3] h := e_if_ne c112_131 rfl rfl
theorem c112_134 : cd 112 134 = some (134, .bipush 8, 2, 0, 0, 0) := rfl
theorem s112_134 {l0 l1 l2 l3 l4 l5 l6 s0 s1 s2 : AV} {h : AH} : evL 112 134 [l0, l1, l2, l3, l4, l5, l6] [s0, s1, s2] h = evL 112 136 [l0, l1, l2, l3, l4, l5, l6] [I 8, s0, s1, s2] h := ev_go c112_134 rfl
theorem c112_136 : cd 112 136 = some (136, .goto 5, 3, 0, 0, 0) := rfl
theorem s112_136 {l0 l1 l2 l3 l4 l5 l6 s0 s1 s2 s3 : AV} {h : AH} : evL 112 136 [l0, l1, l2, l3, l4, l5, l6] [s0, s1, s2, s3] h = evL 112 141 [l0, l1, l2, l3, l4, l5, l6] [s0, s1, s2, s3] h := ev_go c112_136 rfl
theorem c112_139 : cd 112 139 = some (139, .bipush 6, 2, 0, 0, 0) := rfl
theorem s112_139 {l0 l1 l2 l3 l4 l5 l6 s0 s1 s2 : AV} {h : AH} : evL 112 139 [l0, l1, l2, l3, l4, l5, l6] [s0, s1, s2] h = evL 112 141 [l0, l1, l2, l3, l4, l5, l6] [I 6, s0, s1, s2] h := ev_go c112_139 rfl
theorem c112_141 : cd 112 141 = some (141, .invokestatic 39, 3, 105, 0, 383) := rfl
theorem s112_141 {l0 l1 l2 l3 l4 l5 l6 s2 s3 : AV} {s0 s1 : Int} {M : Mem} {P : PMem} : evL 112 141 [l0, l1, l2, l3, l4, l5, l6] [I s0, I s1, s2, s3] (Hp M P) = cont (evM 105 [I s1, I s0] (Hp M P)) (fun r h => evL 112 144 [l0, l1, l2, l3, l4, l5, l6] (rl r [s2, s3]) h) := e_callS (av := [I s1, I s0]) (rest := [s2, s3]) c112_141 rfl rfl rfl rfl rfl rfl
theorem c112_144 : cd 112 144 = some (144, .iadd, 1, 0, 0, 0) := rfl
theorem s112_144 {l0 l1 l2 l3 l4 l5 l6 s2 : AV} {s0 s1 : Int} {h : AH} : evL 112 144 [l0, l1, l2, l3, l4, l5, l6] [I s0, I s1, s2] h = evL 112 145 [l0, l1, l2, l3, l4, l5, l6] [I (ad s1 s0), s2] h := ev_go c112_144 rfl
theorem c112_145 : cd 112 145 = some (145, .invokevirtual 53, 3, 92, 0, 656) := rfl
theorem s112_145 {l0 l1 l2 l3 l4 l5 l6 : AV} {s0 : Int} {s1 : Nat} {M : Mem} {P : PMem} (hk : kd s1 = 7) : evL 112 145 [l0, l1, l2, l3, l4, l5, l6] [I s0, Rf s1] (Hp M P) = cont (evM 92 [Rf s1, I s0] (Hp M P)) (fun r h => evL 112 148 [l0, l1, l2, l3, l4, l5, l6] (rl r []) h) := e_callV (av' := [I s0]) (rest := []) (c := 7) c112_145 rfl rfl rfl rfl rfl rfl rfl hk rfl
theorem c112_148 : cd 112 148 = some (148, .ifCond .le 7, 3, 0, 0, 0) := rfl
theorem s112_148 {l0 l1 l2 l3 l4 l5 l6 : AV} {s0 : Int} {h : AH} : evL 112 148 [l0, l1, l2, l3, l4, l5, l6] [I s0] h = if s0 ≤ 0 then evL 112 155 [l0, l1, l2, l3, l4, l5, l6] [] h else evL 112 151 [l0, l1, l2, l3, l4, l5, l6] [] h := e_if_le c112_148 rfl rfl
theorem c112_151 : cd 112 151 = some (151, .iconst 1, 1, 0, 0, 0) := rfl
theorem s112_151 {l0 l1 l2 l3 l4 l5 l6 : AV} {h : AH} : evL 112 151 [l0, l1, l2, l3, l4, l5, l6] [] h = evL 112 152 [l0, l1, l2, l3, l4, l5, l6] [I 1] h := ev_go c112_151 rfl
theorem c112_152 : cd 112 152 = some (152, .goto 4, 3, 0, 0, 0) := rfl
theorem s112_152 {l0 l1 l2 l3 l4 l5 l6 s0 : AV} {h : AH} : evL 112 152 [l0, l1, l2, l3, l4, l5, l6] [s0] h = evL 112 156 [l0, l1, l2, l3, l4, l5, l6] [s0] h := ev_go c112_152 rfl
theorem c112_155 : cd 112 155 = some (155, .iconst 0, 1, 0, 0, 0) := rfl
theorem s112_155 {l0 l1 l2 l3 l4 l5 l6 : AV} {h : AH} : evL 112 155 [l0, l1, l2, l3, l4, l5, l6] [] h = evL 112 156 [l0, l1, l2, l3, l4, l5, l6] [I 0] h := ev_go c112_155 rfl
theorem c112_156 : cd 112 156 = some (156, .istore_n 3, 1, 0, 0, 0) := rfl
theorem s112_156 {l0 l1 l2 l3 l4 l5 l6 : AV} {s0 : Int} {h : AH} : evL 112 156 [l0, l1, l2, l3, l4, l5, l6] [I s0] h = evL 112 157 [l0, l1, l2, I s0, l4, l5, l6] [] h := ev_go c112_156 rfl
theorem c112_157 : cd 112 157 = some (157, .iinc 4 1, 3, 0, 0, 0) := rfl
theorem s112_157 {l0 l1 l2 l3 l5 l6 : AV} {l4 : Int} {h : AH} : evL 112 157 [l0, l1, l2, l3, I l4, l5, l6] [] h = evL 112 160 [l0, l1, l2, l3, I (ad l4 1), l5, l6] [] h := ev_go c112_157 rfl
theorem c112_160 : cd 112 160 = some (160, .goto (-137), 3, 0, 0, 0) := rfl
theorem s112_160 {l0 l1 l2 l3 l4 l5 l6 : AV} {h : AH} : evL 112 160 [l0, l1, l2, l3, l4, l5, l6] [] h = evL 112 23 [l0, l1, l2, l3, l4, l5, l6] [] h := ev_go c112_160 rfl
theorem c112_163 : cd 112 163 = some (163, .iload_n 3, 1, 0, 0, 0) := rfl
theorem s112_163 {l0 l1 l2 l4 l5 l6 : AV} {l3 : Int} {h : AH} : evL 112 163 [l0, l1, l2, I l3, l4, l5, l6] [] h = evL 112 164 [l0, l1, l2, I l3, l4, l5, l6] [I l3] h := ev_go c112_163 rfl
theorem c112_164 : cd 112 164 = some (164, .ifCond .eq 27, 3, 0, 0, 0) := rfl
theorem s112_164 {l0 l1 l2 l3 l4 l5 l6 : AV} {s0 : Int} {h : AH} : evL 112 164 [l0, l1, l2, l3, l4, l5, l6] [I s0] h = if s0 = 0 then evL 112 191 [l0, l1, l2, l3, l4, l5, l6] [] h else evL 112 167 [l0, l1, l2, l3, l4, l5, l6] [] h := e_if_eq c112_164 rfl rfl
theorem c112_167 : cd 112 167 = some (167, .iload_n 1, 1, 0, 0, 0) := rfl
theorem s112_167 {l0 l2 l3 l4 l5 l6 : AV} {l1 : Int} {h : AH} : evL 112 167 [l0, I l1, l2, l3, l4, l5, l6] [] h = evL 112 168 [l0, I l1, l2, l3, l4, l5, l6] [I l1] h := ev_go c112_167 rfl
theorem c112_168 : cd 112 168 = some (168, .bipush 25, 2, 0, 0, 0) := rfl
theorem s112_168 {l0 l1 l2 l3 l4 l5 l6 s0 : AV} {h : AH} : evL 112 168 [l0, l1, l2, l3, l4, l5, l6] [s0] h = evL 112 170 [l0, l1, l2, l3, l4, l5, l6] [I 25, s0] h := ev_go c112_168 rfl
theorem c112_170 : cd 112 170 = some (170, .ishr, 1, 0, 0, 0) := rfl
theorem s112_170 {l0 l1 l2 l3 l4 l5 l6 : AV} {s0 s1 : Int} {h : AH} : evL 112 170 [l0, l1, l2, l3, l4, l5, l6] [I s0, I s1] h = evL 112 171 [l0, l1, l2, l3, l4, l5, l6] [I (shr s1 s0)] h := ev_go c112_170 rfl
theorem c112_171 : cd 112 171 = some (171, .iconst 5, 1, 0, 0, 0) := rfl
theorem s112_171 {l0 l1 l2 l3 l4 l5 l6 s0 : AV} {h : AH} : evL 112 171 [l0, l1, l2, l3, l4, l5, l6] [s0] h = evL 112 172 [l0, l1, l2, l3, l4, l5, l6] [I 5, s0] h := ev_go c112_171 rfl
theorem c112_172 : cd 112 172 = some (172, .invokestatic 39, 3, 105, 0, 383) := rfl
theorem s112_172 {l0 l1 l2 l3 l4 l5 l6 : AV} {s0 s1 : Int} {M : Mem} {P : PMem} : evL 112 172 [l0, l1, l2, l3, l4, l5, l6] [I s0, I s1] (Hp M P) = cont (evM 105 [I s1, I s0] (Hp M P)) (fun r h => evL 112 175 [l0, l1, l2, l3, l4, l5, l6] (rl r []) h) := e_callS (av := [I s1, I s0]) (rest := []) c112_172 rfl rfl rfl rfl rfl rfl
theorem c112_175 : cd 112 175 = some (175, .ifCond .gt 12, 3, 0, 0, 0) := rfl
theorem s112_175 {l0 l1 l2 l3 l4 l5 l6 : AV} {s0 : Int} {h : AH} : evL 112 175 [l0, l1, l2, l3, l4, l5, l6] [I s0] h = if 0 < s0 then evL 112 187 [l0, l1, l2, l3, l4, l5, l6] [] h else evL 112 178 [l0, l1, l2, l3, l4, l5, l6] [] h := e_if_gt c112_175 rfl rfl
theorem c112_178 : cd 112 178 = some (178, .aload_n 0, 1, 0, 0, 0) := rfl
theorem s112_178 {l1 l2 l3 l4 l5 l6 : AV} {l0 : Option Nat} {h : AH} : evL 112 178 [.inr (.inl l0), l1, l2, l3, l4, l5, l6] [] h = evL 112 179 [.inr (.inl l0), l1, l2, l3, l4, l5, l6] [.inr (.inl l0)] h := ev_go c112_178 rfl
theorem c112_179 : cd 112 179 = some (179, .bipush 100, 2, 0, 0, 0) := rfl
theorem s112_179 {l0 l1 l2 l3 l4 l5 l6 s0 : AV} {h : AH} : evL 112 179 [l0, l1, l2, l3, l4, l5, l6] [s0] h = evL 112 181 [l0, l1, l2, l3, l4, l5, l6] [I 100, s0] h := ev_go c112_179 rfl
theorem c112_181 : cd 112 181 = some (181, .invokevirtual 53, 3, 92, 0, 656) := rfl
theorem s112_181 {l0 l1 l2 l3 l4 l5 l6 : AV} {s0 : Int} {s1 : Nat} {M : Mem} {P : PMem} (hk : kd s1 = 7) : evL 112 181 [l0, l1, l2, l3, l4, l5, l6] [I s0, Rf s1] (Hp M P) = cont (evM 92 [Rf s1, I s0] (Hp M P)) (fun r h => evL 112 184 [l0, l1, l2, l3, l4, l5, l6] (rl r []) h) := e_callV (av' := [I s0]) (rest := []) (c := 7) c112_181 rfl rfl rfl rfl rfl rfl rfl hk rfl
theorem c112_184 : cd 112 184 = some (184, .ifCond .le 7, 3, 0, 0, 0) := rfl
theorem s112_184 {l0 l1 l2 l3 l4 l5 l6 : AV} {s0 : Int} {h : AH} : evL 112 184 [l0, l1, l2, l3, l4, l5, l6] [I s0] h = if s0 ≤ 0 then evL 112 191 [l0, l1, l2, l3, l4, l5, l6] [] h else evL 112 187 [l0, l1, l2, l3, l4, l5, l6] [] h := e_if_le c112_184 rfl rfl
theorem c112_187 : cd 112 187 = some (187, .iconst 1, 1, 0, 0, 0) := rfl
theorem s112_187 {l0 l1 l2 l3 l4 l5 l6 : AV} {h : AH} : evL 112 187 [l0, l1, l2, l3, l4, l5, l6] [] h = evL 112 188 [l0, l1, l2, l3, l4, l5, l6] [I 1] h := ev_go c112_187 rfl
theorem c112_188 : cd 112 188 = some (188, .goto 4, 3, 0, 0, 0) := rfl
theorem s112_188 {l0 l1 l2 l3 l4 l5 l6 s0 : AV} {h : AH} : evL 112 188 [l0, l1, l2, l3, l4, l5, l6] [s0] h = evL 112 192 [l0, l1, l2, l3, l4, l5, l6] [s0] h := ev_go c112_188 rfl
theorem c112_191 : cd 112 191 = some (191, .iconst 0, 1, 0, 0, 0) := rfl
theorem s112_191 {l0 l1 l2 l3 l4 l5 l6 : AV} {h : AH} : evL 112 191 [l0, l1, l2, l3, l4, l5, l6] [] h = evL 112 192 [l0, l1, l2, l3, l4, l5, l6] [I 0] h := ev_go c112_191 rfl
theorem c112_192 : cd 112 192 = some (192, .ireturn, 1, 0, 0, 0) := rfl
theorem s112_192 {l0 l1 l2 l3 l4 l5 l6 : AV} {s0 : Int} {h : AH} (hz : s0 = 0 ∨ s0 = 1) : evL 112 192 [l0, l1, l2, l3, l4, l5, l6] [I s0] h = some (some (I s0), h) := e_ret c112_192 (if_pos hz)
