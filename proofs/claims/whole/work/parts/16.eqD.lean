/-! ===== equations, on ===== -/
/-! 110: TankDiversModel.in(III)Z -/
theorem en110 {l0 l1 l2 : AV} {h : AH} : evM 110 [l0, l1, l2] h = evL 110 0 [l0, l1, l2] [] h := rfl
theorem c110_0 : cd 110 0 = some (0, .iload_n 0, 1, 0, 0, 0) := rfl
theorem s110_0 {l1 l2 : AV} {l0 : Int} {h : AH} : evL 110 0 [I l0, l1, l2] [] h = evL 110 1 [I l0, l1, l2] [I l0] h := ev_go c110_0 rfl
theorem c110_1 : cd 110 1 = some (1, .iload_n 1, 1, 0, 0, 0) := rfl
theorem s110_1 {l0 l2 s0 : AV} {l1 : Int} {h : AH} : evL 110 1 [l0, I l1, l2] [s0] h = evL 110 2 [l0, I l1, l2] [I l1, s0] h := ev_go c110_1 rfl
theorem c110_2 : cd 110 2 = some (2, .if_icmp .lt 12, 3, 0, 0, 0) := rfl
theorem s110_2 {l0 l1 l2 : AV} {s0 s1 : Int} {h : AH} : evL 110 2 [l0, l1, l2] [I s0, I s1] h = if s1 < s0 then evL 110 14 [l0, l1, l2] [] h else evL 110 5 [l0, l1, l2] [] h := e_icmp_lt c110_2 rfl rfl
theorem c110_5 : cd 110 5 = some (5, .iload_n 0, 1, 0, 0, 0) := rfl
theorem s110_5 {l1 l2 : AV} {l0 : Int} {h : AH} : evL 110 5 [I l0, l1, l2] [] h = evL 110 6 [I l0, l1, l2] [I l0] h := ev_go c110_5 rfl
theorem c110_6 : cd 110 6 = some (6, .iload_n 2, 1, 0, 0, 0) := rfl
theorem s110_6 {l0 l1 s0 : AV} {l2 : Int} {h : AH} : evL 110 6 [l0, l1, I l2] [s0] h = evL 110 7 [l0, l1, I l2] [I l2, s0] h := ev_go c110_6 rfl
theorem c110_7 : cd 110 7 = some (7, .if_icmp .gt 7, 3, 0, 0, 0) := rfl
theorem s110_7 {l0 l1 l2 : AV} {s0 s1 : Int} {h : AH} : evL 110 7 [l0, l1, l2] [I s0, I s1] h = if s0 < s1 then evL 110 14 [l0, l1, l2] [] h else evL 110 10 [l0, l1, l2] [] h := e_icmp_gt c110_7 rfl rfl
theorem c110_10 : cd 110 10 = some (10, .iconst 1, 1, 0, 0, 0) := rfl
theorem s110_10 {l0 l1 l2 : AV} {h : AH} : evL 110 10 [l0, l1, l2] [] h = evL 110 11 [l0, l1, l2] [I 1] h := ev_go c110_10 rfl
theorem c110_11 : cd 110 11 = some (11, .goto 4, 3, 0, 0, 0) := rfl
theorem s110_11 {l0 l1 l2 s0 : AV} {h : AH} : evL 110 11 [l0, l1, l2] [s0] h = evL 110 15 [l0, l1, l2] [s0] h := ev_go c110_11 rfl
theorem c110_14 : cd 110 14 = some (14, .iconst 0, 1, 0, 0, 0) := rfl
theorem s110_14 {l0 l1 l2 : AV} {h : AH} : evL 110 14 [l0, l1, l2] [] h = evL 110 15 [l0, l1, l2] [I 0] h := ev_go c110_14 rfl
theorem c110_15 : cd 110 15 = some (15, .ireturn, 1, 0, 0, 0) := rfl
theorem s110_15 {l0 l1 l2 : AV} {s0 : Int} {h : AH} (hz : s0 = 0 ∨ s0 = 1) : evL 110 15 [l0, l1, l2] [I s0] h = some (some (I s0), h) := e_ret c110_15 (if_pos hz)
/-! 111: TankDiversModel.copies([II[II)V -/
theorem en111 {l0 l1 l2 l3 : AV} {h : AH} : evM 111 [l0, l1, l2, l3] h = evL 111 0 [l0, l1, l2, l3, Db 0] [] h := rfl
theorem c111_0 : cd 111 0 = some (0, .iconst 0, 1, 0, 0, 0) := rfl
theorem s111_0 {l0 l1 l2 l3 l4 : AV} {h : AH} : evL 111 0 [l0, l1, l2, l3, l4] [] h = evL 111 1 [l0, l1, l2, l3, l4] [I 0] h := ev_go c111_0 rfl
theorem c111_1 : cd 111 1 = some (1, .istore 4, 2, 0, 0, 0) := rfl
theorem s111_1 {l0 l1 l2 l3 l4 : AV} {s0 : Int} {h : AH} : evL 111 1 [l0, l1, l2, l3, l4] [I s0] h = evL 111 3 [l0, l1, l2, l3, I s0] [] h := ev_go c111_1 rfl
theorem c111_3 : cd 111 3 = some (3, .iload 4, 2, 0, 0, 0) := rfl
theorem s111_3 {l0 l1 l2 l3 : AV} {l4 : Int} {h : AH} : evL 111 3 [l0, l1, l2, l3, I l4] [] h = evL 111 5 [l0, l1, l2, l3, I l4] [I l4] h := ev_go c111_3 rfl
theorem c111_5 : cd 111 5 = some (5, .bipush 77, 2, 0, 0, 0) := rfl
theorem s111_5 {l0 l1 l2 l3 l4 s0 : AV} {h : AH} : evL 111 5 [l0, l1, l2, l3, l4] [s0] h = evL 111 7 [l0, l1, l2, l3, l4] [I 77, s0] h := ev_go c111_5 rfl
theorem c111_7 : cd 111 7 = some (7, .if_icmp .ge 21, 3, 0, 0, 0) := rfl
theorem s111_7 {l0 l1 l2 l3 l4 : AV} {s0 s1 : Int} {h : AH} : evL 111 7 [l0, l1, l2, l3, l4] [I s0, I s1] h = if s0 ≤ s1 then evL 111 28 [l0, l1, l2, l3, l4] [] h else evL 111 10 [l0, l1, l2, l3, l4] [] h := e_icmp_ge c111_7 rfl rfl
theorem c111_10 : cd 111 10 = some (10, .aload_n 2, 1, 0, 0, 0) := rfl
theorem s111_10 {l0 l1 l3 l4 : AV} {l2 : Option Nat} {h : AH} : evL 111 10 [l0, l1, .inr (.inl l2), l3, l4] [] h = evL 111 11 [l0, l1, .inr (.inl l2), l3, l4] [.inr (.inl l2)] h := ev_go c111_10 rfl
theorem c111_11 : cd 111 11 = some (11, .iload_n 3, 1, 0, 0, 0) := rfl
theorem s111_11 {l0 l1 l2 l4 s0 : AV} {l3 : Int} {h : AH} : evL 111 11 [l0, l1, l2, I l3, l4] [s0] h = evL 111 12 [l0, l1, l2, I l3, l4] [I l3, s0] h := ev_go c111_11 rfl
theorem c111_12 : cd 111 12 = some (12, .iload 4, 2, 0, 0, 0) := rfl
theorem s111_12 {l0 l1 l2 l3 s0 s1 : AV} {l4 : Int} {h : AH} : evL 111 12 [l0, l1, l2, l3, I l4] [s0, s1] h = evL 111 14 [l0, l1, l2, l3, I l4] [I l4, s0, s1] h := ev_go c111_12 rfl
theorem c111_14 : cd 111 14 = some (14, .iadd, 1, 0, 0, 0) := rfl
theorem s111_14 {l0 l1 l2 l3 l4 s2 : AV} {s0 s1 : Int} {h : AH} : evL 111 14 [l0, l1, l2, l3, l4] [I s0, I s1, s2] h = evL 111 15 [l0, l1, l2, l3, l4] [I (ad s1 s0), s2] h := ev_go c111_14 rfl
theorem c111_15 : cd 111 15 = some (15, .aload_n 0, 1, 0, 0, 0) := rfl
theorem s111_15 {l1 l2 l3 l4 s0 s1 : AV} {l0 : Option Nat} {h : AH} : evL 111 15 [.inr (.inl l0), l1, l2, l3, l4] [s0, s1] h = evL 111 16 [.inr (.inl l0), l1, l2, l3, l4] [.inr (.inl l0), s0, s1] h := ev_go c111_15 rfl
theorem c111_16 : cd 111 16 = some (16, .iload_n 1, 1, 0, 0, 0) := rfl
theorem s111_16 {l0 l2 l3 l4 s0 s1 s2 : AV} {l1 : Int} {h : AH} : evL 111 16 [l0, I l1, l2, l3, l4] [s0, s1, s2] h = evL 111 17 [l0, I l1, l2, l3, l4] [I l1, s0, s1, s2] h := ev_go c111_16 rfl
theorem c111_17 : cd 111 17 = some (17, .iload 4, 2, 0, 0, 0) := rfl
theorem s111_17 {l0 l1 l2 l3 s0 s1 s2 s3 : AV} {l4 : Int} {h : AH} : evL 111 17 [l0, l1, l2, l3, I l4] [s0, s1, s2, s3] h = evL 111 19 [l0, l1, l2, l3, I l4] [I l4, s0, s1, s2, s3] h := ev_go c111_17 rfl
theorem c111_19 : cd 111 19 = some (19, .iadd, 1, 0, 0, 0) := rfl
theorem s111_19 {l0 l1 l2 l3 l4 s2 s3 s4 : AV} {s0 s1 : Int} {h : AH} : evL 111 19 [l0, l1, l2, l3, l4] [I s0, I s1, s2, s3, s4] h = evL 111 20 [l0, l1, l2, l3, l4] [I (ad s1 s0), s2, s3, s4] h := ev_go c111_19 rfl
theorem c111_20 : cd 111 20 = some (20, .iaload, 1, 0, 0, 0) := rfl
theorem s111_20 {l0 l1 l2 l3 l4 s2 s3 : AV} {s0 : Int} {s1 : Nat} {M : Mem} {P : PMem} (hk : kd s1 = 100) (h0 : 0 ≤ s0) (hn : s0.toNat < ln s1) : evL 111 20 [l0, l1, l2, l3, l4] [I s0, Rf s1, s2, s3] (Hp M P) = evL 111 21 [l0, l1, l2, l3, l4] [I (M s1 s0.toNat), s2, s3] (Hp M P) := e_iald c111_20 hk h0 hn
theorem c111_21 : cd 111 21 = some (21, .iastore, 1, 0, 0, 0) := rfl
theorem s111_21 {l0 l1 l2 l3 l4 : AV} {s0 s1 : Int} {s2 : Nat} {M : Mem} {P : PMem} (hk : kd s2 = 100) (h0 : 0 ≤ s1) (hn : s1.toNat < ln s2) : evL 111 21 [l0, l1, l2, l3, l4] [I s0, I s1, Rf s2] (Hp M P) = evL 111 22 [l0, l1, l2, l3, l4] [] (Hp (wr M s2 s1.toNat s0) P) := e_iast c111_21 hk h0 hn
theorem c111_22 : cd 111 22 = some (22, .iinc 4 1, 3, 0, 0, 0) := rfl
theorem s111_22 {l0 l1 l2 l3 : AV} {l4 : Int} {h : AH} : evL 111 22 [l0, l1, l2, l3, I l4] [] h = evL 111 25 [l0, l1, l2, l3, I (ad l4 1)] [] h := ev_go c111_22 rfl
theorem c111_25 : cd 111 25 = some (25, .goto (-22), 3, 0, 0, 0) := rfl
theorem s111_25 {l0 l1 l2 l3 l4 : AV} {h : AH} : evL 111 25 [l0, l1, l2, l3, l4] [] h = evL 111 3 [l0, l1, l2, l3, l4] [] h := ev_go c111_25 rfl
theorem c111_28 : cd 111 28 = some (28, .return_, 1, 0, 0, 0) := rfl
theorem s111_28 {l0 l1 l2 l3 l4 : AV} {h : AH} : evL 111 28 [l0, l1, l2, l3, l4] [] h = some (none, h) := e_ret c111_28 rfl
/-! 112: TankDiversModel.records()V -/
theorem en112 {l0 : AV} {h : AH} : evM 112 [l0] h = evL 112 0 [l0, Db 0] [] h := rfl
theorem c112_0 : cd 112 0 = some (0, .aload_n 0, 1, 0, 0, 0) := rfl
theorem s112_0 {l1 : AV} {l0 : Option Nat} {h : AH} : evL 112 0 [.inr (.inl l0), l1] [] h = evL 112 1 [.inr (.inl l0), l1] [.inr (.inl l0)] h := ev_go c112_0 rfl
theorem c112_1 : cd 112 1 = some (1, .getfield 35, 3, 8, 2, 727) := rfl
theorem s112_1 {l0 l1 : AV} {s0 : Nat} {M : Mem} {P : PMem} (hk : kd s0 = 8) : evL 112 1 [l0, l1] [Rf s0] (Hp M P) = evL 112 4 [l0, l1] [I (M s0 2)] (Hp M P) := e_getI c112_1 rfl hk
theorem c112_4 : cd 112 4 = some (4, .iconst 4, 1, 0, 0, 0) := rfl
theorem s112_4 {l0 l1 s0 : AV} {h : AH} : evL 112 4 [l0, l1] [s0] h = evL 112 5 [l0, l1] [I 4, s0] h := ev_go c112_4 rfl
theorem c112_5 : cd 112 5 = some (5, .if_icmp .ne 43, 3, 0, 0, 0) := rfl
theorem s112_5 {l0 l1 : AV} {s0 s1 : Int} {h : AH} : evL 112 5 [l0, l1] [I s0, I s1] h = if s1 = s0 then evL 112 8 [l0, l1] [] h else evL 112 48 [l0, l1] [] h := e_icmp_ne c112_5 rfl rfl
theorem c112_8 : cd 112 8 = some (8, .iconst 0, 1, 0, 0, 0) := rfl
theorem s112_8 {l0 l1 : AV} {h : AH} : evL 112 8 [l0, l1] [] h = evL 112 9 [l0, l1] [I 0] h := ev_go c112_8 rfl
theorem c112_9 : cd 112 9 = some (9, .istore_n 1, 1, 0, 0, 0) := rfl
theorem s112_9 {l0 l1 : AV} {s0 : Int} {h : AH} : evL 112 9 [l0, l1] [I s0] h = evL 112 10 [l0, I s0] [] h := ev_go c112_9 rfl
theorem c112_10 : cd 112 10 = some (10, .iload_n 1, 1, 0, 0, 0) := rfl
theorem s112_10 {l0 : AV} {l1 : Int} {h : AH} : evL 112 10 [l0, I l1] [] h = evL 112 11 [l0, I l1] [I l1] h := ev_go c112_10 rfl
theorem c112_11 : cd 112 11 = some (11, .sipush 231, 3, 0, 0, 0) := rfl
theorem s112_11 {l0 l1 s0 : AV} {h : AH} : evL 112 11 [l0, l1] [s0] h = evL 112 14 [l0, l1] [I 231, s0] h := ev_go c112_11 rfl
theorem c112_14 : cd 112 14 = some (14, .if_icmp .ge 24, 3, 0, 0, 0) := rfl
theorem s112_14 {l0 l1 : AV} {s0 s1 : Int} {h : AH} : evL 112 14 [l0, l1] [I s0, I s1] h = if s0 ≤ s1 then evL 112 38 [l0, l1] [] h else evL 112 17 [l0, l1] [] h := e_icmp_ge c112_14 rfl rfl
theorem c112_17 : cd 112 17 = some (17, .aload_n 0, 1, 0, 0, 0) := rfl
theorem s112_17 {l1 : AV} {l0 : Option Nat} {h : AH} : evL 112 17 [.inr (.inl l0), l1] [] h = evL 112 18 [.inr (.inl l0), l1] [.inr (.inl l0)] h := ev_go c112_17 rfl
theorem c112_18 : cd 112 18 = some (18, .getfield 13, 3, 8, 1, 726) := rfl
theorem s112_18 {l0 l1 : AV} {s0 : Nat} {M : Mem} {P : PMem} (hk : kd s0 = 8) : evL 112 18 [l0, l1] [Rf s0] (Hp M P) = evL 112 21 [l0, l1] [Rf (rfd s0 1)] (Hp M P) := e_getR c112_18 rfl hk
theorem c112_21 : cd 112 21 = some (21, .iload_n 1, 1, 0, 0, 0) := rfl
theorem s112_21 {l0 s0 : AV} {l1 : Int} {h : AH} : evL 112 21 [l0, I l1] [s0] h = evL 112 22 [l0, I l1] [I l1, s0] h := ev_go c112_21 rfl
theorem c112_22 : cd 112 22 = some (22, .aload_n 0, 1, 0, 0, 0) := rfl
theorem s112_22 {l1 s0 s1 : AV} {l0 : Option Nat} {h : AH} : evL 112 22 [.inr (.inl l0), l1] [s0, s1] h = evL 112 23 [.inr (.inl l0), l1] [.inr (.inl l0), s0, s1] h := ev_go c112_22 rfl
theorem c112_23 : cd 112 23 = some (23, .getfield 13, 3, 8, 1, 726) := rfl
theorem s112_23 {l0 l1 s1 s2 : AV} {s0 : Nat} {M : Mem} {P : PMem} (hk : kd s0 = 8) : evL 112 23 [l0, l1] [Rf s0, s1, s2] (Hp M P) = evL 112 26 [l0, l1] [Rf (rfd s0 1), s1, s2] (Hp M P) := e_getR c112_23 rfl hk
theorem c112_26 : cd 112 26 = some (26, .iload_n 1, 1, 0, 0, 0) := rfl
theorem s112_26 {l0 s0 s1 s2 : AV} {l1 : Int} {h : AH} : evL 112 26 [l0, I l1] [s0, s1, s2] h = evL 112 27 [l0, I l1] [I l1, s0, s1, s2] h := ev_go c112_26 rfl
theorem c112_27 : cd 112 27 = some (27, .bipush 77, 2, 0, 0, 0) := rfl
theorem s112_27 {l0 l1 s0 s1 s2 s3 : AV} {h : AH} : evL 112 27 [l0, l1] [s0, s1, s2, s3] h = evL 112 29 [l0, l1] [I 77, s0, s1, s2, s3] h := ev_go c112_27 rfl
theorem c112_29 : cd 112 29 = some (29, .iadd, 1, 0, 0, 0) := rfl
theorem s112_29 {l0 l1 s2 s3 s4 : AV} {s0 s1 : Int} {h : AH} : evL 112 29 [l0, l1] [I s0, I s1, s2, s3, s4] h = evL 112 30 [l0, l1] [I (ad s1 s0), s2, s3, s4] h := ev_go c112_29 rfl
theorem c112_30 : cd 112 30 = some (30, .iaload, 1, 0, 0, 0) := rfl
theorem s112_30 {l0 l1 s2 s3 : AV} {s0 : Int} {s1 : Nat} {M : Mem} {P : PMem} (hk : kd s1 = 100) (h0 : 0 ≤ s0) (hn : s0.toNat < ln s1) : evL 112 30 [l0, l1] [I s0, Rf s1, s2, s3] (Hp M P) = evL 112 31 [l0, l1] [I (M s1 s0.toNat), s2, s3] (Hp M P) := e_iald c112_30 hk h0 hn
theorem c112_31 : cd 112 31 = some (31, .iastore, 1, 0, 0, 0) := rfl
theorem s112_31 {l0 l1 : AV} {s0 s1 : Int} {s2 : Nat} {M : Mem} {P : PMem} (hk : kd s2 = 100) (h0 : 0 ≤ s1) (hn : s1.toNat < ln s2) : evL 112 31 [l0, l1] [I s0, I s1, Rf s2] (Hp M P) = evL 112 32 [l0, l1] [] (Hp (wr M s2 s1.toNat s0) P) := e_iast c112_31 hk h0 hn
theorem c112_32 : cd 112 32 = some (32, .iinc 1 1, 3, 0, 0, 0) := rfl
theorem s112_32 {l0 : AV} {l1 : Int} {h : AH} : evL 112 32 [l0, I l1] [] h = evL 112 35 [l0, I (ad l1 1)] [] h := ev_go c112_32 rfl
theorem c112_35 : cd 112 35 = some (35, .goto (-25), 3, 0, 0, 0) := rfl
theorem s112_35 {l0 l1 : AV} {h : AH} : evL 112 35 [l0, l1] [] h = evL 112 10 [l0, l1] [] h := ev_go c112_35 rfl
theorem c112_38 : cd 112 38 = some (38, .aload_n 0, 1, 0, 0, 0) := rfl
theorem s112_38 {l1 : AV} {l0 : Option Nat} {h : AH} : evL 112 38 [.inr (.inl l0), l1] [] h = evL 112 39 [.inr (.inl l0), l1] [.inr (.inl l0)] h := ev_go c112_38 rfl
theorem c112_39 : cd 112 39 = some (39, .dup, 1, 0, 0, 0) := rfl
theorem s112_39 {l0 l1 : AV} {s0 : Option Nat} {h : AH} : evL 112 39 [l0, l1] [.inr (.inl s0)] h = evL 112 40 [l0, l1] [.inr (.inl s0), .inr (.inl s0)] h := ev_go c112_39 rfl
theorem c112_40 : cd 112 40 = some (40, .getfield 35, 3, 8, 2, 727) := rfl
theorem s112_40 {l0 l1 s1 : AV} {s0 : Nat} {M : Mem} {P : PMem} (hk : kd s0 = 8) : evL 112 40 [l0, l1] [Rf s0, s1] (Hp M P) = evL 112 43 [l0, l1] [I (M s0 2), s1] (Hp M P) := e_getI c112_40 rfl hk
theorem c112_43 : cd 112 43 = some (43, .iconst 1, 1, 0, 0, 0) := rfl
theorem s112_43 {l0 l1 s0 s1 : AV} {h : AH} : evL 112 43 [l0, l1] [s0, s1] h = evL 112 44 [l0, l1] [I 1, s0, s1] h := ev_go c112_43 rfl
theorem c112_44 : cd 112 44 = some (44, .isub, 1, 0, 0, 0) := rfl
theorem s112_44 {l0 l1 s2 : AV} {s0 s1 : Int} {h : AH} : evL 112 44 [l0, l1] [I s0, I s1, s2] h = evL 112 45 [l0, l1] [I (sb s1 s0), s2] h := ev_go c112_44 rfl
theorem c112_45 : cd 112 45 = some (45, .putfield 35, 3, 8, 2, 727) := rfl
theorem s112_45 {l0 l1 : AV} {s0 : Int} {s1 : Nat} {M : Mem} {P : PMem} (hk : kd s1 = 8) : evL 112 45 [l0, l1] [I s0, Rf s1] (Hp M P) = evL 112 48 [l0, l1] [] (Hp (wr M s1 2 s0) P) := e_putI c112_45 rfl hk
theorem c112_48 : cd 112 48 = some (48, .aload_n 0, 1, 0, 0, 0) := rfl
theorem s112_48 {l1 : AV} {l0 : Option Nat} {h : AH} : evL 112 48 [.inr (.inl l0), l1] [] h = evL 112 49 [.inr (.inl l0), l1] [.inr (.inl l0)] h := ev_go c112_48 rfl
theorem c112_49 : cd 112 49 = some (49, .getfield 7, 3, 8, 0, 725) := rfl
theorem s112_49 {l0 l1 : AV} {s0 : Nat} {M : Mem} {P : PMem} (hk : kd s0 = 8) : evL 112 49 [l0, l1] [Rf s0] (Hp M P) = evL 112 52 [l0, l1] [Rf (rfd s0 0)] (Hp M P) := e_getR c112_49 rfl hk
theorem c112_52 : cd 112 52 = some (52, .iconst 0, 1, 0, 0, 0) := rfl
theorem s112_52 {l0 l1 s0 : AV} {h : AH} : evL 112 52 [l0, l1] [s0] h = evL 112 53 [l0, l1] [I 0, s0] h := ev_go c112_52 rfl
theorem c112_53 : cd 112 53 = some (53, .aload_n 0, 1, 0, 0, 0) := rfl
theorem s112_53 {l1 s0 s1 : AV} {l0 : Option Nat} {h : AH} : evL 112 53 [.inr (.inl l0), l1] [s0, s1] h = evL 112 54 [.inr (.inl l0), l1] [.inr (.inl l0), s0, s1] h := ev_go c112_53 rfl
theorem c112_54 : cd 112 54 = some (54, .getfield 13, 3, 8, 1, 726) := rfl
theorem s112_54 {l0 l1 s1 s2 : AV} {s0 : Nat} {M : Mem} {P : PMem} (hk : kd s0 = 8) : evL 112 54 [l0, l1] [Rf s0, s1, s2] (Hp M P) = evL 112 57 [l0, l1] [Rf (rfd s0 1), s1, s2] (Hp M P) := e_getR c112_54 rfl hk
theorem c112_57 : cd 112 57 = some (57, .bipush 77, 2, 0, 0, 0) := rfl
theorem s112_57 {l0 l1 s0 s1 s2 : AV} {h : AH} : evL 112 57 [l0, l1] [s0, s1, s2] h = evL 112 59 [l0, l1] [I 77, s0, s1, s2] h := ev_go c112_57 rfl
theorem c112_59 : cd 112 59 = some (59, .aload_n 0, 1, 0, 0, 0) := rfl
theorem s112_59 {l1 s0 s1 s2 s3 : AV} {l0 : Option Nat} {h : AH} : evL 112 59 [.inr (.inl l0), l1] [s0, s1, s2, s3] h = evL 112 60 [.inr (.inl l0), l1] [.inr (.inl l0), s0, s1, s2, s3] h := ev_go c112_59 rfl
theorem c112_60 : cd 112 60 = some (60, .getfield 35, 3, 8, 2, 727) := rfl
theorem s112_60 {l0 l1 s1 s2 s3 s4 : AV} {s0 : Nat} {M : Mem} {P : PMem} (hk : kd s0 = 8) : evL 112 60 [l0, l1] [Rf s0, s1, s2, s3, s4] (Hp M P) = evL 112 63 [l0, l1] [I (M s0 2), s1, s2, s3, s4] (Hp M P) := e_getI c112_60 rfl hk
theorem c112_63 : cd 112 63 = some (63, .imul, 1, 0, 0, 0) := rfl
theorem s112_63 {l0 l1 s2 s3 s4 : AV} {s0 s1 : Int} {h : AH} : evL 112 63 [l0, l1] [I s0, I s1, s2, s3, s4] h = evL 112 64 [l0, l1] [I (ml s1 s0), s2, s3, s4] h := ev_go c112_63 rfl
theorem c112_64 : cd 112 64 = some (64, .invokestatic 39, 3, 111, 0, 791) := rfl
theorem s112_64 {l0 l1 : AV} {s0 s2 : Int} {s1 s3 : Nat} {M : Mem} {P : PMem} : evL 112 64 [l0, l1] [I s0, Rf s1, I s2, Rf s3] (Hp M P) = cont (evM 111 [Rf s3, I s2, Rf s1, I s0] (Hp M P)) (fun r h => evL 112 67 [l0, l1] (rl r []) h) := e_callS (av := [Rf s3, I s2, Rf s1, I s0]) (rest := []) c112_64 rfl rfl rfl rfl rfl rfl
theorem c112_67 : cd 112 67 = some (67, .aload_n 0, 1, 0, 0, 0) := rfl
theorem s112_67 {l1 : AV} {l0 : Option Nat} {h : AH} : evL 112 67 [.inr (.inl l0), l1] [] h = evL 112 68 [.inr (.inl l0), l1] [.inr (.inl l0)] h := ev_go c112_67 rfl
theorem c112_68 : cd 112 68 = some (68, .dup, 1, 0, 0, 0) := rfl
theorem s112_68 {l0 l1 : AV} {s0 : Option Nat} {h : AH} : evL 112 68 [l0, l1] [.inr (.inl s0)] h = evL 112 69 [l0, l1] [.inr (.inl s0), .inr (.inl s0)] h := ev_go c112_68 rfl
theorem c112_69 : cd 112 69 = some (69, .getfield 35, 3, 8, 2, 727) := rfl
theorem s112_69 {l0 l1 s1 : AV} {s0 : Nat} {M : Mem} {P : PMem} (hk : kd s0 = 8) : evL 112 69 [l0, l1] [Rf s0, s1] (Hp M P) = evL 112 72 [l0, l1] [I (M s0 2), s1] (Hp M P) := e_getI c112_69 rfl hk
theorem c112_72 : cd 112 72 = some (72, .iconst 1, 1, 0, 0, 0) := rfl
theorem s112_72 {l0 l1 s0 s1 : AV} {h : AH} : evL 112 72 [l0, l1] [s0, s1] h = evL 112 73 [l0, l1] [I 1, s0, s1] h := ev_go c112_72 rfl
theorem c112_73 : cd 112 73 = some (73, .iadd, 1, 0, 0, 0) := rfl
theorem s112_73 {l0 l1 s2 : AV} {s0 s1 : Int} {h : AH} : evL 112 73 [l0, l1] [I s0, I s1, s2] h = evL 112 74 [l0, l1] [I (ad s1 s0), s2] h := ev_go c112_73 rfl
theorem c112_74 : cd 112 74 = some (74, .putfield 35, 3, 8, 2, 727) := rfl
theorem s112_74 {l0 l1 : AV} {s0 : Int} {s1 : Nat} {M : Mem} {P : PMem} (hk : kd s1 = 8) : evL 112 74 [l0, l1] [I s0, Rf s1] (Hp M P) = evL 112 77 [l0, l1] [] (Hp (wr M s1 2 s0) P) := e_putI c112_74 rfl hk
theorem c112_77 : cd 112 77 = some (77, .return_, 1, 0, 0, 0) := rfl
theorem s112_77 {l0 l1 : AV} {h : AH} : evL 112 77 [l0, l1] [] h = some (none, h) := e_ret c112_77 rfl
/-! 113: TankDiversModel.treasures(I)I -/
theorem en113 {l0 : AV} {h : AH} : evM 113 [l0] h = evL 113 0 [l0, Db 0, Db 0] [] h := rfl
theorem c113_0 : cd 113 0 = some (0, .iconst 0, 1, 0, 0, 0) := rfl
theorem s113_0 {l0 l1 l2 : AV} {h : AH} : evL 113 0 [l0, l1, l2] [] h = evL 113 1 [l0, l1, l2] [I 0] h := ev_go c113_0 rfl
theorem c113_1 : cd 113 1 = some (1, .istore_n 1, 1, 0, 0, 0) := rfl
theorem s113_1 {l0 l1 l2 : AV} {s0 : Int} {h : AH} : evL 113 1 [l0, l1, l2] [I s0] h = evL 113 2 [l0, I s0, l2] [] h := ev_go c113_1 rfl
theorem c113_2 : cd 113 2 = some (2, .iload_n 0, 1, 0, 0, 0) := rfl
theorem s113_2 {l1 l2 : AV} {l0 : Int} {h : AH} : evL 113 2 [I l0, l1, l2] [] h = evL 113 3 [I l0, l1, l2] [I l0] h := ev_go c113_2 rfl
theorem c113_3 : cd 113 3 = some (3, .istore_n 2, 1, 0, 0, 0) := rfl
theorem s113_3 {l0 l1 l2 : AV} {s0 : Int} {h : AH} : evL 113 3 [l0, l1, l2] [I s0] h = evL 113 4 [l0, l1, I s0] [] h := ev_go c113_3 rfl
theorem c113_4 : cd 113 4 = some (4, .iload_n 2, 1, 0, 0, 0) := rfl
theorem s113_4 {l0 l1 : AV} {l2 : Int} {h : AH} : evL 113 4 [l0, l1, I l2] [] h = evL 113 5 [l0, l1, I l2] [I l2] h := ev_go c113_4 rfl
theorem c113_5 : cd 113 5 = some (5, .ifCond .le 13, 3, 0, 0, 0) := rfl
theorem s113_5 {l0 l1 l2 : AV} {s0 : Int} {h : AH} : evL 113 5 [l0, l1, l2] [I s0] h = if s0 ≤ 0 then evL 113 18 [l0, l1, l2] [] h else evL 113 8 [l0, l1, l2] [] h := e_if_le c113_5 rfl rfl
theorem c113_8 : cd 113 8 = some (8, .iinc 1 1, 3, 0, 0, 0) := rfl
theorem s113_8 {l0 l2 : AV} {l1 : Int} {h : AH} : evL 113 8 [l0, I l1, l2] [] h = evL 113 11 [l0, I (ad l1 1), l2] [] h := ev_go c113_8 rfl
theorem c113_11 : cd 113 11 = some (11, .iload_n 2, 1, 0, 0, 0) := rfl
theorem s113_11 {l0 l1 : AV} {l2 : Int} {h : AH} : evL 113 11 [l0, l1, I l2] [] h = evL 113 12 [l0, l1, I l2] [I l2] h := ev_go c113_11 rfl
theorem c113_12 : cd 113 12 = some (12, .iconst 5, 1, 0, 0, 0) := rfl
theorem s113_12 {l0 l1 l2 s0 : AV} {h : AH} : evL 113 12 [l0, l1, l2] [s0] h = evL 113 13 [l0, l1, l2] [I 5, s0] h := ev_go c113_12 rfl
theorem c113_13 : cd 113 13 = some (13, .ishr, 1, 0, 0, 0) := rfl
theorem s113_13 {l0 l1 l2 : AV} {s0 s1 : Int} {h : AH} : evL 113 13 [l0, l1, l2] [I s0, I s1] h = evL 113 14 [l0, l1, l2] [I (shr s1 s0)] h := ev_go c113_13 rfl
theorem c113_14 : cd 113 14 = some (14, .istore_n 2, 1, 0, 0, 0) := rfl
theorem s113_14 {l0 l1 l2 : AV} {s0 : Int} {h : AH} : evL 113 14 [l0, l1, l2] [I s0] h = evL 113 15 [l0, l1, I s0] [] h := ev_go c113_14 rfl
theorem c113_15 : cd 113 15 = some (15, .goto (-11), 3, 0, 0, 0) := rfl
theorem s113_15 {l0 l1 l2 : AV} {h : AH} : evL 113 15 [l0, l1, l2] [] h = evL 113 4 [l0, l1, l2] [] h := ev_go c113_15 rfl
theorem c113_18 : cd 113 18 = some (18, .iload_n 1, 1, 0, 0, 0) := rfl
theorem s113_18 {l0 l2 : AV} {l1 : Int} {h : AH} : evL 113 18 [l0, I l1, l2] [] h = evL 113 19 [l0, I l1, l2] [I l1] h := ev_go c113_18 rfl
theorem c113_19 : cd 113 19 = some (19, .ireturn, 1, 0, 0, 0) := rfl
theorem s113_19 {l0 l1 l2 : AV} {s0 : Int} {h : AH} : evL 113 19 [l0, l1, l2] [I s0] h = some (some (I s0), h) := e_ret c113_19 rfl
/-! 114: TankDiversModel.treasure(II)I -/
theorem en114 {l0 l1 : AV} {h : AH} : evM 114 [l0, l1] h = evL 114 0 [l0, l1] [] h := rfl
theorem c114_0 : cd 114 0 = some (0, .iload_n 0, 1, 0, 0, 0) := rfl
theorem s114_0 {l1 : AV} {l0 : Int} {h : AH} : evL 114 0 [I l0, l1] [] h = evL 114 1 [I l0, l1] [I l0] h := ev_go c114_0 rfl
theorem c114_1 : cd 114 1 = some (1, .iconst 5, 1, 0, 0, 0) := rfl
theorem s114_1 {l0 l1 s0 : AV} {h : AH} : evL 114 1 [l0, l1] [s0] h = evL 114 2 [l0, l1] [I 5, s0] h := ev_go c114_1 rfl
theorem c114_2 : cd 114 2 = some (2, .iload_n 1, 1, 0, 0, 0) := rfl
theorem s114_2 {l0 s0 s1 : AV} {l1 : Int} {h : AH} : evL 114 2 [l0, I l1] [s0, s1] h = evL 114 3 [l0, I l1] [I l1, s0, s1] h := ev_go c114_2 rfl
theorem c114_3 : cd 114 3 = some (3, .imul, 1, 0, 0, 0) := rfl
theorem s114_3 {l0 l1 s2 : AV} {s0 s1 : Int} {h : AH} : evL 114 3 [l0, l1] [I s0, I s1, s2] h = evL 114 4 [l0, l1] [I (ml s1 s0), s2] h := ev_go c114_3 rfl
theorem c114_4 : cd 114 4 = some (4, .ishr, 1, 0, 0, 0) := rfl
theorem s114_4 {l0 l1 : AV} {s0 s1 : Int} {h : AH} : evL 114 4 [l0, l1] [I s0, I s1] h = evL 114 5 [l0, l1] [I (shr s1 s0)] h := ev_go c114_4 rfl
theorem c114_5 : cd 114 5 = some (5, .bipush 31, 2, 0, 0, 0) := rfl
theorem s114_5 {l0 l1 s0 : AV} {h : AH} : evL 114 5 [l0, l1] [s0] h = evL 114 7 [l0, l1] [I 31, s0] h := ev_go c114_5 rfl
theorem c114_7 : cd 114 7 = some (7, .iand, 1, 0, 0, 0) := rfl
theorem s114_7 {l0 l1 : AV} {s0 s1 : Int} {h : AH} : evL 114 7 [l0, l1] [I s0, I s1] h = evL 114 8 [l0, l1] [I (an s1 s0)] h := ev_go c114_7 rfl
theorem c114_8 : cd 114 8 = some (8, .iconst 1, 1, 0, 0, 0) := rfl
theorem s114_8 {l0 l1 s0 : AV} {h : AH} : evL 114 8 [l0, l1] [s0] h = evL 114 9 [l0, l1] [I 1, s0] h := ev_go c114_8 rfl
theorem c114_9 : cd 114 9 = some (9, .isub, 1, 0, 0, 0) := rfl
theorem s114_9 {l0 l1 : AV} {s0 s1 : Int} {h : AH} : evL 114 9 [l0, l1] [I s0, I s1] h = evL 114 10 [l0, l1] [I (sb s1 s0)] h := ev_go c114_9 rfl
theorem c114_10 : cd 114 10 = some (10, .ireturn, 1, 0, 0, 0) := rfl
theorem s114_10 {l0 l1 : AV} {s0 : Int} {h : AH} : evL 114 10 [l0, l1] [I s0] h = some (some (I s0), h) := e_ret c114_10 rfl
/-! 115: TankDiversModel.valueOf(I)I -/
theorem en115 {l0 : AV} {h : AH} : evM 115 [l0] h = evL 115 0 [l0, Db 0, Db 0] [] h := rfl
theorem c115_0 : cd 115 0 = some (0, .iconst 0, 1, 0, 0, 0) := rfl
theorem s115_0 {l0 l1 l2 : AV} {h : AH} : evL 115 0 [l0, l1, l2] [] h = evL 115 1 [l0, l1, l2] [I 0] h := ev_go c115_0 rfl
theorem c115_1 : cd 115 1 = some (1, .istore_n 1, 1, 0, 0, 0) := rfl
theorem s115_1 {l0 l1 l2 : AV} {s0 : Int} {h : AH} : evL 115 1 [l0, l1, l2] [I s0] h = evL 115 2 [l0, I s0, l2] [] h := ev_go c115_1 rfl
theorem c115_2 : cd 115 2 = some (2, .iconst 0, 1, 0, 0, 0) := rfl
theorem s115_2 {l0 l1 l2 : AV} {h : AH} : evL 115 2 [l0, l1, l2] [] h = evL 115 3 [l0, l1, l2] [I 0] h := ev_go c115_2 rfl
theorem c115_3 : cd 115 3 = some (3, .istore_n 2, 1, 0, 0, 0) := rfl
theorem s115_3 {l0 l1 l2 : AV} {s0 : Int} {h : AH} : evL 115 3 [l0, l1, l2] [I s0] h = evL 115 4 [l0, l1, I s0] [] h := ev_go c115_3 rfl
theorem c115_4 : cd 115 4 = some (4, .iload_n 2, 1, 0, 0, 0) := rfl
theorem s115_4 {l0 l1 : AV} {l2 : Int} {h : AH} : evL 115 4 [l0, l1, I l2] [] h = evL 115 5 [l0, l1, I l2] [I l2] h := ev_go c115_4 rfl
theorem c115_5 : cd 115 5 = some (5, .iload_n 0, 1, 0, 0, 0) := rfl
theorem s115_5 {l1 l2 s0 : AV} {l0 : Int} {h : AH} : evL 115 5 [I l0, l1, l2] [s0] h = evL 115 6 [I l0, l1, l2] [I l0, s0] h := ev_go c115_5 rfl
theorem c115_6 : cd 115 6 = some (6, .invokestatic 43, 3, 113, 0, 873) := rfl
theorem s115_6 {l0 l1 l2 s1 : AV} {s0 : Int} {M : Mem} {P : PMem} : evL 115 6 [l0, l1, l2] [I s0, s1] (Hp M P) = cont (evM 113 [I s0] (Hp M P)) (fun r h => evL 115 9 [l0, l1, l2] (rl r [s1]) h) := e_callS (av := [I s0]) (rest := [s1]) c115_6 rfl rfl rfl rfl rfl rfl
theorem c115_9 : cd 115 9 = some (9, .if_icmp .ge 17, 3, 0, 0, 0) := rfl
theorem s115_9 {l0 l1 l2 : AV} {s0 s1 : Int} {h : AH} : evL 115 9 [l0, l1, l2] [I s0, I s1] h = if s0 ≤ s1 then evL 115 26 [l0, l1, l2] [] h else evL 115 12 [l0, l1, l2] [] h := e_icmp_ge c115_9 rfl rfl
theorem c115_12 : cd 115 12 = some (12, .iload_n 1, 1, 0, 0, 0) := rfl
theorem s115_12 {l0 l2 : AV} {l1 : Int} {h : AH} : evL 115 12 [l0, I l1, l2] [] h = evL 115 13 [l0, I l1, l2] [I l1] h := ev_go c115_12 rfl
theorem c115_13 : cd 115 13 = some (13, .iload_n 0, 1, 0, 0, 0) := rfl
theorem s115_13 {l1 l2 s0 : AV} {l0 : Int} {h : AH} : evL 115 13 [I l0, l1, l2] [s0] h = evL 115 14 [I l0, l1, l2] [I l0, s0] h := ev_go c115_13 rfl
theorem c115_14 : cd 115 14 = some (14, .iload_n 2, 1, 0, 0, 0) := rfl
theorem s115_14 {l0 l1 s0 s1 : AV} {l2 : Int} {h : AH} : evL 115 14 [l0, l1, I l2] [s0, s1] h = evL 115 15 [l0, l1, I l2] [I l2, s0, s1] h := ev_go c115_14 rfl
theorem c115_15 : cd 115 15 = some (15, .invokestatic 47, 3, 114, 0, 876) := rfl
theorem s115_15 {l0 l1 l2 s2 : AV} {s0 s1 : Int} {M : Mem} {P : PMem} : evL 115 15 [l0, l1, l2] [I s0, I s1, s2] (Hp M P) = cont (evM 114 [I s1, I s0] (Hp M P)) (fun r h => evL 115 18 [l0, l1, l2] (rl r [s2]) h) := e_callS (av := [I s1, I s0]) (rest := [s2]) c115_15 rfl rfl rfl rfl rfl rfl
theorem c115_18 : cd 115 18 = some (18, .iadd, 1, 0, 0, 0) := rfl
theorem s115_18 {l0 l1 l2 : AV} {s0 s1 : Int} {h : AH} : evL 115 18 [l0, l1, l2] [I s0, I s1] h = evL 115 19 [l0, l1, l2] [I (ad s1 s0)] h := ev_go c115_18 rfl
theorem c115_19 : cd 115 19 = some (19, .istore_n 1, 1, 0, 0, 0) := rfl
theorem s115_19 {l0 l1 l2 : AV} {s0 : Int} {h : AH} : evL 115 19 [l0, l1, l2] [I s0] h = evL 115 20 [l0, I s0, l2] [] h := ev_go c115_19 rfl
theorem c115_20 : cd 115 20 = some (20, .iinc 2 1, 3, 0, 0, 0) := rfl
theorem s115_20 {l0 l1 : AV} {l2 : Int} {h : AH} : evL 115 20 [l0, l1, I l2] [] h = evL 115 23 [l0, l1, I (ad l2 1)] [] h := ev_go c115_20 rfl
theorem c115_23 : cd 115 23 = some (23, .goto (-19), 3, 0, 0, 0) := rfl
theorem s115_23 {l0 l1 l2 : AV} {h : AH} : evL 115 23 [l0, l1, l2] [] h = evL 115 4 [l0, l1, l2] [] h := ev_go c115_23 rfl
theorem c115_26 : cd 115 26 = some (26, .iload_n 1, 1, 0, 0, 0) := rfl
theorem s115_26 {l0 l2 : AV} {l1 : Int} {h : AH} : evL 115 26 [l0, I l1, l2] [] h = evL 115 27 [l0, I l1, l2] [I l1] h := ev_go c115_26 rfl
theorem c115_27 : cd 115 27 = some (27, .ireturn, 1, 0, 0, 0) := rfl
theorem s115_27 {l0 l1 l2 : AV} {s0 : Int} {h : AH} : evL 115 27 [l0, l1, l2] [I s0] h = some (some (I s0), h) := e_ret c115_27 rfl
/-! 116: TankDiversModel.of(II)I -/
theorem en116 {l0 l1 l2 : AV} {h : AH} : evM 116 [l0, l1, l2] h = evL 116 0 [l0, l1, l2] [] h := rfl
theorem c116_0 : cd 116 0 = some (0, .aload_n 0, 1, 0, 0, 0) := rfl
theorem s116_0 {l1 l2 : AV} {l0 : Option Nat} {h : AH} : evL 116 0 [.inr (.inl l0), l1, l2] [] h = evL 116 1 [.inr (.inl l0), l1, l2] [.inr (.inl l0)] h := ev_go c116_0 rfl
theorem c116_1 : cd 116 1 = some (1, .getfield 7, 3, 8, 0, 725) := rfl
theorem s116_1 {l0 l1 l2 : AV} {s0 : Nat} {M : Mem} {P : PMem} (hk : kd s0 = 8) : evL 116 1 [l0, l1, l2] [Rf s0] (Hp M P) = evL 116 4 [l0, l1, l2] [Rf (rfd s0 0)] (Hp M P) := e_getR c116_1 rfl hk
theorem c116_4 : cd 116 4 = some (4, .bipush 25, 2, 0, 0, 0) := rfl
theorem s116_4 {l0 l1 l2 s0 : AV} {h : AH} : evL 116 4 [l0, l1, l2] [s0] h = evL 116 6 [l0, l1, l2] [I 25, s0] h := ev_go c116_4 rfl
theorem c116_6 : cd 116 6 = some (6, .bipush 13, 2, 0, 0, 0) := rfl
theorem s116_6 {l0 l1 l2 s0 s1 : AV} {h : AH} : evL 116 6 [l0, l1, l2] [s0, s1] h = evL 116 8 [l0, l1, l2] [I 13, s0, s1] h := ev_go c116_6 rfl
theorem c116_8 : cd 116 8 = some (8, .iload_n 1, 1, 0, 0, 0) := rfl
theorem s116_8 {l0 l2 s0 s1 s2 : AV} {l1 : Int} {h : AH} : evL 116 8 [l0, I l1, l2] [s0, s1, s2] h = evL 116 9 [l0, I l1, l2] [I l1, s0, s1, s2] h := ev_go c116_8 rfl
theorem c116_9 : cd 116 9 = some (9, .imul, 1, 0, 0, 0) := rfl
theorem s116_9 {l0 l1 l2 s2 s3 : AV} {s0 s1 : Int} {h : AH} : evL 116 9 [l0, l1, l2] [I s0, I s1, s2, s3] h = evL 116 10 [l0, l1, l2] [I (ml s1 s0), s2, s3] h := ev_go c116_9 rfl
theorem c116_10 : cd 116 10 = some (10, .iadd, 1, 0, 0, 0) := rfl
theorem s116_10 {l0 l1 l2 s2 : AV} {s0 s1 : Int} {h : AH} : evL 116 10 [l0, l1, l2] [I s0, I s1, s2] h = evL 116 11 [l0, l1, l2] [I (ad s1 s0), s2] h := ev_go c116_10 rfl
theorem c116_11 : cd 116 11 = some (11, .iload_n 2, 1, 0, 0, 0) := rfl
theorem s116_11 {l0 l1 s0 s1 : AV} {l2 : Int} {h : AH} : evL 116 11 [l0, l1, I l2] [s0, s1] h = evL 116 12 [l0, l1, I l2] [I l2, s0, s1] h := ev_go c116_11 rfl
theorem c116_12 : cd 116 12 = some (12, .iadd, 1, 0, 0, 0) := rfl
theorem s116_12 {l0 l1 l2 s2 : AV} {s0 s1 : Int} {h : AH} : evL 116 12 [l0, l1, l2] [I s0, I s1, s2] h = evL 116 13 [l0, l1, l2] [I (ad s1 s0), s2] h := ev_go c116_12 rfl
theorem c116_13 : cd 116 13 = some (13, .iaload, 1, 0, 0, 0) := rfl
theorem s116_13 {l0 l1 l2 : AV} {s0 : Int} {s1 : Nat} {M : Mem} {P : PMem} (hk : kd s1 = 100) (h0 : 0 ≤ s0) (hn : s0.toNat < ln s1) : evL 116 13 [l0, l1, l2] [I s0, Rf s1] (Hp M P) = evL 116 14 [l0, l1, l2] [I (M s1 s0.toNat)] (Hp M P) := e_iald c116_13 hk h0 hn
theorem c116_14 : cd 116 14 = some (14, .ireturn, 1, 0, 0, 0) := rfl
theorem s116_14 {l0 l1 l2 : AV} {s0 : Int} {h : AH} : evL 116 14 [l0, l1, l2] [I s0] h = some (some (I s0), h) := e_ret c116_14 rfl
/-! 117: TankDiversModel.lays(III)V -/
theorem en117 {l0 l1 l2 l3 : AV} {h : AH} : evM 117 [l0, l1, l2, l3] h = evL 117 0 [l0, l1, l2, l3] [] h := rfl
theorem c117_0 : cd 117 0 = some (0, .aload_n 0, 1, 0, 0, 0) := rfl
theorem s117_0 {l1 l2 l3 : AV} {l0 : Option Nat} {h : AH} : evL 117 0 [.inr (.inl l0), l1, l2, l3] [] h = evL 117 1 [.inr (.inl l0), l1, l2, l3] [.inr (.inl l0)] h := ev_go c117_0 rfl
theorem c117_1 : cd 117 1 = some (1, .getfield 7, 3, 8, 0, 725) := rfl
theorem s117_1 {l0 l1 l2 l3 : AV} {s0 : Nat} {M : Mem} {P : PMem} (hk : kd s0 = 8) : evL 117 1 [l0, l1, l2, l3] [Rf s0] (Hp M P) = evL 117 4 [l0, l1, l2, l3] [Rf (rfd s0 0)] (Hp M P) := e_getR c117_1 rfl hk
theorem c117_4 : cd 117 4 = some (4, .bipush 25, 2, 0, 0, 0) := rfl
theorem s117_4 {l0 l1 l2 l3 s0 : AV} {h : AH} : evL 117 4 [l0, l1, l2, l3] [s0] h = evL 117 6 [l0, l1, l2, l3] [I 25, s0] h := ev_go c117_4 rfl
theorem c117_6 : cd 117 6 = some (6, .bipush 13, 2, 0, 0, 0) := rfl
theorem s117_6 {l0 l1 l2 l3 s0 s1 : AV} {h : AH} : evL 117 6 [l0, l1, l2, l3] [s0, s1] h = evL 117 8 [l0, l1, l2, l3] [I 13, s0, s1] h := ev_go c117_6 rfl
theorem c117_8 : cd 117 8 = some (8, .iload_n 1, 1, 0, 0, 0) := rfl
theorem s117_8 {l0 l2 l3 s0 s1 s2 : AV} {l1 : Int} {h : AH} : evL 117 8 [l0, I l1, l2, l3] [s0, s1, s2] h = evL 117 9 [l0, I l1, l2, l3] [I l1, s0, s1, s2] h := ev_go c117_8 rfl
theorem c117_9 : cd 117 9 = some (9, .imul, 1, 0, 0, 0) := rfl
theorem s117_9 {l0 l1 l2 l3 s2 s3 : AV} {s0 s1 : Int} {h : AH} : evL 117 9 [l0, l1, l2, l3] [I s0, I s1, s2, s3] h = evL 117 10 [l0, l1, l2, l3] [I (ml s1 s0), s2, s3] h := ev_go c117_9 rfl
theorem c117_10 : cd 117 10 = some (10, .iadd, 1, 0, 0, 0) := rfl
theorem s117_10 {l0 l1 l2 l3 s2 : AV} {s0 s1 : Int} {h : AH} : evL 117 10 [l0, l1, l2, l3] [I s0, I s1, s2] h = evL 117 11 [l0, l1, l2, l3] [I (ad s1 s0), s2] h := ev_go c117_10 rfl
theorem c117_11 : cd 117 11 = some (11, .iload_n 2, 1, 0, 0, 0) := rfl
theorem s117_11 {l0 l1 l3 s0 s1 : AV} {l2 : Int} {h : AH} : evL 117 11 [l0, l1, I l2, l3] [s0, s1] h = evL 117 12 [l0, l1, I l2, l3] [I l2, s0, s1] h := ev_go c117_11 rfl
theorem c117_12 : cd 117 12 = some (12, .iadd, 1, 0, 0, 0) := rfl
theorem s117_12 {l0 l1 l2 l3 s2 : AV} {s0 s1 : Int} {h : AH} : evL 117 12 [l0, l1, l2, l3] [I s0, I s1, s2] h = evL 117 13 [l0, l1, l2, l3] [I (ad s1 s0), s2] h := ev_go c117_12 rfl
theorem c117_13 : cd 117 13 = some (13, .iload_n 3, 1, 0, 0, 0) := rfl
theorem s117_13 {l0 l1 l2 s0 s1 : AV} {l3 : Int} {h : AH} : evL 117 13 [l0, l1, l2, I l3] [s0, s1] h = evL 117 14 [l0, l1, l2, I l3] [I l3, s0, s1] h := ev_go c117_13 rfl
theorem c117_14 : cd 117 14 = some (14, .iastore, 1, 0, 0, 0) := rfl
theorem s117_14 {l0 l1 l2 l3 : AV} {s0 s1 : Int} {s2 : Nat} {M : Mem} {P : PMem} (hk : kd s2 = 100) (h0 : 0 ≤ s1) (hn : s1.toNat < ln s2) : evL 117 14 [l0, l1, l2, l3] [I s0, I s1, Rf s2] (Hp M P) = evL 117 15 [l0, l1, l2, l3] [] (Hp (wr M s2 s1.toNat s0) P) := e_iast c117_14 hk h0 hn
theorem c117_15 : cd 117 15 = some (15, .return_, 1, 0, 0, 0) := rfl
theorem s117_15 {l0 l1 l2 l3 : AV} {h : AH} : evL 117 15 [l0, l1, l2, l3] [] h = some (none, h) := e_ret c117_15 rfl
/-! 118: TankDiversModel.isDiver(I)Z -/
theorem en118 {l0 l1 : AV} {h : AH} : evM 118 [l0, l1] h = evL 118 0 [l0, l1] [] h := rfl
theorem c118_0 : cd 118 0 = some (0, .iload_n 1, 1, 0, 0, 0) := rfl
theorem s118_0 {l0 : AV} {l1 : Int} {h : AH} : evL 118 0 [l0, I l1] [] h = evL 118 1 [l0, I l1] [I l1] h := ev_go c118_0 rfl
theorem c118_1 : cd 118 1 = some (1, .iconst 0, 1, 0, 0, 0) := rfl
theorem s118_1 {l0 l1 s0 : AV} {h : AH} : evL 118 1 [l0, l1] [s0] h = evL 118 2 [l0, l1] [I 0, s0] h := ev_go c118_1 rfl
theorem c118_2 : cd 118 2 = some (2, .aload_n 0, 1, 0, 0, 0) := rfl
theorem s118_2 {l1 s0 s1 : AV} {l0 : Option Nat} {h : AH} : evL 118 2 [.inr (.inl l0), l1] [s0, s1] h = evL 118 3 [.inr (.inl l0), l1] [.inr (.inl l0), s0, s1] h := ev_go c118_2 rfl
theorem c118_3 : cd 118 3 = some (3, .getfield 7, 3, 8, 0, 725) := rfl
theorem s118_3 {l0 l1 s1 s2 : AV} {s0 : Nat} {M : Mem} {P : PMem} (hk : kd s0 = 8) : evL 118 3 [l0, l1] [Rf s0, s1, s2] (Hp M P) = evL 118 6 [l0, l1] [Rf (rfd s0 0), s1, s2] (Hp M P) := e_getR c118_3 rfl hk
theorem c118_6 : cd 118 6 = some (6, .iconst 0, 1, 0, 0, 0) := rfl
theorem s118_6 {l0 l1 s0 s1 s2 : AV} {h : AH} : evL 118 6 [l0, l1] [s0, s1, s2] h = evL 118 7 [l0, l1] [I 0, s0, s1, s2] h := ev_go c118_6 rfl
theorem c118_7 : cd 118 7 = some (7, .iaload, 1, 0, 0, 0) := rfl
theorem s118_7 {l0 l1 s2 s3 : AV} {s0 : Int} {s1 : Nat} {M : Mem} {P : PMem} (hk : kd s1 = 100) (h0 : 0 ≤ s0) (hn : s0.toNat < ln s1) : evL 118 7 [l0, l1] [I s0, Rf s1, s2, s3] (Hp M P) = evL 118 8 [l0, l1] [I (M s1 s0.toNat), s2, s3] (Hp M P) := e_iald c118_7 hk h0 hn
theorem c118_8 : cd 118 8 = some (8, .iconst 1, 1, 0, 0, 0) := rfl
theorem s118_8 {l0 l1 s0 s1 s2 : AV} {h : AH} : evL 118 8 [l0, l1] [s0, s1, s2] h = evL 118 9 [l0, l1] [I 1, s0, s1, s2] h := ev_go c118_8 rfl
theorem c118_9 : cd 118 9 = some (9, .isub, 1, 0, 0, 0) := rfl
theorem s118_9 {l0 l1 s2 s3 : AV} {s0 s1 : Int} {h : AH} : evL 118 9 [l0, l1] [I s0, I s1, s2, s3] h = evL 118 10 [l0, l1] [I (sb s1 s0), s2, s3] h := ev_go c118_9 rfl
theorem c118_10 : cd 118 10 = some (10, .invokestatic 50, 3, 110, 0, 784) := rfl
theorem s118_10 {l0 l1 : AV} {s0 s1 s2 : Int} {M : Mem} {P : PMem} : evL 118 10 [l0, l1] [I s0, I s1, I s2] (Hp M P) = cont (evM 110 [I s2, I s1, I s0] (Hp M P)) (fun r h => evL 118 13 [l0, l1] (rl r []) h) := e_callS (av := [I s2, I s1, I s0]) (rest := []) c118_10 rfl rfl rfl rfl rfl rfl
theorem c118_13 : cd 118 13 = some (13, .ireturn, 1, 0, 0, 0) := rfl
theorem s118_13 {l0 l1 : AV} {s0 : Int} {h : AH} (hz : s0 = 0 ∨ s0 = 1) : evL 118 13 [l0, l1] [I s0] h = some (some (I s0), h) := e_ret c118_13 (if_pos hz)
/-! 119: TankDiversModel.at(I)I -/
theorem en119 {l0 l1 : AV} {h : AH} : evM 119 [l0, l1] h = evL 119 0 [l0, l1] [] h := rfl
theorem c119_0 : cd 119 0 = some (0, .iload_n 1, 1, 0, 0, 0) := rfl
theorem s119_0 {l0 : AV} {l1 : Int} {h : AH} : evL 119 0 [l0, I l1] [] h = evL 119 1 [l0, I l1] [I l1] h := ev_go c119_0 rfl
theorem c119_1 : cd 119 1 = some (1, .ifCond .ne 7, 3, 0, 0, 0) := rfl
theorem s119_1 {l0 l1 : AV} {s0 : Int} {h : AH} : evL 119 1 [l0, l1] [I s0] h = if s0 = 0 then evL 119 4 [l0, l1] [] h else evL 119 8 [l0, l1] [] h := e_if_ne c119_1 rfl rfl
theorem c119_4 : cd 119 4 = some (4, .iconst 0, 1, 0, 0, 0) := rfl
theorem s119_4 {l0 l1 : AV} {h : AH} : evL 119 4 [l0, l1] [] h = evL 119 5 [l0, l1] [I 0] h := ev_go c119_4 rfl
theorem c119_5 : cd 119 5 = some (5, .goto 14, 3, 0, 0, 0) := rfl
theorem s119_5 {l0 l1 s0 : AV} {h : AH} : evL 119 5 [l0, l1] [s0] h = evL 119 19 [l0, l1] [s0] h := ev_go c119_5 rfl
theorem c119_8 : cd 119 8 = some (8, .aload_n 0, 1, 0, 0, 0) := rfl
theorem s119_8 {l1 : AV} {l0 : Option Nat} {h : AH} : evL 119 8 [.inr (.inl l0), l1] [] h = evL 119 9 [.inr (.inl l0), l1] [.inr (.inl l0)] h := ev_go c119_8 rfl
theorem c119_9 : cd 119 9 = some (9, .getfield 7, 3, 8, 0, 725) := rfl
theorem s119_9 {l0 l1 : AV} {s0 : Nat} {M : Mem} {P : PMem} (hk : kd s0 = 8) : evL 119 9 [l0, l1] [Rf s0] (Hp M P) = evL 119 12 [l0, l1] [Rf (rfd s0 0)] (Hp M P) := e_getR c119_9 rfl hk
theorem c119_12 : cd 119 12 = some (12, .bipush 9, 2, 0, 0, 0) := rfl
theorem s119_12 {l0 l1 s0 : AV} {h : AH} : evL 119 12 [l0, l1] [s0] h = evL 119 14 [l0, l1] [I 9, s0] h := ev_go c119_12 rfl
theorem c119_14 : cd 119 14 = some (14, .iload_n 1, 1, 0, 0, 0) := rfl
theorem s119_14 {l0 s0 s1 : AV} {l1 : Int} {h : AH} : evL 119 14 [l0, I l1] [s0, s1] h = evL 119 15 [l0, I l1] [I l1, s0, s1] h := ev_go c119_14 rfl
theorem c119_15 : cd 119 15 = some (15, .iadd, 1, 0, 0, 0) := rfl
theorem s119_15 {l0 l1 s2 : AV} {s0 s1 : Int} {h : AH} : evL 119 15 [l0, l1] [I s0, I s1, s2] h = evL 119 16 [l0, l1] [I (ad s1 s0), s2] h := ev_go c119_15 rfl
theorem c119_16 : cd 119 16 = some (16, .iconst 1, 1, 0, 0, 0) := rfl
theorem s119_16 {l0 l1 s0 s1 : AV} {h : AH} : evL 119 16 [l0, l1] [s0, s1] h = evL 119 17 [l0, l1] [I 1, s0, s1] h := ev_go c119_16 rfl
theorem c119_17 : cd 119 17 = some (17, .isub, 1, 0, 0, 0) := rfl
theorem s119_17 {l0 l1 s2 : AV} {s0 s1 : Int} {h : AH} : evL 119 17 [l0, l1] [I s0, I s1, s2] h = evL 119 18 [l0, l1] [I (sb s1 s0), s2] h := ev_go c119_17 rfl
theorem c119_18 : cd 119 18 = some (18, .iaload, 1, 0, 0, 0) := rfl
theorem s119_18 {l0 l1 : AV} {s0 : Int} {s1 : Nat} {M : Mem} {P : PMem} (hk : kd s1 = 100) (h0 : 0 ≤ s0) (hn : s0.toNat < ln s1) : evL 119 18 [l0, l1] [I s0, Rf s1] (Hp M P) = evL 119 19 [l0, l1] [I (M s1 s0.toNat)] (Hp M P) := e_iald c119_18 hk h0 hn
theorem c119_19 : cd 119 19 = some (19, .ireturn, 1, 0, 0, 0) := rfl
theorem s119_19 {l0 l1 : AV} {s0 : Int} {h : AH} : evL 119 19 [l0, l1] [I s0] h = some (some (I s0), h) := e_ret c119_19 rfl
/-! 120: TankDiversModel.diverAt(I)I -/
theorem en120 {l0 l1 : AV} {h : AH} : evM 120 [l0, l1] h = evL 120 0 [l0, l1, Db 0, Db 0] [] h := rfl
theorem c120_0 : cd 120 0 = some (0, .bipush (-4), 2, 0, 0, 0) := rfl
theorem s120_0 {l0 l1 l2 l3 : AV} {h : AH} : evL 120 0 [l0, l1, l2, l3] [] h = evL 120 2 [l0, l1, l2, l3] [I (-4)] h := ev_go c120_0 rfl
theorem c120_2 : cd 120 2 = some (2, .istore_n 2, 1, 0, 0, 0) := rfl
theorem s120_2 {l0 l1 l2 l3 : AV} {s0 : Int} {h : AH} : evL 120 2 [l0, l1, l2, l3] [I s0] h = evL 120 3 [l0, l1, I s0, l3] [] h := ev_go c120_2 rfl
theorem c120_3 : cd 120 3 = some (3, .iconst 0, 1, 0, 0, 0) := rfl
theorem s120_3 {l0 l1 l2 l3 : AV} {h : AH} : evL 120 3 [l0, l1, l2, l3] [] h = evL 120 4 [l0, l1, l2, l3] [I 0] h := ev_go c120_3 rfl
theorem c120_4 : cd 120 4 = some (4, .istore_n 3, 1, 0, 0, 0) := rfl
theorem s120_4 {l0 l1 l2 l3 : AV} {s0 : Int} {h : AH} : evL 120 4 [l0, l1, l2, l3] [I s0] h = evL 120 5 [l0, l1, l2, I s0] [] h := ev_go c120_4 rfl
theorem c120_5 : cd 120 5 = some (5, .iload_n 3, 1, 0, 0, 0) := rfl
theorem s120_5 {l0 l1 l2 : AV} {l3 : Int} {h : AH} : evL 120 5 [l0, l1, l2, I l3] [] h = evL 120 6 [l0, l1, l2, I l3] [I l3] h := ev_go c120_5 rfl
theorem c120_6 : cd 120 6 = some (6, .aload_n 0, 1, 0, 0, 0) := rfl
theorem s120_6 {l1 l2 l3 s0 : AV} {l0 : Option Nat} {h : AH} : evL 120 6 [.inr (.inl l0), l1, l2, l3] [s0] h = evL 120 7 [.inr (.inl l0), l1, l2, l3] [.inr (.inl l0), s0] h := ev_go c120_6 rfl
theorem c120_7 : cd 120 7 = some (7, .getfield 7, 3, 8, 0, 725) := rfl
theorem s120_7 {l0 l1 l2 l3 s1 : AV} {s0 : Nat} {M : Mem} {P : PMem} (hk : kd s0 = 8) : evL 120 7 [l0, l1, l2, l3] [Rf s0, s1] (Hp M P) = evL 120 10 [l0, l1, l2, l3] [Rf (rfd s0 0), s1] (Hp M P) := e_getR c120_7 rfl hk
theorem c120_10 : cd 120 10 = some (10, .iconst 0, 1, 0, 0, 0) := rfl
theorem s120_10 {l0 l1 l2 l3 s0 s1 : AV} {h : AH} : evL 120 10 [l0, l1, l2, l3] [s0, s1] h = evL 120 11 [l0, l1, l2, l3] [I 0, s0, s1] h := ev_go c120_10 rfl
theorem c120_11 : cd 120 11 = some (11, .iaload, 1, 0, 0, 0) := rfl
theorem s120_11 {l0 l1 l2 l3 s2 : AV} {s0 : Int} {s1 : Nat} {M : Mem} {P : PMem} (hk : kd s1 = 100) (h0 : 0 ≤ s0) (hn : s0.toNat < ln s1) : evL 120 11 [l0, l1, l2, l3] [I s0, Rf s1, s2] (Hp M P) = evL 120 12 [l0, l1, l2, l3] [I (M s1 s0.toNat), s2] (Hp M P) := e_iald c120_11 hk h0 hn
theorem c120_12 : cd 120 12 = some (12, .if_icmp .ge 25, 3, 0, 0, 0) := rfl
theorem s120_12 {l0 l1 l2 l3 : AV} {s0 s1 : Int} {h : AH} : evL 120 12 [l0, l1, l2, l3] [I s0, I s1] h = if s0 ≤ s1 then evL 120 37 [l0, l1, l2, l3] [] h else evL 120 15 [l0, l1, l2, l3] [] h := e_icmp_ge c120_12 rfl rfl
theorem c120_15 : cd 120 15 = some (15, .aload_n 0, 1, 0, 0, 0) := rfl
theorem s120_15 {l1 l2 l3 : AV} {l0 : Option Nat} {h : AH} : evL 120 15 [.inr (.inl l0), l1, l2, l3] [] h = evL 120 16 [.inr (.inl l0), l1, l2, l3] [.inr (.inl l0)] h := ev_go c120_15 rfl
theorem c120_16 : cd 120 16 = some (16, .iload_n 3, 1, 0, 0, 0) := rfl
theorem s120_16 {l0 l1 l2 s0 : AV} {l3 : Int} {h : AH} : evL 120 16 [l0, l1, l2, I l3] [s0] h = evL 120 17 [l0, l1, l2, I l3] [I l3, s0] h := ev_go c120_16 rfl
theorem c120_17 : cd 120 17 = some (17, .iconst 0, 1, 0, 0, 0) := rfl
theorem s120_17 {l0 l1 l2 l3 s0 s1 : AV} {h : AH} : evL 120 17 [l0, l1, l2, l3] [s0, s1] h = evL 120 18 [l0, l1, l2, l3] [I 0, s0, s1] h := ev_go c120_17 rfl
theorem c120_18 : cd 120 18 = some (18, .invokevirtual 54, 3, 116, 0, 806) := rfl
theorem s120_18 {l0 l1 l2 l3 : AV} {s0 s1 : Int} {s2 : Nat} {M : Mem} {P : PMem} (hk : kd s2 = 8) : evL 120 18 [l0, l1, l2, l3] [I s0, I s1, Rf s2] (Hp M P) = cont (evM 116 [Rf s2, I s1, I s0] (Hp M P)) (fun r h => evL 120 21 [l0, l1, l2, l3] (rl r []) h) := e_callV (av' := [I s1, I s0]) (rest := []) (c := 8) c120_18 rfl rfl rfl rfl rfl rfl rfl hk rfl
theorem c120_21 : cd 120 21 = some (21, .iload_n 1, 1, 0, 0, 0) := rfl
theorem s120_21 {l0 l2 l3 s0 : AV} {l1 : Int} {h : AH} : evL 120 21 [l0, I l1, l2, l3] [s0] h = evL 120 22 [l0, I l1, l2, l3] [I l1, s0] h := ev_go c120_21 rfl
theorem c120_22 : cd 120 22 = some (22, .if_icmp .ne 7, 3, 0, 0, 0) := rfl
theorem s120_22 {l0 l1 l2 l3 : AV} {s0 s1 : Int} {h : AH} : evL 120 22 [l0, l1, l2, l3] [I s0, I s1] h = if s1 = s0 then evL 120 25 [l0, l1, l2, l3] [] h else evL 120 29 [l0, l1, l2, l3] [] h := e_icmp_ne c120_22 rfl rfl
theorem c120_25 : cd 120 25 = some (25, .iload_n 3, 1, 0, 0, 0) := rfl
theorem s120_25 {l0 l1 l2 : AV} {l3 : Int} {h : AH} : evL 120 25 [l0, l1, l2, I l3] [] h = evL 120 26 [l0, l1, l2, I l3] [I l3] h := ev_go c120_25 rfl
theorem c120_26 : cd 120 26 = some (26, .goto 4, 3, 0, 0, 0) := rfl
theorem s120_26 {l0 l1 l2 l3 s0 : AV} {h : AH} : evL 120 26 [l0, l1, l2, l3] [s0] h = evL 120 30 [l0, l1, l2, l3] [s0] h := ev_go c120_26 rfl
theorem c120_29 : cd 120 29 = some (29, .iload_n 2, 1, 0, 0, 0) := rfl
theorem s120_29 {l0 l1 l3 : AV} {l2 : Int} {h : AH} : evL 120 29 [l0, l1, I l2, l3] [] h = evL 120 30 [l0, l1, I l2, l3] [I l2] h := ev_go c120_29 rfl
theorem c120_30 : cd 120 30 = some (30, .istore_n 2, 1, 0, 0, 0) := rfl
theorem s120_30 {l0 l1 l2 l3 : AV} {s0 : Int} {h : AH} : evL 120 30 [l0, l1, l2, l3] [I s0] h = evL 120 31 [l0, l1, I s0, l3] [] h := ev_go c120_30 rfl
theorem c120_31 : cd 120 31 = some (31, .iinc 3 1, 3, 0, 0, 0) := rfl
theorem s120_31 {l0 l1 l2 : AV} {l3 : Int} {h : AH} : evL 120 31 [l0, l1, l2, I l3] [] h = evL 120 34 [l0, l1, l2, I (ad l3 1)] [] h := ev_go c120_31 rfl
theorem c120_34 : cd 120 34 = some (34, .goto (-29), 3, 0, 0, 0) := rfl
theorem s120_34 {l0 l1 l2 l3 : AV} {h : AH} : evL 120 34 [l0, l1, l2, l3] [] h = evL 120 5 [l0, l1, l2, l3] [] h := ev_go c120_34 rfl
theorem c120_37 : cd 120 37 = some (37, .iload_n 2, 1, 0, 0, 0) := rfl
theorem s120_37 {l0 l1 l3 : AV} {l2 : Int} {h : AH} : evL 120 37 [l0, l1, I l2, l3] [] h = evL 120 38 [l0, l1, I l2, l3] [I l2] h := ev_go c120_37 rfl
theorem c120_38 : cd 120 38 = some (38, .ireturn, 1, 0, 0, 0) := rfl
theorem s120_38 {l0 l1 l2 l3 : AV} {s0 : Int} {h : AH} : evL 120 38 [l0, l1, l2, l3] [I s0] h = some (some (I s0), h) := e_ret c120_38 rfl
/-! 121: TankDiversModel.isFree(II)Z -/
theorem en121 {l0 l1 l2 : AV} {h : AH} : evM 121 [l0, l1, l2] h = evL 121 0 [l0, l1, l2, Db 0] [] h := rfl
theorem c121_0 : cd 121 0 = some (0, .aload_n 0, 1, 0, 0, 0) := rfl
theorem s121_0 {l1 l2 l3 : AV} {l0 : Option Nat} {h : AH} : evL 121 0 [.inr (.inl l0), l1, l2, l3] [] h = evL 121 1 [.inr (.inl l0), l1, l2, l3] [.inr (.inl l0)] h := ev_go c121_0 rfl
theorem c121_1 : cd 121 1 = some (1, .iload_n 1, 1, 0, 0, 0) := rfl
theorem s121_1 {l0 l2 l3 s0 : AV} {l1 : Int} {h : AH} : evL 121 1 [l0, I l1, l2, l3] [s0] h = evL 121 2 [l0, I l1, l2, l3] [I l1, s0] h := ev_go c121_1 rfl
theorem c121_2 : cd 121 2 = some (2, .invokevirtual 57, 3, 120, 0, 826) := rfl
theorem s121_2 {l0 l1 l2 l3 : AV} {s0 : Int} {s1 : Nat} {M : Mem} {P : PMem} (hk : kd s1 = 8) : evL 121 2 [l0, l1, l2, l3] [I s0, Rf s1] (Hp M P) = cont (evM 120 [Rf s1, I s0] (Hp M P)) (fun r h => evL 121 5 [l0, l1, l2, l3] (rl r []) h) := e_callV (av' := [I s0]) (rest := []) (c := 8) c121_2 rfl rfl rfl rfl rfl rfl rfl hk rfl
theorem c121_5 : cd 121 5 = some (5, .istore_n 3, 1, 0, 0, 0) := rfl
theorem s121_5 {l0 l1 l2 l3 : AV} {s0 : Int} {h : AH} : evL 121 5 [l0, l1, l2, l3] [I s0] h = evL 121 6 [l0, l1, l2, I s0] [] h := ev_go c121_5 rfl
theorem c121_6 : cd 121 6 = some (6, .iload_n 3, 1, 0, 0, 0) := rfl
theorem s121_6 {l0 l1 l2 : AV} {l3 : Int} {h : AH} : evL 121 6 [l0, l1, l2, I l3] [] h = evL 121 7 [l0, l1, l2, I l3] [I l3] h := ev_go c121_6 rfl
theorem c121_7 : cd 121 7 = some (7, .bipush (-4), 2, 0, 0, 0) := rfl
theorem s121_7 {l0 l1 l2 l3 s0 : AV} {h : AH} : evL 121 7 [l0, l1, l2, l3] [s0] h = evL 121 9 [l0, l1, l2, l3] [I (-4), s0] h := ev_go c121_7 rfl
theorem c121_9 : cd 121 9 = some (9, .if_icmp .eq 8, 3, 0, 0, 0) := rfl
theorem s121_9 {l0 l1 l2 l3 : AV} {s0 s1 : Int} {h : AH} : evL 121 9 [l0, l1, l2, l3] [I s0, I s1] h = if s1 = s0 then evL 121 17 [l0, l1, l2, l3] [] h else evL 121 12 [l0, l1, l2, l3] [] h := e_icmp_eq c121_9 rfl rfl
theorem c121_12 : cd 121 12 = some (12, .iload_n 3, 1, 0, 0, 0) := rfl
theorem s121_12 {l0 l1 l2 : AV} {l3 : Int} {h : AH} : evL 121 12 [l0, l1, l2, I l3] [] h = evL 121 13 [l0, l1, l2, I l3] [I l3] h := ev_go c121_12 rfl
theorem c121_13 : cd 121 13 = some (13, .iload_n 2, 1, 0, 0, 0) := rfl
theorem s121_13 {l0 l1 l3 s0 : AV} {l2 : Int} {h : AH} : evL 121 13 [l0, l1, I l2, l3] [s0] h = evL 121 14 [l0, l1, I l2, l3] [I l2, s0] h := ev_go c121_13 rfl
theorem c121_14 : cd 121 14 = some (14, .if_icmp .ne 7, 3, 0, 0, 0) := rfl
theorem s121_14 {l0 l1 l2 l3 : AV} {s0 s1 : Int} {h : AH} : evL 121 14 [l0, l1, l2, l3] [I s0, I s1] h = if s1 = s0 then evL 121 17 [l0, l1, l2, l3] [] h else evL 121 21 [l0, l1, l2, l3] [] h := e_icmp_ne c121_14 rfl rfl
theorem c121_17 : cd 121 17 = some (17, .iconst 1, 1, 0, 0, 0) := rfl
theorem s121_17 {l0 l1 l2 l3 : AV} {h : AH} : evL 121 17 [l0, l1, l2, l3] [] h = evL 121 18 [l0, l1, l2, l3] [I 1] h := ev_go c121_17 rfl
theorem c121_18 : cd 121 18 = some (18, .goto 4, 3, 0, 0, 0) := rfl
theorem s121_18 {l0 l1 l2 l3 s0 : AV} {h : AH} : evL 121 18 [l0, l1, l2, l3] [s0] h = evL 121 22 [l0, l1, l2, l3] [s0] h := ev_go c121_18 rfl
theorem c121_21 : cd 121 21 = some (21, .iconst 0, 1, 0, 0, 0) := rfl
theorem s121_21 {l0 l1 l2 l3 : AV} {h : AH} : evL 121 21 [l0, l1, l2, l3] [] h = evL 121 22 [l0, l1, l2, l3] [I 0] h := ev_go c121_21 rfl
theorem c121_22 : cd 121 22 = some (22, .ireturn, 1, 0, 0, 0) := rfl
theorem s121_22 {l0 l1 l2 l3 : AV} {s0 : Int} {h : AH} (hz : s0 = 0 ∨ s0 = 1) : evL 121 22 [l0, l1, l2, l3] [I s0] h = some (some (I s0), h) := e_ret c121_22 (if_pos hz)
/-! 122: TankDiversModel.valuesOf(I)I -/
theorem en122 {l0 l1 : AV} {h : AH} : evM 122 [l0, l1] h = evL 122 0 [l0, l1, Db 0, Db 0] [] h := rfl
theorem c122_0 : cd 122 0 = some (0, .iconst 0, 1, 0, 0, 0) := rfl
theorem s122_0 {l0 l1 l2 l3 : AV} {h : AH} : evL 122 0 [l0, l1, l2, l3] [] h = evL 122 1 [l0, l1, l2, l3] [I 0] h := ev_go c122_0 rfl
theorem c122_1 : cd 122 1 = some (1, .istore_n 2, 1, 0, 0, 0) := rfl
theorem s122_1 {l0 l1 l2 l3 : AV} {s0 : Int} {h : AH} : evL 122 1 [l0, l1, l2, l3] [I s0] h = evL 122 2 [l0, l1, I s0, l3] [] h := ev_go c122_1 rfl
theorem c122_2 : cd 122 2 = some (2, .iconst 0, 1, 0, 0, 0) := rfl
theorem s122_2 {l0 l1 l2 l3 : AV} {h : AH} : evL 122 2 [l0, l1, l2, l3] [] h = evL 122 3 [l0, l1, l2, l3] [I 0] h := ev_go c122_2 rfl
theorem c122_3 : cd 122 3 = some (3, .istore_n 3, 1, 0, 0, 0) := rfl
theorem s122_3 {l0 l1 l2 l3 : AV} {s0 : Int} {h : AH} : evL 122 3 [l0, l1, l2, l3] [I s0] h = evL 122 4 [l0, l1, l2, I s0] [] h := ev_go c122_3 rfl
theorem c122_4 : cd 122 4 = some (4, .iload_n 3, 1, 0, 0, 0) := rfl
theorem s122_4 {l0 l1 l2 : AV} {l3 : Int} {h : AH} : evL 122 4 [l0, l1, l2, I l3] [] h = evL 122 5 [l0, l1, l2, I l3] [I l3] h := ev_go c122_4 rfl
theorem c122_5 : cd 122 5 = some (5, .aload_n 0, 1, 0, 0, 0) := rfl
theorem s122_5 {l1 l2 l3 s0 : AV} {l0 : Option Nat} {h : AH} : evL 122 5 [.inr (.inl l0), l1, l2, l3] [s0] h = evL 122 6 [.inr (.inl l0), l1, l2, l3] [.inr (.inl l0), s0] h := ev_go c122_5 rfl
theorem c122_6 : cd 122 6 = some (6, .iload_n 1, 1, 0, 0, 0) := rfl
theorem s122_6 {l0 l2 l3 s0 s1 : AV} {l1 : Int} {h : AH} : evL 122 6 [l0, I l1, l2, l3] [s0, s1] h = evL 122 7 [l0, I l1, l2, l3] [I l1, s0, s1] h := ev_go c122_6 rfl
theorem c122_7 : cd 122 7 = some (7, .iconst 3, 1, 0, 0, 0) := rfl
theorem s122_7 {l0 l1 l2 l3 s0 s1 s2 : AV} {h : AH} : evL 122 7 [l0, l1, l2, l3] [s0, s1, s2] h = evL 122 8 [l0, l1, l2, l3] [I 3, s0, s1, s2] h := ev_go c122_7 rfl
theorem c122_8 : cd 122 8 = some (8, .invokevirtual 54, 3, 116, 0, 806) := rfl
theorem s122_8 {l0 l1 l2 l3 s3 : AV} {s0 s1 : Int} {s2 : Nat} {M : Mem} {P : PMem} (hk : kd s2 = 8) : evL 122 8 [l0, l1, l2, l3] [I s0, I s1, Rf s2, s3] (Hp M P) = cont (evM 116 [Rf s2, I s1, I s0] (Hp M P)) (fun r h => evL 122 11 [l0, l1, l2, l3] (rl r [s3]) h) := e_callV (av' := [I s1, I s0]) (rest := [s3]) (c := 8) c122_8 rfl rfl rfl rfl rfl rfl rfl hk rfl
theorem c122_11 : cd 122 11 = some (11, .if_icmp .ge 23, 3, 0, 0, 0) := rfl
theorem s122_11 {l0 l1 l2 l3 : AV} {s0 s1 : Int} {h : AH} : evL 122 11 [l0, l1, l2, l3] [I s0, I s1] h = if s0 ≤ s1 then evL 122 34 [l0, l1, l2, l3] [] h else evL 122 14 [l0, l1, l2, l3] [] h := e_icmp_ge c122_11 rfl rfl
theorem c122_14 : cd 122 14 = some (14, .iload_n 2, 1, 0, 0, 0) := rfl
theorem s122_14 {l0 l1 l3 : AV} {l2 : Int} {h : AH} : evL 122 14 [l0, l1, I l2, l3] [] h = evL 122 15 [l0, l1, I l2, l3] [I l2] h := ev_go c122_14 rfl
theorem c122_15 : cd 122 15 = some (15, .aload_n 0, 1, 0, 0, 0) := rfl
theorem s122_15 {l1 l2 l3 s0 : AV} {l0 : Option Nat} {h : AH} : evL 122 15 [.inr (.inl l0), l1, l2, l3] [s0] h = evL 122 16 [.inr (.inl l0), l1, l2, l3] [.inr (.inl l0), s0] h := ev_go c122_15 rfl
theorem c122_16 : cd 122 16 = some (16, .iload_n 1, 1, 0, 0, 0) := rfl
theorem s122_16 {l0 l2 l3 s0 s1 : AV} {l1 : Int} {h : AH} : evL 122 16 [l0, I l1, l2, l3] [s0, s1] h = evL 122 17 [l0, I l1, l2, l3] [I l1, s0, s1] h := ev_go c122_16 rfl
theorem c122_17 : cd 122 17 = some (17, .iconst 4, 1, 0, 0, 0) := rfl
theorem s122_17 {l0 l1 l2 l3 s0 s1 s2 : AV} {h : AH} : evL 122 17 [l0, l1, l2, l3] [s0, s1, s2] h = evL 122 18 [l0, l1, l2, l3] [I 4, s0, s1, s2] h := ev_go c122_17 rfl
theorem c122_18 : cd 122 18 = some (18, .iload_n 3, 1, 0, 0, 0) := rfl
theorem s122_18 {l0 l1 l2 s0 s1 s2 s3 : AV} {l3 : Int} {h : AH} : evL 122 18 [l0, l1, l2, I l3] [s0, s1, s2, s3] h = evL 122 19 [l0, l1, l2, I l3] [I l3, s0, s1, s2, s3] h := ev_go c122_18 rfl
theorem c122_19 : cd 122 19 = some (19, .iadd, 1, 0, 0, 0) := rfl
theorem s122_19 {l0 l1 l2 l3 s2 s3 s4 : AV} {s0 s1 : Int} {h : AH} : evL 122 19 [l0, l1, l2, l3] [I s0, I s1, s2, s3, s4] h = evL 122 20 [l0, l1, l2, l3] [I (ad s1 s0), s2, s3, s4] h := ev_go c122_19 rfl
theorem c122_20 : cd 122 20 = some (20, .invokevirtual 54, 3, 116, 0, 806) := rfl
theorem s122_20 {l0 l1 l2 l3 s3 : AV} {s0 s1 : Int} {s2 : Nat} {M : Mem} {P : PMem} (hk : kd s2 = 8) : evL 122 20 [l0, l1, l2, l3] [I s0, I s1, Rf s2, s3] (Hp M P) = cont (evM 116 [Rf s2, I s1, I s0] (Hp M P)) (fun r h => evL 122 23 [l0, l1, l2, l3] (rl r [s3]) h) := e_callV (av' := [I s1, I s0]) (rest := [s3]) (c := 8) c122_20 rfl rfl rfl rfl rfl rfl rfl hk rfl
theorem c122_23 : cd 122 23 = some (23, .invokestatic 60, 3, 115, 0, 870) := rfl
theorem s122_23 {l0 l1 l2 l3 s1 : AV} {s0 : Int} {M : Mem} {P : PMem} : evL 122 23 [l0, l1, l2, l3] [I s0, s1] (Hp M P) = cont (evM 115 [I s0] (Hp M P)) (fun r h => evL 122 26 [l0, l1, l2, l3] (rl r [s1]) h) := e_callS (av := [I s0]) (rest := [s1]) c122_23 rfl rfl rfl rfl rfl rfl
theorem c122_26 : cd 122 26 = some (26, .iadd, 1, 0, 0, 0) := rfl
theorem s122_26 {l0 l1 l2 l3 : AV} {s0 s1 : Int} {h : AH} : evL 122 26 [l0, l1, l2, l3] [I s0, I s1] h = evL 122 27 [l0, l1, l2, l3] [I (ad s1 s0)] h := ev_go c122_26 rfl
theorem c122_27 : cd 122 27 = some (27, .istore_n 2, 1, 0, 0, 0) := rfl
theorem s122_27 {l0 l1 l2 l3 : AV} {s0 : Int} {h : AH} : evL 122 27 [l0, l1, l2, l3] [I s0] h = evL 122 28 [l0, l1, I s0, l3] [] h := ev_go c122_27 rfl
theorem c122_28 : cd 122 28 = some (28, .iinc 3 1, 3, 0, 0, 0) := rfl
theorem s122_28 {l0 l1 l2 : AV} {l3 : Int} {h : AH} : evL 122 28 [l0, l1, l2, I l3] [] h = evL 122 31 [l0, l1, l2, I (ad l3 1)] [] h := ev_go c122_28 rfl
theorem c122_31 : cd 122 31 = some (31, .goto (-27), 3, 0, 0, 0) := rfl
theorem s122_31 {l0 l1 l2 l3 : AV} {h : AH} : evL 122 31 [l0, l1, l2, l3] [] h = evL 122 4 [l0, l1, l2, l3] [] h := ev_go c122_31 rfl
theorem c122_34 : cd 122 34 = some (34, .iload_n 2, 1, 0, 0, 0) := rfl
theorem s122_34 {l0 l1 l3 : AV} {l2 : Int} {h : AH} : evL 122 34 [l0, l1, I l2, l3] [] h = evL 122 35 [l0, l1, I l2, l3] [I l2] h := ev_go c122_34 rfl
theorem c122_35 : cd 122 35 = some (35, .ireturn, 1, 0, 0, 0) := rfl
theorem s122_35 {l0 l1 l2 l3 : AV} {s0 : Int} {h : AH} : evL 122 35 [l0, l1, l2, l3] [I s0] h = some (some (I s0), h) := e_ret c122_35 rfl
/-! 123: TankDiversModel.treasuresOf(I)I -/
theorem en123 {l0 l1 : AV} {h : AH} : evM 123 [l0, l1] h = evL 123 0 [l0, l1, Db 0, Db 0] [] h := rfl
theorem c123_0 : cd 123 0 = some (0, .iconst 0, 1, 0, 0, 0) := rfl
theorem s123_0 {l0 l1 l2 l3 : AV} {h : AH} : evL 123 0 [l0, l1, l2, l3] [] h = evL 123 1 [l0, l1, l2, l3] [I 0] h := ev_go c123_0 rfl
theorem c123_1 : cd 123 1 = some (1, .istore_n 2, 1, 0, 0, 0) := rfl
theorem s123_1 {l0 l1 l2 l3 : AV} {s0 : Int} {h : AH} : evL 123 1 [l0, l1, l2, l3] [I s0] h = evL 123 2 [l0, l1, I s0, l3] [] h := ev_go c123_1 rfl
theorem c123_2 : cd 123 2 = some (2, .iconst 0, 1, 0, 0, 0) := rfl
theorem s123_2 {l0 l1 l2 l3 : AV} {h : AH} : evL 123 2 [l0, l1, l2, l3] [] h = evL 123 3 [l0, l1, l2, l3] [I 0] h := ev_go c123_2 rfl
theorem c123_3 : cd 123 3 = some (3, .istore_n 3, 1, 0, 0, 0) := rfl
theorem s123_3 {l0 l1 l2 l3 : AV} {s0 : Int} {h : AH} : evL 123 3 [l0, l1, l2, l3] [I s0] h = evL 123 4 [l0, l1, l2, I s0] [] h := ev_go c123_3 rfl
theorem c123_4 : cd 123 4 = some (4, .iload_n 3, 1, 0, 0, 0) := rfl
theorem s123_4 {l0 l1 l2 : AV} {l3 : Int} {h : AH} : evL 123 4 [l0, l1, l2, I l3] [] h = evL 123 5 [l0, l1, l2, I l3] [I l3] h := ev_go c123_4 rfl
theorem c123_5 : cd 123 5 = some (5, .aload_n 0, 1, 0, 0, 0) := rfl
theorem s123_5 {l1 l2 l3 s0 : AV} {l0 : Option Nat} {h : AH} : evL 123 5 [.inr (.inl l0), l1, l2, l3] [s0] h = evL 123 6 [.inr (.inl l0), l1, l2, l3] [.inr (.inl l0), s0] h := ev_go c123_5 rfl
theorem c123_6 : cd 123 6 = some (6, .iload_n 1, 1, 0, 0, 0) := rfl
theorem s123_6 {l0 l2 l3 s0 s1 : AV} {l1 : Int} {h : AH} : evL 123 6 [l0, I l1, l2, l3] [s0, s1] h = evL 123 7 [l0, I l1, l2, l3] [I l1, s0, s1] h := ev_go c123_6 rfl
theorem c123_7 : cd 123 7 = some (7, .iconst 3, 1, 0, 0, 0) := rfl
theorem s123_7 {l0 l1 l2 l3 s0 s1 s2 : AV} {h : AH} : evL 123 7 [l0, l1, l2, l3] [s0, s1, s2] h = evL 123 8 [l0, l1, l2, l3] [I 3, s0, s1, s2] h := ev_go c123_7 rfl
theorem c123_8 : cd 123 8 = some (8, .invokevirtual 54, 3, 116, 0, 806) := rfl
theorem s123_8 {l0 l1 l2 l3 s3 : AV} {s0 s1 : Int} {s2 : Nat} {M : Mem} {P : PMem} (hk : kd s2 = 8) : evL 123 8 [l0, l1, l2, l3] [I s0, I s1, Rf s2, s3] (Hp M P) = cont (evM 116 [Rf s2, I s1, I s0] (Hp M P)) (fun r h => evL 123 11 [l0, l1, l2, l3] (rl r [s3]) h) := e_callV (av' := [I s1, I s0]) (rest := [s3]) (c := 8) c123_8 rfl rfl rfl rfl rfl rfl rfl hk rfl
theorem c123_11 : cd 123 11 = some (11, .if_icmp .ge 23, 3, 0, 0, 0) := rfl
theorem s123_11 {l0 l1 l2 l3 : AV} {s0 s1 : Int} {h : AH} : evL 123 11 [l0, l1, l2, l3] [I s0, I s1] h = if s0 ≤ s1 then evL 123 34 [l0, l1, l2, l3] [] h else evL 123 14 [l0, l1, l2, l3] [] h := e_icmp_ge c123_11 rfl rfl
theorem c123_14 : cd 123 14 = some (14, .iload_n 2, 1, 0, 0, 0) := rfl
theorem s123_14 {l0 l1 l3 : AV} {l2 : Int} {h : AH} : evL 123 14 [l0, l1, I l2, l3] [] h = evL 123 15 [l0, l1, I l2, l3] [I l2] h := ev_go c123_14 rfl
theorem c123_15 : cd 123 15 = some (15, .aload_n 0, 1, 0, 0, 0) := rfl
theorem s123_15 {l1 l2 l3 s0 : AV} {l0 : Option Nat} {h : AH} : evL 123 15 [.inr (.inl l0), l1, l2, l3] [s0] h = evL 123 16 [.inr (.inl l0), l1, l2, l3] [.inr (.inl l0), s0] h := ev_go c123_15 rfl
theorem c123_16 : cd 123 16 = some (16, .iload_n 1, 1, 0, 0, 0) := rfl
theorem s123_16 {l0 l2 l3 s0 s1 : AV} {l1 : Int} {h : AH} : evL 123 16 [l0, I l1, l2, l3] [s0, s1] h = evL 123 17 [l0, I l1, l2, l3] [I l1, s0, s1] h := ev_go c123_16 rfl
theorem c123_17 : cd 123 17 = some (17, .iconst 4, 1, 0, 0, 0) := rfl
theorem s123_17 {l0 l1 l2 l3 s0 s1 s2 : AV} {h : AH} : evL 123 17 [l0, l1, l2, l3] [s0, s1, s2] h = evL 123 18 [l0, l1, l2, l3] [I 4, s0, s1, s2] h := ev_go c123_17 rfl
theorem c123_18 : cd 123 18 = some (18, .iload_n 3, 1, 0, 0, 0) := rfl
theorem s123_18 {l0 l1 l2 s0 s1 s2 s3 : AV} {l3 : Int} {h : AH} : evL 123 18 [l0, l1, l2, I l3] [s0, s1, s2, s3] h = evL 123 19 [l0, l1, l2, I l3] [I l3, s0, s1, s2, s3] h := ev_go c123_18 rfl
theorem c123_19 : cd 123 19 = some (19, .iadd, 1, 0, 0, 0) := rfl
theorem s123_19 {l0 l1 l2 l3 s2 s3 s4 : AV} {s0 s1 : Int} {h : AH} : evL 123 19 [l0, l1, l2, l3] [I s0, I s1, s2, s3, s4] h = evL 123 20 [l0, l1, l2, l3] [I (ad s1 s0), s2, s3, s4] h := ev_go c123_19 rfl
theorem c123_20 : cd 123 20 = some (20, .invokevirtual 54, 3, 116, 0, 806) := rfl
theorem s123_20 {l0 l1 l2 l3 s3 : AV} {s0 s1 : Int} {s2 : Nat} {M : Mem} {P : PMem} (hk : kd s2 = 8) : evL 123 20 [l0, l1, l2, l3] [I s0, I s1, Rf s2, s3] (Hp M P) = cont (evM 116 [Rf s2, I s1, I s0] (Hp M P)) (fun r h => evL 123 23 [l0, l1, l2, l3] (rl r [s3]) h) := e_callV (av' := [I s1, I s0]) (rest := [s3]) (c := 8) c123_20 rfl rfl rfl rfl rfl rfl rfl hk rfl
theorem c123_23 : cd 123 23 = some (23, .invokestatic 43, 3, 113, 0, 873) := rfl
theorem s123_23 {l0 l1 l2 l3 s1 : AV} {s0 : Int} {M : Mem} {P : PMem} : evL 123 23 [l0, l1, l2, l3] [I s0, s1] (Hp M P) = cont (evM 113 [I s0] (Hp M P)) (fun r h => evL 123 26 [l0, l1, l2, l3] (rl r [s1]) h) := e_callS (av := [I s0]) (rest := [s1]) c123_23 rfl rfl rfl rfl rfl rfl
theorem c123_26 : cd 123 26 = some (26, .iadd, 1, 0, 0, 0) := rfl
theorem s123_26 {l0 l1 l2 l3 : AV} {s0 s1 : Int} {h : AH} : evL 123 26 [l0, l1, l2, l3] [I s0, I s1] h = evL 123 27 [l0, l1, l2, l3] [I (ad s1 s0)] h := ev_go c123_26 rfl
theorem c123_27 : cd 123 27 = some (27, .istore_n 2, 1, 0, 0, 0) := rfl
theorem s123_27 {l0 l1 l2 l3 : AV} {s0 : Int} {h : AH} : evL 123 27 [l0, l1, l2, l3] [I s0] h = evL 123 28 [l0, l1, I s0, l3] [] h := ev_go c123_27 rfl
theorem c123_28 : cd 123 28 = some (28, .iinc 3 1, 3, 0, 0, 0) := rfl
theorem s123_28 {l0 l1 l2 : AV} {l3 : Int} {h : AH} : evL 123 28 [l0, l1, l2, I l3] [] h = evL 123 31 [l0, l1, l2, I (ad l3 1)] [] h := ev_go c123_28 rfl
theorem c123_31 : cd 123 31 = some (31, .goto (-27), 3, 0, 0, 0) := rfl
theorem s123_31 {l0 l1 l2 l3 : AV} {h : AH} : evL 123 31 [l0, l1, l2, l3] [] h = evL 123 4 [l0, l1, l2, l3] [] h := ev_go c123_31 rfl
theorem c123_34 : cd 123 34 = some (34, .iload_n 2, 1, 0, 0, 0) := rfl
theorem s123_34 {l0 l1 l3 : AV} {l2 : Int} {h : AH} : evL 123 34 [l0, l1, I l2, l3] [] h = evL 123 35 [l0, l1, I l2, l3] [I l2] h := ev_go c123_34 rfl
theorem c123_35 : cd 123 35 = some (35, .ireturn, 1, 0, 0, 0) := rfl
theorem s123_35 {l0 l1 l2 l3 : AV} {s0 : Int} {h : AH} : evL 123 35 [l0, l1, l2, l3] [I s0] h = some (some (I s0), h) := e_ret c123_35 rfl
/-! 124: TankDiversModel.onPath()I -/
theorem en124 {l0 : AV} {h : AH} : evM 124 [l0] h = evL 124 0 [l0, Db 0, Db 0] [] h := rfl
theorem c124_0 : cd 124 0 = some (0, .iconst 0, 1, 0, 0, 0) := rfl
theorem s124_0 {l0 l1 l2 : AV} {h : AH} : evL 124 0 [l0, l1, l2] [] h = evL 124 1 [l0, l1, l2] [I 0] h := ev_go c124_0 rfl
theorem c124_1 : cd 124 1 = some (1, .istore_n 1, 1, 0, 0, 0) := rfl
theorem s124_1 {l0 l1 l2 : AV} {s0 : Int} {h : AH} : evL 124 1 [l0, l1, l2] [I s0] h = evL 124 2 [l0, I s0, l2] [] h := ev_go c124_1 rfl
theorem c124_2 : cd 124 2 = some (2, .iconst 1, 1, 0, 0, 0) := rfl
theorem s124_2 {l0 l1 l2 : AV} {h : AH} : evL 124 2 [l0, l1, l2] [] h = evL 124 3 [l0, l1, l2] [I 1] h := ev_go c124_2 rfl
theorem c124_3 : cd 124 3 = some (3, .istore_n 2, 1, 0, 0, 0) := rfl
theorem s124_3 {l0 l1 l2 : AV} {s0 : Int} {h : AH} : evL 124 3 [l0, l1, l2] [I s0] h = evL 124 4 [l0, l1, I s0] [] h := ev_go c124_3 rfl
theorem c124_4 : cd 124 4 = some (4, .iload_n 2, 1, 0, 0, 0) := rfl
theorem s124_4 {l0 l1 : AV} {l2 : Int} {h : AH} : evL 124 4 [l0, l1, I l2] [] h = evL 124 5 [l0, l1, I l2] [I l2] h := ev_go c124_4 rfl
theorem c124_5 : cd 124 5 = some (5, .aload_n 0, 1, 0, 0, 0) := rfl
theorem s124_5 {l1 l2 s0 : AV} {l0 : Option Nat} {h : AH} : evL 124 5 [.inr (.inl l0), l1, l2] [s0] h = evL 124 6 [.inr (.inl l0), l1, l2] [.inr (.inl l0), s0] h := ev_go c124_5 rfl
theorem c124_6 : cd 124 6 = some (6, .getfield 7, 3, 8, 0, 725) := rfl
theorem s124_6 {l0 l1 l2 s1 : AV} {s0 : Nat} {M : Mem} {P : PMem} (hk : kd s0 = 8) : evL 124 6 [l0, l1, l2] [Rf s0, s1] (Hp M P) = evL 124 9 [l0, l1, l2] [Rf (rfd s0 0), s1] (Hp M P) := e_getR c124_6 rfl hk
theorem c124_9 : cd 124 9 = some (9, .bipush 8, 2, 0, 0, 0) := rfl
theorem s124_9 {l0 l1 l2 s0 s1 : AV} {h : AH} : evL 124 9 [l0, l1, l2] [s0, s1] h = evL 124 11 [l0, l1, l2] [I 8, s0, s1] h := ev_go c124_9 rfl
theorem c124_11 : cd 124 11 = some (11, .iaload, 1, 0, 0, 0) := rfl
theorem s124_11 {l0 l1 l2 s2 : AV} {s0 : Int} {s1 : Nat} {M : Mem} {P : PMem} (hk : kd s1 = 100) (h0 : 0 ≤ s0) (hn : s0.toNat < ln s1) : evL 124 11 [l0, l1, l2] [I s0, Rf s1, s2] (Hp M P) = evL 124 12 [l0, l1, l2] [I (M s1 s0.toNat), s2] (Hp M P) := e_iald c124_11 hk h0 hn
theorem c124_12 : cd 124 12 = some (12, .if_icmp .gt 20, 3, 0, 0, 0) := rfl
theorem s124_12 {l0 l1 l2 : AV} {s0 s1 : Int} {h : AH} : evL 124 12 [l0, l1, l2] [I s0, I s1] h = if s0 < s1 then evL 124 32 [l0, l1, l2] [] h else evL 124 15 [l0, l1, l2] [] h := e_icmp_gt c124_12 rfl rfl
theorem c124_15 : cd 124 15 = some (15, .iload_n 1, 1, 0, 0, 0) := rfl
theorem s124_15 {l0 l2 : AV} {l1 : Int} {h : AH} : evL 124 15 [l0, I l1, l2] [] h = evL 124 16 [l0, I l1, l2] [I l1] h := ev_go c124_15 rfl
theorem c124_16 : cd 124 16 = some (16, .aload_n 0, 1, 0, 0, 0) := rfl
theorem s124_16 {l1 l2 s0 : AV} {l0 : Option Nat} {h : AH} : evL 124 16 [.inr (.inl l0), l1, l2] [s0] h = evL 124 17 [.inr (.inl l0), l1, l2] [.inr (.inl l0), s0] h := ev_go c124_16 rfl
theorem c124_17 : cd 124 17 = some (17, .iload_n 2, 1, 0, 0, 0) := rfl
theorem s124_17 {l0 l1 s0 s1 : AV} {l2 : Int} {h : AH} : evL 124 17 [l0, l1, I l2] [s0, s1] h = evL 124 18 [l0, l1, I l2] [I l2, s0, s1] h := ev_go c124_17 rfl
theorem c124_18 : cd 124 18 = some (18, .invokevirtual 63, 3, 119, 0, 842) := rfl
theorem s124_18 {l0 l1 l2 s2 : AV} {s0 : Int} {s1 : Nat} {M : Mem} {P : PMem} (hk : kd s1 = 8) : evL 124 18 [l0, l1, l2] [I s0, Rf s1, s2] (Hp M P) = cont (evM 119 [Rf s1, I s0] (Hp M P)) (fun r h => evL 124 21 [l0, l1, l2] (rl r [s2]) h) := e_callV (av' := [I s0]) (rest := [s2]) (c := 8) c124_18 rfl rfl rfl rfl rfl rfl rfl hk rfl
theorem c124_21 : cd 124 21 = some (21, .invokestatic 60, 3, 115, 0, 870) := rfl
theorem s124_21 {l0 l1 l2 s1 : AV} {s0 : Int} {M : Mem} {P : PMem} : evL 124 21 [l0, l1, l2] [I s0, s1] (Hp M P) = cont (evM 115 [I s0] (Hp M P)) (fun r h => evL 124 24 [l0, l1, l2] (rl r [s1]) h) := e_callS (av := [I s0]) (rest := [s1]) c124_21 rfl rfl rfl rfl rfl rfl
theorem c124_24 : cd 124 24 = some (24, .iadd, 1, 0, 0, 0) := rfl
theorem s124_24 {l0 l1 l2 : AV} {s0 s1 : Int} {h : AH} : evL 124 24 [l0, l1, l2] [I s0, I s1] h = evL 124 25 [l0, l1, l2] [I (ad s1 s0)] h := ev_go c124_24 rfl
theorem c124_25 : cd 124 25 = some (25, .istore_n 1, 1, 0, 0, 0) := rfl
theorem s124_25 {l0 l1 l2 : AV} {s0 : Int} {h : AH} : evL 124 25 [l0, l1, l2] [I s0] h = evL 124 26 [l0, I s0, l2] [] h := ev_go c124_25 rfl
theorem c124_26 : cd 124 26 = some (26, .iinc 2 1, 3, 0, 0, 0) := rfl
theorem s124_26 {l0 l1 : AV} {l2 : Int} {h : AH} : evL 124 26 [l0, l1, I l2] [] h = evL 124 29 [l0, l1, I (ad l2 1)] [] h := ev_go c124_26 rfl
theorem c124_29 : cd 124 29 = some (29, .goto (-25), 3, 0, 0, 0) := rfl
theorem s124_29 {l0 l1 l2 : AV} {h : AH} : evL 124 29 [l0, l1, l2] [] h = evL 124 4 [l0, l1, l2] [] h := ev_go c124_29 rfl
theorem c124_32 : cd 124 32 = some (32, .iload_n 1, 1, 0, 0, 0) := rfl
theorem s124_32 {l0 l2 : AV} {l1 : Int} {h : AH} : evL 124 32 [l0, I l1, l2] [] h = evL 124 33 [l0, I l1, l2] [I l1] h := ev_go c124_32 rfl
theorem c124_33 : cd 124 33 = some (33, .ireturn, 1, 0, 0, 0) := rfl
theorem s124_33 {l0 l1 l2 : AV} {s0 : Int} {h : AH} : evL 124 33 [l0, l1, l2] [I s0] h = some (some (I s0), h) := e_ret c124_33 rfl
/-! 125: TankDiversModel.onWay()I -/
theorem en125 {l0 : AV} {h : AH} : evM 125 [l0] h = evL 125 0 [l0, Db 0, Db 0] [] h := rfl
theorem c125_0 : cd 125 0 = some (0, .iconst 0, 1, 0, 0, 0) := rfl
theorem s125_0 {l0 l1 l2 : AV} {h : AH} : evL 125 0 [l0, l1, l2] [] h = evL 125 1 [l0, l1, l2] [I 0] h := ev_go c125_0 rfl
theorem c125_1 : cd 125 1 = some (1, .istore_n 1, 1, 0, 0, 0) := rfl
theorem s125_1 {l0 l1 l2 : AV} {s0 : Int} {h : AH} : evL 125 1 [l0, l1, l2] [I s0] h = evL 125 2 [l0, I s0, l2] [] h := ev_go c125_1 rfl
theorem c125_2 : cd 125 2 = some (2, .iconst 0, 1, 0, 0, 0) := rfl
theorem s125_2 {l0 l1 l2 : AV} {h : AH} : evL 125 2 [l0, l1, l2] [] h = evL 125 3 [l0, l1, l2] [I 0] h := ev_go c125_2 rfl
theorem c125_3 : cd 125 3 = some (3, .istore_n 2, 1, 0, 0, 0) := rfl
theorem s125_3 {l0 l1 l2 : AV} {s0 : Int} {h : AH} : evL 125 3 [l0, l1, l2] [I s0] h = evL 125 4 [l0, l1, I s0] [] h := ev_go c125_3 rfl
theorem c125_4 : cd 125 4 = some (4, .iload_n 2, 1, 0, 0, 0) := rfl
theorem s125_4 {l0 l1 : AV} {l2 : Int} {h : AH} : evL 125 4 [l0, l1, I l2] [] h = evL 125 5 [l0, l1, I l2] [I l2] h := ev_go c125_4 rfl
theorem c125_5 : cd 125 5 = some (5, .aload_n 0, 1, 0, 0, 0) := rfl
theorem s125_5 {l1 l2 s0 : AV} {l0 : Option Nat} {h : AH} : evL 125 5 [.inr (.inl l0), l1, l2] [s0] h = evL 125 6 [.inr (.inl l0), l1, l2] [.inr (.inl l0), s0] h := ev_go c125_5 rfl
theorem c125_6 : cd 125 6 = some (6, .getfield 7, 3, 8, 0, 725) := rfl
theorem s125_6 {l0 l1 l2 s1 : AV} {s0 : Nat} {M : Mem} {P : PMem} (hk : kd s0 = 8) : evL 125 6 [l0, l1, l2] [Rf s0, s1] (Hp M P) = evL 125 9 [l0, l1, l2] [Rf (rfd s0 0), s1] (Hp M P) := e_getR c125_6 rfl hk
theorem c125_9 : cd 125 9 = some (9, .iconst 0, 1, 0, 0, 0) := rfl
theorem s125_9 {l0 l1 l2 s0 s1 : AV} {h : AH} : evL 125 9 [l0, l1, l2] [s0, s1] h = evL 125 10 [l0, l1, l2] [I 0, s0, s1] h := ev_go c125_9 rfl
theorem c125_10 : cd 125 10 = some (10, .iaload, 1, 0, 0, 0) := rfl
theorem s125_10 {l0 l1 l2 s2 : AV} {s0 : Int} {s1 : Nat} {M : Mem} {P : PMem} (hk : kd s1 = 100) (h0 : 0 ≤ s0) (hn : s0.toNat < ln s1) : evL 125 10 [l0, l1, l2] [I s0, Rf s1, s2] (Hp M P) = evL 125 11 [l0, l1, l2] [I (M s1 s0.toNat), s2] (Hp M P) := e_iald c125_10 hk h0 hn
theorem c125_11 : cd 125 11 = some (11, .if_icmp .ge 17, 3, 0, 0, 0) := rfl
theorem s125_11 {l0 l1 l2 : AV} {s0 s1 : Int} {h : AH} : evL 125 11 [l0, l1, l2] [I s0, I s1] h = if s0 ≤ s1 then evL 125 28 [l0, l1, l2] [] h else evL 125 14 [l0, l1, l2] [] h := e_icmp_ge c125_11 rfl rfl
theorem c125_14 : cd 125 14 = some (14, .iload_n 1, 1, 0, 0, 0) := rfl
theorem s125_14 {l0 l2 : AV} {l1 : Int} {h : AH} : evL 125 14 [l0, I l1, l2] [] h = evL 125 15 [l0, I l1, l2] [I l1] h := ev_go c125_14 rfl
theorem c125_15 : cd 125 15 = some (15, .aload_n 0, 1, 0, 0, 0) := rfl
theorem s125_15 {l1 l2 s0 : AV} {l0 : Option Nat} {h : AH} : evL 125 15 [.inr (.inl l0), l1, l2] [s0] h = evL 125 16 [.inr (.inl l0), l1, l2] [.inr (.inl l0), s0] h := ev_go c125_15 rfl
theorem c125_16 : cd 125 16 = some (16, .iload_n 2, 1, 0, 0, 0) := rfl
theorem s125_16 {l0 l1 s0 s1 : AV} {l2 : Int} {h : AH} : evL 125 16 [l0, l1, I l2] [s0, s1] h = evL 125 17 [l0, l1, I l2] [I l2, s0, s1] h := ev_go c125_16 rfl
theorem c125_17 : cd 125 17 = some (17, .invokevirtual 66, 3, 122, 0, 866) := rfl
theorem s125_17 {l0 l1 l2 s2 : AV} {s0 : Int} {s1 : Nat} {M : Mem} {P : PMem} (hk : kd s1 = 8) : evL 125 17 [l0, l1, l2] [I s0, Rf s1, s2] (Hp M P) = cont (evM 122 [Rf s1, I s0] (Hp M P)) (fun r h => evL 125 20 [l0, l1, l2] (rl r [s2]) h) := e_callV (av' := [I s0]) (rest := [s2]) (c := 8) c125_17 rfl rfl rfl rfl rfl rfl rfl hk rfl
theorem c125_20 : cd 125 20 = some (20, .iadd, 1, 0, 0, 0) := rfl
theorem s125_20 {l0 l1 l2 : AV} {s0 s1 : Int} {h : AH} : evL 125 20 [l0, l1, l2] [I s0, I s1] h = evL 125 21 [l0, l1, l2] [I (ad s1 s0)] h := ev_go c125_20 rfl
theorem c125_21 : cd 125 21 = some (21, .istore_n 1, 1, 0, 0, 0) := rfl
theorem s125_21 {l0 l1 l2 : AV} {s0 : Int} {h : AH} : evL 125 21 [l0, l1, l2] [I s0] h = evL 125 22 [l0, I s0, l2] [] h := ev_go c125_21 rfl
theorem c125_22 : cd 125 22 = some (22, .iinc 2 1, 3, 0, 0, 0) := rfl
theorem s125_22 {l0 l1 : AV} {l2 : Int} {h : AH} : evL 125 22 [l0, l1, I l2] [] h = evL 125 25 [l0, l1, I (ad l2 1)] [] h := ev_go c125_22 rfl
theorem c125_25 : cd 125 25 = some (25, .goto (-21), 3, 0, 0, 0) := rfl
theorem s125_25 {l0 l1 l2 : AV} {h : AH} : evL 125 25 [l0, l1, l2] [] h = evL 125 4 [l0, l1, l2] [] h := ev_go c125_25 rfl
theorem c125_28 : cd 125 28 = some (28, .iload_n 1, 1, 0, 0, 0) := rfl
theorem s125_28 {l0 l2 : AV} {l1 : Int} {h : AH} : evL 125 28 [l0, I l1, l2] [] h = evL 125 29 [l0, I l1, l2] [I l1] h := ev_go c125_28 rfl
theorem c125_29 : cd 125 29 = some (29, .ireturn, 1, 0, 0, 0) := rfl
theorem s125_29 {l0 l1 l2 : AV} {s0 : Int} {h : AH} : evL 125 29 [l0, l1, l2] [I s0] h = some (some (I s0), h) := e_ret c125_29 rfl
/-! 126: TankDiversModel.broughtAll()I -/
theorem en126 {l0 : AV} {h : AH} : evM 126 [l0] h = evL 126 0 [l0, Db 0, Db 0] [] h := rfl
theorem c126_0 : cd 126 0 = some (0, .iconst 0, 1, 0, 0, 0) := rfl
theorem s126_0 {l0 l1 l2 : AV} {h : AH} : evL 126 0 [l0, l1, l2] [] h = evL 126 1 [l0, l1, l2] [I 0] h := ev_go c126_0 rfl
theorem c126_1 : cd 126 1 = some (1, .istore_n 1, 1, 0, 0, 0) := rfl
theorem s126_1 {l0 l1 l2 : AV} {s0 : Int} {h : AH} : evL 126 1 [l0, l1, l2] [I s0] h = evL 126 2 [l0, I s0, l2] [] h := ev_go c126_1 rfl
theorem c126_2 : cd 126 2 = some (2, .iconst 0, 1, 0, 0, 0) := rfl
theorem s126_2 {l0 l1 l2 : AV} {h : AH} : evL 126 2 [l0, l1, l2] [] h = evL 126 3 [l0, l1, l2] [I 0] h := ev_go c126_2 rfl
theorem c126_3 : cd 126 3 = some (3, .istore_n 2, 1, 0, 0, 0) := rfl
theorem s126_3 {l0 l1 l2 : AV} {s0 : Int} {h : AH} : evL 126 3 [l0, l1, l2] [I s0] h = evL 126 4 [l0, l1, I s0] [] h := ev_go c126_3 rfl
theorem c126_4 : cd 126 4 = some (4, .iload_n 2, 1, 0, 0, 0) := rfl
theorem s126_4 {l0 l1 : AV} {l2 : Int} {h : AH} : evL 126 4 [l0, l1, I l2] [] h = evL 126 5 [l0, l1, I l2] [I l2] h := ev_go c126_4 rfl
theorem c126_5 : cd 126 5 = some (5, .aload_n 0, 1, 0, 0, 0) := rfl
theorem s126_5 {l1 l2 s0 : AV} {l0 : Option Nat} {h : AH} : evL 126 5 [.inr (.inl l0), l1, l2] [s0] h = evL 126 6 [.inr (.inl l0), l1, l2] [.inr (.inl l0), s0] h := ev_go c126_5 rfl
theorem c126_6 : cd 126 6 = some (6, .getfield 7, 3, 8, 0, 725) := rfl
theorem s126_6 {l0 l1 l2 s1 : AV} {s0 : Nat} {M : Mem} {P : PMem} (hk : kd s0 = 8) : evL 126 6 [l0, l1, l2] [Rf s0, s1] (Hp M P) = evL 126 9 [l0, l1, l2] [Rf (rfd s0 0), s1] (Hp M P) := e_getR c126_6 rfl hk
theorem c126_9 : cd 126 9 = some (9, .iconst 0, 1, 0, 0, 0) := rfl
theorem s126_9 {l0 l1 l2 s0 s1 : AV} {h : AH} : evL 126 9 [l0, l1, l2] [s0, s1] h = evL 126 10 [l0, l1, l2] [I 0, s0, s1] h := ev_go c126_9 rfl
theorem c126_10 : cd 126 10 = some (10, .iaload, 1, 0, 0, 0) := rfl
theorem s126_10 {l0 l1 l2 s2 : AV} {s0 : Int} {s1 : Nat} {M : Mem} {P : PMem} (hk : kd s1 = 100) (h0 : 0 ≤ s0) (hn : s0.toNat < ln s1) : evL 126 10 [l0, l1, l2] [I s0, Rf s1, s2] (Hp M P) = evL 126 11 [l0, l1, l2] [I (M s1 s0.toNat), s2] (Hp M P) := e_iald c126_10 hk h0 hn
theorem c126_11 : cd 126 11 = some (11, .if_icmp .ge 19, 3, 0, 0, 0) := rfl
theorem s126_11 {l0 l1 l2 : AV} {s0 s1 : Int} {h : AH} : evL 126 11 [l0, l1, l2] [I s0, I s1] h = if s0 ≤ s1 then evL 126 30 [l0, l1, l2] [] h else evL 126 14 [l0, l1, l2] [] h := e_icmp_ge c126_11 rfl rfl
theorem c126_14 : cd 126 14 = some (14, .iload_n 1, 1, 0, 0, 0) := rfl
theorem s126_14 {l0 l2 : AV} {l1 : Int} {h : AH} : evL 126 14 [l0, I l1, l2] [] h = evL 126 15 [l0, I l1, l2] [I l1] h := ev_go c126_14 rfl
theorem c126_15 : cd 126 15 = some (15, .aload_n 0, 1, 0, 0, 0) := rfl
theorem s126_15 {l1 l2 s0 : AV} {l0 : Option Nat} {h : AH} : evL 126 15 [.inr (.inl l0), l1, l2] [s0] h = evL 126 16 [.inr (.inl l0), l1, l2] [.inr (.inl l0), s0] h := ev_go c126_15 rfl
theorem c126_16 : cd 126 16 = some (16, .iload_n 2, 1, 0, 0, 0) := rfl
theorem s126_16 {l0 l1 s0 s1 : AV} {l2 : Int} {h : AH} : evL 126 16 [l0, l1, I l2] [s0, s1] h = evL 126 17 [l0, l1, I l2] [I l2, s0, s1] h := ev_go c126_16 rfl
theorem c126_17 : cd 126 17 = some (17, .bipush 10, 2, 0, 0, 0) := rfl
theorem s126_17 {l0 l1 l2 s0 s1 s2 : AV} {h : AH} : evL 126 17 [l0, l1, l2] [s0, s1, s2] h = evL 126 19 [l0, l1, l2] [I 10, s0, s1, s2] h := ev_go c126_17 rfl
theorem c126_19 : cd 126 19 = some (19, .invokevirtual 54, 3, 116, 0, 806) := rfl
theorem s126_19 {l0 l1 l2 s3 : AV} {s0 s1 : Int} {s2 : Nat} {M : Mem} {P : PMem} (hk : kd s2 = 8) : evL 126 19 [l0, l1, l2] [I s0, I s1, Rf s2, s3] (Hp M P) = cont (evM 116 [Rf s2, I s1, I s0] (Hp M P)) (fun r h => evL 126 22 [l0, l1, l2] (rl r [s3]) h) := e_callV (av' := [I s1, I s0]) (rest := [s3]) (c := 8) c126_19 rfl rfl rfl rfl rfl rfl rfl hk rfl
theorem c126_22 : cd 126 22 = some (22, .iadd, 1, 0, 0, 0) := rfl
theorem s126_22 {l0 l1 l2 : AV} {s0 s1 : Int} {h : AH} : evL 126 22 [l0, l1, l2] [I s0, I s1] h = evL 126 23 [l0, l1, l2] [I (ad s1 s0)] h := ev_go c126_22 rfl
theorem c126_23 : cd 126 23 = some (23, .istore_n 1, 1, 0, 0, 0) := rfl
theorem s126_23 {l0 l1 l2 : AV} {s0 : Int} {h : AH} : evL 126 23 [l0, l1, l2] [I s0] h = evL 126 24 [l0, I s0, l2] [] h := ev_go c126_23 rfl
theorem c126_24 : cd 126 24 = some (24, .iinc 2 1, 3, 0, 0, 0) := rfl
theorem s126_24 {l0 l1 : AV} {l2 : Int} {h : AH} : evL 126 24 [l0, l1, I l2] [] h = evL 126 27 [l0, l1, I (ad l2 1)] [] h := ev_go c126_24 rfl
theorem c126_27 : cd 126 27 = some (27, .goto (-23), 3, 0, 0, 0) := rfl
theorem s126_27 {l0 l1 l2 : AV} {h : AH} : evL 126 27 [l0, l1, l2] [] h = evL 126 4 [l0, l1, l2] [] h := ev_go c126_27 rfl
theorem c126_30 : cd 126 30 = some (30, .iload_n 1, 1, 0, 0, 0) := rfl
theorem s126_30 {l0 l2 : AV} {l1 : Int} {h : AH} : evL 126 30 [l0, I l1, l2] [] h = evL 126 31 [l0, I l1, l2] [I l1] h := ev_go c126_30 rfl
theorem c126_31 : cd 126 31 = some (31, .ireturn, 1, 0, 0, 0) := rfl
theorem s126_31 {l0 l1 l2 : AV} {s0 : Int} {h : AH} : evL 126 31 [l0, l1, l2] [I s0] h = some (some (I s0), h) := e_ret c126_31 rfl
/-! 127: TankDiversModel.draws()I -/
theorem en127 {l0 : AV} {h : AH} : evM 127 [l0] h = evL 127 0 [l0] [] h := rfl
theorem c127_0 : cd 127 0 = some (0, .aload_n 0, 1, 0, 0, 0) := rfl
theorem s127_0 {l0 : Option Nat} {h : AH} : evL 127 0 [.inr (.inl l0)] [] h = evL 127 1 [.inr (.inl l0)] [.inr (.inl l0)] h := ev_go c127_0 rfl
theorem c127_1 : cd 127 1 = some (1, .getfield 7, 3, 8, 0, 725) := rfl
theorem s127_1 {l0 : AV} {s0 : Nat} {M : Mem} {P : PMem} (hk : kd s0 = 8) : evL 127 1 [l0] [Rf s0] (Hp M P) = evL 127 4 [l0] [Rf (rfd s0 0)] (Hp M P) := e_getR c127_1 rfl hk
theorem c127_4 : cd 127 4 = some (4, .iconst 5, 1, 0, 0, 0) := rfl
theorem s127_4 {l0 s0 : AV} {h : AH} : evL 127 4 [l0] [s0] h = evL 127 5 [l0] [I 5, s0] h := ev_go c127_4 rfl
theorem c127_5 : cd 127 5 = some (5, .sipush 421, 3, 0, 0, 0) := rfl
theorem s127_5 {l0 s0 s1 : AV} {h : AH} : evL 127 5 [l0] [s0, s1] h = evL 127 8 [l0] [I 421, s0, s1] h := ev_go c127_5 rfl
theorem c127_8 : cd 127 8 = some (8, .aload_n 0, 1, 0, 0, 0) := rfl
theorem s127_8 {s0 s1 s2 : AV} {l0 : Option Nat} {h : AH} : evL 127 8 [.inr (.inl l0)] [s0, s1, s2] h = evL 127 9 [.inr (.inl l0)] [.inr (.inl l0), s0, s1, s2] h := ev_go c127_8 rfl
theorem c127_9 : cd 127 9 = some (9, .getfield 7, 3, 8, 0, 725) := rfl
theorem s127_9 {l0 s1 s2 s3 : AV} {s0 : Nat} {M : Mem} {P : PMem} (hk : kd s0 = 8) : evL 127 9 [l0] [Rf s0, s1, s2, s3] (Hp M P) = evL 127 12 [l0] [Rf (rfd s0 0), s1, s2, s3] (Hp M P) := e_getR c127_9 rfl hk
theorem c127_12 : cd 127 12 = some (12, .iconst 5, 1, 0, 0, 0) := rfl
theorem s127_12 {l0 s0 s1 s2 s3 : AV} {h : AH} : evL 127 12 [l0] [s0, s1, s2, s3] h = evL 127 13 [l0] [I 5, s0, s1, s2, s3] h := ev_go c127_12 rfl
theorem c127_13 : cd 127 13 = some (13, .iaload, 1, 0, 0, 0) := rfl
theorem s127_13 {l0 s2 s3 s4 : AV} {s0 : Int} {s1 : Nat} {M : Mem} {P : PMem} (hk : kd s1 = 100) (h0 : 0 ≤ s0) (hn : s0.toNat < ln s1) : evL 127 13 [l0] [I s0, Rf s1, s2, s3, s4] (Hp M P) = evL 127 14 [l0] [I (M s1 s0.toNat), s2, s3, s4] (Hp M P) := e_iald c127_13 hk h0 hn
theorem c127_14 : cd 127 14 = some (14, .imul, 1, 0, 0, 0) := rfl
theorem s127_14 {l0 s2 s3 : AV} {s0 s1 : Int} {h : AH} : evL 127 14 [l0] [I s0, I s1, s2, s3] h = evL 127 15 [l0] [I (ml s1 s0), s2, s3] h := ev_go c127_14 rfl
theorem c127_15 : cd 127 15 = some (15, .sipush 1663, 3, 0, 0, 0) := rfl
theorem s127_15 {l0 s0 s1 s2 : AV} {h : AH} : evL 127 15 [l0] [s0, s1, s2] h = evL 127 18 [l0] [I 1663, s0, s1, s2] h := ev_go c127_15 rfl
theorem c127_18 : cd 127 18 = some (18, .iadd, 1, 0, 0, 0) := rfl
theorem s127_18 {l0 s2 s3 : AV} {s0 s1 : Int} {h : AH} : evL 127 18 [l0] [I s0, I s1, s2, s3] h = evL 127 19 [l0] [I (ad s1 s0), s2, s3] h := ev_go c127_18 rfl
theorem c127_19 : cd 127 19 = some (19, .sipush 10000, 3, 0, 0, 0) := rfl
theorem s127_19 {l0 s0 s1 s2 : AV} {h : AH} : evL 127 19 [l0] [s0, s1, s2] h = evL 127 22 [l0] [I 10000, s0, s1, s2] h := ev_go c127_19 rfl
theorem c127_22 : cd 127 22 = some (22, .irem, 1, 0, 0, 0) := rfl
theorem s127_22 {l0 s2 s3 : AV} {s0 s1 : Int} {h : AH} (hd : s0 ≠ 0) : evL 127 22 [l0] [I s0, I s1, s2, s3] h = evL 127 23 [l0] [I (rm s1 s0), s2, s3] h := ev_go c127_22 (if_pos hd)
theorem c127_23 : cd 127 23 = some (23, .iastore, 1, 0, 0, 0) := rfl
theorem s127_23 {l0 : AV} {s0 s1 : Int} {s2 : Nat} {M : Mem} {P : PMem} (hk : kd s2 = 100) (h0 : 0 ≤ s1) (hn : s1.toNat < ln s2) : evL 127 23 [l0] [I s0, I s1, Rf s2] (Hp M P) = evL 127 24 [l0] [] (Hp (wr M s2 s1.toNat s0) P) := e_iast c127_23 hk h0 hn
theorem c127_24 : cd 127 24 = some (24, .aload_n 0, 1, 0, 0, 0) := rfl
theorem s127_24 {l0 : Option Nat} {h : AH} : evL 127 24 [.inr (.inl l0)] [] h = evL 127 25 [.inr (.inl l0)] [.inr (.inl l0)] h := ev_go c127_24 rfl
theorem c127_25 : cd 127 25 = some (25, .getfield 7, 3, 8, 0, 725) := rfl
theorem s127_25 {l0 : AV} {s0 : Nat} {M : Mem} {P : PMem} (hk : kd s0 = 8) : evL 127 25 [l0] [Rf s0] (Hp M P) = evL 127 28 [l0] [Rf (rfd s0 0)] (Hp M P) := e_getR c127_25 rfl hk
theorem c127_28 : cd 127 28 = some (28, .iconst 5, 1, 0, 0, 0) := rfl
theorem s127_28 {l0 s0 : AV} {h : AH} : evL 127 28 [l0] [s0] h = evL 127 29 [l0] [I 5, s0] h := ev_go c127_28 rfl
theorem c127_29 : cd 127 29 = some (29, .iaload, 1, 0, 0, 0) := rfl
theorem s127_29 {l0 : AV} {s0 : Int} {s1 : Nat} {M : Mem} {P : PMem} (hk : kd s1 = 100) (h0 : 0 ≤ s0) (hn : s0.toNat < ln s1) : evL 127 29 [l0] [I s0, Rf s1] (Hp M P) = evL 127 30 [l0] [I (M s1 s0.toNat)] (Hp M P) := e_iald c127_29 hk h0 hn
theorem c127_30 : cd 127 30 = some (30, .ireturn, 1, 0, 0, 0) := rfl
theorem s127_30 {l0 : AV} {s0 : Int} {h : AH} : evL 127 30 [l0] [I s0] h = some (some (I s0), h) := e_ret c127_30 rfl
/-! 128: TankDiversModel.beginsRound()V -/
theorem en128 {l0 : AV} {h : AH} : evM 128 [l0] h = evL 128 0 [l0, Db 0, Db 0] [] h := rfl
theorem c128_0 : cd 128 0 = some (0, .aload_n 0, 1, 0, 0, 0) := rfl
theorem s128_0 {l1 l2 : AV} {l0 : Option Nat} {h : AH} : evL 128 0 [.inr (.inl l0), l1, l2] [] h = evL 128 1 [.inr (.inl l0), l1, l2] [.inr (.inl l0)] h := ev_go c128_0 rfl
theorem c128_1 : cd 128 1 = some (1, .getfield 7, 3, 8, 0, 725) := rfl
theorem s128_1 {l0 l1 l2 : AV} {s0 : Nat} {M : Mem} {P : PMem} (hk : kd s0 = 8) : evL 128 1 [l0, l1, l2] [Rf s0] (Hp M P) = evL 128 4 [l0, l1, l2] [Rf (rfd s0 0)] (Hp M P) := e_getR c128_1 rfl hk
theorem c128_4 : cd 128 4 = some (4, .iconst 4, 1, 0, 0, 0) := rfl
theorem s128_4 {l0 l1 l2 s0 : AV} {h : AH} : evL 128 4 [l0, l1, l2] [s0] h = evL 128 5 [l0, l1, l2] [I 4, s0] h := ev_go c128_4 rfl
theorem c128_5 : cd 128 5 = some (5, .bipush 25, 2, 0, 0, 0) := rfl
theorem s128_5 {l0 l1 l2 s0 s1 : AV} {h : AH} : evL 128 5 [l0, l1, l2] [s0, s1] h = evL 128 7 [l0, l1, l2] [I 25, s0, s1] h := ev_go c128_5 rfl
theorem c128_7 : cd 128 7 = some (7, .iastore, 1, 0, 0, 0) := rfl
theorem s128_7 {l0 l1 l2 : AV} {s0 s1 : Int} {s2 : Nat} {M : Mem} {P : PMem} (hk : kd s2 = 100) (h0 : 0 ≤ s1) (hn : s1.toNat < ln s2) : evL 128 7 [l0, l1, l2] [I s0, I s1, Rf s2] (Hp M P) = evL 128 8 [l0, l1, l2] [] (Hp (wr M s2 s1.toNat s0) P) := e_iast c128_7 hk h0 hn
theorem c128_8 : cd 128 8 = some (8, .iconst 0, 1, 0, 0, 0) := rfl
theorem s128_8 {l0 l1 l2 : AV} {h : AH} : evL 128 8 [l0, l1, l2] [] h = evL 128 9 [l0, l1, l2] [I 0] h := ev_go c128_8 rfl
theorem c128_9 : cd 128 9 = some (9, .istore_n 1, 1, 0, 0, 0) := rfl
theorem s128_9 {l0 l1 l2 : AV} {s0 : Int} {h : AH} : evL 128 9 [l0, l1, l2] [I s0] h = evL 128 10 [l0, I s0, l2] [] h := ev_go c128_9 rfl
theorem c128_10 : cd 128 10 = some (10, .iload_n 1, 1, 0, 0, 0) := rfl
theorem s128_10 {l0 l2 : AV} {l1 : Int} {h : AH} : evL 128 10 [l0, I l1, l2] [] h = evL 128 11 [l0, I l1, l2] [I l1] h := ev_go c128_10 rfl
theorem c128_11 : cd 128 11 = some (11, .aload_n 0, 1, 0, 0, 0) := rfl
theorem s128_11 {l1 l2 s0 : AV} {l0 : Option Nat} {h : AH} : evL 128 11 [.inr (.inl l0), l1, l2] [s0] h = evL 128 12 [.inr (.inl l0), l1, l2] [.inr (.inl l0), s0] h := ev_go c128_11 rfl
theorem c128_12 : cd 128 12 = some (12, .getfield 7, 3, 8, 0, 725) := rfl
theorem s128_12 {l0 l1 l2 s1 : AV} {s0 : Nat} {M : Mem} {P : PMem} (hk : kd s0 = 8) : evL 128 12 [l0, l1, l2] [Rf s0, s1] (Hp M P) = evL 128 15 [l0, l1, l2] [Rf (rfd s0 0), s1] (Hp M P) := e_getR c128_12 rfl hk
theorem c128_15 : cd 128 15 = some (15, .iconst 0, 1, 0, 0, 0) := rfl
theorem s128_15 {l0 l1 l2 s0 s1 : AV} {h : AH} : evL 128 15 [l0, l1, l2] [s0, s1] h = evL 128 16 [l0, l1, l2] [I 0, s0, s1] h := ev_go c128_15 rfl
theorem c128_16 : cd 128 16 = some (16, .iaload, 1, 0, 0, 0) := rfl
theorem s128_16 {l0 l1 l2 s2 : AV} {s0 : Int} {s1 : Nat} {M : Mem} {P : PMem} (hk : kd s1 = 100) (h0 : 0 ≤ s0) (hn : s0.toNat < ln s1) : evL 128 16 [l0, l1, l2] [I s0, Rf s1, s2] (Hp M P) = evL 128 17 [l0, l1, l2] [I (M s1 s0.toNat), s2] (Hp M P) := e_iald c128_16 hk h0 hn
theorem c128_17 : cd 128 17 = some (17, .if_icmp .ge 30, 3, 0, 0, 0) := rfl
theorem s128_17 {l0 l1 l2 : AV} {s0 s1 : Int} {h : AH} : evL 128 17 [l0, l1, l2] [I s0, I s1] h = if s0 ≤ s1 then evL 128 47 [l0, l1, l2] [] h else evL 128 20 [l0, l1, l2] [] h := e_icmp_ge c128_17 rfl rfl
theorem c128_20 : cd 128 20 = some (20, .iconst 0, 1, 0, 0, 0) := rfl
theorem s128_20 {l0 l1 l2 : AV} {h : AH} : evL 128 20 [l0, l1, l2] [] h = evL 128 21 [l0, l1, l2] [I 0] h := ev_go c128_20 rfl
theorem c128_21 : cd 128 21 = some (21, .istore_n 2, 1, 0, 0, 0) := rfl
theorem s128_21 {l0 l1 l2 : AV} {s0 : Int} {h : AH} : evL 128 21 [l0, l1, l2] [I s0] h = evL 128 22 [l0, l1, I s0] [] h := ev_go c128_21 rfl
theorem c128_22 : cd 128 22 = some (22, .iload_n 2, 1, 0, 0, 0) := rfl
theorem s128_22 {l0 l1 : AV} {l2 : Int} {h : AH} : evL 128 22 [l0, l1, I l2] [] h = evL 128 23 [l0, l1, I l2] [I l2] h := ev_go c128_22 rfl
theorem c128_23 : cd 128 23 = some (23, .bipush 10, 2, 0, 0, 0) := rfl
theorem s128_23 {l0 l1 l2 s0 : AV} {h : AH} : evL 128 23 [l0, l1, l2] [s0] h = evL 128 25 [l0, l1, l2] [I 10, s0] h := ev_go c128_23 rfl
theorem c128_25 : cd 128 25 = some (25, .if_icmp .ge 16, 3, 0, 0, 0) := rfl
theorem s128_25 {l0 l1 l2 : AV} {s0 s1 : Int} {h : AH} : evL 128 25 [l0, l1, l2] [I s0, I s1] h = if s0 ≤ s1 then evL 128 41 [l0, l1, l2] [] h else evL 128 28 [l0, l1, l2] [] h := e_icmp_ge c128_25 rfl rfl
theorem c128_28 : cd 128 28 = some (28, .aload_n 0, 1, 0, 0, 0) := rfl
theorem s128_28 {l1 l2 : AV} {l0 : Option Nat} {h : AH} : evL 128 28 [.inr (.inl l0), l1, l2] [] h = evL 128 29 [.inr (.inl l0), l1, l2] [.inr (.inl l0)] h := ev_go c128_28 rfl
theorem c128_29 : cd 128 29 = some (29, .iload_n 1, 1, 0, 0, 0) := rfl
theorem s128_29 {l0 l2 s0 : AV} {l1 : Int} {h : AH} : evL 128 29 [l0, I l1, l2] [s0] h = evL 128 30 [l0, I l1, l2] [I l1, s0] h := ev_go c128_29 rfl
theorem c128_30 : cd 128 30 = some (30, .iload_n 2, 1, 0, 0, 0) := rfl
theorem s128_30 {l0 l1 s0 s1 : AV} {l2 : Int} {h : AH} : evL 128 30 [l0, l1, I l2] [s0, s1] h = evL 128 31 [l0, l1, I l2] [I l2, s0, s1] h := ev_go c128_30 rfl
theorem c128_31 : cd 128 31 = some (31, .iconst 0, 1, 0, 0, 0) := rfl
theorem s128_31 {l0 l1 l2 s0 s1 s2 : AV} {h : AH} : evL 128 31 [l0, l1, l2] [s0, s1, s2] h = evL 128 32 [l0, l1, l2] [I 0, s0, s1, s2] h := ev_go c128_31 rfl
theorem c128_32 : cd 128 32 = some (32, .invokevirtual 69, 3, 117, 0, 721) := rfl
theorem s128_32 {l0 l1 l2 : AV} {s0 s1 s2 : Int} {s3 : Nat} {M : Mem} {P : PMem} (hk : kd s3 = 8) : evL 128 32 [l0, l1, l2] [I s0, I s1, I s2, Rf s3] (Hp M P) = cont (evM 117 [Rf s3, I s2, I s1, I s0] (Hp M P)) (fun r h => evL 128 35 [l0, l1, l2] (rl r []) h) := e_callV (av' := [I s2, I s1, I s0]) (rest := []) (c := 8) c128_32 rfl rfl rfl rfl rfl rfl rfl hk rfl
theorem c128_35 : cd 128 35 = some (35, .iinc 2 1, 3, 0, 0, 0) := rfl
theorem s128_35 {l0 l1 : AV} {l2 : Int} {h : AH} : evL 128 35 [l0, l1, I l2] [] h = evL 128 38 [l0, l1, I (ad l2 1)] [] h := ev_go c128_35 rfl
theorem c128_38 : cd 128 38 = some (38, .goto (-16), 3, 0, 0, 0) := rfl
theorem s128_38 {l0 l1 l2 : AV} {h : AH} : evL 128 38 [l0, l1, l2] [] h = evL 128 22 [l0, l1, l2] [] h := ev_go c128_38 rfl
theorem c128_41 : cd 128 41 = some (41, .iinc 1 1, 3, 0, 0, 0) := rfl
theorem s128_41 {l0 l2 : AV} {l1 : Int} {h : AH} : evL 128 41 [l0, I l1, l2] [] h = evL 128 44 [l0, I (ad l1 1), l2] [] h := ev_go c128_41 rfl
theorem c128_44 : cd 128 44 = some (44, .goto (-34), 3, 0, 0, 0) := rfl
theorem s128_44 {l0 l1 l2 : AV} {h : AH} : evL 128 44 [l0, l1, l2] [] h = evL 128 10 [l0, l1, l2] [] h := ev_go c128_44 rfl
theorem c128_47 : cd 128 47 = some (47, .return_, 1, 0, 0, 0) := rfl
theorem s128_47 {l0 l1 l2 : AV} {h : AH} : evL 128 47 [l0, l1, l2] [] h = some (none, h) := e_ret c128_47 rfl
/-! 129: TankDiversModel.goBegin(II)I -/
theorem en129 {l0 l1 l2 : AV} {h : AH} : evM 129 [l0, l1, l2] h = evL 129 0 [l0, l1, l2, Db 0, Db 0, Db 0, Db 0] [] h := rfl
theorem c129_0 : cd 129 0 = some (0, .aload_n 0, 1, 0, 0, 0) := rfl
theorem s129_0 {l1 l2 l3 l4 l5 l6 : AV} {l0 : Option Nat} {h : AH} : evL 129 0 [.inr (.inl l0), l1, l2, l3, l4, l5, l6] [] h = evL 129 1 [.inr (.inl l0), l1, l2, l3, l4, l5, l6] [.inr (.inl l0)] h := ev_go c129_0 rfl
theorem c129_1 : cd 129 1 = some (1, .getfield 7, 3, 8, 0, 725) := rfl
theorem s129_1 {l0 l1 l2 l3 l4 l5 l6 : AV} {s0 : Nat} {M : Mem} {P : PMem} (hk : kd s0 = 8) : evL 129 1 [l0, l1, l2, l3, l4, l5, l6] [Rf s0] (Hp M P) = evL 129 4 [l0, l1, l2, l3, l4, l5, l6] [Rf (rfd s0 0)] (Hp M P) := e_getR c129_1 rfl hk
theorem c129_4 : cd 129 4 = some (4, .bipush 7, 2, 0, 0, 0) := rfl
theorem s129_4 {l0 l1 l2 l3 l4 l5 l6 s0 : AV} {h : AH} : evL 129 4 [l0, l1, l2, l3, l4, l5, l6] [s0] h = evL 129 6 [l0, l1, l2, l3, l4, l5, l6] [I 7, s0] h := ev_go c129_4 rfl
theorem c129_6 : cd 129 6 = some (6, .iaload, 1, 0, 0, 0) := rfl
theorem s129_6 {l0 l1 l2 l3 l4 l5 l6 : AV} {s0 : Int} {s1 : Nat} {M : Mem} {P : PMem} (hk : kd s1 = 100) (h0 : 0 ≤ s0) (hn : s0.toNat < ln s1) : evL 129 6 [l0, l1, l2, l3, l4, l5, l6] [I s0, Rf s1] (Hp M P) = evL 129 7 [l0, l1, l2, l3, l4, l5, l6] [I (M s1 s0.toNat)] (Hp M P) := e_iald c129_6 hk h0 hn
theorem c129_7 : cd 129 7 = some (7, .istore_n 3, 1, 0, 0, 0) := rfl
theorem s129_7 {l0 l1 l2 l3 l4 l5 l6 : AV} {s0 : Int} {h : AH} : evL 129 7 [l0, l1, l2, l3, l4, l5, l6] [I s0] h = evL 129 8 [l0, l1, l2, I s0, l4, l5, l6] [] h := ev_go c129_7 rfl
theorem c129_8 : cd 129 8 = some (8, .iconst 0, 1, 0, 0, 0) := rfl
theorem s129_8 {l0 l1 l2 l3 l4 l5 l6 : AV} {h : AH} : evL 129 8 [l0, l1, l2, l3, l4, l5, l6] [] h = evL 129 9 [l0, l1, l2, l3, l4, l5, l6] [I 0] h := ev_go c129_8 rfl
theorem c129_9 : cd 129 9 = some (9, .istore 4, 2, 0, 0, 0) := rfl
theorem s129_9 {l0 l1 l2 l3 l4 l5 l6 : AV} {s0 : Int} {h : AH} : evL 129 9 [l0, l1, l2, l3, l4, l5, l6] [I s0] h = evL 129 11 [l0, l1, l2, l3, I s0, l5, l6] [] h := ev_go c129_9 rfl
theorem c129_11 : cd 129 11 = some (11, .iload 4, 2, 0, 0, 0) := rfl
theorem s129_11 {l0 l1 l2 l3 l5 l6 : AV} {l4 : Int} {h : AH} : evL 129 11 [l0, l1, l2, l3, I l4, l5, l6] [] h = evL 129 13 [l0, l1, l2, l3, I l4, l5, l6] [I l4] h := ev_go c129_11 rfl
theorem c129_13 : cd 129 13 = some (13, .bipush 77, 2, 0, 0, 0) := rfl
theorem s129_13 {l0 l1 l2 l3 l4 l5 l6 s0 : AV} {h : AH} : evL 129 13 [l0, l1, l2, l3, l4, l5, l6] [s0] h = evL 129 15 [l0, l1, l2, l3, l4, l5, l6] [I 77, s0] h := ev_go c129_13 rfl
theorem c129_15 : cd 129 15 = some (15, .if_icmp .ge 17, 3, 0, 0, 0) := rfl
theorem s129_15 {l0 l1 l2 l3 l4 l5 l6 : AV} {s0 s1 : Int} {h : AH} : evL 129 15 [l0, l1, l2, l3, l4, l5, l6] [I s0, I s1] h = if s0 ≤ s1 then evL 129 32 [l0, l1, l2, l3, l4, l5, l6] [] h else evL 129 18 [l0, l1, l2, l3, l4, l5, l6] [] h := e_icmp_ge c129_15 rfl rfl
theorem c129_18 : cd 129 18 = some (18, .aload_n 0, 1, 0, 0, 0) := rfl
theorem s129_18 {l1 l2 l3 l4 l5 l6 : AV} {l0 : Option Nat} {h : AH} : evL 129 18 [.inr (.inl l0), l1, l2, l3, l4, l5, l6] [] h = evL 129 19 [.inr (.inl l0), l1, l2, l3, l4, l5, l6] [.inr (.inl l0)] h := ev_go c129_18 rfl
theorem c129_19 : cd 129 19 = some (19, .getfield 7, 3, 8, 0, 725) := rfl
theorem s129_19 {l0 l1 l2 l3 l4 l5 l6 : AV} {s0 : Nat} {M : Mem} {P : PMem} (hk : kd s0 = 8) : evL 129 19 [l0, l1, l2, l3, l4, l5, l6] [Rf s0] (Hp M P) = evL 129 22 [l0, l1, l2, l3, l4, l5, l6] [Rf (rfd s0 0)] (Hp M P) := e_getR c129_19 rfl hk
theorem c129_22 : cd 129 22 = some (22, .iload 4, 2, 0, 0, 0) := rfl
theorem s129_22 {l0 l1 l2 l3 l5 l6 s0 : AV} {l4 : Int} {h : AH} : evL 129 22 [l0, l1, l2, l3, I l4, l5, l6] [s0] h = evL 129 24 [l0, l1, l2, l3, I l4, l5, l6] [I l4, s0] h := ev_go c129_22 rfl
theorem c129_24 : cd 129 24 = some (24, .iconst 0, 1, 0, 0, 0) := rfl
theorem s129_24 {l0 l1 l2 l3 l4 l5 l6 s0 s1 : AV} {h : AH} : evL 129 24 [l0, l1, l2, l3, l4, l5, l6] [s0, s1] h = evL 129 25 [l0, l1, l2, l3, l4, l5, l6] [I 0, s0, s1] h := ev_go c129_24 rfl
theorem c129_25 : cd 129 25 = some (25, .iastore, 1, 0, 0, 0) := rfl
theorem s129_25 {l0 l1 l2 l3 l4 l5 l6 : AV} {s0 s1 : Int} {s2 : Nat} {M : Mem} {P : PMem} (hk : kd s2 = 100) (h0 : 0 ≤ s1) (hn : s1.toNat < ln s2) : evL 129 25 [l0, l1, l2, l3, l4, l5, l6] [I s0, I s1, Rf s2] (Hp M P) = evL 129 26 [l0, l1, l2, l3, l4, l5, l6] [] (Hp (wr M s2 s1.toNat s0) P) := e_iast c129_25 hk h0 hn
theorem c129_26 : cd 129 26 = some (26, .iinc 4 1, 3, 0, 0, 0) := rfl
theorem s129_26 {l0 l1 l2 l3 l5 l6 : AV} {l4 : Int} {h : AH} : evL 129 26 [l0, l1, l2, l3, I l4, l5, l6] [] h = evL 129 29 [l0, l1, l2, l3, I (ad l4 1), l5, l6] [] h := ev_go c129_26 rfl
theorem c129_29 : cd 129 29 = some (29, .goto (-18), 3, 0, 0, 0) := rfl
theorem s129_29 {l0 l1 l2 l3 l4 l5 l6 : AV} {h : AH} : evL 129 29 [l0, l1, l2, l3, l4, l5, l6] [] h = evL 129 11 [l0, l1, l2, l3, l4, l5, l6] [] h := ev_go c129_29 rfl
theorem c129_32 : cd 129 32 = some (32, .aload_n 0, 1, 0, 0, 0) := rfl
theorem s129_32 {l1 l2 l3 l4 l5 l6 : AV} {l0 : Option Nat} {h : AH} : evL 129 32 [.inr (.inl l0), l1, l2, l3, l4, l5, l6] [] h = evL 129 33 [.inr (.inl l0), l1, l2, l3, l4, l5, l6] [.inr (.inl l0)] h := ev_go c129_32 rfl
theorem c129_33 : cd 129 33 = some (33, .getfield 7, 3, 8, 0, 725) := rfl
theorem s129_33 {l0 l1 l2 l3 l4 l5 l6 : AV} {s0 : Nat} {M : Mem} {P : PMem} (hk : kd s0 = 8) : evL 129 33 [l0, l1, l2, l3, l4, l5, l6] [Rf s0] (Hp M P) = evL 129 36 [l0, l1, l2, l3, l4, l5, l6] [Rf (rfd s0 0)] (Hp M P) := e_getR c129_33 rfl hk
theorem c129_36 : cd 129 36 = some (36, .bipush 7, 2, 0, 0, 0) := rfl
theorem s129_36 {l0 l1 l2 l3 l4 l5 l6 s0 : AV} {h : AH} : evL 129 36 [l0, l1, l2, l3, l4, l5, l6] [s0] h = evL 129 38 [l0, l1, l2, l3, l4, l5, l6] [I 7, s0] h := ev_go c129_36 rfl
theorem c129_38 : cd 129 38 = some (38, .iload_n 3, 1, 0, 0, 0) := rfl
theorem s129_38 {l0 l1 l2 l4 l5 l6 s0 s1 : AV} {l3 : Int} {h : AH} : evL 129 38 [l0, l1, l2, I l3, l4, l5, l6] [s0, s1] h = evL 129 39 [l0, l1, l2, I l3, l4, l5, l6] [I l3, s0, s1] h := ev_go c129_38 rfl
theorem c129_39 : cd 129 39 = some (39, .iastore, 1, 0, 0, 0) := rfl
theorem s129_39 {l0 l1 l2 l3 l4 l5 l6 : AV} {s0 s1 : Int} {s2 : Nat} {M : Mem} {P : PMem} (hk : kd s2 = 100) (h0 : 0 ≤ s1) (hn : s1.toNat < ln s2) : evL 129 39 [l0, l1, l2, l3, l4, l5, l6] [I s0, I s1, Rf s2] (Hp M P) = evL 129 40 [l0, l1, l2, l3, l4, l5, l6] [] (Hp (wr M s2 s1.toNat s0) P) := e_iast c129_39 hk h0 hn
theorem c129_40 : cd 129 40 = some (40, .aload_n 0, 1, 0, 0, 0) := rfl
theorem s129_40 {l1 l2 l3 l4 l5 l6 : AV} {l0 : Option Nat} {h : AH} : evL 129 40 [.inr (.inl l0), l1, l2, l3, l4, l5, l6] [] h = evL 129 41 [.inr (.inl l0), l1, l2, l3, l4, l5, l6] [.inr (.inl l0)] h := ev_go c129_40 rfl
theorem c129_41 : cd 129 41 = some (41, .getfield 7, 3, 8, 0, 725) := rfl
theorem s129_41 {l0 l1 l2 l3 l4 l5 l6 : AV} {s0 : Nat} {M : Mem} {P : PMem} (hk : kd s0 = 8) : evL 129 41 [l0, l1, l2, l3, l4, l5, l6] [Rf s0] (Hp M P) = evL 129 44 [l0, l1, l2, l3, l4, l5, l6] [Rf (rfd s0 0)] (Hp M P) := e_getR c129_41 rfl hk
theorem c129_44 : cd 129 44 = some (44, .iconst 0, 1, 0, 0, 0) := rfl
theorem s129_44 {l0 l1 l2 l3 l4 l5 l6 s0 : AV} {h : AH} : evL 129 44 [l0, l1, l2, l3, l4, l5, l6] [s0] h = evL 129 45 [l0, l1, l2, l3, l4, l5, l6] [I 0, s0] h := ev_go c129_44 rfl
theorem c129_45 : cd 129 45 = some (45, .iload_n 1, 1, 0, 0, 0) := rfl
theorem s129_45 {l0 l2 l3 l4 l5 l6 s0 s1 : AV} {l1 : Int} {h : AH} : evL 129 45 [l0, I l1, l2, l3, l4, l5, l6] [s0, s1] h = evL 129 46 [l0, I l1, l2, l3, l4, l5, l6] [I l1, s0, s1] h := ev_go c129_45 rfl
theorem c129_46 : cd 129 46 = some (46, .iastore, 1, 0, 0, 0) := rfl
theorem s129_46 {l0 l1 l2 l3 l4 l5 l6 : AV} {s0 s1 : Int} {s2 : Nat} {M : Mem} {P : PMem} (hk : kd s2 = 100) (h0 : 0 ≤ s1) (hn : s1.toNat < ln s2) : evL 129 46 [l0, l1, l2, l3, l4, l5, l6] [I s0, I s1, Rf s2] (Hp M P) = evL 129 47 [l0, l1, l2, l3, l4, l5, l6] [] (Hp (wr M s2 s1.toNat s0) P) := e_iast c129_46 hk h0 hn
theorem c129_47 : cd 129 47 = some (47, .aload_n 0, 1, 0, 0, 0) := rfl
theorem s129_47 {l1 l2 l3 l4 l5 l6 : AV} {l0 : Option Nat} {h : AH} : evL 129 47 [.inr (.inl l0), l1, l2, l3, l4, l5, l6] [] h = evL 129 48 [.inr (.inl l0), l1, l2, l3, l4, l5, l6] [.inr (.inl l0)] h := ev_go c129_47 rfl
theorem c129_48 : cd 129 48 = some (48, .getfield 7, 3, 8, 0, 725) := rfl
theorem s129_48 {l0 l1 l2 l3 l4 l5 l6 : AV} {s0 : Nat} {M : Mem} {P : PMem} (hk : kd s0 = 8) : evL 129 48 [l0, l1, l2, l3, l4, l5, l6] [Rf s0] (Hp M P) = evL 129 51 [l0, l1, l2, l3, l4, l5, l6] [Rf (rfd s0 0)] (Hp M P) := e_getR c129_48 rfl hk
theorem c129_51 : cd 129 51 = some (51, .iconst 5, 1, 0, 0, 0) := rfl
theorem s129_51 {l0 l1 l2 l3 l4 l5 l6 s0 : AV} {h : AH} : evL 129 51 [l0, l1, l2, l3, l4, l5, l6] [s0] h = evL 129 52 [l0, l1, l2, l3, l4, l5, l6] [I 5, s0] h := ev_go c129_51 rfl
theorem c129_52 : cd 129 52 = some (52, .iload_n 2, 1, 0, 0, 0) := rfl
theorem s129_52 {l0 l1 l3 l4 l5 l6 s0 s1 : AV} {l2 : Int} {h : AH} : evL 129 52 [l0, l1, I l2, l3, l4, l5, l6] [s0, s1] h = evL 129 53 [l0, l1, I l2, l3, l4, l5, l6] [I l2, s0, s1] h := ev_go c129_52 rfl
theorem c129_53 : cd 129 53 = some (53, .iastore, 1, 0, 0, 0) := rfl
theorem s129_53 {l0 l1 l2 l3 l4 l5 l6 : AV} {s0 s1 : Int} {s2 : Nat} {M : Mem} {P : PMem} (hk : kd s2 = 100) (h0 : 0 ≤ s1) (hn : s1.toNat < ln s2) : evL 129 53 [l0, l1, l2, l3, l4, l5, l6] [I s0, I s1, Rf s2] (Hp M P) = evL 129 54 [l0, l1, l2, l3, l4, l5, l6] [] (Hp (wr M s2 s1.toNat s0) P) := e_iast c129_53 hk h0 hn
theorem c129_54 : cd 129 54 = some (54, .aload_n 0, 1, 0, 0, 0) := rfl
theorem s129_54 {l1 l2 l3 l4 l5 l6 : AV} {l0 : Option Nat} {h : AH} : evL 129 54 [.inr (.inl l0), l1, l2, l3, l4, l5, l6] [] h = evL 129 55 [.inr (.inl l0), l1, l2, l3, l4, l5, l6] [.inr (.inl l0)] h := ev_go c129_54 rfl
theorem c129_55 : cd 129 55 = some (55, .getfield 7, 3, 8, 0, 725) := rfl
theorem s129_55 {l0 l1 l2 l3 l4 l5 l6 : AV} {s0 : Nat} {M : Mem} {P : PMem} (hk : kd s0 = 8) : evL 129 55 [l0, l1, l2, l3, l4, l5, l6] [Rf s0] (Hp M P) = evL 129 58 [l0, l1, l2, l3, l4, l5, l6] [Rf (rfd s0 0)] (Hp M P) := e_getR c129_55 rfl hk
theorem c129_58 : cd 129 58 = some (58, .bipush 8, 2, 0, 0, 0) := rfl
theorem s129_58 {l0 l1 l2 l3 l4 l5 l6 s0 : AV} {h : AH} : evL 129 58 [l0, l1, l2, l3, l4, l5, l6] [s0] h = evL 129 60 [l0, l1, l2, l3, l4, l5, l6] [I 8, s0] h := ev_go c129_58 rfl
theorem c129_60 : cd 129 60 = some (60, .bipush 16, 2, 0, 0, 0) := rfl
theorem s129_60 {l0 l1 l2 l3 l4 l5 l6 s0 s1 : AV} {h : AH} : evL 129 60 [l0, l1, l2, l3, l4, l5, l6] [s0, s1] h = evL 129 62 [l0, l1, l2, l3, l4, l5, l6] [I 16, s0, s1] h := ev_go c129_60 rfl
theorem c129_62 : cd 129 62 = some (62, .iastore, 1, 0, 0, 0) := rfl
theorem s129_62 {l0 l1 l2 l3 l4 l5 l6 : AV} {s0 s1 : Int} {s2 : Nat} {M : Mem} {P : PMem} (hk : kd s2 = 100) (h0 : 0 ≤ s1) (hn : s1.toNat < ln s2) : evL 129 62 [l0, l1, l2, l3, l4, l5, l6] [I s0, I s1, Rf s2] (Hp M P) = evL 129 63 [l0, l1, l2, l3, l4, l5, l6] [] (Hp (wr M s2 s1.toNat s0) P) := e_iast c129_62 hk h0 hn
theorem c129_63 : cd 129 63 = some (63, .iconst 0, 1, 0, 0, 0) := rfl
theorem s129_63 {l0 l1 l2 l3 l4 l5 l6 : AV} {h : AH} : evL 129 63 [l0, l1, l2, l3, l4, l5, l6] [] h = evL 129 64 [l0, l1, l2, l3, l4, l5, l6] [I 0] h := ev_go c129_63 rfl
theorem c129_64 : cd 129 64 = some (64, .istore 4, 2, 0, 0, 0) := rfl
theorem s129_64 {l0 l1 l2 l3 l4 l5 l6 : AV} {s0 : Int} {h : AH} : evL 129 64 [l0, l1, l2, l3, l4, l5, l6] [I s0] h = evL 129 66 [l0, l1, l2, l3, I s0, l5, l6] [] h := ev_go c129_64 rfl
theorem c129_66 : cd 129 66 = some (66, .iconst 0, 1, 0, 0, 0) := rfl
theorem s129_66 {l0 l1 l2 l3 l4 l5 l6 : AV} {h : AH} : evL 129 66 [l0, l1, l2, l3, l4, l5, l6] [] h = evL 129 67 [l0, l1, l2, l3, l4, l5, l6] [I 0] h := ev_go c129_66 rfl
theorem c129_67 : cd 129 67 = some (67, .istore 5, 2, 0, 0, 0) := rfl
theorem s129_67 {l0 l1 l2 l3 l4 l5 l6 : AV} {s0 : Int} {h : AH} : evL 129 67 [l0, l1, l2, l3, l4, l5, l6] [I s0] h = evL 129 69 [l0, l1, l2, l3, l4, I s0, l6] [] h := ev_go c129_67 rfl
theorem c129_69 : cd 129 69 = some (69, .iload 5, 2, 0, 0, 0) := rfl
theorem s129_69 {l0 l1 l2 l3 l4 l6 : AV} {l5 : Int} {h : AH} : evL 129 69 [l0, l1, l2, l3, l4, I l5, l6] [] h = evL 129 71 [l0, l1, l2, l3, l4, I l5, l6] [I l5] h := ev_go c129_69 rfl
theorem c129_71 : cd 129 71 = some (71, .bipush 16, 2, 0, 0, 0) := rfl
theorem s129_71 {l0 l1 l2 l3 l4 l5 l6 s0 : AV} {h : AH} : evL 129 71 [l0, l1, l2, l3, l4, l5, l6] [s0] h = evL 129 73 [l0, l1, l2, l3, l4, l5, l6] [I 16, s0] h := ev_go c129_71 rfl
theorem c129_73 : cd 129 73 = some (73, .if_icmp .ge 45, 3, 0, 0, 0) := rfl
theorem s129_73 {l0 l1 l2 l3 l4 l5 l6 : AV} {s0 s1 : Int} {h : AH} : evL 129 73 [l0, l1, l2, l3, l4, l5, l6] [I s0, I s1] h = if s0 ≤ s1 then evL 129 118 [l0, l1, l2, l3, l4, l5, l6] [] h else evL 129 76 [l0, l1, l2, l3, l4, l5, l6] [] h := e_icmp_ge c129_73 rfl rfl
theorem c129_76 : cd 129 76 = some (76, .iconst 4, 1, 0, 0, 0) := rfl
theorem s129_76 {l0 l1 l2 l3 l4 l5 l6 : AV} {h : AH} : evL 129 76 [l0, l1, l2, l3, l4, l5, l6] [] h = evL 129 77 [l0, l1, l2, l3, l4, l5, l6] [I 4] h := ev_go c129_76 rfl
theorem c129_77 : cd 129 77 = some (77, .iload 5, 2, 0, 0, 0) := rfl
theorem s129_77 {l0 l1 l2 l3 l4 l6 s0 : AV} {l5 : Int} {h : AH} : evL 129 77 [l0, l1, l2, l3, l4, I l5, l6] [s0] h = evL 129 79 [l0, l1, l2, l3, l4, I l5, l6] [I l5, s0] h := ev_go c129_77 rfl
theorem c129_79 : cd 129 79 = some (79, .iconst 4, 1, 0, 0, 0) := rfl
theorem s129_79 {l0 l1 l2 l3 l4 l5 l6 s0 s1 : AV} {h : AH} : evL 129 79 [l0, l1, l2, l3, l4, l5, l6] [s0, s1] h = evL 129 80 [l0, l1, l2, l3, l4, l5, l6] [I 4, s0, s1] h := ev_go c129_79 rfl
theorem c129_80 : cd 129 80 = some (80, .idiv, 1, 0, 0, 0) := rfl
theorem s129_80 {l0 l1 l2 l3 l4 l5 l6 s2 : AV} {s0 s1 : Int} {h : AH} (hd : s0 ≠ 0) : evL 129 80 [l0, l1, l2, l3, l4, l5, l6] [I s0, I s1, s2] h = evL 129 81 [l0, l1, l2, l3, l4, l5, l6] [I (dv s1 s0), s2] h := ev_go c129_80 (if_pos hd)
theorem c129_81 : cd 129 81 = some (81, .imul, 1, 0, 0, 0) := rfl
theorem s129_81 {l0 l1 l2 l3 l4 l5 l6 : AV} {s0 s1 : Int} {h : AH} : evL 129 81 [l0, l1, l2, l3, l4, l5, l6] [I s0, I s1] h = evL 129 82 [l0, l1, l2, l3, l4, l5, l6] [I (ml s1 s0)] h := ev_go c129_81 rfl
theorem c129_82 : cd 129 82 = some (82, .aload_n 0, 1, 0, 0, 0) := rfl
theorem s129_82 {l1 l2 l3 l4 l5 l6 s0 : AV} {l0 : Option Nat} {h : AH} : evL 129 82 [.inr (.inl l0), l1, l2, l3, l4, l5, l6] [s0] h = evL 129 83 [.inr (.inl l0), l1, l2, l3, l4, l5, l6] [.inr (.inl l0), s0] h := ev_go c129_82 rfl
theorem c129_83 : cd 129 83 = some (83, .invokevirtual 73, 3, 127, 0, 713) := rfl
theorem s129_83 {l0 l1 l2 l3 l4 l5 l6 s1 : AV} {s0 : Nat} {M : Mem} {P : PMem} (hk : kd s0 = 8) : evL 129 83 [l0, l1, l2, l3, l4, l5, l6] [Rf s0, s1] (Hp M P) = cont (evM 127 [Rf s0] (Hp M P)) (fun r h => evL 129 86 [l0, l1, l2, l3, l4, l5, l6] (rl r [s1]) h) := e_callV (av' := []) (rest := [s1]) (c := 8) c129_83 rfl rfl rfl rfl rfl rfl rfl hk rfl
theorem c129_86 : cd 129 86 = some (86, .iconst 4, 1, 0, 0, 0) := rfl
theorem s129_86 {l0 l1 l2 l3 l4 l5 l6 s0 s1 : AV} {h : AH} : evL 129 86 [l0, l1, l2, l3, l4, l5, l6] [s0, s1] h = evL 129 87 [l0, l1, l2, l3, l4, l5, l6] [I 4, s0, s1] h := ev_go c129_86 rfl
theorem c129_87 : cd 129 87 = some (87, .irem, 1, 0, 0, 0) := rfl
theorem s129_87 {l0 l1 l2 l3 l4 l5 l6 s2 : AV} {s0 s1 : Int} {h : AH} (hd : s0 ≠ 0) : evL 129 87 [l0, l1, l2, l3, l4, l5, l6] [I s0, I s1, s2] h = evL 129 88 [l0, l1, l2, l3, l4, l5, l6] [I (rm s1 s0), s2] h := ev_go c129_87 (if_pos hd)
theorem c129_88 : cd 129 88 = some (88, .iadd, 1, 0, 0, 0) := rfl
theorem s129_88 {l0 l1 l2 l3 l4 l5 l6 : AV} {s0 s1 : Int} {h : AH} : evL 129 88 [l0, l1, l2, l3, l4, l5, l6] [I s0, I s1] h = evL 129 89 [l0, l1, l2, l3, l4, l5, l6] [I (ad s1 s0)] h := ev_go c129_88 rfl
theorem c129_89 : cd 129 89 = some (89, .istore 6, 2, 0, 0, 0) := rfl
theorem s129_89 {l0 l1 l2 l3 l4 l5 l6 : AV} {s0 : Int} {h : AH} : evL 129 89 [l0, l1, l2, l3, l4, l5, l6] [I s0] h = evL 129 91 [l0, l1, l2, l3, l4, l5, I s0] [] h := ev_go c129_89 rfl
theorem c129_91 : cd 129 91 = some (91, .aload_n 0, 1, 0, 0, 0) := rfl
theorem s129_91 {l1 l2 l3 l4 l5 l6 : AV} {l0 : Option Nat} {h : AH} : evL 129 91 [.inr (.inl l0), l1, l2, l3, l4, l5, l6] [] h = evL 129 92 [.inr (.inl l0), l1, l2, l3, l4, l5, l6] [.inr (.inl l0)] h := ev_go c129_91 rfl
theorem c129_92 : cd 129 92 = some (92, .getfield 7, 3, 8, 0, 725) := rfl
theorem s129_92 {l0 l1 l2 l3 l4 l5 l6 : AV} {s0 : Nat} {M : Mem} {P : PMem} (hk : kd s0 = 8) : evL 129 92 [l0, l1, l2, l3, l4, l5, l6] [Rf s0] (Hp M P) = evL 129 95 [l0, l1, l2, l3, l4, l5, l6] [Rf (rfd s0 0)] (Hp M P) := e_getR c129_92 rfl hk
theorem c129_95 : cd 129 95 = some (95, .bipush 9, 2, 0, 0, 0) := rfl
theorem s129_95 {l0 l1 l2 l3 l4 l5 l6 s0 : AV} {h : AH} : evL 129 95 [l0, l1, l2, l3, l4, l5, l6] [s0] h = evL 129 97 [l0, l1, l2, l3, l4, l5, l6] [I 9, s0] h := ev_go c129_95 rfl
theorem c129_97 : cd 129 97 = some (97, .iload 5, 2, 0, 0, 0) := rfl
theorem s129_97 {l0 l1 l2 l3 l4 l6 s0 s1 : AV} {l5 : Int} {h : AH} : evL 129 97 [l0, l1, l2, l3, l4, I l5, l6] [s0, s1] h = evL 129 99 [l0, l1, l2, l3, l4, I l5, l6] [I l5, s0, s1] h := ev_go c129_97 rfl
theorem c129_99 : cd 129 99 = some (99, .iadd, 1, 0, 0, 0) := rfl
theorem s129_99 {l0 l1 l2 l3 l4 l5 l6 s2 : AV} {s0 s1 : Int} {h : AH} : evL 129 99 [l0, l1, l2, l3, l4, l5, l6] [I s0, I s1, s2] h = evL 129 100 [l0, l1, l2, l3, l4, l5, l6] [I (ad s1 s0), s2] h := ev_go c129_99 rfl
theorem c129_100 : cd 129 100 = some (100, .iload 6, 2, 0, 0, 0) := rfl
theorem s129_100 {l0 l1 l2 l3 l4 l5 s0 s1 : AV} {l6 : Int} {h : AH} : evL 129 100 [l0, l1, l2, l3, l4, l5, I l6] [s0, s1] h = evL 129 102 [l0, l1, l2, l3, l4, l5, I l6] [I l6, s0, s1] h := ev_go c129_100 rfl
theorem c129_102 : cd 129 102 = some (102, .iconst 1, 1, 0, 0, 0) := rfl
theorem s129_102 {l0 l1 l2 l3 l4 l5 l6 s0 s1 s2 : AV} {h : AH} : evL 129 102 [l0, l1, l2, l3, l4, l5, l6] [s0, s1, s2] h = evL 129 103 [l0, l1, l2, l3, l4, l5, l6] [I 1, s0, s1, s2] h := ev_go c129_102 rfl
theorem c129_103 : cd 129 103 = some (103, .iadd, 1, 0, 0, 0) := rfl
theorem s129_103 {l0 l1 l2 l3 l4 l5 l6 s2 s3 : AV} {s0 s1 : Int} {h : AH} : evL 129 103 [l0, l1, l2, l3, l4, l5, l6] [I s0, I s1, s2, s3] h = evL 129 104 [l0, l1, l2, l3, l4, l5, l6] [I (ad s1 s0), s2, s3] h := ev_go c129_103 rfl
theorem c129_104 : cd 129 104 = some (104, .iastore, 1, 0, 0, 0) := rfl
theorem s129_104 {l0 l1 l2 l3 l4 l5 l6 : AV} {s0 s1 : Int} {s2 : Nat} {M : Mem} {P : PMem} (hk : kd s2 = 100) (h0 : 0 ≤ s1) (hn : s1.toNat < ln s2) : evL 129 104 [l0, l1, l2, l3, l4, l5, l6] [I s0, I s1, Rf s2] (Hp M P) = evL 129 105 [l0, l1, l2, l3, l4, l5, l6] [] (Hp (wr M s2 s1.toNat s0) P) := e_iast c129_104 hk h0 hn
theorem c129_105 : cd 129 105 = some (105, .iload 4, 2, 0, 0, 0) := rfl
theorem s129_105 {l0 l1 l2 l3 l5 l6 : AV} {l4 : Int} {h : AH} : evL 129 105 [l0, l1, l2, l3, I l4, l5, l6] [] h = evL 129 107 [l0, l1, l2, l3, I l4, l5, l6] [I l4] h := ev_go c129_105 rfl
theorem c129_107 : cd 129 107 = some (107, .iload 6, 2, 0, 0, 0) := rfl
theorem s129_107 {l0 l1 l2 l3 l4 l5 s0 : AV} {l6 : Int} {h : AH} : evL 129 107 [l0, l1, l2, l3, l4, l5, I l6] [s0] h = evL 129 109 [l0, l1, l2, l3, l4, l5, I l6] [I l6, s0] h := ev_go c129_107 rfl
theorem c129_109 : cd 129 109 = some (109, .iadd, 1, 0, 0, 0) := rfl
theorem s129_109 {l0 l1 l2 l3 l4 l5 l6 : AV} {s0 s1 : Int} {h : AH} : evL 129 109 [l0, l1, l2, l3, l4, l5, l6] [I s0, I s1] h = evL 129 110 [l0, l1, l2, l3, l4, l5, l6] [I (ad s1 s0)] h := ev_go c129_109 rfl
theorem c129_110 : cd 129 110 = some (110, .istore 4, 2, 0, 0, 0) := rfl
theorem s129_110 {l0 l1 l2 l3 l4 l5 l6 : AV} {s0 : Int} {h : AH} : evL 129 110 [l0, l1, l2, l3, l4, l5, l6] [I s0] h = evL 129 112 [l0, l1, l2, l3, I s0, l5, l6] [] h := ev_go c129_110 rfl
theorem c129_112 : cd 129 112 = some (112, .iinc 5 1, 3, 0, 0, 0) := rfl
theorem s129_112 {l0 l1 l2 l3 l4 l6 : AV} {l5 : Int} {h : AH} : evL 129 112 [l0, l1, l2, l3, l4, I l5, l6] [] h = evL 129 115 [l0, l1, l2, l3, l4, I (ad l5 1), l6] [] h := ev_go c129_112 rfl
theorem c129_115 : cd 129 115 = some (115, .goto (-46), 3, 0, 0, 0) := rfl
theorem s129_115 {l0 l1 l2 l3 l4 l5 l6 : AV} {h : AH} : evL 129 115 [l0, l1, l2, l3, l4, l5, l6] [] h = evL 129 69 [l0, l1, l2, l3, l4, l5, l6] [] h := ev_go c129_115 rfl
theorem c129_118 : cd 129 118 = some (118, .aload_n 0, 1, 0, 0, 0) := rfl
theorem s129_118 {l1 l2 l3 l4 l5 l6 : AV} {l0 : Option Nat} {h : AH} : evL 129 118 [.inr (.inl l0), l1, l2, l3, l4, l5, l6] [] h = evL 129 119 [.inr (.inl l0), l1, l2, l3, l4, l5, l6] [.inr (.inl l0)] h := ev_go c129_118 rfl
theorem c129_119 : cd 129 119 = some (119, .invokevirtual 77, 3, 128, 0, 717) := rfl
theorem s129_119 {l0 l1 l2 l3 l4 l5 l6 : AV} {s0 : Nat} {M : Mem} {P : PMem} (hk : kd s0 = 8) : evL 129 119 [l0, l1, l2, l3, l4, l5, l6] [Rf s0] (Hp M P) = cont (evM 128 [Rf s0] (Hp M P)) (fun r h => evL 129 122 [l0, l1, l2, l3, l4, l5, l6] (rl r []) h) := e_callV (av' := []) (rest := []) (c := 8) c129_119 rfl rfl rfl rfl rfl rfl rfl hk rfl
theorem c129_122 : cd 129 122 = some (122, .iload 4, 2, 0, 0, 0) := rfl
theorem s129_122 {l0 l1 l2 l3 l5 l6 : AV} {l4 : Int} {h : AH} : evL 129 122 [l0, l1, l2, l3, I l4, l5, l6] [] h = evL 129 124 [l0, l1, l2, l3, I l4, l5, l6] [I l4] h := ev_go c129_122 rfl
theorem c129_124 : cd 129 124 = some (124, .ireturn, 1, 0, 0, 0) := rfl
theorem s129_124 {l0 l1 l2 l3 l4 l5 l6 : AV} {s0 : Int} {h : AH} : evL 129 124 [l0, l1, l2, l3, l4, l5, l6] [I s0] h = some (some (I s0), h) := e_ret c129_124 rfl
/-! 130: TankDiversModel.refuses(I)I -/
theorem en130 {l0 l1 : AV} {h : AH} : evM 130 [l0, l1] h = evL 130 0 [l0, l1] [] h := rfl
theorem c130_0 : cd 130 0 = some (0, .aload_n 0, 1, 0, 0, 0) := rfl
theorem s130_0 {l1 : AV} {l0 : Option Nat} {h : AH} : evL 130 0 [.inr (.inl l0), l1] [] h = evL 130 1 [.inr (.inl l0), l1] [.inr (.inl l0)] h := ev_go c130_0 rfl
theorem c130_1 : cd 130 1 = some (1, .getfield 7, 3, 8, 0, 725) := rfl
theorem s130_1 {l0 l1 : AV} {s0 : Nat} {M : Mem} {P : PMem} (hk : kd s0 = 8) : evL 130 1 [l0, l1] [Rf s0] (Hp M P) = evL 130 4 [l0, l1] [Rf (rfd s0 0)] (Hp M P) := e_getR c130_1 rfl hk
theorem c130_4 : cd 130 4 = some (4, .bipush 7, 2, 0, 0, 0) := rfl
theorem s130_4 {l0 l1 s0 : AV} {h : AH} : evL 130 4 [l0, l1] [s0] h = evL 130 6 [l0, l1] [I 7, s0] h := ev_go c130_4 rfl
theorem c130_6 : cd 130 6 = some (6, .dup2, 1, 0, 0, 0) := rfl
theorem s130_6 {l0 l1 : AV} {s0 : Int} {s1 : Option Nat} {h : AH} : evL 130 6 [l0, l1] [I s0, .inr (.inl s1)] h = evL 130 7 [l0, l1] [I s0, .inr (.inl s1), I s0, .inr (.inl s1)] h := ev_go c130_6 rfl
theorem c130_7 : cd 130 7 = some (7, .iaload, 1, 0, 0, 0) := rfl
theorem s130_7 {l0 l1 s2 s3 : AV} {s0 : Int} {s1 : Nat} {M : Mem} {P : PMem} (hk : kd s1 = 100) (h0 : 0 ≤ s0) (hn : s0.toNat < ln s1) : evL 130 7 [l0, l1] [I s0, Rf s1, s2, s3] (Hp M P) = evL 130 8 [l0, l1] [I (M s1 s0.toNat), s2, s3] (Hp M P) := e_iald c130_7 hk h0 hn
theorem c130_8 : cd 130 8 = some (8, .iconst 1, 1, 0, 0, 0) := rfl
theorem s130_8 {l0 l1 s0 s1 s2 : AV} {h : AH} : evL 130 8 [l0, l1] [s0, s1, s2] h = evL 130 9 [l0, l1] [I 1, s0, s1, s2] h := ev_go c130_8 rfl
theorem c130_9 : cd 130 9 = some (9, .iadd, 1, 0, 0, 0) := rfl
theorem s130_9 {l0 l1 s2 s3 : AV} {s0 s1 : Int} {h : AH} : evL 130 9 [l0, l1] [I s0, I s1, s2, s3] h = evL 130 10 [l0, l1] [I (ad s1 s0), s2, s3] h := ev_go c130_9 rfl
theorem c130_10 : cd 130 10 = some (10, .iastore, 1, 0, 0, 0) := rfl
theorem s130_10 {l0 l1 : AV} {s0 s1 : Int} {s2 : Nat} {M : Mem} {P : PMem} (hk : kd s2 = 100) (h0 : 0 ≤ s1) (hn : s1.toNat < ln s2) : evL 130 10 [l0, l1] [I s0, I s1, Rf s2] (Hp M P) = evL 130 11 [l0, l1] [] (Hp (wr M s2 s1.toNat s0) P) := e_iast c130_10 hk h0 hn
theorem c130_11 : cd 130 11 = some (11, .iload_n 1, 1, 0, 0, 0) := rfl
theorem s130_11 {l0 : AV} {l1 : Int} {h : AH} : evL 130 11 [l0, I l1] [] h = evL 130 12 [l0, I l1] [I l1] h := ev_go c130_11 rfl
theorem c130_12 : cd 130 12 = some (12, .ireturn, 1, 0, 0, 0) := rfl
theorem s130_12 {l0 l1 : AV} {s0 : Int} {h : AH} : evL 130 12 [l0, l1] [I s0] h = some (some (I s0), h) := e_ret c130_12 rfl
/-! 131: TankDiversModel.reasonMove(Z)I -/
theorem en131 {l0 l1 : AV} {h : AH} : evM 131 [l0, l1] h = evL 131 0 [l0, l1, Db 0] [] h := rfl
theorem c131_0 : cd 131 0 = some (0, .aload_n 0, 1, 0, 0, 0) := rfl
theorem s131_0 {l1 l2 : AV} {l0 : Option Nat} {h : AH} : evL 131 0 [.inr (.inl l0), l1, l2] [] h = evL 131 1 [.inr (.inl l0), l1, l2] [.inr (.inl l0)] h := ev_go c131_0 rfl
theorem c131_1 : cd 131 1 = some (1, .getfield 7, 3, 8, 0, 725) := rfl
theorem s131_1 {l0 l1 l2 : AV} {s0 : Nat} {M : Mem} {P : PMem} (hk : kd s0 = 8) : evL 131 1 [l0, l1, l2] [Rf s0] (Hp M P) = evL 131 4 [l0, l1, l2] [Rf (rfd s0 0)] (Hp M P) := e_getR c131_1 rfl hk
theorem c131_4 : cd 131 4 = some (4, .iconst 2, 1, 0, 0, 0) := rfl
theorem s131_4 {l0 l1 l2 s0 : AV} {h : AH} : evL 131 4 [l0, l1, l2] [s0] h = evL 131 5 [l0, l1, l2] [I 2, s0] h := ev_go c131_4 rfl
theorem c131_5 : cd 131 5 = some (5, .iaload, 1, 0, 0, 0) := rfl
theorem s131_5 {l0 l1 l2 : AV} {s0 : Int} {s1 : Nat} {M : Mem} {P : PMem} (hk : kd s1 = 100) (h0 : 0 ≤ s0) (hn : s0.toNat < ln s1) : evL 131 5 [l0, l1, l2] [I s0, Rf s1] (Hp M P) = evL 131 6 [l0, l1, l2] [I (M s1 s0.toNat)] (Hp M P) := e_iald c131_5 hk h0 hn
theorem c131_6 : cd 131 6 = some (6, .istore_n 2, 1, 0, 0, 0) := rfl
theorem s131_6 {l0 l1 l2 : AV} {s0 : Int} {h : AH} : evL 131 6 [l0, l1, l2] [I s0] h = evL 131 7 [l0, l1, I s0] [] h := ev_go c131_6 rfl
theorem c131_7 : cd 131 7 = some (7, .aload_n 0, 1, 0, 0, 0) := rfl
theorem s131_7 {l1 l2 : AV} {l0 : Option Nat} {h : AH} : evL 131 7 [.inr (.inl l0), l1, l2] [] h = evL 131 8 [.inr (.inl l0), l1, l2] [.inr (.inl l0)] h := ev_go c131_7 rfl
theorem c131_8 : cd 131 8 = some (8, .getfield 7, 3, 8, 0, 725) := rfl
theorem s131_8 {l0 l1 l2 : AV} {s0 : Nat} {M : Mem} {P : PMem} (hk : kd s0 = 8) : evL 131 8 [l0, l1, l2] [Rf s0] (Hp M P) = evL 131 11 [l0, l1, l2] [Rf (rfd s0 0)] (Hp M P) := e_getR c131_8 rfl hk
theorem c131_11 : cd 131 11 = some (11, .iconst 3, 1, 0, 0, 0) := rfl
theorem s131_11 {l0 l1 l2 s0 : AV} {h : AH} : evL 131 11 [l0, l1, l2] [s0] h = evL 131 12 [l0, l1, l2] [I 3, s0] h := ev_go c131_11 rfl
theorem c131_12 : cd 131 12 = some (12, .iaload, 1, 0, 0, 0) := rfl
theorem s131_12 {l0 l1 l2 : AV} {s0 : Int} {s1 : Nat} {M : Mem} {P : PMem} (hk : kd s1 = 100) (h0 : 0 ≤ s0) (hn : s0.toNat < ln s1) : evL 131 12 [l0, l1, l2] [I s0, Rf s1] (Hp M P) = evL 131 13 [l0, l1, l2] [I (M s1 s0.toNat)] (Hp M P) := e_iald c131_12 hk h0 hn
theorem c131_13 : cd 131 13 = some (13, .iconst 2, 1, 0, 0, 0) := rfl
theorem s131_13 {l0 l1 l2 s0 : AV} {h : AH} : evL 131 13 [l0, l1, l2] [s0] h = evL 131 14 [l0, l1, l2] [I 2, s0] h := ev_go c131_13 rfl
theorem c131_14 : cd 131 14 = some (14, .if_icmp .ne 7, 3, 0, 0, 0) := rfl
theorem s131_14 {l0 l1 l2 : AV} {s0 s1 : Int} {h : AH} : evL 131 14 [l0, l1, l2] [I s0, I s1] h = if s1 = s0 then evL 131 17 [l0, l1, l2] [] h else evL 131 21 [l0, l1, l2] [] h := e_icmp_ne c131_14 rfl rfl
theorem c131_17 : cd 131 17 = some (17, .iconst 1, 1, 0, 0, 0) := rfl
theorem s131_17 {l0 l1 l2 : AV} {h : AH} : evL 131 17 [l0, l1, l2] [] h = evL 131 18 [l0, l1, l2] [I 1] h := ev_go c131_17 rfl
theorem c131_18 : cd 131 18 = some (18, .goto 45, 3, 0, 0, 0) := rfl
theorem s131_18 {l0 l1 l2 s0 : AV} {h : AH} : evL 131 18 [l0, l1, l2] [s0] h = evL 131 63 [l0, l1, l2] [s0] h := ev_go c131_18 rfl
theorem c131_21 : cd 131 21 = some (21, .aload_n 0, 1, 0, 0, 0) := rfl
theorem s131_21 {l1 l2 : AV} {l0 : Option Nat} {h : AH} : evL 131 21 [.inr (.inl l0), l1, l2] [] h = evL 131 22 [.inr (.inl l0), l1, l2] [.inr (.inl l0)] h := ev_go c131_21 rfl
theorem c131_22 : cd 131 22 = some (22, .getfield 7, 3, 8, 0, 725) := rfl
theorem s131_22 {l0 l1 l2 : AV} {s0 : Nat} {M : Mem} {P : PMem} (hk : kd s0 = 8) : evL 131 22 [l0, l1, l2] [Rf s0] (Hp M P) = evL 131 25 [l0, l1, l2] [Rf (rfd s0 0)] (Hp M P) := e_getR c131_22 rfl hk
theorem c131_25 : cd 131 25 = some (25, .iconst 3, 1, 0, 0, 0) := rfl
theorem s131_25 {l0 l1 l2 s0 : AV} {h : AH} : evL 131 25 [l0, l1, l2] [s0] h = evL 131 26 [l0, l1, l2] [I 3, s0] h := ev_go c131_25 rfl
theorem c131_26 : cd 131 26 = some (26, .iaload, 1, 0, 0, 0) := rfl
theorem s131_26 {l0 l1 l2 : AV} {s0 : Int} {s1 : Nat} {M : Mem} {P : PMem} (hk : kd s1 = 100) (h0 : 0 ≤ s0) (hn : s0.toNat < ln s1) : evL 131 26 [l0, l1, l2] [I s0, Rf s1] (Hp M P) = evL 131 27 [l0, l1, l2] [I (M s1 s0.toNat)] (Hp M P) := e_iald c131_26 hk h0 hn
theorem c131_27 : cd 131 27 = some (27, .iconst 1, 1, 0, 0, 0) := rfl
theorem s131_27 {l0 l1 l2 s0 : AV} {h : AH} : evL 131 27 [l0, l1, l2] [s0] h = evL 131 28 [l0, l1, l2] [I 1, s0] h := ev_go c131_27 rfl
theorem c131_28 : cd 131 28 = some (28, .if_icmp .ne 7, 3, 0, 0, 0) := rfl
theorem s131_28 {l0 l1 l2 : AV} {s0 s1 : Int} {h : AH} : evL 131 28 [l0, l1, l2] [I s0, I s1] h = if s1 = s0 then evL 131 31 [l0, l1, l2] [] h else evL 131 35 [l0, l1, l2] [] h := e_icmp_ne c131_28 rfl rfl
theorem c131_31 : cd 131 31 = some (31, .iconst 3, 1, 0, 0, 0) := rfl
theorem s131_31 {l0 l1 l2 : AV} {h : AH} : evL 131 31 [l0, l1, l2] [] h = evL 131 32 [l0, l1, l2] [I 3] h := ev_go c131_31 rfl
theorem c131_32 : cd 131 32 = some (32, .goto 31, 3, 0, 0, 0) := rfl
theorem s131_32 {l0 l1 l2 s0 : AV} {h : AH} : evL 131 32 [l0, l1, l2] [s0] h = evL 131 63 [l0, l1, l2] [s0] h := ev_go c131_32 rfl
theorem c131_35 : cd 131 35 = some (35, .iload_n 1, 1, 0, 0, 0) := rfl
theorem s131_35 {l0 l2 : AV} {l1 : Int} {h : AH} : evL 131 35 [l0, I l1, l2] [] h = evL 131 36 [l0, I l1, l2] [I l1] h := ev_go c131_35 rfl
theorem c131_36 : cd 131 36 = some (36, .ifCond .eq 26, 3, 0, 0, 0) := rfl
theorem s131_36 {l0 l1 l2 : AV} {s0 : Int} {h : AH} : evL 131 36 [l0, l1, l2] [I s0] h = if s0 = 0 then evL 131 62 [l0, l1, l2] [] h else evL 131 39 [l0, l1, l2] [] h := e_if_eq c131_36 rfl rfl
theorem c131_39 : cd 131 39 = some (39, .aload_n 0, 1, 0, 0, 0) := rfl
theorem s131_39 {l1 l2 : AV} {l0 : Option Nat} {h : AH} : evL 131 39 [.inr (.inl l0), l1, l2] [] h = evL 131 40 [.inr (.inl l0), l1, l2] [.inr (.inl l0)] h := ev_go c131_39 rfl
theorem c131_40 : cd 131 40 = some (40, .iload_n 2, 1, 0, 0, 0) := rfl
theorem s131_40 {l0 l1 s0 : AV} {l2 : Int} {h : AH} : evL 131 40 [l0, l1, I l2] [s0] h = evL 131 41 [l0, l1, I l2] [I l2, s0] h := ev_go c131_40 rfl
theorem c131_41 : cd 131 41 = some (41, .iconst 1, 1, 0, 0, 0) := rfl
theorem s131_41 {l0 l1 l2 s0 s1 : AV} {h : AH} : evL 131 41 [l0, l1, l2] [s0, s1] h = evL 131 42 [l0, l1, l2] [I 1, s0, s1] h := ev_go c131_41 rfl
theorem c131_42 : cd 131 42 = some (42, .invokevirtual 54, 3, 116, 0, 806) := rfl
theorem s131_42 {l0 l1 l2 : AV} {s0 s1 : Int} {s2 : Nat} {M : Mem} {P : PMem} (hk : kd s2 = 8) : evL 131 42 [l0, l1, l2] [I s0, I s1, Rf s2] (Hp M P) = cont (evM 116 [Rf s2, I s1, I s0] (Hp M P)) (fun r h => evL 131 45 [l0, l1, l2] (rl r []) h) := e_callV (av' := [I s1, I s0]) (rest := []) (c := 8) c131_42 rfl rfl rfl rfl rfl rfl rfl hk rfl
theorem c131_45 : cd 131 45 = some (45, .iconst 1, 1, 0, 0, 0) := rfl
theorem s131_45 {l0 l1 l2 s0 : AV} {h : AH} : evL 131 45 [l0, l1, l2] [s0] h = evL 131 46 [l0, l1, l2] [I 1, s0] h := ev_go c131_45 rfl
theorem c131_46 : cd 131 46 = some (46, .if_icmp .eq 12, 3, 0, 0, 0) := rfl
theorem s131_46 {l0 l1 l2 : AV} {s0 s1 : Int} {h : AH} : evL 131 46 [l0, l1, l2] [I s0, I s1] h = if s1 = s0 then evL 131 58 [l0, l1, l2] [] h else evL 131 49 [l0, l1, l2] [] h := e_icmp_eq c131_46 rfl rfl
theorem c131_49 : cd 131 49 = some (49, .aload_n 0, 1, 0, 0, 0) := rfl
theorem s131_49 {l1 l2 : AV} {l0 : Option Nat} {h : AH} : evL 131 49 [.inr (.inl l0), l1, l2] [] h = evL 131 50 [.inr (.inl l0), l1, l2] [.inr (.inl l0)] h := ev_go c131_49 rfl
theorem c131_50 : cd 131 50 = some (50, .iload_n 2, 1, 0, 0, 0) := rfl
theorem s131_50 {l0 l1 s0 : AV} {l2 : Int} {h : AH} : evL 131 50 [l0, l1, I l2] [s0] h = evL 131 51 [l0, l1, I l2] [I l2, s0] h := ev_go c131_50 rfl
theorem c131_51 : cd 131 51 = some (51, .iconst 0, 1, 0, 0, 0) := rfl
theorem s131_51 {l0 l1 l2 s0 s1 : AV} {h : AH} : evL 131 51 [l0, l1, l2] [s0, s1] h = evL 131 52 [l0, l1, l2] [I 0, s0, s1] h := ev_go c131_51 rfl
theorem c131_52 : cd 131 52 = some (52, .invokevirtual 54, 3, 116, 0, 806) := rfl
theorem s131_52 {l0 l1 l2 : AV} {s0 s1 : Int} {s2 : Nat} {M : Mem} {P : PMem} (hk : kd s2 = 8) : evL 131 52 [l0, l1, l2] [I s0, I s1, Rf s2] (Hp M P) = cont (evM 116 [Rf s2, I s1, I s0] (Hp M P)) (fun r h => evL 131 55 [l0, l1, l2] (rl r []) h) := e_callV (av' := [I s1, I s0]) (rest := []) (c := 8) c131_52 rfl rfl rfl rfl rfl rfl rfl hk rfl
theorem c131_55 : cd 131 55 = some (55, .ifCond .ne 7, 3, 0, 0, 0) := rfl
theorem s131_55 {l0 l1 l2 : AV} {s0 : Int} {h : AH} : evL 131 55 [l0, l1, l2] [I s0] h = if s0 = 0 then evL 131 58 [l0, l1, l2] [] h else evL 131 62 [l0, l1, l2] [] h := e_if_ne c131_55 rfl rfl
theorem c131_58 : cd 131 58 = some (58, .iconst 4, 1, 0, 0, 0) := rfl
theorem s131_58 {l0 l1 l2 : AV} {h : AH} : evL 131 58 [l0, l1, l2] [] h = evL 131 59 [l0, l1, l2] [I 4] h := ev_go c131_58 rfl
theorem c131_59 : cd 131 59 = some (59, .goto 4, 3, 0, 0, 0) := rfl
theorem s131_59 {l0 l1 l2 s0 : AV} {h : AH} : evL 131 59 [l0, l1, l2] [s0] h = evL 131 63 [l0, l1, l2] [s0] h := ev_go c131_59 rfl
theorem c131_62 : cd 131 62 = some (62, .iconst 0, 1, 0, 0, 0) := rfl
theorem s131_62 {l0 l1 l2 : AV} {h : AH} : evL 131 62 [l0, l1, l2] [] h = evL 131 63 [l0, l1, l2] [I 0] h := ev_go c131_62 rfl
theorem c131_63 : cd 131 63 = some (63, .ireturn, 1, 0, 0, 0) := rfl
theorem s131_63 {l0 l1 l2 : AV} {s0 : Int} {h : AH} : evL 131 63 [l0, l1, l2] [I s0] h = some (some (I s0), h) := e_ret c131_63 rfl
/-! 132: TankDiversModel.behind(IIZI)I -/
theorem en132 {l0 l1 l2 l3 l4 : AV} {h : AH} : evM 132 [l0, l1, l2, l3, l4] h = evL 132 0 [l0, l1, l2, l3, l4, Db 0, Db 0, Db 0, Db 0] [] h := rfl
theorem c132_0 : cd 132 0 = some (0, .iload_n 2, 1, 0, 0, 0) := rfl
theorem s132_0 {l0 l1 l3 l4 l5 l6 l7 l8 : AV} {l2 : Int} {h : AH} : evL 132 0 [l0, l1, I l2, l3, l4, l5, l6, l7, l8] [] h = evL 132 1 [l0, l1, I l2, l3, l4, l5, l6, l7, l8] [I l2] h := ev_go c132_0 rfl
theorem c132_1 : cd 132 1 = some (1, .istore 5, 2, 0, 0, 0) := rfl
theorem s132_1 {l0 l1 l2 l3 l4 l5 l6 l7 l8 : AV} {s0 : Int} {h : AH} : evL 132 1 [l0, l1, l2, l3, l4, l5, l6, l7, l8] [I s0] h = evL 132 3 [l0, l1, l2, l3, l4, I s0, l6, l7, l8] [] h := ev_go c132_1 rfl
theorem c132_3 : cd 132 3 = some (3, .iconst 1, 1, 0, 0, 0) := rfl
theorem s132_3 {l0 l1 l2 l3 l4 l5 l6 l7 l8 : AV} {h : AH} : evL 132 3 [l0, l1, l2, l3, l4, l5, l6, l7, l8] [] h = evL 132 4 [l0, l1, l2, l3, l4, l5, l6, l7, l8] [I 1] h := ev_go c132_3 rfl
theorem c132_4 : cd 132 4 = some (4, .istore 6, 2, 0, 0, 0) := rfl
theorem s132_4 {l0 l1 l2 l3 l4 l5 l6 l7 l8 : AV} {s0 : Int} {h : AH} : evL 132 4 [l0, l1, l2, l3, l4, l5, l6, l7, l8] [I s0] h = evL 132 6 [l0, l1, l2, l3, l4, l5, I s0, l7, l8] [] h := ev_go c132_4 rfl
theorem c132_6 : cd 132 6 = some (6, .iconst 0, 1, 0, 0, 0) := rfl
theorem s132_6 {l0 l1 l2 l3 l4 l5 l6 l7 l8 : AV} {h : AH} : evL 132 6 [l0, l1, l2, l3, l4, l5, l6, l7, l8] [] h = evL 132 7 [l0, l1, l2, l3, l4, l5, l6, l7, l8] [I 0] h := ev_go c132_6 rfl
theorem c132_7 : cd 132 7 = some (7, .istore 7, 2, 0, 0, 0) := rfl
theorem s132_7 {l0 l1 l2 l3 l4 l5 l6 l7 l8 : AV} {s0 : Int} {h : AH} : evL 132 7 [l0, l1, l2, l3, l4, l5, l6, l7, l8] [I s0] h = evL 132 9 [l0, l1, l2, l3, l4, l5, l6, I s0, l8] [] h := ev_go c132_7 rfl
theorem c132_9 : cd 132 9 = some (9, .iload 7, 2, 0, 0, 0) := rfl
theorem s132_9 {l0 l1 l2 l3 l4 l5 l6 l8 : AV} {l7 : Int} {h : AH} : evL 132 9 [l0, l1, l2, l3, l4, l5, l6, I l7, l8] [] h = evL 132 11 [l0, l1, l2, l3, l4, l5, l6, I l7, l8] [I l7] h := ev_go c132_9 rfl
theorem c132_11 : cd 132 11 = some (11, .iload 4, 2, 0, 0, 0) := rfl
theorem s132_11 {l0 l1 l2 l3 l5 l6 l7 l8 s0 : AV} {l4 : Int} {h : AH} : evL 132 11 [l0, l1, l2, l3, I l4, l5, l6, l7, l8] [s0] h = evL 132 13 [l0, l1, l2, l3, I l4, l5, l6, l7, l8] [I l4, s0] h := ev_go c132_11 rfl
theorem c132_13 : cd 132 13 = some (13, .if_icmp .ge 124, 3, 0, 0, 0) := rfl
theorem s132_13 {l0 l1 l2 l3 l4 l5 l6 l7 l8 : AV} {s0 s1 : Int} {h : AH} : evL 132 13 [l0, l1, l2, l3, l4, l5, l6, l7, l8] [I s0, I s1] h = if s0 ≤ s1 then evL 132 137 [l0, l1, l2, l3, l4, l5, l6, l7, l8] [] h else evL 132 16 [l0, l1, l2, l3, l4, l5, l6, l7, l8] [] h := e_icmp_ge c132_13 rfl rfl
theorem c132_16 : cd 132 16 = some (16, .iload 6, 2, 0, 0, 0) := rfl
theorem s132_16 {l0 l1 l2 l3 l4 l5 l7 l8 : AV} {l6 : Int} {h : AH} : evL 132 16 [l0, l1, l2, l3, l4, l5, I l6, l7, l8] [] h = evL 132 18 [l0, l1, l2, l3, l4, l5, I l6, l7, l8] [I l6] h := ev_go c132_16 rfl
theorem c132_18 : cd 132 18 = some (18, .ifCond .eq 119, 3, 0, 0, 0) := rfl
theorem s132_18 {l0 l1 l2 l3 l4 l5 l6 l7 l8 : AV} {s0 : Int} {h : AH} : evL 132 18 [l0, l1, l2, l3, l4, l5, l6, l7, l8] [I s0] h = if s0 = 0 then evL 132 137 [l0, l1, l2, l3, l4, l5, l6, l7, l8] [] h else evL 132 21 [l0, l1, l2, l3, l4, l5, l6, l7, l8] [] h := e_if_eq c132_18 rfl rfl
theorem c132_21 : cd 132 21 = some (21, .iload_n 3, 1, 0, 0, 0) := rfl
theorem s132_21 {l0 l1 l2 l4 l5 l6 l7 l8 : AV} {l3 : Int} {h : AH} : evL 132 21 [l0, l1, l2, I l3, l4, l5, l6, l7, l8] [] h = evL 132 22 [l0, l1, l2, I l3, l4, l5, l6, l7, l8] [I l3] h := ev_go c132_21 rfl
theorem c132_22 : cd 132 22 = some (22, .ifCond .eq 10, 3, 0, 0, 0) := rfl
theorem s132_22 {l0 l1 l2 l3 l4 l5 l6 l7 l8 : AV} {s0 : Int} {h : AH} : evL 132 22 [l0, l1, l2, l3, l4, l5, l6, l7, l8] [I s0] h = if s0 = 0 then evL 132 32 [l0, l1, l2, l3, l4, l5, l6, l7, l8] [] h else evL 132 25 [l0, l1, l2, l3, l4, l5, l6, l7, l8] [] h := e_if_eq c132_22 rfl rfl
theorem c132_25 : cd 132 25 = some (25, .iload 5, 2, 0, 0, 0) := rfl
theorem s132_25 {l0 l1 l2 l3 l4 l6 l7 l8 : AV} {l5 : Int} {h : AH} : evL 132 25 [l0, l1, l2, l3, l4, I l5, l6, l7, l8] [] h = evL 132 27 [l0, l1, l2, l3, l4, I l5, l6, l7, l8] [I l5] h := ev_go c132_25 rfl
theorem c132_27 : cd 132 27 = some (27, .iconst 1, 1, 0, 0, 0) := rfl
theorem s132_27 {l0 l1 l2 l3 l4 l5 l6 l7 l8 s0 : AV} {h : AH} : evL 132 27 [l0, l1, l2, l3, l4, l5, l6, l7, l8] [s0] h = evL 132 28 [l0, l1, l2, l3, l4, l5, l6, l7, l8] [I 1, s0] h := ev_go c132_27 rfl
theorem c132_28 : cd 132 28 = some (28, .isub, 1, 0, 0, 0) := rfl
theorem s132_28 {l0 l1 l2 l3 l4 l5 l6 l7 l8 : AV} {s0 s1 : Int} {h : AH} : evL 132 28 [l0, l1, l2, l3, l4, l5, l6, l7, l8] [I s0, I s1] h = evL 132 29 [l0, l1, l2, l3, l4, l5, l6, l7, l8] [I (sb s1 s0)] h := ev_go c132_28 rfl
theorem c132_29 : cd 132 29 = some (29, .goto 7, 3, 0, 0, 0) := rfl
theorem s132_29 {l0 l1 l2 l3 l4 l5 l6 l7 l8 s0 : AV} {h : AH} : evL 132 29 [l0, l1, l2, l3, l4, l5, l6, l7, l8] [s0] h = evL 132 36 [l0, l1, l2, l3, l4, l5, l6, l7, l8] [s0] h := ev_go c132_29 rfl
theorem c132_32 : cd 132 32 = some (32, .iload 5, 2, 0, 0, 0) := rfl
theorem s132_32 {l0 l1 l2 l3 l4 l6 l7 l8 : AV} {l5 : Int} {h : AH} : evL 132 32 [l0, l1, l2, l3, l4, I l5, l6, l7, l8] [] h = evL 132 34 [l0, l1, l2, l3, l4, I l5, l6, l7, l8] [I l5] h := ev_go c132_32 rfl
theorem c132_34 : cd 132 34 = some (34, .iconst 1, 1, 0, 0, 0) := rfl
theorem s132_34 {l0 l1 l2 l3 l4 l5 l6 l7 l8 s0 : AV} {h : AH} : evL 132 34 [l0, l1, l2, l3, l4, l5, l6, l7, l8] [s0] h = evL 132 35 [l0, l1, l2, l3, l4, l5, l6, l7, l8] [I 1, s0] h := ev_go c132_34 rfl
theorem c132_35 : cd 132 35 = some (35, .iadd, 1, 0, 0, 0) := rfl
theorem s132_35 {l0 l1 l2 l3 l4 l5 l6 l7 l8 : AV} {s0 s1 : Int} {h : AH} : evL 132 35 [l0, l1, l2, l3, l4, l5, l6, l7, l8] [I s0, I s1] h = evL 132 36 [l0, l1, l2, l3, l4, l5, l6, l7, l8] [I (ad s1 s0)] h := ev_go c132_35 rfl
theorem c132_36 : cd 132 36 = some (36, .istore 8, 2, 0, 0, 0) := rfl
theorem s132_36 {l0 l1 l2 l3 l4 l5 l6 l7 l8 : AV} {s0 : Int} {h : AH} : evL 132 36 [l0, l1, l2, l3, l4, l5, l6, l7, l8] [I s0] h = evL 132 38 [l0, l1, l2, l3, l4, l5, l6, l7, I s0] [] h := ev_go c132_36 rfl
theorem c132_38 : cd 132 38 = some (38, .iload 8, 2, 0, 0, 0) := rfl
theorem s132_38 {l0 l1 l2 l3 l4 l5 l6 l7 : AV} {l8 : Int} {h : AH} : evL 132 38 [l0, l1, l2, l3, l4, l5, l6, l7, I l8] [] h = evL 132 40 [l0, l1, l2, l3, l4, l5, l6, l7, I l8] [I l8] h := ev_go c132_38 rfl
theorem c132_40 : cd 132 40 = some (40, .ifCond .le 42, 3, 0, 0, 0) := rfl
theorem s132_40 {l0 l1 l2 l3 l4 l5 l6 l7 l8 : AV} {s0 : Int} {h : AH} : evL 132 40 [l0, l1, l2, l3, l4, l5, l6, l7, l8] [I s0] h = if s0 ≤ 0 then evL 132 82 [l0, l1, l2, l3, l4, l5, l6, l7, l8] [] h else evL 132 43 [l0, l1, l2, l3, l4, l5, l6, l7, l8] [] h := e_if_le c132_40 rfl rfl
theorem c132_43 : cd 132 43 = some (43, .iload 8, 2, 0, 0, 0) := rfl
theorem s132_43 {l0 l1 l2 l3 l4 l5 l6 l7 : AV} {l8 : Int} {h : AH} : evL 132 43 [l0, l1, l2, l3, l4, l5, l6, l7, I l8] [] h = evL 132 45 [l0, l1, l2, l3, l4, l5, l6, l7, I l8] [I l8] h := ev_go c132_43 rfl
theorem c132_45 : cd 132 45 = some (45, .aload_n 0, 1, 0, 0, 0) := rfl
theorem s132_45 {l1 l2 l3 l4 l5 l6 l7 l8 s0 : AV} {l0 : Option Nat} {h : AH} : evL 132 45 [.inr (.inl l0), l1, l2, l3, l4, l5, l6, l7, l8] [s0] h = evL 132 46 [.inr (.inl l0), l1, l2, l3, l4, l5, l6, l7, l8] [.inr (.inl l0), s0] h := ev_go c132_45 rfl
theorem c132_46 : cd 132 46 = some (46, .getfield 7, 3, 8, 0, 725) := rfl
theorem s132_46 {l0 l1 l2 l3 l4 l5 l6 l7 l8 s1 : AV} {s0 : Nat} {M : Mem} {P : PMem} (hk : kd s0 = 8) : evL 132 46 [l0, l1, l2, l3, l4, l5, l6, l7, l8] [Rf s0, s1] (Hp M P) = evL 132 49 [l0, l1, l2, l3, l4, l5, l6, l7, l8] [Rf (rfd s0 0), s1] (Hp M P) := e_getR c132_46 rfl hk
theorem c132_49 : cd 132 49 = some (49, .bipush 8, 2, 0, 0, 0) := rfl
theorem s132_49 {l0 l1 l2 l3 l4 l5 l6 l7 l8 s0 s1 : AV} {h : AH} : evL 132 49 [l0, l1, l2, l3, l4, l5, l6, l7, l8] [s0, s1] h = evL 132 51 [l0, l1, l2, l3, l4, l5, l6, l7, l8] [I 8, s0, s1] h := ev_go c132_49 rfl
theorem c132_51 : cd 132 51 = some (51, .iaload, 1, 0, 0, 0) := rfl
theorem s132_51 {l0 l1 l2 l3 l4 l5 l6 l7 l8 s2 : AV} {s0 : Int} {s1 : Nat} {M : Mem} {P : PMem} (hk : kd s1 = 100) (h0 : 0 ≤ s0) (hn : s0.toNat < ln s1) : evL 132 51 [l0, l1, l2, l3, l4, l5, l6, l7, l8] [I s0, Rf s1, s2] (Hp M P) = evL 132 52 [l0, l1, l2, l3, l4, l5, l6, l7, l8] [I (M s1 s0.toNat), s2] (Hp M P) := e_iald c132_51 hk h0 hn
theorem c132_52 : cd 132 52 = some (52, .if_icmp .gt 30, 3, 0, 0, 0) := rfl
theorem s132_52 {l0 l1 l2 l3 l4 l5 l6 l7 l8 : AV} {s0 s1 : Int} {h : AH} : evL 132 52 [l0, l1, l2, l3, l4, l5, l6, l7, l8] [I s0, I s1] h = if s0 < s1 then evL 132 82 [l0, l1, l2, l3, l4, l5, l6, l7, l8] [] h else evL 132 55 [l0, l1, l2, l3, l4, l5, l6, l7, l8] [] h := e_icmp_gt c132_52 rfl rfl
theorem c132_55 : cd 132 55 = some (55, .aload_n 0, 1, 0, 0, 0) := rfl
theorem s132_55 {l1 l2 l3 l4 l5 l6 l7 l8 : AV} {l0 : Option Nat} {h : AH} : evL 132 55 [.inr (.inl l0), l1, l2, l3, l4, l5, l6, l7, l8] [] h = evL 132 56 [.inr (.inl l0), l1, l2, l3, l4, l5, l6, l7, l8] [.inr (.inl l0)] h := ev_go c132_55 rfl
theorem c132_56 : cd 132 56 = some (56, .iload 8, 2, 0, 0, 0) := rfl
theorem s132_56 {l0 l1 l2 l3 l4 l5 l6 l7 s0 : AV} {l8 : Int} {h : AH} : evL 132 56 [l0, l1, l2, l3, l4, l5, l6, l7, I l8] [s0] h = evL 132 58 [l0, l1, l2, l3, l4, l5, l6, l7, I l8] [I l8, s0] h := ev_go c132_56 rfl
theorem c132_58 : cd 132 58 = some (58, .iload_n 1, 1, 0, 0, 0) := rfl
theorem s132_58 {l0 l2 l3 l4 l5 l6 l7 l8 s0 s1 : AV} {l1 : Int} {h : AH} : evL 132 58 [l0, I l1, l2, l3, l4, l5, l6, l7, l8] [s0, s1] h = evL 132 59 [l0, I l1, l2, l3, l4, l5, l6, l7, l8] [I l1, s0, s1] h := ev_go c132_58 rfl
theorem c132_59 : cd 132 59 = some (59, .invokevirtual 80, 3, 121, 0, 822) := rfl
theorem s132_59 {l0 l1 l2 l3 l4 l5 l6 l7 l8 : AV} {s0 s1 : Int} {s2 : Nat} {M : Mem} {P : PMem} (hk : kd s2 = 8) : evL 132 59 [l0, l1, l2, l3, l4, l5, l6, l7, l8] [I s0, I s1, Rf s2] (Hp M P) = cont (evM 121 [Rf s2, I s1, I s0] (Hp M P)) (fun r h => evL 132 62 [l0, l1, l2, l3, l4, l5, l6, l7, l8] (rl r []) h) := e_callV (av' := [I s1, I s0]) (rest := []) (c := 8) c132_59 rfl rfl rfl rfl rfl rfl rfl hk rfl
theorem c132_62 : cd 132 62 = some (62, .ifCond .ne 20, 3, 0, 0, 0) := rfl
theorem s132_62 {l0 l1 l2 l3 l4 l5 l6 l7 l8 : AV} {s0 : Int} {h : AH} : evL 132 62 [l0, l1, l2, l3, l4, l5, l6, l7, l8] [I s0] h = if s0 = 0 then evL 132 65 [l0, l1, l2, l3, l4, l5, l6, l7, l8] [] h else evL 132 82 [l0, l1, l2, l3, l4, l5, l6, l7, l8] [] h := e_if_ne c132_62 rfl rfl
theorem c132_65 : cd 132 65 = some (65, .iload 8, 2, 0, 0, 0) := rfl
theorem s132_65 {l0 l1 l2 l3 l4 l5 l6 l7 : AV} {l8 : Int} {h : AH} : evL 132 65 [l0, l1, l2, l3, l4, l5, l6, l7, I l8] [] h = evL 132 67 [l0, l1, l2, l3, l4, l5, l6, l7, I l8] [I l8] h := ev_go c132_65 rfl
theorem c132_67 : cd 132 67 = some (67, .iload_n 3, 1, 0, 0, 0) := rfl
theorem s132_67 {l0 l1 l2 l4 l5 l6 l7 l8 s0 : AV} {l3 : Int} {h : AH} : evL 132 67 [l0, l1, l2, I l3, l4, l5, l6, l7, l8] [s0] h = evL 132 68 [l0, l1, l2, I l3, l4, l5, l6, l7, l8] [I l3, s0] h := ev_go c132_67 rfl
theorem c132_68 : cd 132 68 = some (68, .ifCond .eq 7, 3, 0, 0, 0) := rfl
theorem s132_68 {l0 l1 l2 l3 l4 l5 l6 l7 l8 s1 : AV} {s0 : Int} {h : AH} : evL 132 68 [l0, l1, l2, l3, l4, l5, l6, l7, l8] [I s0, s1] h = if s0 = 0 then evL 132 75 [l0, l1, l2, l3, l4, l5, l6, l7, l8] [s1] h else evL 132 71 [l0, l1, l2, l3, l4, l5, l6, l7, l8] [s1] h := e_if_eq c132_68 rfl rfl
theorem c132_71 : cd 132 71 = some (71, .iconst (-1), 1, 0, 0, 0) := rfl
theorem s132_71 {l0 l1 l2 l3 l4 l5 l6 l7 l8 s0 : AV} {h : AH} : evL 132 71 [l0, l1, l2, l3, l4, l5, l6, l7, l8] [s0] h = evL 132 72 [l0, l1, l2, l3, l4, l5, l6, l7, l8] [I (-1), s0] h := ev_go c132_71 rfl
theorem c132_72 : cd 132 72 = some (72, .goto 4, 3, 0, 0, 0) := rfl
theorem s132_72 {l0 l1 l2 l3 l4 l5 l6 l7 l8 s0 s1 : AV} {h : AH} : evL 132 72 [l0, l1, l2, l3, l4, l5, l6, l7, l8] [s0, s1] h = evL 132 76 [l0, l1, l2, l3, l4, l5, l6, l7, l8] [s0, s1] h := ev_go c132_72 rfl
theorem c132_75 : cd 132 75 = some (75, .iconst 1, 1, 0, 0, 0) := rfl
theorem s132_75 {l0 l1 l2 l3 l4 l5 l6 l7 l8 s0 : AV} {h : AH} : evL 132 75 [l0, l1, l2, l3, l4, l5, l6, l7, l8] [s0] h = evL 132 76 [l0, l1, l2, l3, l4, l5, l6, l7, l8] [I 1, s0] h := ev_go c132_75 rfl
theorem c132_76 : cd 132 76 = some (76, .iadd, 1, 0, 0, 0) := rfl
theorem s132_76 {l0 l1 l2 l3 l4 l5 l6 l7 l8 : AV} {s0 s1 : Int} {h : AH} : evL 132 76 [l0, l1, l2, l3, l4, l5, l6, l7, l8] [I s0, I s1] h = evL 132 77 [l0, l1, l2, l3, l4, l5, l6, l7, l8] [I (ad s1 s0)] h := ev_go c132_76 rfl
theorem c132_77 : cd 132 77 = some (77, .istore 8, 2, 0, 0, 0) := rfl
theorem s132_77 {l0 l1 l2 l3 l4 l5 l6 l7 l8 : AV} {s0 : Int} {h : AH} : evL 132 77 [l0, l1, l2, l3, l4, l5, l6, l7, l8] [I s0] h = evL 132 79 [l0, l1, l2, l3, l4, l5, l6, l7, I s0] [] h := ev_go c132_77 rfl
theorem c132_79 : cd 132 79 = some (79, .goto (-41), 3, 0, 0, 0) := rfl
theorem s132_79 {l0 l1 l2 l3 l4 l5 l6 l7 l8 : AV} {h : AH} : evL 132 79 [l0, l1, l2, l3, l4, l5, l6, l7, l8] [] h = evL 132 38 [l0, l1, l2, l3, l4, l5, l6, l7, l8] [] h := ev_go c132_79 rfl
theorem c132_82 : cd 132 82 = some (82, .iload 8, 2, 0, 0, 0) := rfl
theorem s132_82 {l0 l1 l2 l3 l4 l5 l6 l7 : AV} {l8 : Int} {h : AH} : evL 132 82 [l0, l1, l2, l3, l4, l5, l6, l7, I l8] [] h = evL 132 84 [l0, l1, l2, l3, l4, l5, l6, l7, I l8] [I l8] h := ev_go c132_82 rfl
theorem c132_84 : cd 132 84 = some (84, .aload_n 0, 1, 0, 0, 0) := rfl
theorem s132_84 {l1 l2 l3 l4 l5 l6 l7 l8 s0 : AV} {l0 : Option Nat} {h : AH} : evL 132 84 [.inr (.inl l0), l1, l2, l3, l4, l5, l6, l7, l8] [s0] h = evL 132 85 [.inr (.inl l0), l1, l2, l3, l4, l5, l6, l7, l8] [.inr (.inl l0), s0] h := ev_go c132_84 rfl
theorem c132_85 : cd 132 85 = some (85, .getfield 7, 3, 8, 0, 725) := rfl
theorem s132_85 {l0 l1 l2 l3 l4 l5 l6 l7 l8 s1 : AV} {s0 : Nat} {M : Mem} {P : PMem} (hk : kd s0 = 8) : evL 132 85 [l0, l1, l2, l3, l4, l5, l6, l7, l8] [Rf s0, s1] (Hp M P) = evL 132 88 [l0, l1, l2, l3, l4, l5, l6, l7, l8] [Rf (rfd s0 0), s1] (Hp M P) := e_getR c132_85 rfl hk
theorem c132_88 : cd 132 88 = some (88, .bipush 8, 2, 0, 0, 0) := rfl
theorem s132_88 {l0 l1 l2 l3 l4 l5 l6 l7 l8 s0 s1 : AV} {h : AH} : evL 132 88 [l0, l1, l2, l3, l4, l5, l6, l7, l8] [s0, s1] h = evL 132 90 [l0, l1, l2, l3, l4, l5, l6, l7, l8] [I 8, s0, s1] h := ev_go c132_88 rfl
theorem c132_90 : cd 132 90 = some (90, .iaload, 1, 0, 0, 0) := rfl
theorem s132_90 {l0 l1 l2 l3 l4 l5 l6 l7 l8 s2 : AV} {s0 : Int} {s1 : Nat} {M : Mem} {P : PMem} (hk : kd s1 = 100) (h0 : 0 ≤ s0) (hn : s0.toNat < ln s1) : evL 132 90 [l0, l1, l2, l3, l4, l5, l6, l7, l8] [I s0, Rf s1, s2] (Hp M P) = evL 132 91 [l0, l1, l2, l3, l4, l5, l6, l7, l8] [I (M s1 s0.toNat), s2] (Hp M P) := e_iald c132_90 hk h0 hn
theorem c132_91 : cd 132 91 = some (91, .if_icmp .gt 16, 3, 0, 0, 0) := rfl
theorem s132_91 {l0 l1 l2 l3 l4 l5 l6 l7 l8 : AV} {s0 s1 : Int} {h : AH} : evL 132 91 [l0, l1, l2, l3, l4, l5, l6, l7, l8] [I s0, I s1] h = if s0 < s1 then evL 132 107 [l0, l1, l2, l3, l4, l5, l6, l7, l8] [] h else evL 132 94 [l0, l1, l2, l3, l4, l5, l6, l7, l8] [] h := e_icmp_gt c132_91 rfl rfl
theorem c132_94 : cd 132 94 = some (94, .iload_n 3, 1, 0, 0, 0) := rfl
theorem s132_94 {l0 l1 l2 l4 l5 l6 l7 l8 : AV} {l3 : Int} {h : AH} : evL 132 94 [l0, l1, l2, I l3, l4, l5, l6, l7, l8] [] h = evL 132 95 [l0, l1, l2, I l3, l4, l5, l6, l7, l8] [I l3] h := ev_go c132_94 rfl
theorem c132_95 : cd 132 95 = some (95, .ifCond .eq 8, 3, 0, 0, 0) := rfl
theorem s132_95 {l0 l1 l2 l3 l4 l5 l6 l7 l8 : AV} {s0 : Int} {h : AH} : evL 132 95 [l0, l1, l2, l3, l4, l5, l6, l7, l8] [I s0] h = if s0 = 0 then evL 132 103 [l0, l1, l2, l3, l4, l5, l6, l7, l8] [] h else evL 132 98 [l0, l1, l2, l3, l4, l5, l6, l7, l8] [] h := e_if_eq c132_95 rfl rfl
theorem c132_98 : cd 132 98 = some (98, .iload 8, 2, 0, 0, 0) := rfl
theorem s132_98 {l0 l1 l2 l3 l4 l5 l6 l7 : AV} {l8 : Int} {h : AH} : evL 132 98 [l0, l1, l2, l3, l4, l5, l6, l7, I l8] [] h = evL 132 100 [l0, l1, l2, l3, l4, l5, l6, l7, I l8] [I l8] h := ev_go c132_98 rfl
theorem c132_100 : cd 132 100 = some (100, .ifCond .eq 7, 3, 0, 0, 0) := rfl
theorem s132_100 {l0 l1 l2 l3 l4 l5 l6 l7 l8 : AV} {s0 : Int} {h : AH} : evL 132 100 [l0, l1, l2, l3, l4, l5, l6, l7, l8] [I s0] h = if s0 = 0 then evL 132 107 [l0, l1, l2, l3, l4, l5, l6, l7, l8] [] h else evL 132 103 [l0, l1, l2, l3, l4, l5, l6, l7, l8] [] h := e_if_eq c132_100 rfl rfl
theorem c132_103 : cd 132 103 = some (103, .iconst 1, 1, 0, 0, 0) := rfl
theorem s132_103 {l0 l1 l2 l3 l4 l5 l6 l7 l8 : AV} {h : AH} : evL 132 103 [l0, l1, l2, l3, l4, l5, l6, l7, l8] [] h = evL 132 104 [l0, l1, l2, l3, l4, l5, l6, l7, l8] [I 1] h := ev_go c132_103 rfl
theorem c132_104 : cd 132 104 = some (104, .goto 4, 3, 0, 0, 0) := rfl
theorem s132_104 {l0 l1 l2 l3 l4 l5 l6 l7 l8 s0 : AV} {h : AH} : evL 132 104 [l0, l1, l2, l3, l4, l5, l6, l7, l8] [s0] h = evL 132 108 [l0, l1, l2, l3, l4, l5, l6, l7, l8] [s0] h := ev_go c132_104 rfl
theorem c132_107 : cd 132 107 = some (107, .iconst 0, 1, 0, 0, 0) := rfl
theorem s132_107 {l0 l1 l2 l3 l4 l5 l6 l7 l8 : AV} {h : AH} : evL 132 107 [l0, l1, l2, l3, l4, l5, l6, l7, l8] [] h = evL 132 108 [l0, l1, l2, l3, l4, l5, l6, l7, l8] [I 0] h := ev_go c132_107 rfl
theorem c132_108 : cd 132 108 = some (108, .istore 6, 2, 0, 0, 0) := rfl
theorem s132_108 {l0 l1 l2 l3 l4 l5 l6 l7 l8 : AV} {s0 : Int} {h : AH} : evL 132 108 [l0, l1, l2, l3, l4, l5, l6, l7, l8] [I s0] h = evL 132 110 [l0, l1, l2, l3, l4, l5, I s0, l7, l8] [] h := ev_go c132_108 rfl
theorem c132_110 : cd 132 110 = some (110, .iload 8, 2, 0, 0, 0) := rfl
theorem s132_110 {l0 l1 l2 l3 l4 l5 l6 l7 : AV} {l8 : Int} {h : AH} : evL 132 110 [l0, l1, l2, l3, l4, l5, l6, l7, I l8] [] h = evL 132 112 [l0, l1, l2, l3, l4, l5, l6, l7, I l8] [I l8] h := ev_go c132_110 rfl
theorem c132_112 : cd 132 112 = some (112, .aload_n 0, 1, 0, 0, 0) := rfl
theorem s132_112 {l1 l2 l3 l4 l5 l6 l7 l8 s0 : AV} {l0 : Option Nat} {h : AH} : evL 132 112 [.inr (.inl l0), l1, l2, l3, l4, l5, l6, l7, l8] [s0] h = evL 132 113 [.inr (.inl l0), l1, l2, l3, l4, l5, l6, l7, l8] [.inr (.inl l0), s0] h := ev_go c132_112 rfl
theorem c132_113 : cd 132 113 = some (113, .getfield 7, 3, 8, 0, 725) := rfl
theorem s132_113 {l0 l1 l2 l3 l4 l5 l6 l7 l8 s1 : AV} {s0 : Nat} {M : Mem} {P : PMem} (hk : kd s0 = 8) : evL 132 113 [l0, l1, l2, l3, l4, l5, l6, l7, l8] [Rf s0, s1] (Hp M P) = evL 132 116 [l0, l1, l2, l3, l4, l5, l6, l7, l8] [Rf (rfd s0 0), s1] (Hp M P) := e_getR c132_113 rfl hk
theorem c132_116 : cd 132 116 = some (116, .bipush 8, 2, 0, 0, 0) := rfl
theorem s132_116 {l0 l1 l2 l3 l4 l5 l6 l7 l8 s0 s1 : AV} {h : AH} : evL 132 116 [l0, l1, l2, l3, l4, l5, l6, l7, l8] [s0, s1] h = evL 132 118 [l0, l1, l2, l3, l4, l5, l6, l7, l8] [I 8, s0, s1] h := ev_go c132_116 rfl
theorem c132_118 : cd 132 118 = some (118, .iaload, 1, 0, 0, 0) := rfl
theorem s132_118 {l0 l1 l2 l3 l4 l5 l6 l7 l8 s2 : AV} {s0 : Int} {s1 : Nat} {M : Mem} {P : PMem} (hk : kd s1 = 100) (h0 : 0 ≤ s0) (hn : s0.toNat < ln s1) : evL 132 118 [l0, l1, l2, l3, l4, l5, l6, l7, l8] [I s0, Rf s1, s2] (Hp M P) = evL 132 119 [l0, l1, l2, l3, l4, l5, l6, l7, l8] [I (M s1 s0.toNat), s2] (Hp M P) := e_iald c132_118 hk h0 hn
theorem c132_119 : cd 132 119 = some (119, .if_icmp .gt 8, 3, 0, 0, 0) := rfl
theorem s132_119 {l0 l1 l2 l3 l4 l5 l6 l7 l8 : AV} {s0 s1 : Int} {h : AH} : evL 132 119 [l0, l1, l2, l3, l4, l5, l6, l7, l8] [I s0, I s1] h = if s0 < s1 then evL 132 127 [l0, l1, l2, l3, l4, l5, l6, l7, l8] [] h else evL 132 122 [l0, l1, l2, l3, l4, l5, l6, l7, l8] [] h := e_icmp_gt c132_119 rfl rfl
theorem c132_122 : cd 132 122 = some (122, .iload 8, 2, 0, 0, 0) := rfl
theorem s132_122 {l0 l1 l2 l3 l4 l5 l6 l7 : AV} {l8 : Int} {h : AH} : evL 132 122 [l0, l1, l2, l3, l4, l5, l6, l7, I l8] [] h = evL 132 124 [l0, l1, l2, l3, l4, l5, l6, l7, I l8] [I l8] h := ev_go c132_122 rfl
theorem c132_124 : cd 132 124 = some (124, .goto 5, 3, 0, 0, 0) := rfl
theorem s132_124 {l0 l1 l2 l3 l4 l5 l6 l7 l8 s0 : AV} {h : AH} : evL 132 124 [l0, l1, l2, l3, l4, l5, l6, l7, l8] [s0] h = evL 132 129 [l0, l1, l2, l3, l4, l5, l6, l7, l8] [s0] h := ev_go c132_124 rfl
theorem c132_127 : cd 132 127 = some (127, .iload 5, 2, 0, 0, 0) := rfl
theorem s132_127 {l0 l1 l2 l3 l4 l6 l7 l8 : AV} {l5 : Int} {h : AH} : evL 132 127 [l0, l1, l2, l3, l4, I l5, l6, l7, l8] [] h = evL 132 129 [l0, l1, l2, l3, l4, I l5, l6, l7, l8] [I l5] h := ev_go c132_127 rfl
theorem c132_129 : cd 132 129 = some (129, .istore 5, 2, 0, 0, 0) := rfl
theorem s132_129 {l0 l1 l2 l3 l4 l5 l6 l7 l8 : AV} {s0 : Int} {h : AH} : evL 132 129 [l0, l1, l2, l3, l4, l5, l6, l7, l8] [I s0] h = evL 132 131 [l0, l1, l2, l3, l4, I s0, l6, l7, l8] [] h := ev_go c132_129 rfl
theorem c132_131 : cd 132 131 = some (131, .iinc 7 1, 3, 0, 0, 0) := rfl
theorem s132_131 {l0 l1 l2 l3 l4 l5 l6 l8 : AV} {l7 : Int} {h : AH} : evL 132 131 [l0, l1, l2, l3, l4, l5, l6, I l7, l8] [] h = evL 132 134 [l0, l1, l2, l3, l4, l5, l6, I (ad l7 1), l8] [] h := ev_go c132_131 rfl
theorem c132_134 : cd 132 134 = some (134, .goto (-125), 3, 0, 0, 0) := rfl
theorem s132_134 {l0 l1 l2 l3 l4 l5 l6 l7 l8 : AV} {h : AH} : evL 132 134 [l0, l1, l2, l3, l4, l5, l6, l7, l8] [] h = evL 132 9 [l0, l1, l2, l3, l4, l5, l6, l7, l8] [] h := ev_go c132_134 rfl
theorem c132_137 : cd 132 137 = some (137, .iload 5, 2, 0, 0, 0) := rfl
theorem s132_137 {l0 l1 l2 l3 l4 l6 l7 l8 : AV} {l5 : Int} {h : AH} : evL 132 137 [l0, l1, l2, l3, l4, I l5, l6, l7, l8] [] h = evL 132 139 [l0, l1, l2, l3, l4, I l5, l6, l7, l8] [I l5] h := ev_go c132_137 rfl
theorem c132_139 : cd 132 139 = some (139, .ireturn, 1, 0, 0, 0) := rfl
theorem s132_139 {l0 l1 l2 l3 l4 l5 l6 l7 l8 : AV} {s0 : Int} {h : AH} : evL 132 139 [l0, l1, l2, l3, l4, l5, l6, l7, l8] [I s0] h = some (some (I s0), h) := e_ret c132_139 rfl
/-! 133: TankDiversModel.stepsOf(II)I -/
theorem en133 {l0 l1 l2 : AV} {h : AH} : evM 133 [l0, l1, l2] h = evL 133 0 [l0, l1, l2] [] h := rfl
theorem c133_0 : cd 133 0 = some (0, .iload_n 2, 1, 0, 0, 0) := rfl
theorem s133_0 {l0 l1 : AV} {l2 : Int} {h : AH} : evL 133 0 [l0, l1, I l2] [] h = evL 133 1 [l0, l1, I l2] [I l2] h := ev_go c133_0 rfl
theorem c133_1 : cd 133 1 = some (1, .aload_n 0, 1, 0, 0, 0) := rfl
theorem s133_1 {l1 l2 s0 : AV} {l0 : Option Nat} {h : AH} : evL 133 1 [.inr (.inl l0), l1, l2] [s0] h = evL 133 2 [.inr (.inl l0), l1, l2] [.inr (.inl l0), s0] h := ev_go c133_1 rfl
theorem c133_2 : cd 133 2 = some (2, .iload_n 1, 1, 0, 0, 0) := rfl
theorem s133_2 {l0 l2 s0 s1 : AV} {l1 : Int} {h : AH} : evL 133 2 [l0, I l1, l2] [s0, s1] h = evL 133 3 [l0, I l1, l2] [I l1, s0, s1] h := ev_go c133_2 rfl
theorem c133_3 : cd 133 3 = some (3, .iconst 3, 1, 0, 0, 0) := rfl
theorem s133_3 {l0 l1 l2 s0 s1 s2 : AV} {h : AH} : evL 133 3 [l0, l1, l2] [s0, s1, s2] h = evL 133 4 [l0, l1, l2] [I 3, s0, s1, s2] h := ev_go c133_3 rfl
theorem c133_4 : cd 133 4 = some (4, .invokevirtual 54, 3, 116, 0, 806) := rfl
theorem s133_4 {l0 l1 l2 s3 : AV} {s0 s1 : Int} {s2 : Nat} {M : Mem} {P : PMem} (hk : kd s2 = 8) : evL 133 4 [l0, l1, l2] [I s0, I s1, Rf s2, s3] (Hp M P) = cont (evM 116 [Rf s2, I s1, I s0] (Hp M P)) (fun r h => evL 133 7 [l0, l1, l2] (rl r [s3]) h) := e_callV (av' := [I s1, I s0]) (rest := [s3]) (c := 8) c133_4 rfl rfl rfl rfl rfl rfl rfl hk rfl
theorem c133_7 : cd 133 7 = some (7, .if_icmp .le 14, 3, 0, 0, 0) := rfl
theorem s133_7 {l0 l1 l2 : AV} {s0 s1 : Int} {h : AH} : evL 133 7 [l0, l1, l2] [I s0, I s1] h = if s1 ≤ s0 then evL 133 21 [l0, l1, l2] [] h else evL 133 10 [l0, l1, l2] [] h := e_icmp_le c133_7 rfl rfl
theorem c133_10 : cd 133 10 = some (10, .iload_n 2, 1, 0, 0, 0) := rfl
theorem s133_10 {l0 l1 : AV} {l2 : Int} {h : AH} : evL 133 10 [l0, l1, I l2] [] h = evL 133 11 [l0, l1, I l2] [I l2] h := ev_go c133_10 rfl
theorem c133_11 : cd 133 11 = some (11, .aload_n 0, 1, 0, 0, 0) := rfl
theorem s133_11 {l1 l2 s0 : AV} {l0 : Option Nat} {h : AH} : evL 133 11 [.inr (.inl l0), l1, l2] [s0] h = evL 133 12 [.inr (.inl l0), l1, l2] [.inr (.inl l0), s0] h := ev_go c133_11 rfl
theorem c133_12 : cd 133 12 = some (12, .iload_n 1, 1, 0, 0, 0) := rfl
theorem s133_12 {l0 l2 s0 s1 : AV} {l1 : Int} {h : AH} : evL 133 12 [l0, I l1, l2] [s0, s1] h = evL 133 13 [l0, I l1, l2] [I l1, s0, s1] h := ev_go c133_12 rfl
theorem c133_13 : cd 133 13 = some (13, .iconst 3, 1, 0, 0, 0) := rfl
theorem s133_13 {l0 l1 l2 s0 s1 s2 : AV} {h : AH} : evL 133 13 [l0, l1, l2] [s0, s1, s2] h = evL 133 14 [l0, l1, l2] [I 3, s0, s1, s2] h := ev_go c133_13 rfl
theorem c133_14 : cd 133 14 = some (14, .invokevirtual 54, 3, 116, 0, 806) := rfl
theorem s133_14 {l0 l1 l2 s3 : AV} {s0 s1 : Int} {s2 : Nat} {M : Mem} {P : PMem} (hk : kd s2 = 8) : evL 133 14 [l0, l1, l2] [I s0, I s1, Rf s2, s3] (Hp M P) = cont (evM 116 [Rf s2, I s1, I s0] (Hp M P)) (fun r h => evL 133 17 [l0, l1, l2] (rl r [s3]) h) := e_callV (av' := [I s1, I s0]) (rest := [s3]) (c := 8) c133_14 rfl rfl rfl rfl rfl rfl rfl hk rfl
theorem c133_17 : cd 133 17 = some (17, .isub, 1, 0, 0, 0) := rfl
theorem s133_17 {l0 l1 l2 : AV} {s0 s1 : Int} {h : AH} : evL 133 17 [l0, l1, l2] [I s0, I s1] h = evL 133 18 [l0, l1, l2] [I (sb s1 s0)] h := ev_go c133_17 rfl
theorem c133_18 : cd 133 18 = some (18, .goto 4, 3, 0, 0, 0) := rfl
theorem s133_18 {l0 l1 l2 s0 : AV} {h : AH} : evL 133 18 [l0, l1, l2] [s0] h = evL 133 22 [l0, l1, l2] [s0] h := ev_go c133_18 rfl
theorem c133_21 : cd 133 21 = some (21, .iconst 0, 1, 0, 0, 0) := rfl
theorem s133_21 {l0 l1 l2 : AV} {h : AH} : evL 133 21 [l0, l1, l2] [] h = evL 133 22 [l0, l1, l2] [I 0] h := ev_go c133_21 rfl
theorem c133_22 : cd 133 22 = some (22, .ireturn, 1, 0, 0, 0) := rfl
theorem s133_22 {l0 l1 l2 : AV} {s0 : Int} {h : AH} : evL 133 22 [l0, l1, l2] [I s0] h = some (some (I s0), h) := e_ret c133_22 rfl
/-! 134: TankDiversModel.goMove(Z)I -/
theorem en134 {l0 l1 : AV} {h : AH} : evM 134 [l0, l1] h = evL 134 0 [l0, l1, Db 0, Db 0, Db 0, Db 0, Db 0, Db 0] [] h := rfl
theorem c134_0 : cd 134 0 = some (0, .aload_n 0, 1, 0, 0, 0) := rfl
theorem s134_0 {l1 l2 l3 l4 l5 l6 l7 : AV} {l0 : Option Nat} {h : AH} : evL 134 0 [.inr (.inl l0), l1, l2, l3, l4, l5, l6, l7] [] h = evL 134 1 [.inr (.inl l0), l1, l2, l3, l4, l5, l6, l7] [.inr (.inl l0)] h := ev_go c134_0 rfl
theorem c134_1 : cd 134 1 = some (1, .iload_n 1, 1, 0, 0, 0) := rfl
theorem s134_1 {l0 l2 l3 l4 l5 l6 l7 s0 : AV} {l1 : Int} {h : AH} : evL 134 1 [l0, I l1, l2, l3, l4, l5, l6, l7] [s0] h = evL 134 2 [l0, I l1, l2, l3, l4, l5, l6, l7] [I l1, s0] h := ev_go c134_1 rfl
theorem c134_2 : cd 134 2 = some (2, .invokevirtual 84, 3, 131, 0, 802) := rfl
theorem s134_2 {l0 l1 l2 l3 l4 l5 l6 l7 : AV} {s0 : Int} {s1 : Nat} {M : Mem} {P : PMem} (hk : kd s1 = 8) : evL 134 2 [l0, l1, l2, l3, l4, l5, l6, l7] [I s0, Rf s1] (Hp M P) = cont (evM 131 [Rf s1, I s0] (Hp M P)) (fun r h => evL 134 5 [l0, l1, l2, l3, l4, l5, l6, l7] (rl r []) h) := e_callV (av' := [I s0]) (rest := []) (c := 8) c134_2 rfl rfl rfl rfl rfl rfl rfl hk rfl
theorem c134_5 : cd 134 5 = some (5, .istore_n 2, 1, 0, 0, 0) := rfl
theorem s134_5 {l0 l1 l2 l3 l4 l5 l6 l7 : AV} {s0 : Int} {h : AH} : evL 134 5 [l0, l1, l2, l3, l4, l5, l6, l7] [I s0] h = evL 134 6 [l0, l1, I s0, l3, l4, l5, l6, l7] [] h := ev_go c134_5 rfl
theorem c134_6 : cd 134 6 = some (6, .iload_n 2, 1, 0, 0, 0) := rfl
theorem s134_6 {l0 l1 l3 l4 l5 l6 l7 : AV} {l2 : Int} {h : AH} : evL 134 6 [l0, l1, I l2, l3, l4, l5, l6, l7] [] h = evL 134 7 [l0, l1, I l2, l3, l4, l5, l6, l7] [I l2] h := ev_go c134_6 rfl
theorem c134_7 : cd 134 7 = some (7, .ifCond .le 9, 3, 0, 0, 0) := rfl
theorem s134_7 {l0 l1 l2 l3 l4 l5 l6 l7 : AV} {s0 : Int} {h : AH} : evL 134 7 [l0, l1, l2, l3, l4, l5, l6, l7] [I s0] h = if s0 ≤ 0 then evL 134 16 [l0, l1, l2, l3, l4, l5, l6, l7] [] h else evL 134 10 [l0, l1, l2, l3, l4, l5, l6, l7] [] h := e_if_le c134_7 rfl rfl
theorem c134_10 : cd 134 10 = some (10, .aload_n 0, 1, 0, 0, 0) := rfl
theorem s134_10 {l1 l2 l3 l4 l5 l6 l7 : AV} {l0 : Option Nat} {h : AH} : evL 134 10 [.inr (.inl l0), l1, l2, l3, l4, l5, l6, l7] [] h = evL 134 11 [.inr (.inl l0), l1, l2, l3, l4, l5, l6, l7] [.inr (.inl l0)] h := ev_go c134_10 rfl
theorem c134_11 : cd 134 11 = some (11, .iload_n 2, 1, 0, 0, 0) := rfl
theorem s134_11 {l0 l1 l3 l4 l5 l6 l7 s0 : AV} {l2 : Int} {h : AH} : evL 134 11 [l0, l1, I l2, l3, l4, l5, l6, l7] [s0] h = evL 134 12 [l0, l1, I l2, l3, l4, l5, l6, l7] [I l2, s0] h := ev_go c134_11 rfl
theorem c134_12 : cd 134 12 = some (12, .invokevirtual 88, 3, 130, 0, 810) := rfl
theorem s134_12 {l0 l1 l2 l3 l4 l5 l6 l7 : AV} {s0 : Int} {s1 : Nat} {M : Mem} {P : PMem} (hk : kd s1 = 8) : evL 134 12 [l0, l1, l2, l3, l4, l5, l6, l7] [I s0, Rf s1] (Hp M P) = cont (evM 130 [Rf s1, I s0] (Hp M P)) (fun r h => evL 134 15 [l0, l1, l2, l3, l4, l5, l6, l7] (rl r []) h) := e_callV (av' := [I s0]) (rest := []) (c := 8) c134_12 rfl rfl rfl rfl rfl rfl rfl hk rfl
theorem c134_15 : cd 134 15 = some (15, .ireturn, 1, 0, 0, 0) := rfl
theorem s134_15 {l0 l1 l2 l3 l4 l5 l6 l7 : AV} {s0 : Int} {h : AH} : evL 134 15 [l0, l1, l2, l3, l4, l5, l6, l7] [I s0] h = some (some (I s0), h) := e_ret c134_15 rfl
theorem c134_16 : cd 134 16 = some (16, .aload_n 0, 1, 0, 0, 0) := rfl
theorem s134_16 {l1 l2 l3 l4 l5 l6 l7 : AV} {l0 : Option Nat} {h : AH} : evL 134 16 [.inr (.inl l0), l1, l2, l3, l4, l5, l6, l7] [] h = evL 134 17 [.inr (.inl l0), l1, l2, l3, l4, l5, l6, l7] [.inr (.inl l0)] h := ev_go c134_16 rfl
theorem c134_17 : cd 134 17 = some (17, .getfield 7, 3, 8, 0, 725) := rfl
theorem s134_17 {l0 l1 l2 l3 l4 l5 l6 l7 : AV} {s0 : Nat} {M : Mem} {P : PMem} (hk : kd s0 = 8) : evL 134 17 [l0, l1, l2, l3, l4, l5, l6, l7] [Rf s0] (Hp M P) = evL 134 20 [l0, l1, l2, l3, l4, l5, l6, l7] [Rf (rfd s0 0)] (Hp M P) := e_getR c134_17 rfl hk
theorem c134_20 : cd 134 20 = some (20, .iconst 2, 1, 0, 0, 0) := rfl
theorem s134_20 {l0 l1 l2 l3 l4 l5 l6 l7 s0 : AV} {h : AH} : evL 134 20 [l0, l1, l2, l3, l4, l5, l6, l7] [s0] h = evL 134 21 [l0, l1, l2, l3, l4, l5, l6, l7] [I 2, s0] h := ev_go c134_20 rfl
theorem c134_21 : cd 134 21 = some (21, .iaload, 1, 0, 0, 0) := rfl
theorem s134_21 {l0 l1 l2 l3 l4 l5 l6 l7 : AV} {s0 : Int} {s1 : Nat} {M : Mem} {P : PMem} (hk : kd s1 = 100) (h0 : 0 ≤ s0) (hn : s0.toNat < ln s1) : evL 134 21 [l0, l1, l2, l3, l4, l5, l6, l7] [I s0, Rf s1] (Hp M P) = evL 134 22 [l0, l1, l2, l3, l4, l5, l6, l7] [I (M s1 s0.toNat)] (Hp M P) := e_iald c134_21 hk h0 hn
theorem c134_22 : cd 134 22 = some (22, .istore_n 3, 1, 0, 0, 0) := rfl
theorem s134_22 {l0 l1 l2 l3 l4 l5 l6 l7 : AV} {s0 : Int} {h : AH} : evL 134 22 [l0, l1, l2, l3, l4, l5, l6, l7] [I s0] h = evL 134 23 [l0, l1, l2, I s0, l4, l5, l6, l7] [] h := ev_go c134_22 rfl
theorem c134_23 : cd 134 23 = some (23, .aload_n 0, 1, 0, 0, 0) := rfl
theorem s134_23 {l1 l2 l3 l4 l5 l6 l7 : AV} {l0 : Option Nat} {h : AH} : evL 134 23 [.inr (.inl l0), l1, l2, l3, l4, l5, l6, l7] [] h = evL 134 24 [.inr (.inl l0), l1, l2, l3, l4, l5, l6, l7] [.inr (.inl l0)] h := ev_go c134_23 rfl
theorem c134_24 : cd 134 24 = some (24, .getfield 7, 3, 8, 0, 725) := rfl
theorem s134_24 {l0 l1 l2 l3 l4 l5 l6 l7 : AV} {s0 : Nat} {M : Mem} {P : PMem} (hk : kd s0 = 8) : evL 134 24 [l0, l1, l2, l3, l4, l5, l6, l7] [Rf s0] (Hp M P) = evL 134 27 [l0, l1, l2, l3, l4, l5, l6, l7] [Rf (rfd s0 0)] (Hp M P) := e_getR c134_24 rfl hk
theorem c134_27 : cd 134 27 = some (27, .iconst 4, 1, 0, 0, 0) := rfl
theorem s134_27 {l0 l1 l2 l3 l4 l5 l6 l7 s0 : AV} {h : AH} : evL 134 27 [l0, l1, l2, l3, l4, l5, l6, l7] [s0] h = evL 134 28 [l0, l1, l2, l3, l4, l5, l6, l7] [I 4, s0] h := ev_go c134_27 rfl
theorem c134_28 : cd 134 28 = some (28, .aload_n 0, 1, 0, 0, 0) := rfl
theorem s134_28 {l1 l2 l3 l4 l5 l6 l7 s0 s1 : AV} {l0 : Option Nat} {h : AH} : evL 134 28 [.inr (.inl l0), l1, l2, l3, l4, l5, l6, l7] [s0, s1] h = evL 134 29 [.inr (.inl l0), l1, l2, l3, l4, l5, l6, l7] [.inr (.inl l0), s0, s1] h := ev_go c134_28 rfl
theorem c134_29 : cd 134 29 = some (29, .getfield 7, 3, 8, 0, 725) := rfl
theorem s134_29 {l0 l1 l2 l3 l4 l5 l6 l7 s1 s2 : AV} {s0 : Nat} {M : Mem} {P : PMem} (hk : kd s0 = 8) : evL 134 29 [l0, l1, l2, l3, l4, l5, l6, l7] [Rf s0, s1, s2] (Hp M P) = evL 134 32 [l0, l1, l2, l3, l4, l5, l6, l7] [Rf (rfd s0 0), s1, s2] (Hp M P) := e_getR c134_29 rfl hk
theorem c134_32 : cd 134 32 = some (32, .iconst 4, 1, 0, 0, 0) := rfl
theorem s134_32 {l0 l1 l2 l3 l4 l5 l6 l7 s0 s1 s2 : AV} {h : AH} : evL 134 32 [l0, l1, l2, l3, l4, l5, l6, l7] [s0, s1, s2] h = evL 134 33 [l0, l1, l2, l3, l4, l5, l6, l7] [I 4, s0, s1, s2] h := ev_go c134_32 rfl
theorem c134_33 : cd 134 33 = some (33, .iaload, 1, 0, 0, 0) := rfl
theorem s134_33 {l0 l1 l2 l3 l4 l5 l6 l7 s2 s3 : AV} {s0 : Int} {s1 : Nat} {M : Mem} {P : PMem} (hk : kd s1 = 100) (h0 : 0 ≤ s0) (hn : s0.toNat < ln s1) : evL 134 33 [l0, l1, l2, l3, l4, l5, l6, l7] [I s0, Rf s1, s2, s3] (Hp M P) = evL 134 34 [l0, l1, l2, l3, l4, l5, l6, l7] [I (M s1 s0.toNat), s2, s3] (Hp M P) := e_iald c134_33 hk h0 hn
theorem c134_34 : cd 134 34 = some (34, .aload_n 0, 1, 0, 0, 0) := rfl
theorem s134_34 {l1 l2 l3 l4 l5 l6 l7 s0 s1 s2 : AV} {l0 : Option Nat} {h : AH} : evL 134 34 [.inr (.inl l0), l1, l2, l3, l4, l5, l6, l7] [s0, s1, s2] h = evL 134 35 [.inr (.inl l0), l1, l2, l3, l4, l5, l6, l7] [.inr (.inl l0), s0, s1, s2] h := ev_go c134_34 rfl
theorem c134_35 : cd 134 35 = some (35, .iload_n 3, 1, 0, 0, 0) := rfl
theorem s134_35 {l0 l1 l2 l4 l5 l6 l7 s0 s1 s2 s3 : AV} {l3 : Int} {h : AH} : evL 134 35 [l0, l1, l2, I l3, l4, l5, l6, l7] [s0, s1, s2, s3] h = evL 134 36 [l0, l1, l2, I l3, l4, l5, l6, l7] [I l3, s0, s1, s2, s3] h := ev_go c134_35 rfl
theorem c134_36 : cd 134 36 = some (36, .iconst 3, 1, 0, 0, 0) := rfl
theorem s134_36 {l0 l1 l2 l3 l4 l5 l6 l7 s0 s1 s2 s3 s4 : AV} {h : AH} : evL 134 36 [l0, l1, l2, l3, l4, l5, l6, l7] [s0, s1, s2, s3, s4] h = evL 134 37 [l0, l1, l2, l3, l4, l5, l6, l7] [I 3, s0, s1, s2, s3, s4] h := ev_go c134_36 rfl
theorem c134_37 : cd 134 37 = some (37, .invokevirtual 54, 3, 116, 0, 806) := rfl
theorem s134_37 {l0 l1 l2 l3 l4 l5 l6 l7 s3 s4 s5 : AV} {s0 s1 : Int} {s2 : Nat} {M : Mem} {P : PMem} (hk : kd s2 = 8) : evL 134 37 [l0, l1, l2, l3, l4, l5, l6, l7] [I s0, I s1, Rf s2, s3, s4, s5] (Hp M P) = cont (evM 116 [Rf s2, I s1, I s0] (Hp M P)) (fun r h => evL 134 40 [l0, l1, l2, l3, l4, l5, l6, l7] (rl r [s3, s4, s5]) h) := e_callV (av' := [I s1, I s0]) (rest := [s3, s4, s5]) (c := 8) c134_37 rfl rfl rfl rfl rfl rfl rfl hk rfl
theorem c134_40 : cd 134 40 = some (40, .if_icmp .le 19, 3, 0, 0, 0) := rfl
theorem s134_40 {l0 l1 l2 l3 l4 l5 l6 l7 s2 s3 : AV} {s0 s1 : Int} {h : AH} : evL 134 40 [l0, l1, l2, l3, l4, l5, l6, l7] [I s0, I s1, s2, s3] h = if s1 ≤ s0 then evL 134 59 [l0, l1, l2, l3, l4, l5, l6, l7] [s2, s3] h else evL 134 43 [l0, l1, l2, l3, l4, l5, l6, l7] [s2, s3] h := e_icmp_le c134_40 rfl rfl
theorem c134_43 : cd 134 43 = some (43, .aload_n 0, 1, 0, 0, 0) := rfl
theorem s134_43 {l1 l2 l3 l4 l5 l6 l7 s0 s1 : AV} {l0 : Option Nat} {h : AH} : evL 134 43 [.inr (.inl l0), l1, l2, l3, l4, l5, l6, l7] [s0, s1] h = evL 134 44 [.inr (.inl l0), l1, l2, l3, l4, l5, l6, l7] [.inr (.inl l0), s0, s1] h := ev_go c134_43 rfl
theorem c134_44 : cd 134 44 = some (44, .getfield 7, 3, 8, 0, 725) := rfl
theorem s134_44 {l0 l1 l2 l3 l4 l5 l6 l7 s1 s2 : AV} {s0 : Nat} {M : Mem} {P : PMem} (hk : kd s0 = 8) : evL 134 44 [l0, l1, l2, l3, l4, l5, l6, l7] [Rf s0, s1, s2] (Hp M P) = evL 134 47 [l0, l1, l2, l3, l4, l5, l6, l7] [Rf (rfd s0 0), s1, s2] (Hp M P) := e_getR c134_44 rfl hk
theorem c134_47 : cd 134 47 = some (47, .iconst 4, 1, 0, 0, 0) := rfl
theorem s134_47 {l0 l1 l2 l3 l4 l5 l6 l7 s0 s1 s2 : AV} {h : AH} : evL 134 47 [l0, l1, l2, l3, l4, l5, l6, l7] [s0, s1, s2] h = evL 134 48 [l0, l1, l2, l3, l4, l5, l6, l7] [I 4, s0, s1, s2] h := ev_go c134_47 rfl
theorem c134_48 : cd 134 48 = some (48, .iaload, 1, 0, 0, 0) := rfl
theorem s134_48 {l0 l1 l2 l3 l4 l5 l6 l7 s2 s3 : AV} {s0 : Int} {s1 : Nat} {M : Mem} {P : PMem} (hk : kd s1 = 100) (h0 : 0 ≤ s0) (hn : s0.toNat < ln s1) : evL 134 48 [l0, l1, l2, l3, l4, l5, l6, l7] [I s0, Rf s1, s2, s3] (Hp M P) = evL 134 49 [l0, l1, l2, l3, l4, l5, l6, l7] [I (M s1 s0.toNat), s2, s3] (Hp M P) := e_iald c134_48 hk h0 hn
theorem c134_49 : cd 134 49 = some (49, .aload_n 0, 1, 0, 0, 0) := rfl
theorem s134_49 {l1 l2 l3 l4 l5 l6 l7 s0 s1 s2 : AV} {l0 : Option Nat} {h : AH} : evL 134 49 [.inr (.inl l0), l1, l2, l3, l4, l5, l6, l7] [s0, s1, s2] h = evL 134 50 [.inr (.inl l0), l1, l2, l3, l4, l5, l6, l7] [.inr (.inl l0), s0, s1, s2] h := ev_go c134_49 rfl
theorem c134_50 : cd 134 50 = some (50, .iload_n 3, 1, 0, 0, 0) := rfl
theorem s134_50 {l0 l1 l2 l4 l5 l6 l7 s0 s1 s2 s3 : AV} {l3 : Int} {h : AH} : evL 134 50 [l0, l1, l2, I l3, l4, l5, l6, l7] [s0, s1, s2, s3] h = evL 134 51 [l0, l1, l2, I l3, l4, l5, l6, l7] [I l3, s0, s1, s2, s3] h := ev_go c134_50 rfl
theorem c134_51 : cd 134 51 = some (51, .iconst 3, 1, 0, 0, 0) := rfl
theorem s134_51 {l0 l1 l2 l3 l4 l5 l6 l7 s0 s1 s2 s3 s4 : AV} {h : AH} : evL 134 51 [l0, l1, l2, l3, l4, l5, l6, l7] [s0, s1, s2, s3, s4] h = evL 134 52 [l0, l1, l2, l3, l4, l5, l6, l7] [I 3, s0, s1, s2, s3, s4] h := ev_go c134_51 rfl
theorem c134_52 : cd 134 52 = some (52, .invokevirtual 54, 3, 116, 0, 806) := rfl
theorem s134_52 {l0 l1 l2 l3 l4 l5 l6 l7 s3 s4 s5 : AV} {s0 s1 : Int} {s2 : Nat} {M : Mem} {P : PMem} (hk : kd s2 = 8) : evL 134 52 [l0, l1, l2, l3, l4, l5, l6, l7] [I s0, I s1, Rf s2, s3, s4, s5] (Hp M P) = cont (evM 116 [Rf s2, I s1, I s0] (Hp M P)) (fun r h => evL 134 55 [l0, l1, l2, l3, l4, l5, l6, l7] (rl r [s3, s4, s5]) h) := e_callV (av' := [I s1, I s0]) (rest := [s3, s4, s5]) (c := 8) c134_52 rfl rfl rfl rfl rfl rfl rfl hk rfl
theorem c134_55 : cd 134 55 = some (55, .isub, 1, 0, 0, 0) := rfl
theorem s134_55 {l0 l1 l2 l3 l4 l5 l6 l7 s2 s3 : AV} {s0 s1 : Int} {h : AH} : evL 134 55 [l0, l1, l2, l3, l4, l5, l6, l7] [I s0, I s1, s2, s3] h = evL 134 56 [l0, l1, l2, l3, l4, l5, l6, l7] [I (sb s1 s0), s2, s3] h := ev_go c134_55 rfl
theorem c134_56 : cd 134 56 = some (56, .goto 4, 3, 0, 0, 0) := rfl
theorem s134_56 {l0 l1 l2 l3 l4 l5 l6 l7 s0 s1 s2 : AV} {h : AH} : evL 134 56 [l0, l1, l2, l3, l4, l5, l6, l7] [s0, s1, s2] h = evL 134 60 [l0, l1, l2, l3, l4, l5, l6, l7] [s0, s1, s2] h := ev_go c134_56 rfl
theorem c134_59 : cd 134 59 = some (59, .iconst 0, 1, 0, 0, 0) := rfl
theorem s134_59 {l0 l1 l2 l3 l4 l5 l6 l7 s0 s1 : AV} {h : AH} : evL 134 59 [l0, l1, l2, l3, l4, l5, l6, l7] [s0, s1] h = evL 134 60 [l0, l1, l2, l3, l4, l5, l6, l7] [I 0, s0, s1] h := ev_go c134_59 rfl
theorem c134_60 : cd 134 60 = some (60, .iastore, 1, 0, 0, 0) := rfl
theorem s134_60 {l0 l1 l2 l3 l4 l5 l6 l7 : AV} {s0 s1 : Int} {s2 : Nat} {M : Mem} {P : PMem} (hk : kd s2 = 100) (h0 : 0 ≤ s1) (hn : s1.toNat < ln s2) : evL 134 60 [l0, l1, l2, l3, l4, l5, l6, l7] [I s0, I s1, Rf s2] (Hp M P) = evL 134 61 [l0, l1, l2, l3, l4, l5, l6, l7] [] (Hp (wr M s2 s1.toNat s0) P) := e_iast c134_60 hk h0 hn
theorem c134_61 : cd 134 61 = some (61, .aload_n 0, 1, 0, 0, 0) := rfl
theorem s134_61 {l1 l2 l3 l4 l5 l6 l7 : AV} {l0 : Option Nat} {h : AH} : evL 134 61 [.inr (.inl l0), l1, l2, l3, l4, l5, l6, l7] [] h = evL 134 62 [.inr (.inl l0), l1, l2, l3, l4, l5, l6, l7] [.inr (.inl l0)] h := ev_go c134_61 rfl
theorem c134_62 : cd 134 62 = some (62, .iload_n 3, 1, 0, 0, 0) := rfl
theorem s134_62 {l0 l1 l2 l4 l5 l6 l7 s0 : AV} {l3 : Int} {h : AH} : evL 134 62 [l0, l1, l2, I l3, l4, l5, l6, l7] [s0] h = evL 134 63 [l0, l1, l2, I l3, l4, l5, l6, l7] [I l3, s0] h := ev_go c134_62 rfl
theorem c134_63 : cd 134 63 = some (63, .iconst 1, 1, 0, 0, 0) := rfl
theorem s134_63 {l0 l1 l2 l3 l4 l5 l6 l7 s0 s1 : AV} {h : AH} : evL 134 63 [l0, l1, l2, l3, l4, l5, l6, l7] [s0, s1] h = evL 134 64 [l0, l1, l2, l3, l4, l5, l6, l7] [I 1, s0, s1] h := ev_go c134_63 rfl
theorem c134_64 : cd 134 64 = some (64, .iload_n 1, 1, 0, 0, 0) := rfl
theorem s134_64 {l0 l2 l3 l4 l5 l6 l7 s0 s1 s2 : AV} {l1 : Int} {h : AH} : evL 134 64 [l0, I l1, l2, l3, l4, l5, l6, l7] [s0, s1, s2] h = evL 134 65 [l0, I l1, l2, l3, l4, l5, l6, l7] [I l1, s0, s1, s2] h := ev_go c134_64 rfl
theorem c134_65 : cd 134 65 = some (65, .ifCond .eq 7, 3, 0, 0, 0) := rfl
theorem s134_65 {l0 l1 l2 l3 l4 l5 l6 l7 s1 s2 s3 : AV} {s0 : Int} {h : AH} : evL 134 65 [l0, l1, l2, l3, l4, l5, l6, l7] [I s0, s1, s2, s3] h = if s0 = 0 then evL 134 72 [l0, l1, l2, l3, l4, l5, l6, l7] [s1, s2, s3] h else evL 134 68 [l0, l1, l2, l3, l4, l5, l6, l7] [s1, s2, s3] h := e_if_eq c134_65 rfl rfl
theorem c134_68 : cd 134 68 = some (68, .iconst 1, 1, 0, 0, 0) := rfl
theorem s134_68 {l0 l1 l2 l3 l4 l5 l6 l7 s0 s1 s2 : AV} {h : AH} : evL 134 68 [l0, l1, l2, l3, l4, l5, l6, l7] [s0, s1, s2] h = evL 134 69 [l0, l1, l2, l3, l4, l5, l6, l7] [I 1, s0, s1, s2] h := ev_go c134_68 rfl
theorem c134_69 : cd 134 69 = some (69, .goto 9, 3, 0, 0, 0) := rfl
theorem s134_69 {l0 l1 l2 l3 l4 l5 l6 l7 s0 s1 s2 s3 : AV} {h : AH} : evL 134 69 [l0, l1, l2, l3, l4, l5, l6, l7] [s0, s1, s2, s3] h = evL 134 78 [l0, l1, l2, l3, l4, l5, l6, l7] [s0, s1, s2, s3] h := ev_go c134_69 rfl
theorem c134_72 : cd 134 72 = some (72, .aload_n 0, 1, 0, 0, 0) := rfl
theorem s134_72 {l1 l2 l3 l4 l5 l6 l7 s0 s1 s2 : AV} {l0 : Option Nat} {h : AH} : evL 134 72 [.inr (.inl l0), l1, l2, l3, l4, l5, l6, l7] [s0, s1, s2] h = evL 134 73 [.inr (.inl l0), l1, l2, l3, l4, l5, l6, l7] [.inr (.inl l0), s0, s1, s2] h := ev_go c134_72 rfl
theorem c134_73 : cd 134 73 = some (73, .iload_n 3, 1, 0, 0, 0) := rfl
theorem s134_73 {l0 l1 l2 l4 l5 l6 l7 s0 s1 s2 s3 : AV} {l3 : Int} {h : AH} : evL 134 73 [l0, l1, l2, I l3, l4, l5, l6, l7] [s0, s1, s2, s3] h = evL 134 74 [l0, l1, l2, I l3, l4, l5, l6, l7] [I l3, s0, s1, s2, s3] h := ev_go c134_73 rfl
theorem c134_74 : cd 134 74 = some (74, .iconst 1, 1, 0, 0, 0) := rfl
theorem s134_74 {l0 l1 l2 l3 l4 l5 l6 l7 s0 s1 s2 s3 s4 : AV} {h : AH} : evL 134 74 [l0, l1, l2, l3, l4, l5, l6, l7] [s0, s1, s2, s3, s4] h = evL 134 75 [l0, l1, l2, l3, l4, l5, l6, l7] [I 1, s0, s1, s2, s3, s4] h := ev_go c134_74 rfl
theorem c134_75 : cd 134 75 = some (75, .invokevirtual 54, 3, 116, 0, 806) := rfl
theorem s134_75 {l0 l1 l2 l3 l4 l5 l6 l7 s3 s4 s5 : AV} {s0 s1 : Int} {s2 : Nat} {M : Mem} {P : PMem} (hk : kd s2 = 8) : evL 134 75 [l0, l1, l2, l3, l4, l5, l6, l7] [I s0, I s1, Rf s2, s3, s4, s5] (Hp M P) = cont (evM 116 [Rf s2, I s1, I s0] (Hp M P)) (fun r h => evL 134 78 [l0, l1, l2, l3, l4, l5, l6, l7] (rl r [s3, s4, s5]) h) := e_callV (av' := [I s1, I s0]) (rest := [s3, s4, s5]) (c := 8) c134_75 rfl rfl rfl rfl rfl rfl rfl hk rfl
theorem c134_78 : cd 134 78 = some (78, .invokevirtual 69, 3, 117, 0, 721) := rfl
theorem s134_78 {l0 l1 l2 l3 l4 l5 l6 l7 : AV} {s0 s1 s2 : Int} {s3 : Nat} {M : Mem} {P : PMem} (hk : kd s3 = 8) : evL 134 78 [l0, l1, l2, l3, l4, l5, l6, l7] [I s0, I s1, I s2, Rf s3] (Hp M P) = cont (evM 117 [Rf s3, I s2, I s1, I s0] (Hp M P)) (fun r h => evL 134 81 [l0, l1, l2, l3, l4, l5, l6, l7] (rl r []) h) := e_callV (av' := [I s2, I s1, I s0]) (rest := []) (c := 8) c134_78 rfl rfl rfl rfl rfl rfl rfl hk rfl
theorem c134_81 : cd 134 81 = some (81, .iconst 1, 1, 0, 0, 0) := rfl
theorem s134_81 {l0 l1 l2 l3 l4 l5 l6 l7 : AV} {h : AH} : evL 134 81 [l0, l1, l2, l3, l4, l5, l6, l7] [] h = evL 134 82 [l0, l1, l2, l3, l4, l5, l6, l7] [I 1] h := ev_go c134_81 rfl
theorem c134_82 : cd 134 82 = some (82, .aload_n 0, 1, 0, 0, 0) := rfl
theorem s134_82 {l1 l2 l3 l4 l5 l6 l7 s0 : AV} {l0 : Option Nat} {h : AH} : evL 134 82 [.inr (.inl l0), l1, l2, l3, l4, l5, l6, l7] [s0] h = evL 134 83 [.inr (.inl l0), l1, l2, l3, l4, l5, l6, l7] [.inr (.inl l0), s0] h := ev_go c134_82 rfl
theorem c134_83 : cd 134 83 = some (83, .invokevirtual 73, 3, 127, 0, 713) := rfl
theorem s134_83 {l0 l1 l2 l3 l4 l5 l6 l7 s1 : AV} {s0 : Nat} {M : Mem} {P : PMem} (hk : kd s0 = 8) : evL 134 83 [l0, l1, l2, l3, l4, l5, l6, l7] [Rf s0, s1] (Hp M P) = cont (evM 127 [Rf s0] (Hp M P)) (fun r h => evL 134 86 [l0, l1, l2, l3, l4, l5, l6, l7] (rl r [s1]) h) := e_callV (av' := []) (rest := [s1]) (c := 8) c134_83 rfl rfl rfl rfl rfl rfl rfl hk rfl
theorem c134_86 : cd 134 86 = some (86, .iconst 3, 1, 0, 0, 0) := rfl
theorem s134_86 {l0 l1 l2 l3 l4 l5 l6 l7 s0 s1 : AV} {h : AH} : evL 134 86 [l0, l1, l2, l3, l4, l5, l6, l7] [s0, s1] h = evL 134 87 [l0, l1, l2, l3, l4, l5, l6, l7] [I 3, s0, s1] h := ev_go c134_86 rfl
theorem c134_87 : cd 134 87 = some (87, .irem, 1, 0, 0, 0) := rfl
theorem s134_87 {l0 l1 l2 l3 l4 l5 l6 l7 s2 : AV} {s0 s1 : Int} {h : AH} (hd : s0 ≠ 0) : evL 134 87 [l0, l1, l2, l3, l4, l5, l6, l7] [I s0, I s1, s2] h = evL 134 88 [l0, l1, l2, l3, l4, l5, l6, l7] [I (rm s1 s0), s2] h := ev_go c134_87 (if_pos hd)
theorem c134_88 : cd 134 88 = some (88, .iadd, 1, 0, 0, 0) := rfl
theorem s134_88 {l0 l1 l2 l3 l4 l5 l6 l7 : AV} {s0 s1 : Int} {h : AH} : evL 134 88 [l0, l1, l2, l3, l4, l5, l6, l7] [I s0, I s1] h = evL 134 89 [l0, l1, l2, l3, l4, l5, l6, l7] [I (ad s1 s0)] h := ev_go c134_88 rfl
theorem c134_89 : cd 134 89 = some (89, .istore 4, 2, 0, 0, 0) := rfl
theorem s134_89 {l0 l1 l2 l3 l4 l5 l6 l7 : AV} {s0 : Int} {h : AH} : evL 134 89 [l0, l1, l2, l3, l4, l5, l6, l7] [I s0] h = evL 134 91 [l0, l1, l2, l3, I s0, l5, l6, l7] [] h := ev_go c134_89 rfl
theorem c134_91 : cd 134 91 = some (91, .iconst 1, 1, 0, 0, 0) := rfl
theorem s134_91 {l0 l1 l2 l3 l4 l5 l6 l7 : AV} {h : AH} : evL 134 91 [l0, l1, l2, l3, l4, l5, l6, l7] [] h = evL 134 92 [l0, l1, l2, l3, l4, l5, l6, l7] [I 1] h := ev_go c134_91 rfl
theorem c134_92 : cd 134 92 = some (92, .aload_n 0, 1, 0, 0, 0) := rfl
theorem s134_92 {l1 l2 l3 l4 l5 l6 l7 s0 : AV} {l0 : Option Nat} {h : AH} : evL 134 92 [.inr (.inl l0), l1, l2, l3, l4, l5, l6, l7] [s0] h = evL 134 93 [.inr (.inl l0), l1, l2, l3, l4, l5, l6, l7] [.inr (.inl l0), s0] h := ev_go c134_92 rfl
theorem c134_93 : cd 134 93 = some (93, .invokevirtual 73, 3, 127, 0, 713) := rfl
theorem s134_93 {l0 l1 l2 l3 l4 l5 l6 l7 s1 : AV} {s0 : Nat} {M : Mem} {P : PMem} (hk : kd s0 = 8) : evL 134 93 [l0, l1, l2, l3, l4, l5, l6, l7] [Rf s0, s1] (Hp M P) = cont (evM 127 [Rf s0] (Hp M P)) (fun r h => evL 134 96 [l0, l1, l2, l3, l4, l5, l6, l7] (rl r [s1]) h) := e_callV (av' := []) (rest := [s1]) (c := 8) c134_93 rfl rfl rfl rfl rfl rfl rfl hk rfl
theorem c134_96 : cd 134 96 = some (96, .iconst 3, 1, 0, 0, 0) := rfl
theorem s134_96 {l0 l1 l2 l3 l4 l5 l6 l7 s0 s1 : AV} {h : AH} : evL 134 96 [l0, l1, l2, l3, l4, l5, l6, l7] [s0, s1] h = evL 134 97 [l0, l1, l2, l3, l4, l5, l6, l7] [I 3, s0, s1] h := ev_go c134_96 rfl
theorem c134_97 : cd 134 97 = some (97, .irem, 1, 0, 0, 0) := rfl
theorem s134_97 {l0 l1 l2 l3 l4 l5 l6 l7 s2 : AV} {s0 s1 : Int} {h : AH} (hd : s0 ≠ 0) : evL 134 97 [l0, l1, l2, l3, l4, l5, l6, l7] [I s0, I s1, s2] h = evL 134 98 [l0, l1, l2, l3, l4, l5, l6, l7] [I (rm s1 s0), s2] h := ev_go c134_97 (if_pos hd)
theorem c134_98 : cd 134 98 = some (98, .iadd, 1, 0, 0, 0) := rfl
theorem s134_98 {l0 l1 l2 l3 l4 l5 l6 l7 : AV} {s0 s1 : Int} {h : AH} : evL 134 98 [l0, l1, l2, l3, l4, l5, l6, l7] [I s0, I s1] h = evL 134 99 [l0, l1, l2, l3, l4, l5, l6, l7] [I (ad s1 s0)] h := ev_go c134_98 rfl
theorem c134_99 : cd 134 99 = some (99, .istore 5, 2, 0, 0, 0) := rfl
theorem s134_99 {l0 l1 l2 l3 l4 l5 l6 l7 : AV} {s0 : Int} {h : AH} : evL 134 99 [l0, l1, l2, l3, l4, l5, l6, l7] [I s0] h = evL 134 101 [l0, l1, l2, l3, l4, I s0, l6, l7] [] h := ev_go c134_99 rfl
theorem c134_101 : cd 134 101 = some (101, .aload_n 0, 1, 0, 0, 0) := rfl
theorem s134_101 {l1 l2 l3 l4 l5 l6 l7 : AV} {l0 : Option Nat} {h : AH} : evL 134 101 [.inr (.inl l0), l1, l2, l3, l4, l5, l6, l7] [] h = evL 134 102 [.inr (.inl l0), l1, l2, l3, l4, l5, l6, l7] [.inr (.inl l0)] h := ev_go c134_101 rfl
theorem c134_102 : cd 134 102 = some (102, .getfield 7, 3, 8, 0, 725) := rfl
theorem s134_102 {l0 l1 l2 l3 l4 l5 l6 l7 : AV} {s0 : Nat} {M : Mem} {P : PMem} (hk : kd s0 = 8) : evL 134 102 [l0, l1, l2, l3, l4, l5, l6, l7] [Rf s0] (Hp M P) = evL 134 105 [l0, l1, l2, l3, l4, l5, l6, l7] [Rf (rfd s0 0)] (Hp M P) := e_getR c134_102 rfl hk
theorem c134_105 : cd 134 105 = some (105, .bipush 6, 2, 0, 0, 0) := rfl
theorem s134_105 {l0 l1 l2 l3 l4 l5 l6 l7 s0 : AV} {h : AH} : evL 134 105 [l0, l1, l2, l3, l4, l5, l6, l7] [s0] h = evL 134 107 [l0, l1, l2, l3, l4, l5, l6, l7] [I 6, s0] h := ev_go c134_105 rfl
theorem c134_107 : cd 134 107 = some (107, .iload 4, 2, 0, 0, 0) := rfl
theorem s134_107 {l0 l1 l2 l3 l5 l6 l7 s0 s1 : AV} {l4 : Int} {h : AH} : evL 134 107 [l0, l1, l2, l3, I l4, l5, l6, l7] [s0, s1] h = evL 134 109 [l0, l1, l2, l3, I l4, l5, l6, l7] [I l4, s0, s1] h := ev_go c134_107 rfl
theorem c134_109 : cd 134 109 = some (109, .iload 5, 2, 0, 0, 0) := rfl
theorem s134_109 {l0 l1 l2 l3 l4 l6 l7 s0 s1 s2 : AV} {l5 : Int} {h : AH} : evL 134 109 [l0, l1, l2, l3, l4, I l5, l6, l7] [s0, s1, s2] h = evL 134 111 [l0, l1, l2, l3, l4, I l5, l6, l7] [I l5, s0, s1, s2] h := ev_go c134_109 rfl
theorem c134_111 : cd 134 111 = some (111, .iadd, 1, 0, 0, 0) := rfl
theorem s134_111 {l0 l1 l2 l3 l4 l5 l6 l7 s2 s3 : AV} {s0 s1 : Int} {h : AH} : evL 134 111 [l0, l1, l2, l3, l4, l5, l6, l7] [I s0, I s1, s2, s3] h = evL 134 112 [l0, l1, l2, l3, l4, l5, l6, l7] [I (ad s1 s0), s2, s3] h := ev_go c134_111 rfl
theorem c134_112 : cd 134 112 = some (112, .iastore, 1, 0, 0, 0) := rfl
theorem s134_112 {l0 l1 l2 l3 l4 l5 l6 l7 : AV} {s0 s1 : Int} {s2 : Nat} {M : Mem} {P : PMem} (hk : kd s2 = 100) (h0 : 0 ≤ s1) (hn : s1.toNat < ln s2) : evL 134 112 [l0, l1, l2, l3, l4, l5, l6, l7] [I s0, I s1, Rf s2] (Hp M P) = evL 134 113 [l0, l1, l2, l3, l4, l5, l6, l7] [] (Hp (wr M s2 s1.toNat s0) P) := e_iast c134_112 hk h0 hn
theorem c134_113 : cd 134 113 = some (113, .aload_n 0, 1, 0, 0, 0) := rfl
theorem s134_113 {l1 l2 l3 l4 l5 l6 l7 : AV} {l0 : Option Nat} {h : AH} : evL 134 113 [.inr (.inl l0), l1, l2, l3, l4, l5, l6, l7] [] h = evL 134 114 [.inr (.inl l0), l1, l2, l3, l4, l5, l6, l7] [.inr (.inl l0)] h := ev_go c134_113 rfl
theorem c134_114 : cd 134 114 = some (114, .iload_n 3, 1, 0, 0, 0) := rfl
theorem s134_114 {l0 l1 l2 l4 l5 l6 l7 s0 : AV} {l3 : Int} {h : AH} : evL 134 114 [l0, l1, l2, I l3, l4, l5, l6, l7] [s0] h = evL 134 115 [l0, l1, l2, I l3, l4, l5, l6, l7] [I l3, s0] h := ev_go c134_114 rfl
theorem c134_115 : cd 134 115 = some (115, .iconst 1, 1, 0, 0, 0) := rfl
theorem s134_115 {l0 l1 l2 l3 l4 l5 l6 l7 s0 s1 : AV} {h : AH} : evL 134 115 [l0, l1, l2, l3, l4, l5, l6, l7] [s0, s1] h = evL 134 116 [l0, l1, l2, l3, l4, l5, l6, l7] [I 1, s0, s1] h := ev_go c134_115 rfl
theorem c134_116 : cd 134 116 = some (116, .invokevirtual 54, 3, 116, 0, 806) := rfl
theorem s134_116 {l0 l1 l2 l3 l4 l5 l6 l7 : AV} {s0 s1 : Int} {s2 : Nat} {M : Mem} {P : PMem} (hk : kd s2 = 8) : evL 134 116 [l0, l1, l2, l3, l4, l5, l6, l7] [I s0, I s1, Rf s2] (Hp M P) = cont (evM 116 [Rf s2, I s1, I s0] (Hp M P)) (fun r h => evL 134 119 [l0, l1, l2, l3, l4, l5, l6, l7] (rl r []) h) := e_callV (av' := [I s1, I s0]) (rest := []) (c := 8) c134_116 rfl rfl rfl rfl rfl rfl rfl hk rfl
theorem c134_119 : cd 134 119 = some (119, .iconst 1, 1, 0, 0, 0) := rfl
theorem s134_119 {l0 l1 l2 l3 l4 l5 l6 l7 s0 : AV} {h : AH} : evL 134 119 [l0, l1, l2, l3, l4, l5, l6, l7] [s0] h = evL 134 120 [l0, l1, l2, l3, l4, l5, l6, l7] [I 1, s0] h := ev_go c134_119 rfl
theorem c134_120 : cd 134 120 = some (120, .if_icmp .ne 7, 3, 0, 0, 0) := rfl
theorem s134_120 {l0 l1 l2 l3 l4 l5 l6 l7 : AV} {s0 s1 : Int} {h : AH} : evL 134 120 [l0, l1, l2, l3, l4, l5, l6, l7] [I s0, I s1] h = if s1 = s0 then evL 134 123 [l0, l1, l2, l3, l4, l5, l6, l7] [] h else evL 134 127 [l0, l1, l2, l3, l4, l5, l6, l7] [] h := e_icmp_ne c134_120 rfl rfl
theorem c134_123 : cd 134 123 = some (123, .iconst 1, 1, 0, 0, 0) := rfl
theorem s134_123 {l0 l1 l2 l3 l4 l5 l6 l7 : AV} {h : AH} : evL 134 123 [l0, l1, l2, l3, l4, l5, l6, l7] [] h = evL 134 124 [l0, l1, l2, l3, l4, l5, l6, l7] [I 1] h := ev_go c134_123 rfl
theorem c134_124 : cd 134 124 = some (124, .goto 4, 3, 0, 0, 0) := rfl
theorem s134_124 {l0 l1 l2 l3 l4 l5 l6 l7 s0 : AV} {h : AH} : evL 134 124 [l0, l1, l2, l3, l4, l5, l6, l7] [s0] h = evL 134 128 [l0, l1, l2, l3, l4, l5, l6, l7] [s0] h := ev_go c134_124 rfl
theorem c134_127 : cd 134 127 = some (127, .iconst 0, 1, 0, 0, 0) := rfl
theorem s134_127 {l0 l1 l2 l3 l4 l5 l6 l7 : AV} {h : AH} : evL 134 127 [l0, l1, l2, l3, l4, l5, l6, l7] [] h = evL 134 128 [l0, l1, l2, l3, l4, l5, l6, l7] [I 0] h := ev_go c134_127 rfl
theorem c134_128 : cd 134 128 = some (128, .istore 6, 2, 0, 0, 0) := rfl
theorem s134_128 {l0 l1 l2 l3 l4 l5 l6 l7 : AV} {s0 : Int} {h : AH} : evL 134 128 [l0, l1, l2, l3, l4, l5, l6, l7] [I s0] h = evL 134 130 [l0, l1, l2, l3, l4, l5, I s0, l7] [] h := ev_go c134_128 rfl
theorem c134_130 : cd 134 130 = some (130, .aload_n 0, 1, 0, 0, 0) := rfl
theorem s134_130 {l1 l2 l3 l4 l5 l6 l7 : AV} {l0 : Option Nat} {h : AH} : evL 134 130 [.inr (.inl l0), l1, l2, l3, l4, l5, l6, l7] [] h = evL 134 131 [.inr (.inl l0), l1, l2, l3, l4, l5, l6, l7] [.inr (.inl l0)] h := ev_go c134_130 rfl
theorem c134_131 : cd 134 131 = some (131, .iload_n 3, 1, 0, 0, 0) := rfl
theorem s134_131 {l0 l1 l2 l4 l5 l6 l7 s0 : AV} {l3 : Int} {h : AH} : evL 134 131 [l0, l1, l2, I l3, l4, l5, l6, l7] [s0] h = evL 134 132 [l0, l1, l2, I l3, l4, l5, l6, l7] [I l3, s0] h := ev_go c134_131 rfl
theorem c134_132 : cd 134 132 = some (132, .aload_n 0, 1, 0, 0, 0) := rfl
theorem s134_132 {l1 l2 l3 l4 l5 l6 l7 s0 s1 : AV} {l0 : Option Nat} {h : AH} : evL 134 132 [.inr (.inl l0), l1, l2, l3, l4, l5, l6, l7] [s0, s1] h = evL 134 133 [.inr (.inl l0), l1, l2, l3, l4, l5, l6, l7] [.inr (.inl l0), s0, s1] h := ev_go c134_132 rfl
theorem c134_133 : cd 134 133 = some (133, .iload_n 3, 1, 0, 0, 0) := rfl
theorem s134_133 {l0 l1 l2 l4 l5 l6 l7 s0 s1 s2 : AV} {l3 : Int} {h : AH} : evL 134 133 [l0, l1, l2, I l3, l4, l5, l6, l7] [s0, s1, s2] h = evL 134 134 [l0, l1, l2, I l3, l4, l5, l6, l7] [I l3, s0, s1, s2] h := ev_go c134_133 rfl
theorem c134_134 : cd 134 134 = some (134, .iconst 0, 1, 0, 0, 0) := rfl
theorem s134_134 {l0 l1 l2 l3 l4 l5 l6 l7 s0 s1 s2 s3 : AV} {h : AH} : evL 134 134 [l0, l1, l2, l3, l4, l5, l6, l7] [s0, s1, s2, s3] h = evL 134 135 [l0, l1, l2, l3, l4, l5, l6, l7] [I 0, s0, s1, s2, s3] h := ev_go c134_134 rfl
theorem c134_135 : cd 134 135 = some (135, .invokevirtual 54, 3, 116, 0, 806) := rfl
theorem s134_135 {l0 l1 l2 l3 l4 l5 l6 l7 s3 s4 : AV} {s0 s1 : Int} {s2 : Nat} {M : Mem} {P : PMem} (hk : kd s2 = 8) : evL 134 135 [l0, l1, l2, l3, l4, l5, l6, l7] [I s0, I s1, Rf s2, s3, s4] (Hp M P) = cont (evM 116 [Rf s2, I s1, I s0] (Hp M P)) (fun r h => evL 134 138 [l0, l1, l2, l3, l4, l5, l6, l7] (rl r [s3, s4]) h) := e_callV (av' := [I s1, I s0]) (rest := [s3, s4]) (c := 8) c134_135 rfl rfl rfl rfl rfl rfl rfl hk rfl
theorem c134_138 : cd 134 138 = some (138, .iload 6, 2, 0, 0, 0) := rfl
theorem s134_138 {l0 l1 l2 l3 l4 l5 l7 s0 s1 s2 : AV} {l6 : Int} {h : AH} : evL 134 138 [l0, l1, l2, l3, l4, l5, I l6, l7] [s0, s1, s2] h = evL 134 140 [l0, l1, l2, l3, l4, l5, I l6, l7] [I l6, s0, s1, s2] h := ev_go c134_138 rfl
theorem c134_140 : cd 134 140 = some (140, .aload_n 0, 1, 0, 0, 0) := rfl
theorem s134_140 {l1 l2 l3 l4 l5 l6 l7 s0 s1 s2 s3 : AV} {l0 : Option Nat} {h : AH} : evL 134 140 [.inr (.inl l0), l1, l2, l3, l4, l5, l6, l7] [s0, s1, s2, s3] h = evL 134 141 [.inr (.inl l0), l1, l2, l3, l4, l5, l6, l7] [.inr (.inl l0), s0, s1, s2, s3] h := ev_go c134_140 rfl
theorem c134_141 : cd 134 141 = some (141, .iload_n 3, 1, 0, 0, 0) := rfl
theorem s134_141 {l0 l1 l2 l4 l5 l6 l7 s0 s1 s2 s3 s4 : AV} {l3 : Int} {h : AH} : evL 134 141 [l0, l1, l2, I l3, l4, l5, l6, l7] [s0, s1, s2, s3, s4] h = evL 134 142 [l0, l1, l2, I l3, l4, l5, l6, l7] [I l3, s0, s1, s2, s3, s4] h := ev_go c134_141 rfl
theorem c134_142 : cd 134 142 = some (142, .aload_n 0, 1, 0, 0, 0) := rfl
theorem s134_142 {l1 l2 l3 l4 l5 l6 l7 s0 s1 s2 s3 s4 s5 : AV} {l0 : Option Nat} {h : AH} : evL 134 142 [.inr (.inl l0), l1, l2, l3, l4, l5, l6, l7] [s0, s1, s2, s3, s4, s5] h = evL 134 143 [.inr (.inl l0), l1, l2, l3, l4, l5, l6, l7] [.inr (.inl l0), s0, s1, s2, s3, s4, s5] h := ev_go c134_142 rfl
theorem c134_143 : cd 134 143 = some (143, .getfield 7, 3, 8, 0, 725) := rfl
theorem s134_143 {l0 l1 l2 l3 l4 l5 l6 l7 s1 s2 s3 s4 s5 s6 : AV} {s0 : Nat} {M : Mem} {P : PMem} (hk : kd s0 = 8) : evL 134 143 [l0, l1, l2, l3, l4, l5, l6, l7] [Rf s0, s1, s2, s3, s4, s5, s6] (Hp M P) = evL 134 146 [l0, l1, l2, l3, l4, l5, l6, l7] [Rf (rfd s0 0), s1, s2, s3, s4, s5, s6] (Hp M P) := e_getR c134_143 rfl hk
theorem c134_146 : cd 134 146 = some (146, .bipush 6, 2, 0, 0, 0) := rfl
theorem s134_146 {l0 l1 l2 l3 l4 l5 l6 l7 s0 s1 s2 s3 s4 s5 s6 : AV} {h : AH} : evL 134 146 [l0, l1, l2, l3, l4, l5, l6, l7] [s0, s1, s2, s3, s4, s5, s6] h = evL 134 148 [l0, l1, l2, l3, l4, l5, l6, l7] [I 6, s0, s1, s2, s3, s4, s5, s6] h := ev_go c134_146 rfl
theorem c134_148 : cd 134 148 = some (148, .iaload, 1, 0, 0, 0) := rfl
theorem s134_148 {l0 l1 l2 l3 l4 l5 l6 l7 s2 s3 s4 s5 s6 s7 : AV} {s0 : Int} {s1 : Nat} {M : Mem} {P : PMem} (hk : kd s1 = 100) (h0 : 0 ≤ s0) (hn : s0.toNat < ln s1) : evL 134 148 [l0, l1, l2, l3, l4, l5, l6, l7] [I s0, Rf s1, s2, s3, s4, s5, s6, s7] (Hp M P) = evL 134 149 [l0, l1, l2, l3, l4, l5, l6, l7] [I (M s1 s0.toNat), s2, s3, s4, s5, s6, s7] (Hp M P) := e_iald c134_148 hk h0 hn
theorem c134_149 : cd 134 149 = some (149, .invokevirtual 91, 3, 133, 0, 814) := rfl
theorem s134_149 {l0 l1 l2 l3 l4 l5 l6 l7 s3 s4 s5 s6 : AV} {s0 s1 : Int} {s2 : Nat} {M : Mem} {P : PMem} (hk : kd s2 = 8) : evL 134 149 [l0, l1, l2, l3, l4, l5, l6, l7] [I s0, I s1, Rf s2, s3, s4, s5, s6] (Hp M P) = cont (evM 133 [Rf s2, I s1, I s0] (Hp M P)) (fun r h => evL 134 152 [l0, l1, l2, l3, l4, l5, l6, l7] (rl r [s3, s4, s5, s6]) h) := e_callV (av' := [I s1, I s0]) (rest := [s3, s4, s5, s6]) (c := 8) c134_149 rfl rfl rfl rfl rfl rfl rfl hk rfl
theorem c134_152 : cd 134 152 = some (152, .invokevirtual 94, 3, 132, 0, 818) := rfl
theorem s134_152 {l0 l1 l2 l3 l4 l5 l6 l7 : AV} {s0 s1 s2 s3 : Int} {s4 : Nat} {M : Mem} {P : PMem} (hk : kd s4 = 8) : evL 134 152 [l0, l1, l2, l3, l4, l5, l6, l7] [I s0, I s1, I s2, I s3, Rf s4] (Hp M P) = cont (evM 132 [Rf s4, I s3, I s2, I s1, I s0] (Hp M P)) (fun r h => evL 134 155 [l0, l1, l2, l3, l4, l5, l6, l7] (rl r []) h) := e_callV (av' := [I s3, I s2, I s1, I s0]) (rest := []) (c := 8) c134_152 rfl rfl rfl rfl rfl rfl rfl hk rfl
theorem c134_155 : cd 134 155 = some (155, .istore 7, 2, 0, 0, 0) := rfl
theorem s134_155 {l0 l1 l2 l3 l4 l5 l6 l7 : AV} {s0 : Int} {h : AH} : evL 134 155 [l0, l1, l2, l3, l4, l5, l6, l7] [I s0] h = evL 134 157 [l0, l1, l2, l3, l4, l5, l6, I s0] [] h := ev_go c134_155 rfl
theorem c134_157 : cd 134 157 = some (157, .aload_n 0, 1, 0, 0, 0) := rfl
theorem s134_157 {l1 l2 l3 l4 l5 l6 l7 : AV} {l0 : Option Nat} {h : AH} : evL 134 157 [.inr (.inl l0), l1, l2, l3, l4, l5, l6, l7] [] h = evL 134 158 [.inr (.inl l0), l1, l2, l3, l4, l5, l6, l7] [.inr (.inl l0)] h := ev_go c134_157 rfl
theorem c134_158 : cd 134 158 = some (158, .iload_n 3, 1, 0, 0, 0) := rfl
theorem s134_158 {l0 l1 l2 l4 l5 l6 l7 s0 : AV} {l3 : Int} {h : AH} : evL 134 158 [l0, l1, l2, I l3, l4, l5, l6, l7] [s0] h = evL 134 159 [l0, l1, l2, I l3, l4, l5, l6, l7] [I l3, s0] h := ev_go c134_158 rfl
theorem c134_159 : cd 134 159 = some (159, .iconst 0, 1, 0, 0, 0) := rfl
theorem s134_159 {l0 l1 l2 l3 l4 l5 l6 l7 s0 s1 : AV} {h : AH} : evL 134 159 [l0, l1, l2, l3, l4, l5, l6, l7] [s0, s1] h = evL 134 160 [l0, l1, l2, l3, l4, l5, l6, l7] [I 0, s0, s1] h := ev_go c134_159 rfl
theorem c134_160 : cd 134 160 = some (160, .iload 7, 2, 0, 0, 0) := rfl
theorem s134_160 {l0 l1 l2 l3 l4 l5 l6 s0 s1 s2 : AV} {l7 : Int} {h : AH} : evL 134 160 [l0, l1, l2, l3, l4, l5, l6, I l7] [s0, s1, s2] h = evL 134 162 [l0, l1, l2, l3, l4, l5, l6, I l7] [I l7, s0, s1, s2] h := ev_go c134_160 rfl
theorem c134_162 : cd 134 162 = some (162, .invokevirtual 69, 3, 117, 0, 721) := rfl
theorem s134_162 {l0 l1 l2 l3 l4 l5 l6 l7 : AV} {s0 s1 s2 : Int} {s3 : Nat} {M : Mem} {P : PMem} (hk : kd s3 = 8) : evL 134 162 [l0, l1, l2, l3, l4, l5, l6, l7] [I s0, I s1, I s2, Rf s3] (Hp M P) = cont (evM 117 [Rf s3, I s2, I s1, I s0] (Hp M P)) (fun r h => evL 134 165 [l0, l1, l2, l3, l4, l5, l6, l7] (rl r []) h) := e_callV (av' := [I s2, I s1, I s0]) (rest := []) (c := 8) c134_162 rfl rfl rfl rfl rfl rfl rfl hk rfl
theorem c134_165 : cd 134 165 = some (165, .aload_n 0, 1, 0, 0, 0) := rfl
theorem s134_165 {l1 l2 l3 l4 l5 l6 l7 : AV} {l0 : Option Nat} {h : AH} : evL 134 165 [.inr (.inl l0), l1, l2, l3, l4, l5, l6, l7] [] h = evL 134 166 [.inr (.inl l0), l1, l2, l3, l4, l5, l6, l7] [.inr (.inl l0)] h := ev_go c134_165 rfl
theorem c134_166 : cd 134 166 = some (166, .iload_n 3, 1, 0, 0, 0) := rfl
theorem s134_166 {l0 l1 l2 l4 l5 l6 l7 s0 : AV} {l3 : Int} {h : AH} : evL 134 166 [l0, l1, l2, I l3, l4, l5, l6, l7] [s0] h = evL 134 167 [l0, l1, l2, I l3, l4, l5, l6, l7] [I l3, s0] h := ev_go c134_166 rfl
theorem c134_167 : cd 134 167 = some (167, .iconst 2, 1, 0, 0, 0) := rfl
theorem s134_167 {l0 l1 l2 l3 l4 l5 l6 l7 s0 s1 : AV} {h : AH} : evL 134 167 [l0, l1, l2, l3, l4, l5, l6, l7] [s0, s1] h = evL 134 168 [l0, l1, l2, l3, l4, l5, l6, l7] [I 2, s0, s1] h := ev_go c134_167 rfl
theorem c134_168 : cd 134 168 = some (168, .iload 6, 2, 0, 0, 0) := rfl
theorem s134_168 {l0 l1 l2 l3 l4 l5 l7 s0 s1 s2 : AV} {l6 : Int} {h : AH} : evL 134 168 [l0, l1, l2, l3, l4, l5, I l6, l7] [s0, s1, s2] h = evL 134 170 [l0, l1, l2, l3, l4, l5, I l6, l7] [I l6, s0, s1, s2] h := ev_go c134_168 rfl
theorem c134_170 : cd 134 170 = some (170, .ifCond .eq 12, 3, 0, 0, 0) := rfl
theorem s134_170 {l0 l1 l2 l3 l4 l5 l6 l7 s1 s2 s3 : AV} {s0 : Int} {h : AH} : evL 134 170 [l0, l1, l2, l3, l4, l5, l6, l7] [I s0, s1, s2, s3] h = if s0 = 0 then evL 134 182 [l0, l1, l2, l3, l4, l5, l6, l7] [s1, s2, s3] h else evL 134 173 [l0, l1, l2, l3, l4, l5, l6, l7] [s1, s2, s3] h := e_if_eq c134_170 rfl rfl
theorem c134_173 : cd 134 173 = some (173, .iload 7, 2, 0, 0, 0) := rfl
theorem s134_173 {l0 l1 l2 l3 l4 l5 l6 s0 s1 s2 : AV} {l7 : Int} {h : AH} : evL 134 173 [l0, l1, l2, l3, l4, l5, l6, I l7] [s0, s1, s2] h = evL 134 175 [l0, l1, l2, l3, l4, l5, l6, I l7] [I l7, s0, s1, s2] h := ev_go c134_173 rfl
theorem c134_175 : cd 134 175 = some (175, .ifCond .ne 7, 3, 0, 0, 0) := rfl
theorem s134_175 {l0 l1 l2 l3 l4 l5 l6 l7 s1 s2 s3 : AV} {s0 : Int} {h : AH} : evL 134 175 [l0, l1, l2, l3, l4, l5, l6, l7] [I s0, s1, s2, s3] h = if s0 = 0 then evL 134 178 [l0, l1, l2, l3, l4, l5, l6, l7] [s1, s2, s3] h else evL 134 182 [l0, l1, l2, l3, l4, l5, l6, l7] [s1, s2, s3] h := e_if_ne c134_175 rfl rfl
theorem c134_178 : cd 134 178 = some (178, .iconst 1, 1, 0, 0, 0) := rfl
theorem s134_178 {l0 l1 l2 l3 l4 l5 l6 l7 s0 s1 s2 : AV} {h : AH} : evL 134 178 [l0, l1, l2, l3, l4, l5, l6, l7] [s0, s1, s2] h = evL 134 179 [l0, l1, l2, l3, l4, l5, l6, l7] [I 1, s0, s1, s2] h := ev_go c134_178 rfl
theorem c134_179 : cd 134 179 = some (179, .goto 4, 3, 0, 0, 0) := rfl
theorem s134_179 {l0 l1 l2 l3 l4 l5 l6 l7 s0 s1 s2 s3 : AV} {h : AH} : evL 134 179 [l0, l1, l2, l3, l4, l5, l6, l7] [s0, s1, s2, s3] h = evL 134 183 [l0, l1, l2, l3, l4, l5, l6, l7] [s0, s1, s2, s3] h := ev_go c134_179 rfl
theorem c134_182 : cd 134 182 = some (182, .iconst 0, 1, 0, 0, 0) := rfl
theorem s134_182 {l0 l1 l2 l3 l4 l5 l6 l7 s0 s1 s2 : AV} {h : AH} : evL 134 182 [l0, l1, l2, l3, l4, l5, l6, l7] [s0, s1, s2] h = evL 134 183 [l0, l1, l2, l3, l4, l5, l6, l7] [I 0, s0, s1, s2] h := ev_go c134_182 rfl
theorem c134_183 : cd 134 183 = some (183, .invokevirtual 69, 3, 117, 0, 721) := rfl
theorem s134_183 {l0 l1 l2 l3 l4 l5 l6 l7 : AV} {s0 s1 s2 : Int} {s3 : Nat} {M : Mem} {P : PMem} (hk : kd s3 = 8) : evL 134 183 [l0, l1, l2, l3, l4, l5, l6, l7] [I s0, I s1, I s2, Rf s3] (Hp M P) = cont (evM 117 [Rf s3, I s2, I s1, I s0] (Hp M P)) (fun r h => evL 134 186 [l0, l1, l2, l3, l4, l5, l6, l7] (rl r []) h) := e_callV (av' := [I s2, I s1, I s0]) (rest := []) (c := 8) c134_183 rfl rfl rfl rfl rfl rfl rfl hk rfl
theorem c134_186 : cd 134 186 = some (186, .aload_n 0, 1, 0, 0, 0) := rfl
theorem s134_186 {l1 l2 l3 l4 l5 l6 l7 : AV} {l0 : Option Nat} {h : AH} : evL 134 186 [.inr (.inl l0), l1, l2, l3, l4, l5, l6, l7] [] h = evL 134 187 [.inr (.inl l0), l1, l2, l3, l4, l5, l6, l7] [.inr (.inl l0)] h := ev_go c134_186 rfl
theorem c134_187 : cd 134 187 = some (187, .getfield 7, 3, 8, 0, 725) := rfl
theorem s134_187 {l0 l1 l2 l3 l4 l5 l6 l7 : AV} {s0 : Nat} {M : Mem} {P : PMem} (hk : kd s0 = 8) : evL 134 187 [l0, l1, l2, l3, l4, l5, l6, l7] [Rf s0] (Hp M P) = evL 134 190 [l0, l1, l2, l3, l4, l5, l6, l7] [Rf (rfd s0 0)] (Hp M P) := e_getR c134_187 rfl hk
theorem c134_190 : cd 134 190 = some (190, .iconst 3, 1, 0, 0, 0) := rfl
theorem s134_190 {l0 l1 l2 l3 l4 l5 l6 l7 s0 : AV} {h : AH} : evL 134 190 [l0, l1, l2, l3, l4, l5, l6, l7] [s0] h = evL 134 191 [l0, l1, l2, l3, l4, l5, l6, l7] [I 3, s0] h := ev_go c134_190 rfl
theorem c134_191 : cd 134 191 = some (191, .iconst 1, 1, 0, 0, 0) := rfl
theorem s134_191 {l0 l1 l2 l3 l4 l5 l6 l7 s0 s1 : AV} {h : AH} : evL 134 191 [l0, l1, l2, l3, l4, l5, l6, l7] [s0, s1] h = evL 134 192 [l0, l1, l2, l3, l4, l5, l6, l7] [I 1, s0, s1] h := ev_go c134_191 rfl
theorem c134_192 : cd 134 192 = some (192, .iastore, 1, 0, 0, 0) := rfl
theorem s134_192 {l0 l1 l2 l3 l4 l5 l6 l7 : AV} {s0 s1 : Int} {s2 : Nat} {M : Mem} {P : PMem} (hk : kd s2 = 100) (h0 : 0 ≤ s1) (hn : s1.toNat < ln s2) : evL 134 192 [l0, l1, l2, l3, l4, l5, l6, l7] [I s0, I s1, Rf s2] (Hp M P) = evL 134 193 [l0, l1, l2, l3, l4, l5, l6, l7] [] (Hp (wr M s2 s1.toNat s0) P) := e_iast c134_192 hk h0 hn
theorem c134_193 : cd 134 193 = some (193, .bipush 10, 2, 0, 0, 0) := rfl
theorem s134_193 {l0 l1 l2 l3 l4 l5 l6 l7 : AV} {h : AH} : evL 134 193 [l0, l1, l2, l3, l4, l5, l6, l7] [] h = evL 134 195 [l0, l1, l2, l3, l4, l5, l6, l7] [I 10] h := ev_go c134_193 rfl
theorem c134_195 : cd 134 195 = some (195, .iload 7, 2, 0, 0, 0) := rfl
theorem s134_195 {l0 l1 l2 l3 l4 l5 l6 s0 : AV} {l7 : Int} {h : AH} : evL 134 195 [l0, l1, l2, l3, l4, l5, l6, I l7] [s0] h = evL 134 197 [l0, l1, l2, l3, l4, l5, l6, I l7] [I l7, s0] h := ev_go c134_195 rfl
theorem c134_197 : cd 134 197 = some (197, .iadd, 1, 0, 0, 0) := rfl
theorem s134_197 {l0 l1 l2 l3 l4 l5 l6 l7 : AV} {s0 s1 : Int} {h : AH} : evL 134 197 [l0, l1, l2, l3, l4, l5, l6, l7] [I s0, I s1] h = evL 134 198 [l0, l1, l2, l3, l4, l5, l6, l7] [I (ad s1 s0)] h := ev_go c134_197 rfl
theorem c134_198 : cd 134 198 = some (198, .ireturn, 1, 0, 0, 0) := rfl
theorem s134_198 {l0 l1 l2 l3 l4 l5 l6 l7 : AV} {s0 : Int} {h : AH} : evL 134 198 [l0, l1, l2, l3, l4, l5, l6, l7] [I s0] h = some (some (I s0), h) := e_ret c134_198 rfl
/-! 135: TankDiversModel.reasonDeed()I -/
theorem en135 {l0 : AV} {h : AH} : evM 135 [l0] h = evL 135 0 [l0] [] h := rfl
theorem c135_0 : cd 135 0 = some (0, .aload_n 0, 1, 0, 0, 0) := rfl
theorem s135_0 {l0 : Option Nat} {h : AH} : evL 135 0 [.inr (.inl l0)] [] h = evL 135 1 [.inr (.inl l0)] [.inr (.inl l0)] h := ev_go c135_0 rfl
theorem c135_1 : cd 135 1 = some (1, .getfield 7, 3, 8, 0, 725) := rfl
theorem s135_1 {l0 : AV} {s0 : Nat} {M : Mem} {P : PMem} (hk : kd s0 = 8) : evL 135 1 [l0] [Rf s0] (Hp M P) = evL 135 4 [l0] [Rf (rfd s0 0)] (Hp M P) := e_getR c135_1 rfl hk
theorem c135_4 : cd 135 4 = some (4, .iconst 3, 1, 0, 0, 0) := rfl
theorem s135_4 {l0 s0 : AV} {h : AH} : evL 135 4 [l0] [s0] h = evL 135 5 [l0] [I 3, s0] h := ev_go c135_4 rfl
theorem c135_5 : cd 135 5 = some (5, .iaload, 1, 0, 0, 0) := rfl
theorem s135_5 {l0 : AV} {s0 : Int} {s1 : Nat} {M : Mem} {P : PMem} (hk : kd s1 = 100) (h0 : 0 ≤ s0) (hn : s0.toNat < ln s1) : evL 135 5 [l0] [I s0, Rf s1] (Hp M P) = evL 135 6 [l0] [I (M s1 s0.toNat)] (Hp M P) := e_iald c135_5 hk h0 hn
theorem c135_6 : cd 135 6 = some (6, .iconst 2, 1, 0, 0, 0) := rfl
theorem s135_6 {l0 s0 : AV} {h : AH} : evL 135 6 [l0] [s0] h = evL 135 7 [l0] [I 2, s0] h := ev_go c135_6 rfl
theorem c135_7 : cd 135 7 = some (7, .if_icmp .ne 7, 3, 0, 0, 0) := rfl
theorem s135_7 {l0 : AV} {s0 s1 : Int} {h : AH} : evL 135 7 [l0] [I s0, I s1] h = if s1 = s0 then evL 135 10 [l0] [] h else evL 135 14 [l0] [] h := e_icmp_ne c135_7 rfl rfl
theorem c135_10 : cd 135 10 = some (10, .iconst 1, 1, 0, 0, 0) := rfl
theorem s135_10 {l0 : AV} {h : AH} : evL 135 10 [l0] [] h = evL 135 11 [l0] [I 1] h := ev_go c135_10 rfl
theorem c135_11 : cd 135 11 = some (11, .goto 17, 3, 0, 0, 0) := rfl
theorem s135_11 {l0 s0 : AV} {h : AH} : evL 135 11 [l0] [s0] h = evL 135 28 [l0] [s0] h := ev_go c135_11 rfl
theorem c135_14 : cd 135 14 = some (14, .aload_n 0, 1, 0, 0, 0) := rfl
theorem s135_14 {l0 : Option Nat} {h : AH} : evL 135 14 [.inr (.inl l0)] [] h = evL 135 15 [.inr (.inl l0)] [.inr (.inl l0)] h := ev_go c135_14 rfl
theorem c135_15 : cd 135 15 = some (15, .getfield 7, 3, 8, 0, 725) := rfl
theorem s135_15 {l0 : AV} {s0 : Nat} {M : Mem} {P : PMem} (hk : kd s0 = 8) : evL 135 15 [l0] [Rf s0] (Hp M P) = evL 135 18 [l0] [Rf (rfd s0 0)] (Hp M P) := e_getR c135_15 rfl hk
theorem c135_18 : cd 135 18 = some (18, .iconst 3, 1, 0, 0, 0) := rfl
theorem s135_18 {l0 s0 : AV} {h : AH} : evL 135 18 [l0] [s0] h = evL 135 19 [l0] [I 3, s0] h := ev_go c135_18 rfl
theorem c135_19 : cd 135 19 = some (19, .iaload, 1, 0, 0, 0) := rfl
theorem s135_19 {l0 : AV} {s0 : Int} {s1 : Nat} {M : Mem} {P : PMem} (hk : kd s1 = 100) (h0 : 0 ≤ s0) (hn : s0.toNat < ln s1) : evL 135 19 [l0] [I s0, Rf s1] (Hp M P) = evL 135 20 [l0] [I (M s1 s0.toNat)] (Hp M P) := e_iald c135_19 hk h0 hn
theorem c135_20 : cd 135 20 = some (20, .ifCond .ne 7, 3, 0, 0, 0) := rfl
theorem s135_20 {l0 : AV} {s0 : Int} {h : AH} : evL 135 20 [l0] [I s0] h = if s0 = 0 then evL 135 23 [l0] [] h else evL 135 27 [l0] [] h := e_if_ne c135_20 rfl rfl
theorem c135_23 : cd 135 23 = some (23, .iconst 2, 1, 0, 0, 0) := rfl
theorem s135_23 {l0 : AV} {h : AH} : evL 135 23 [l0] [] h = evL 135 24 [l0] [I 2] h := ev_go c135_23 rfl
theorem c135_24 : cd 135 24 = some (24, .goto 4, 3, 0, 0, 0) := rfl
theorem s135_24 {l0 s0 : AV} {h : AH} : evL 135 24 [l0] [s0] h = evL 135 28 [l0] [s0] h := ev_go c135_24 rfl
theorem c135_27 : cd 135 27 = some (27, .iconst 0, 1, 0, 0, 0) := rfl
theorem s135_27 {l0 : AV} {h : AH} : evL 135 27 [l0] [] h = evL 135 28 [l0] [I 0] h := ev_go c135_27 rfl
theorem c135_28 : cd 135 28 = some (28, .ireturn, 1, 0, 0, 0) := rfl
theorem s135_28 {l0 : AV} {s0 : Int} {h : AH} : evL 135 28 [l0] [I s0] h = some (some (I s0), h) := e_ret c135_28 rfl
/-! 136: TankDiversModel.areAllHome()Z -/
theorem en136 {l0 : AV} {h : AH} : evM 136 [l0] h = evL 136 0 [l0, Db 0, Db 0] [] h := rfl
theorem c136_0 : cd 136 0 = some (0, .iconst 1, 1, 0, 0, 0) := rfl
theorem s136_0 {l0 l1 l2 : AV} {h : AH} : evL 136 0 [l0, l1, l2] [] h = evL 136 1 [l0, l1, l2] [I 1] h := ev_go c136_0 rfl
theorem c136_1 : cd 136 1 = some (1, .istore_n 1, 1, 0, 0, 0) := rfl
theorem s136_1 {l0 l1 l2 : AV} {s0 : Int} {h : AH} : evL 136 1 [l0, l1, l2] [I s0] h = evL 136 2 [l0, I s0, l2] [] h := ev_go c136_1 rfl
theorem c136_2 : cd 136 2 = some (2, .iconst 0, 1, 0, 0, 0) := rfl
theorem s136_2 {l0 l1 l2 : AV} {h : AH} : evL 136 2 [l0, l1, l2] [] h = evL 136 3 [l0, l1, l2] [I 0] h := ev_go c136_2 rfl
theorem c136_3 : cd 136 3 = some (3, .istore_n 2, 1, 0, 0, 0) := rfl
theorem s136_3 {l0 l1 l2 : AV} {s0 : Int} {h : AH} : evL 136 3 [l0, l1, l2] [I s0] h = evL 136 4 [l0, l1, I s0] [] h := ev_go c136_3 rfl
theorem c136_4 : cd 136 4 = some (4, .iload_n 2, 1, 0, 0, 0) := rfl
theorem s136_4 {l0 l1 : AV} {l2 : Int} {h : AH} : evL 136 4 [l0, l1, I l2] [] h = evL 136 5 [l0, l1, I l2] [I l2] h := ev_go c136_4 rfl
theorem c136_5 : cd 136 5 = some (5, .aload_n 0, 1, 0, 0, 0) := rfl
theorem s136_5 {l1 l2 s0 : AV} {l0 : Option Nat} {h : AH} : evL 136 5 [.inr (.inl l0), l1, l2] [s0] h = evL 136 6 [.inr (.inl l0), l1, l2] [.inr (.inl l0), s0] h := ev_go c136_5 rfl
theorem c136_6 : cd 136 6 = some (6, .getfield 7, 3, 8, 0, 725) := rfl
theorem s136_6 {l0 l1 l2 s1 : AV} {s0 : Nat} {M : Mem} {P : PMem} (hk : kd s0 = 8) : evL 136 6 [l0, l1, l2] [Rf s0, s1] (Hp M P) = evL 136 9 [l0, l1, l2] [Rf (rfd s0 0), s1] (Hp M P) := e_getR c136_6 rfl hk
theorem c136_9 : cd 136 9 = some (9, .iconst 0, 1, 0, 0, 0) := rfl
theorem s136_9 {l0 l1 l2 s0 s1 : AV} {h : AH} : evL 136 9 [l0, l1, l2] [s0, s1] h = evL 136 10 [l0, l1, l2] [I 0, s0, s1] h := ev_go c136_9 rfl
theorem c136_10 : cd 136 10 = some (10, .iaload, 1, 0, 0, 0) := rfl
theorem s136_10 {l0 l1 l2 s2 : AV} {s0 : Int} {s1 : Nat} {M : Mem} {P : PMem} (hk : kd s1 = 100) (h0 : 0 ≤ s0) (hn : s0.toNat < ln s1) : evL 136 10 [l0, l1, l2] [I s0, Rf s1, s2] (Hp M P) = evL 136 11 [l0, l1, l2] [I (M s1 s0.toNat), s2] (Hp M P) := e_iald c136_10 hk h0 hn
theorem c136_11 : cd 136 11 = some (11, .if_icmp .ge 29, 3, 0, 0, 0) := rfl
theorem s136_11 {l0 l1 l2 : AV} {s0 s1 : Int} {h : AH} : evL 136 11 [l0, l1, l2] [I s0, I s1] h = if s0 ≤ s1 then evL 136 40 [l0, l1, l2] [] h else evL 136 14 [l0, l1, l2] [] h := e_icmp_ge c136_11 rfl rfl
theorem c136_14 : cd 136 14 = some (14, .iload_n 1, 1, 0, 0, 0) := rfl
theorem s136_14 {l0 l2 : AV} {l1 : Int} {h : AH} : evL 136 14 [l0, I l1, l2] [] h = evL 136 15 [l0, I l1, l2] [I l1] h := ev_go c136_14 rfl
theorem c136_15 : cd 136 15 = some (15, .ifCond .eq 17, 3, 0, 0, 0) := rfl
theorem s136_15 {l0 l1 l2 : AV} {s0 : Int} {h : AH} : evL 136 15 [l0, l1, l2] [I s0] h = if s0 = 0 then evL 136 32 [l0, l1, l2] [] h else evL 136 18 [l0, l1, l2] [] h := e_if_eq c136_15 rfl rfl
theorem c136_18 : cd 136 18 = some (18, .aload_n 0, 1, 0, 0, 0) := rfl
theorem s136_18 {l1 l2 : AV} {l0 : Option Nat} {h : AH} : evL 136 18 [.inr (.inl l0), l1, l2] [] h = evL 136 19 [.inr (.inl l0), l1, l2] [.inr (.inl l0)] h := ev_go c136_18 rfl
theorem c136_19 : cd 136 19 = some (19, .iload_n 2, 1, 0, 0, 0) := rfl
theorem s136_19 {l0 l1 s0 : AV} {l2 : Int} {h : AH} : evL 136 19 [l0, l1, I l2] [s0] h = evL 136 20 [l0, l1, I l2] [I l2, s0] h := ev_go c136_19 rfl
theorem c136_20 : cd 136 20 = some (20, .iconst 2, 1, 0, 0, 0) := rfl
theorem s136_20 {l0 l1 l2 s0 s1 : AV} {h : AH} : evL 136 20 [l0, l1, l2] [s0, s1] h = evL 136 21 [l0, l1, l2] [I 2, s0, s1] h := ev_go c136_20 rfl
theorem c136_21 : cd 136 21 = some (21, .invokevirtual 54, 3, 116, 0, 806) := rfl
theorem s136_21 {l0 l1 l2 : AV} {s0 s1 : Int} {s2 : Nat} {M : Mem} {P : PMem} (hk : kd s2 = 8) : evL 136 21 [l0, l1, l2] [I s0, I s1, Rf s2] (Hp M P) = cont (evM 116 [Rf s2, I s1, I s0] (Hp M P)) (fun r h => evL 136 24 [l0, l1, l2] (rl r []) h) := e_callV (av' := [I s1, I s0]) (rest := []) (c := 8) c136_21 rfl rfl rfl rfl rfl rfl rfl hk rfl
theorem c136_24 : cd 136 24 = some (24, .iconst 1, 1, 0, 0, 0) := rfl
theorem s136_24 {l0 l1 l2 s0 : AV} {h : AH} : evL 136 24 [l0, l1, l2] [s0] h = evL 136 25 [l0, l1, l2] [I 1, s0] h := ev_go c136_24 rfl
theorem c136_25 : cd 136 25 = some (25, .if_icmp .ne 7, 3, 0, 0, 0) := rfl
theorem s136_25 {l0 l1 l2 : AV} {s0 s1 : Int} {h : AH} : evL 136 25 [l0, l1, l2] [I s0, I s1] h = if s1 = s0 then evL 136 28 [l0, l1, l2] [] h else evL 136 32 [l0, l1, l2] [] h := e_icmp_ne c136_25 rfl rfl
theorem c136_28 : cd 136 28 = some (28, .iconst 1, 1, 0, 0, 0) := rfl
theorem s136_28 {l0 l1 l2 : AV} {h : AH} : evL 136 28 [l0, l1, l2] [] h = evL 136 29 [l0, l1, l2] [I 1] h := ev_go c136_28 rfl
theorem c136_29 : cd 136 29 = some (29, .goto 4, 3, 0, 0, 0) := rfl
theorem s136_29 {l0 l1 l2 s0 : AV} {h : AH} : evL 136 29 [l0, l1, l2] [s0] h = evL 136 33 [l0, l1, l2] [s0] h := ev_go c136_29 rfl
theorem c136_32 : cd 136 32 = some (32, .iconst 0, 1, 0, 0, 0) := rfl
theorem s136_32 {l0 l1 l2 : AV} {h : AH} : evL 136 32 [l0, l1, l2] [] h = evL 136 33 [l0, l1, l2] [I 0] h := ev_go c136_32 rfl
theorem c136_33 : cd 136 33 = some (33, .istore_n 1, 1, 0, 0, 0) := rfl
theorem s136_33 {l0 l1 l2 : AV} {s0 : Int} {h : AH} : evL 136 33 [l0, l1, l2] [I s0] h = evL 136 34 [l0, I s0, l2] [] h := ev_go c136_33 rfl
theorem c136_34 : cd 136 34 = some (34, .iinc 2 1, 3, 0, 0, 0) := rfl
theorem s136_34 {l0 l1 : AV} {l2 : Int} {h : AH} : evL 136 34 [l0, l1, I l2] [] h = evL 136 37 [l0, l1, I (ad l2 1)] [] h := ev_go c136_34 rfl
theorem c136_37 : cd 136 37 = some (37, .goto (-33), 3, 0, 0, 0) := rfl
theorem s136_37 {l0 l1 l2 : AV} {h : AH} : evL 136 37 [l0, l1, l2] [] h = evL 136 4 [l0, l1, l2] [] h := ev_go c136_37 rfl
theorem c136_40 : cd 136 40 = some (40, .iload_n 1, 1, 0, 0, 0) := rfl
theorem s136_40 {l0 l2 : AV} {l1 : Int} {h : AH} : evL 136 40 [l0, I l1, l2] [] h = evL 136 41 [l0, I l1, l2] [I l1] h := ev_go c136_40 rfl
theorem c136_41 : cd 136 41 = some (41, .ireturn, 1, 0, 0, 0) := rfl
theorem s136_41 {l0 l1 l2 : AV} {s0 : Int} {h : AH} (hz : s0 = 0 ∨ s0 = 1) : evL 136 41 [l0, l1, l2] [I s0] h = some (some (I s0), h) := e_ret c136_41 (if_pos hz)
/-! 137: TankDiversModel.endsTurn()V -/
theorem en137 {l0 : AV} {h : AH} : evM 137 [l0] h = evL 137 0 [l0, Db 0] [] h := rfl
theorem c137_0 : cd 137 0 = some (0, .aload_n 0, 1, 0, 0, 0) := rfl
theorem s137_0 {l1 : AV} {l0 : Option Nat} {h : AH} : evL 137 0 [.inr (.inl l0), l1] [] h = evL 137 1 [.inr (.inl l0), l1] [.inr (.inl l0)] h := ev_go c137_0 rfl
theorem c137_1 : cd 137 1 = some (1, .getfield 7, 3, 8, 0, 725) := rfl
theorem s137_1 {l0 l1 : AV} {s0 : Nat} {M : Mem} {P : PMem} (hk : kd s0 = 8) : evL 137 1 [l0, l1] [Rf s0] (Hp M P) = evL 137 4 [l0, l1] [Rf (rfd s0 0)] (Hp M P) := e_getR c137_1 rfl hk
theorem c137_4 : cd 137 4 = some (4, .iconst 4, 1, 0, 0, 0) := rfl
theorem s137_4 {l0 l1 s0 : AV} {h : AH} : evL 137 4 [l0, l1] [s0] h = evL 137 5 [l0, l1] [I 4, s0] h := ev_go c137_4 rfl
theorem c137_5 : cd 137 5 = some (5, .iaload, 1, 0, 0, 0) := rfl
theorem s137_5 {l0 l1 : AV} {s0 : Int} {s1 : Nat} {M : Mem} {P : PMem} (hk : kd s1 = 100) (h0 : 0 ≤ s0) (hn : s0.toNat < ln s1) : evL 137 5 [l0, l1] [I s0, Rf s1] (Hp M P) = evL 137 6 [l0, l1] [I (M s1 s0.toNat)] (Hp M P) := e_iald c137_5 hk h0 hn
theorem c137_6 : cd 137 6 = some (6, .ifCond .eq 10, 3, 0, 0, 0) := rfl
theorem s137_6 {l0 l1 : AV} {s0 : Int} {h : AH} : evL 137 6 [l0, l1] [I s0] h = if s0 = 0 then evL 137 16 [l0, l1] [] h else evL 137 9 [l0, l1] [] h := e_if_eq c137_6 rfl rfl
theorem c137_9 : cd 137 9 = some (9, .aload_n 0, 1, 0, 0, 0) := rfl
theorem s137_9 {l1 : AV} {l0 : Option Nat} {h : AH} : evL 137 9 [.inr (.inl l0), l1] [] h = evL 137 10 [.inr (.inl l0), l1] [.inr (.inl l0)] h := ev_go c137_9 rfl
theorem c137_10 : cd 137 10 = some (10, .invokevirtual 98, 3, 136, 0, 850) := rfl
theorem s137_10 {l0 l1 : AV} {s0 : Nat} {M : Mem} {P : PMem} (hk : kd s0 = 8) : evL 137 10 [l0, l1] [Rf s0] (Hp M P) = cont (evM 136 [Rf s0] (Hp M P)) (fun r h => evL 137 13 [l0, l1] (rl r []) h) := e_callV (av' := []) (rest := []) (c := 8) c137_10 rfl rfl rfl rfl rfl rfl rfl hk rfl
theorem c137_13 : cd 137 13 = some (13, .ifCond .eq 8, 3, 0, 0, 0) := rfl
theorem s137_13 {l0 l1 : AV} {s0 : Int} {h : AH} : evL 137 13 [l0, l1] [I s0] h = if s0 = 0 then evL 137 21 [l0, l1] [] h else evL 137 16 [l0, l1] [] h := e_if_eq c137_13 rfl rfl
theorem c137_16 : cd 137 16 = some (16, .aload_n 0, 1, 0, 0, 0) := rfl
theorem s137_16 {l1 : AV} {l0 : Option Nat} {h : AH} : evL 137 16 [.inr (.inl l0), l1] [] h = evL 137 17 [.inr (.inl l0), l1] [.inr (.inl l0)] h := ev_go c137_16 rfl
theorem c137_17 : cd 137 17 = some (17, .invokevirtual 102, 3, 142, 0, 854) := rfl
theorem s137_17 {l0 l1 : AV} {s0 : Nat} {M : Mem} {P : PMem} (hk : kd s0 = 8) : evL 137 17 [l0, l1] [Rf s0] (Hp M P) = cont (evM 142 [Rf s0] (Hp M P)) (fun r h => evL 137 20 [l0, l1] (rl r []) h) := e_callV (av' := []) (rest := []) (c := 8) c137_17 rfl rfl rfl rfl rfl rfl rfl hk rfl
theorem c137_20 : cd 137 20 = some (20, .return_, 1, 0, 0, 0) := rfl
theorem s137_20 {l0 l1 : AV} {h : AH} : evL 137 20 [l0, l1] [] h = some (none, h) := e_ret c137_20 rfl
theorem c137_21 : cd 137 21 = some (21, .aload_n 0, 1, 0, 0, 0) := rfl
theorem s137_21 {l1 : AV} {l0 : Option Nat} {h : AH} : evL 137 21 [.inr (.inl l0), l1] [] h = evL 137 22 [.inr (.inl l0), l1] [.inr (.inl l0)] h := ev_go c137_21 rfl
theorem c137_22 : cd 137 22 = some (22, .getfield 7, 3, 8, 0, 725) := rfl
theorem s137_22 {l0 l1 : AV} {s0 : Nat} {M : Mem} {P : PMem} (hk : kd s0 = 8) : evL 137 22 [l0, l1] [Rf s0] (Hp M P) = evL 137 25 [l0, l1] [Rf (rfd s0 0)] (Hp M P) := e_getR c137_22 rfl hk
theorem c137_25 : cd 137 25 = some (25, .iconst 2, 1, 0, 0, 0) := rfl
theorem s137_25 {l0 l1 s0 : AV} {h : AH} : evL 137 25 [l0, l1] [s0] h = evL 137 26 [l0, l1] [I 2, s0] h := ev_go c137_25 rfl
theorem c137_26 : cd 137 26 = some (26, .iaload, 1, 0, 0, 0) := rfl
theorem s137_26 {l0 l1 : AV} {s0 : Int} {s1 : Nat} {M : Mem} {P : PMem} (hk : kd s1 = 100) (h0 : 0 ≤ s0) (hn : s0.toNat < ln s1) : evL 137 26 [l0, l1] [I s0, Rf s1] (Hp M P) = evL 137 27 [l0, l1] [I (M s1 s0.toNat)] (Hp M P) := e_iald c137_26 hk h0 hn
theorem c137_27 : cd 137 27 = some (27, .iconst 1, 1, 0, 0, 0) := rfl
theorem s137_27 {l0 l1 s0 : AV} {h : AH} : evL 137 27 [l0, l1] [s0] h = evL 137 28 [l0, l1] [I 1, s0] h := ev_go c137_27 rfl
theorem c137_28 : cd 137 28 = some (28, .iadd, 1, 0, 0, 0) := rfl
theorem s137_28 {l0 l1 : AV} {s0 s1 : Int} {h : AH} : evL 137 28 [l0, l1] [I s0, I s1] h = evL 137 29 [l0, l1] [I (ad s1 s0)] h := ev_go c137_28 rfl
theorem c137_29 : cd 137 29 = some (29, .aload_n 0, 1, 0, 0, 0) := rfl
theorem s137_29 {l1 s0 : AV} {l0 : Option Nat} {h : AH} : evL 137 29 [.inr (.inl l0), l1] [s0] h = evL 137 30 [.inr (.inl l0), l1] [.inr (.inl l0), s0] h := ev_go c137_29 rfl
theorem c137_30 : cd 137 30 = some (30, .getfield 7, 3, 8, 0, 725) := rfl
theorem s137_30 {l0 l1 s1 : AV} {s0 : Nat} {M : Mem} {P : PMem} (hk : kd s0 = 8) : evL 137 30 [l0, l1] [Rf s0, s1] (Hp M P) = evL 137 33 [l0, l1] [Rf (rfd s0 0), s1] (Hp M P) := e_getR c137_30 rfl hk
theorem c137_33 : cd 137 33 = some (33, .iconst 0, 1, 0, 0, 0) := rfl
theorem s137_33 {l0 l1 s0 s1 : AV} {h : AH} : evL 137 33 [l0, l1] [s0, s1] h = evL 137 34 [l0, l1] [I 0, s0, s1] h := ev_go c137_33 rfl
theorem c137_34 : cd 137 34 = some (34, .iaload, 1, 0, 0, 0) := rfl
theorem s137_34 {l0 l1 s2 : AV} {s0 : Int} {s1 : Nat} {M : Mem} {P : PMem} (hk : kd s1 = 100) (h0 : 0 ≤ s0) (hn : s0.toNat < ln s1) : evL 137 34 [l0, l1] [I s0, Rf s1, s2] (Hp M P) = evL 137 35 [l0, l1] [I (M s1 s0.toNat), s2] (Hp M P) := e_iald c137_34 hk h0 hn
theorem c137_35 : cd 137 35 = some (35, .irem, 1, 0, 0, 0) := rfl
theorem s137_35 {l0 l1 : AV} {s0 s1 : Int} {h : AH} (hd : s0 ≠ 0) : evL 137 35 [l0, l1] [I s0, I s1] h = evL 137 36 [l0, l1] [I (rm s1 s0)] h := ev_go c137_35 (if_pos hd)
theorem c137_36 : cd 137 36 = some (36, .istore_n 1, 1, 0, 0, 0) := rfl
theorem s137_36 {l0 l1 : AV} {s0 : Int} {h : AH} : evL 137 36 [l0, l1] [I s0] h = evL 137 37 [l0, I s0] [] h := ev_go c137_36 rfl
theorem c137_37 : cd 137 37 = some (37, .aload_n 0, 1, 0, 0, 0) := rfl
theorem s137_37 {l1 : AV} {l0 : Option Nat} {h : AH} : evL 137 37 [.inr (.inl l0), l1] [] h = evL 137 38 [.inr (.inl l0), l1] [.inr (.inl l0)] h := ev_go c137_37 rfl
theorem c137_38 : cd 137 38 = some (38, .iload_n 1, 1, 0, 0, 0) := rfl
theorem s137_38 {l0 s0 : AV} {l1 : Int} {h : AH} : evL 137 38 [l0, I l1] [s0] h = evL 137 39 [l0, I l1] [I l1, s0] h := ev_go c137_38 rfl
theorem c137_39 : cd 137 39 = some (39, .iconst 2, 1, 0, 0, 0) := rfl
theorem s137_39 {l0 l1 s0 s1 : AV} {h : AH} : evL 137 39 [l0, l1] [s0, s1] h = evL 137 40 [l0, l1] [I 2, s0, s1] h := ev_go c137_39 rfl
theorem c137_40 : cd 137 40 = some (40, .invokevirtual 54, 3, 116, 0, 806) := rfl
theorem s137_40 {l0 l1 : AV} {s0 s1 : Int} {s2 : Nat} {M : Mem} {P : PMem} (hk : kd s2 = 8) : evL 137 40 [l0, l1] [I s0, I s1, Rf s2] (Hp M P) = cont (evM 116 [Rf s2, I s1, I s0] (Hp M P)) (fun r h => evL 137 43 [l0, l1] (rl r []) h) := e_callV (av' := [I s1, I s0]) (rest := []) (c := 8) c137_40 rfl rfl rfl rfl rfl rfl rfl hk rfl
theorem c137_43 : cd 137 43 = some (43, .iconst 1, 1, 0, 0, 0) := rfl
theorem s137_43 {l0 l1 s0 : AV} {h : AH} : evL 137 43 [l0, l1] [s0] h = evL 137 44 [l0, l1] [I 1, s0] h := ev_go c137_43 rfl
theorem c137_44 : cd 137 44 = some (44, .if_icmp .ne 17, 3, 0, 0, 0) := rfl
theorem s137_44 {l0 l1 : AV} {s0 s1 : Int} {h : AH} : evL 137 44 [l0, l1] [I s0, I s1] h = if s1 = s0 then evL 137 47 [l0, l1] [] h else evL 137 61 [l0, l1] [] h := e_icmp_ne c137_44 rfl rfl
theorem c137_47 : cd 137 47 = some (47, .iload_n 1, 1, 0, 0, 0) := rfl
theorem s137_47 {l0 : AV} {l1 : Int} {h : AH} : evL 137 47 [l0, I l1] [] h = evL 137 48 [l0, I l1] [I l1] h := ev_go c137_47 rfl
theorem c137_48 : cd 137 48 = some (48, .iconst 1, 1, 0, 0, 0) := rfl
theorem s137_48 {l0 l1 s0 : AV} {h : AH} : evL 137 48 [l0, l1] [s0] h = evL 137 49 [l0, l1] [I 1, s0] h := ev_go c137_48 rfl
theorem c137_49 : cd 137 49 = some (49, .iadd, 1, 0, 0, 0) := rfl
theorem s137_49 {l0 l1 : AV} {s0 s1 : Int} {h : AH} : evL 137 49 [l0, l1] [I s0, I s1] h = evL 137 50 [l0, l1] [I (ad s1 s0)] h := ev_go c137_49 rfl
theorem c137_50 : cd 137 50 = some (50, .aload_n 0, 1, 0, 0, 0) := rfl
theorem s137_50 {l1 s0 : AV} {l0 : Option Nat} {h : AH} : evL 137 50 [.inr (.inl l0), l1] [s0] h = evL 137 51 [.inr (.inl l0), l1] [.inr (.inl l0), s0] h := ev_go c137_50 rfl
theorem c137_51 : cd 137 51 = some (51, .getfield 7, 3, 8, 0, 725) := rfl
theorem s137_51 {l0 l1 s1 : AV} {s0 : Nat} {M : Mem} {P : PMem} (hk : kd s0 = 8) : evL 137 51 [l0, l1] [Rf s0, s1] (Hp M P) = evL 137 54 [l0, l1] [Rf (rfd s0 0), s1] (Hp M P) := e_getR c137_51 rfl hk
theorem c137_54 : cd 137 54 = some (54, .iconst 0, 1, 0, 0, 0) := rfl
theorem s137_54 {l0 l1 s0 s1 : AV} {h : AH} : evL 137 54 [l0, l1] [s0, s1] h = evL 137 55 [l0, l1] [I 0, s0, s1] h := ev_go c137_54 rfl
theorem c137_55 : cd 137 55 = some (55, .iaload, 1, 0, 0, 0) := rfl
theorem s137_55 {l0 l1 s2 : AV} {s0 : Int} {s1 : Nat} {M : Mem} {P : PMem} (hk : kd s1 = 100) (h0 : 0 ≤ s0) (hn : s0.toNat < ln s1) : evL 137 55 [l0, l1] [I s0, Rf s1, s2] (Hp M P) = evL 137 56 [l0, l1] [I (M s1 s0.toNat), s2] (Hp M P) := e_iald c137_55 hk h0 hn
theorem c137_56 : cd 137 56 = some (56, .irem, 1, 0, 0, 0) := rfl
theorem s137_56 {l0 l1 : AV} {s0 s1 : Int} {h : AH} (hd : s0 ≠ 0) : evL 137 56 [l0, l1] [I s0, I s1] h = evL 137 57 [l0, l1] [I (rm s1 s0)] h := ev_go c137_56 (if_pos hd)
theorem c137_57 : cd 137 57 = some (57, .istore_n 1, 1, 0, 0, 0) := rfl
theorem s137_57 {l0 l1 : AV} {s0 : Int} {h : AH} : evL 137 57 [l0, l1] [I s0] h = evL 137 58 [l0, I s0] [] h := ev_go c137_57 rfl
theorem c137_58 : cd 137 58 = some (58, .goto (-21), 3, 0, 0, 0) := rfl
theorem s137_58 {l0 l1 : AV} {h : AH} : evL 137 58 [l0, l1] [] h = evL 137 37 [l0, l1] [] h := ev_go c137_58 rfl
theorem c137_61 : cd 137 61 = some (61, .aload_n 0, 1, 0, 0, 0) := rfl
theorem s137_61 {l1 : AV} {l0 : Option Nat} {h : AH} : evL 137 61 [.inr (.inl l0), l1] [] h = evL 137 62 [.inr (.inl l0), l1] [.inr (.inl l0)] h := ev_go c137_61 rfl
theorem c137_62 : cd 137 62 = some (62, .getfield 7, 3, 8, 0, 725) := rfl
theorem s137_62 {l0 l1 : AV} {s0 : Nat} {M : Mem} {P : PMem} (hk : kd s0 = 8) : evL 137 62 [l0, l1] [Rf s0] (Hp M P) = evL 137 65 [l0, l1] [Rf (rfd s0 0)] (Hp M P) := e_getR c137_62 rfl hk
theorem c137_65 : cd 137 65 = some (65, .iconst 2, 1, 0, 0, 0) := rfl
theorem s137_65 {l0 l1 s0 : AV} {h : AH} : evL 137 65 [l0, l1] [s0] h = evL 137 66 [l0, l1] [I 2, s0] h := ev_go c137_65 rfl
theorem c137_66 : cd 137 66 = some (66, .iload_n 1, 1, 0, 0, 0) := rfl
theorem s137_66 {l0 s0 s1 : AV} {l1 : Int} {h : AH} : evL 137 66 [l0, I l1] [s0, s1] h = evL 137 67 [l0, I l1] [I l1, s0, s1] h := ev_go c137_66 rfl
theorem c137_67 : cd 137 67 = some (67, .iastore, 1, 0, 0, 0) := rfl
theorem s137_67 {l0 l1 : AV} {s0 s1 : Int} {s2 : Nat} {M : Mem} {P : PMem} (hk : kd s2 = 100) (h0 : 0 ≤ s1) (hn : s1.toNat < ln s2) : evL 137 67 [l0, l1] [I s0, I s1, Rf s2] (Hp M P) = evL 137 68 [l0, l1] [] (Hp (wr M s2 s1.toNat s0) P) := e_iast c137_67 hk h0 hn
theorem c137_68 : cd 137 68 = some (68, .aload_n 0, 1, 0, 0, 0) := rfl
theorem s137_68 {l1 : AV} {l0 : Option Nat} {h : AH} : evL 137 68 [.inr (.inl l0), l1] [] h = evL 137 69 [.inr (.inl l0), l1] [.inr (.inl l0)] h := ev_go c137_68 rfl
theorem c137_69 : cd 137 69 = some (69, .getfield 7, 3, 8, 0, 725) := rfl
theorem s137_69 {l0 l1 : AV} {s0 : Nat} {M : Mem} {P : PMem} (hk : kd s0 = 8) : evL 137 69 [l0, l1] [Rf s0] (Hp M P) = evL 137 72 [l0, l1] [Rf (rfd s0 0)] (Hp M P) := e_getR c137_69 rfl hk
theorem c137_72 : cd 137 72 = some (72, .iconst 3, 1, 0, 0, 0) := rfl
theorem s137_72 {l0 l1 s0 : AV} {h : AH} : evL 137 72 [l0, l1] [s0] h = evL 137 73 [l0, l1] [I 3, s0] h := ev_go c137_72 rfl
theorem c137_73 : cd 137 73 = some (73, .iconst 0, 1, 0, 0, 0) := rfl
theorem s137_73 {l0 l1 s0 s1 : AV} {h : AH} : evL 137 73 [l0, l1] [s0, s1] h = evL 137 74 [l0, l1] [I 0, s0, s1] h := ev_go c137_73 rfl
theorem c137_74 : cd 137 74 = some (74, .iastore, 1, 0, 0, 0) := rfl
theorem s137_74 {l0 l1 : AV} {s0 s1 : Int} {s2 : Nat} {M : Mem} {P : PMem} (hk : kd s2 = 100) (h0 : 0 ≤ s1) (hn : s1.toNat < ln s2) : evL 137 74 [l0, l1] [I s0, I s1, Rf s2] (Hp M P) = evL 137 75 [l0, l1] [] (Hp (wr M s2 s1.toNat s0) P) := e_iast c137_74 hk h0 hn
theorem c137_75 : cd 137 75 = some (75, .return_, 1, 0, 0, 0) := rfl
theorem s137_75 {l0 l1 : AV} {h : AH} : evL 137 75 [l0, l1] [] h = some (none, h) := e_ret c137_75 rfl
/-! 138: TankDiversModel.brings(I)V -/
theorem en138 {l0 l1 : AV} {h : AH} : evM 138 [l0, l1] h = evL 138 0 [l0, l1] [] h := rfl
theorem c138_0 : cd 138 0 = some (0, .aload_n 0, 1, 0, 0, 0) := rfl
theorem s138_0 {l1 : AV} {l0 : Option Nat} {h : AH} : evL 138 0 [.inr (.inl l0), l1] [] h = evL 138 1 [.inr (.inl l0), l1] [.inr (.inl l0)] h := ev_go c138_0 rfl
theorem c138_1 : cd 138 1 = some (1, .iload_n 1, 1, 0, 0, 0) := rfl
theorem s138_1 {l0 s0 : AV} {l1 : Int} {h : AH} : evL 138 1 [l0, I l1] [s0] h = evL 138 2 [l0, I l1] [I l1, s0] h := ev_go c138_1 rfl
theorem c138_2 : cd 138 2 = some (2, .bipush 10, 2, 0, 0, 0) := rfl
theorem s138_2 {l0 l1 s0 s1 : AV} {h : AH} : evL 138 2 [l0, l1] [s0, s1] h = evL 138 4 [l0, l1] [I 10, s0, s1] h := ev_go c138_2 rfl
theorem c138_4 : cd 138 4 = some (4, .aload_n 0, 1, 0, 0, 0) := rfl
theorem s138_4 {l1 s0 s1 s2 : AV} {l0 : Option Nat} {h : AH} : evL 138 4 [.inr (.inl l0), l1] [s0, s1, s2] h = evL 138 5 [.inr (.inl l0), l1] [.inr (.inl l0), s0, s1, s2] h := ev_go c138_4 rfl
theorem c138_5 : cd 138 5 = some (5, .iload_n 1, 1, 0, 0, 0) := rfl
theorem s138_5 {l0 s0 s1 s2 s3 : AV} {l1 : Int} {h : AH} : evL 138 5 [l0, I l1] [s0, s1, s2, s3] h = evL 138 6 [l0, I l1] [I l1, s0, s1, s2, s3] h := ev_go c138_5 rfl
theorem c138_6 : cd 138 6 = some (6, .bipush 10, 2, 0, 0, 0) := rfl
theorem s138_6 {l0 l1 s0 s1 s2 s3 s4 : AV} {h : AH} : evL 138 6 [l0, l1] [s0, s1, s2, s3, s4] h = evL 138 8 [l0, l1] [I 10, s0, s1, s2, s3, s4] h := ev_go c138_6 rfl
theorem c138_8 : cd 138 8 = some (8, .invokevirtual 54, 3, 116, 0, 806) := rfl
theorem s138_8 {l0 l1 s3 s4 s5 : AV} {s0 s1 : Int} {s2 : Nat} {M : Mem} {P : PMem} (hk : kd s2 = 8) : evL 138 8 [l0, l1] [I s0, I s1, Rf s2, s3, s4, s5] (Hp M P) = cont (evM 116 [Rf s2, I s1, I s0] (Hp M P)) (fun r h => evL 138 11 [l0, l1] (rl r [s3, s4, s5]) h) := e_callV (av' := [I s1, I s0]) (rest := [s3, s4, s5]) (c := 8) c138_8 rfl rfl rfl rfl rfl rfl rfl hk rfl
theorem c138_11 : cd 138 11 = some (11, .aload_n 0, 1, 0, 0, 0) := rfl
theorem s138_11 {l1 s0 s1 s2 s3 : AV} {l0 : Option Nat} {h : AH} : evL 138 11 [.inr (.inl l0), l1] [s0, s1, s2, s3] h = evL 138 12 [.inr (.inl l0), l1] [.inr (.inl l0), s0, s1, s2, s3] h := ev_go c138_11 rfl
theorem c138_12 : cd 138 12 = some (12, .iload_n 1, 1, 0, 0, 0) := rfl
theorem s138_12 {l0 s0 s1 s2 s3 s4 : AV} {l1 : Int} {h : AH} : evL 138 12 [l0, I l1] [s0, s1, s2, s3, s4] h = evL 138 13 [l0, I l1] [I l1, s0, s1, s2, s3, s4] h := ev_go c138_12 rfl
theorem c138_13 : cd 138 13 = some (13, .invokevirtual 66, 3, 122, 0, 866) := rfl
theorem s138_13 {l0 l1 s2 s3 s4 s5 : AV} {s0 : Int} {s1 : Nat} {M : Mem} {P : PMem} (hk : kd s1 = 8) : evL 138 13 [l0, l1] [I s0, Rf s1, s2, s3, s4, s5] (Hp M P) = cont (evM 122 [Rf s1, I s0] (Hp M P)) (fun r h => evL 138 16 [l0, l1] (rl r [s2, s3, s4, s5]) h) := e_callV (av' := [I s0]) (rest := [s2, s3, s4, s5]) (c := 8) c138_13 rfl rfl rfl rfl rfl rfl rfl hk rfl
theorem c138_16 : cd 138 16 = some (16, .iadd, 1, 0, 0, 0) := rfl
theorem s138_16 {l0 l1 s2 s3 s4 : AV} {s0 s1 : Int} {h : AH} : evL 138 16 [l0, l1] [I s0, I s1, s2, s3, s4] h = evL 138 17 [l0, l1] [I (ad s1 s0), s2, s3, s4] h := ev_go c138_16 rfl
theorem c138_17 : cd 138 17 = some (17, .invokevirtual 69, 3, 117, 0, 721) := rfl
theorem s138_17 {l0 l1 : AV} {s0 s1 s2 : Int} {s3 : Nat} {M : Mem} {P : PMem} (hk : kd s3 = 8) : evL 138 17 [l0, l1] [I s0, I s1, I s2, Rf s3] (Hp M P) = cont (evM 117 [Rf s3, I s2, I s1, I s0] (Hp M P)) (fun r h => evL 138 20 [l0, l1] (rl r []) h) := e_callV (av' := [I s2, I s1, I s0]) (rest := []) (c := 8) c138_17 rfl rfl rfl rfl rfl rfl rfl hk rfl
theorem c138_20 : cd 138 20 = some (20, .aload_n 0, 1, 0, 0, 0) := rfl
theorem s138_20 {l1 : AV} {l0 : Option Nat} {h : AH} : evL 138 20 [.inr (.inl l0), l1] [] h = evL 138 21 [.inr (.inl l0), l1] [.inr (.inl l0)] h := ev_go c138_20 rfl
theorem c138_21 : cd 138 21 = some (21, .iload_n 1, 1, 0, 0, 0) := rfl
theorem s138_21 {l0 s0 : AV} {l1 : Int} {h : AH} : evL 138 21 [l0, I l1] [s0] h = evL 138 22 [l0, I l1] [I l1, s0] h := ev_go c138_21 rfl
theorem c138_22 : cd 138 22 = some (22, .bipush 11, 2, 0, 0, 0) := rfl
theorem s138_22 {l0 l1 s0 s1 : AV} {h : AH} : evL 138 22 [l0, l1] [s0, s1] h = evL 138 24 [l0, l1] [I 11, s0, s1] h := ev_go c138_22 rfl
theorem c138_24 : cd 138 24 = some (24, .aload_n 0, 1, 0, 0, 0) := rfl
theorem s138_24 {l1 s0 s1 s2 : AV} {l0 : Option Nat} {h : AH} : evL 138 24 [.inr (.inl l0), l1] [s0, s1, s2] h = evL 138 25 [.inr (.inl l0), l1] [.inr (.inl l0), s0, s1, s2] h := ev_go c138_24 rfl
theorem c138_25 : cd 138 25 = some (25, .iload_n 1, 1, 0, 0, 0) := rfl
theorem s138_25 {l0 s0 s1 s2 s3 : AV} {l1 : Int} {h : AH} : evL 138 25 [l0, I l1] [s0, s1, s2, s3] h = evL 138 26 [l0, I l1] [I l1, s0, s1, s2, s3] h := ev_go c138_25 rfl
theorem c138_26 : cd 138 26 = some (26, .bipush 11, 2, 0, 0, 0) := rfl
theorem s138_26 {l0 l1 s0 s1 s2 s3 s4 : AV} {h : AH} : evL 138 26 [l0, l1] [s0, s1, s2, s3, s4] h = evL 138 28 [l0, l1] [I 11, s0, s1, s2, s3, s4] h := ev_go c138_26 rfl
theorem c138_28 : cd 138 28 = some (28, .invokevirtual 54, 3, 116, 0, 806) := rfl
theorem s138_28 {l0 l1 s3 s4 s5 : AV} {s0 s1 : Int} {s2 : Nat} {M : Mem} {P : PMem} (hk : kd s2 = 8) : evL 138 28 [l0, l1] [I s0, I s1, Rf s2, s3, s4, s5] (Hp M P) = cont (evM 116 [Rf s2, I s1, I s0] (Hp M P)) (fun r h => evL 138 31 [l0, l1] (rl r [s3, s4, s5]) h) := e_callV (av' := [I s1, I s0]) (rest := [s3, s4, s5]) (c := 8) c138_28 rfl rfl rfl rfl rfl rfl rfl hk rfl
theorem c138_31 : cd 138 31 = some (31, .aload_n 0, 1, 0, 0, 0) := rfl
theorem s138_31 {l1 s0 s1 s2 s3 : AV} {l0 : Option Nat} {h : AH} : evL 138 31 [.inr (.inl l0), l1] [s0, s1, s2, s3] h = evL 138 32 [.inr (.inl l0), l1] [.inr (.inl l0), s0, s1, s2, s3] h := ev_go c138_31 rfl
theorem c138_32 : cd 138 32 = some (32, .iload_n 1, 1, 0, 0, 0) := rfl
theorem s138_32 {l0 s0 s1 s2 s3 s4 : AV} {l1 : Int} {h : AH} : evL 138 32 [l0, I l1] [s0, s1, s2, s3, s4] h = evL 138 33 [l0, I l1] [I l1, s0, s1, s2, s3, s4] h := ev_go c138_32 rfl
theorem c138_33 : cd 138 33 = some (33, .invokevirtual 105, 3, 123, 0, 879) := rfl
theorem s138_33 {l0 l1 s2 s3 s4 s5 : AV} {s0 : Int} {s1 : Nat} {M : Mem} {P : PMem} (hk : kd s1 = 8) : evL 138 33 [l0, l1] [I s0, Rf s1, s2, s3, s4, s5] (Hp M P) = cont (evM 123 [Rf s1, I s0] (Hp M P)) (fun r h => evL 138 36 [l0, l1] (rl r [s2, s3, s4, s5]) h) := e_callV (av' := [I s0]) (rest := [s2, s3, s4, s5]) (c := 8) c138_33 rfl rfl rfl rfl rfl rfl rfl hk rfl
theorem c138_36 : cd 138 36 = some (36, .iadd, 1, 0, 0, 0) := rfl
theorem s138_36 {l0 l1 s2 s3 s4 : AV} {s0 s1 : Int} {h : AH} : evL 138 36 [l0, l1] [I s0, I s1, s2, s3, s4] h = evL 138 37 [l0, l1] [I (ad s1 s0), s2, s3, s4] h := ev_go c138_36 rfl
theorem c138_37 : cd 138 37 = some (37, .invokevirtual 69, 3, 117, 0, 721) := rfl
theorem s138_37 {l0 l1 : AV} {s0 s1 s2 : Int} {s3 : Nat} {M : Mem} {P : PMem} (hk : kd s3 = 8) : evL 138 37 [l0, l1] [I s0, I s1, I s2, Rf s3] (Hp M P) = cont (evM 117 [Rf s3, I s2, I s1, I s0] (Hp M P)) (fun r h => evL 138 40 [l0, l1] (rl r []) h) := e_callV (av' := [I s2, I s1, I s0]) (rest := []) (c := 8) c138_37 rfl rfl rfl rfl rfl rfl rfl hk rfl
theorem c138_40 : cd 138 40 = some (40, .return_, 1, 0, 0, 0) := rfl
theorem s138_40 {l0 l1 : AV} {h : AH} : evL 138 40 [l0, l1] [] h = some (none, h) := e_ret c138_40 rfl
/-! 139: TankDiversModel.deepest(I)I -/
theorem en139 {l0 l1 : AV} {h : AH} : evM 139 [l0, l1] h = evL 139 0 [l0, l1, Db 0, Db 0, Db 0] [] h := rfl
theorem c139_0 : cd 139 0 = some (0, .bipush (-4), 2, 0, 0, 0) := rfl
theorem s139_0 {l0 l1 l2 l3 l4 : AV} {h : AH} : evL 139 0 [l0, l1, l2, l3, l4] [] h = evL 139 2 [l0, l1, l2, l3, l4] [I (-4)] h := ev_go c139_0 rfl
theorem c139_2 : cd 139 2 = some (2, .istore_n 2, 1, 0, 0, 0) := rfl
theorem s139_2 {l0 l1 l2 l3 l4 : AV} {s0 : Int} {h : AH} : evL 139 2 [l0, l1, l2, l3, l4] [I s0] h = evL 139 3 [l0, l1, I s0, l3, l4] [] h := ev_go c139_2 rfl
theorem c139_3 : cd 139 3 = some (3, .iconst 0, 1, 0, 0, 0) := rfl
theorem s139_3 {l0 l1 l2 l3 l4 : AV} {h : AH} : evL 139 3 [l0, l1, l2, l3, l4] [] h = evL 139 4 [l0, l1, l2, l3, l4] [I 0] h := ev_go c139_3 rfl
theorem c139_4 : cd 139 4 = some (4, .istore_n 3, 1, 0, 0, 0) := rfl
theorem s139_4 {l0 l1 l2 l3 l4 : AV} {s0 : Int} {h : AH} : evL 139 4 [l0, l1, l2, l3, l4] [I s0] h = evL 139 5 [l0, l1, l2, I s0, l4] [] h := ev_go c139_4 rfl
theorem c139_5 : cd 139 5 = some (5, .iload_n 3, 1, 0, 0, 0) := rfl
theorem s139_5 {l0 l1 l2 l4 : AV} {l3 : Int} {h : AH} : evL 139 5 [l0, l1, l2, I l3, l4] [] h = evL 139 6 [l0, l1, l2, I l3, l4] [I l3] h := ev_go c139_5 rfl
theorem c139_6 : cd 139 6 = some (6, .aload_n 0, 1, 0, 0, 0) := rfl
theorem s139_6 {l1 l2 l3 l4 s0 : AV} {l0 : Option Nat} {h : AH} : evL 139 6 [.inr (.inl l0), l1, l2, l3, l4] [s0] h = evL 139 7 [.inr (.inl l0), l1, l2, l3, l4] [.inr (.inl l0), s0] h := ev_go c139_6 rfl
theorem c139_7 : cd 139 7 = some (7, .getfield 7, 3, 8, 0, 725) := rfl
theorem s139_7 {l0 l1 l2 l3 l4 s1 : AV} {s0 : Nat} {M : Mem} {P : PMem} (hk : kd s0 = 8) : evL 139 7 [l0, l1, l2, l3, l4] [Rf s0, s1] (Hp M P) = evL 139 10 [l0, l1, l2, l3, l4] [Rf (rfd s0 0), s1] (Hp M P) := e_getR c139_7 rfl hk
theorem c139_10 : cd 139 10 = some (10, .iconst 0, 1, 0, 0, 0) := rfl
theorem s139_10 {l0 l1 l2 l3 l4 s0 s1 : AV} {h : AH} : evL 139 10 [l0, l1, l2, l3, l4] [s0, s1] h = evL 139 11 [l0, l1, l2, l3, l4] [I 0, s0, s1] h := ev_go c139_10 rfl
theorem c139_11 : cd 139 11 = some (11, .iaload, 1, 0, 0, 0) := rfl
theorem s139_11 {l0 l1 l2 l3 l4 s2 : AV} {s0 : Int} {s1 : Nat} {M : Mem} {P : PMem} (hk : kd s1 = 100) (h0 : 0 ≤ s0) (hn : s0.toNat < ln s1) : evL 139 11 [l0, l1, l2, l3, l4] [I s0, Rf s1, s2] (Hp M P) = evL 139 12 [l0, l1, l2, l3, l4] [I (M s1 s0.toNat), s2] (Hp M P) := e_iald c139_11 hk h0 hn
theorem c139_12 : cd 139 12 = some (12, .if_icmp .ge 56, 3, 0, 0, 0) := rfl
theorem s139_12 {l0 l1 l2 l3 l4 : AV} {s0 s1 : Int} {h : AH} : evL 139 12 [l0, l1, l2, l3, l4] [I s0, I s1] h = if s0 ≤ s1 then evL 139 68 [l0, l1, l2, l3, l4] [] h else evL 139 15 [l0, l1, l2, l3, l4] [] h := e_icmp_ge c139_12 rfl rfl
theorem c139_15 : cd 139 15 = some (15, .iload_n 1, 1, 0, 0, 0) := rfl
theorem s139_15 {l0 l2 l3 l4 : AV} {l1 : Int} {h : AH} : evL 139 15 [l0, I l1, l2, l3, l4] [] h = evL 139 16 [l0, I l1, l2, l3, l4] [I l1] h := ev_go c139_15 rfl
theorem c139_16 : cd 139 16 = some (16, .iload_n 3, 1, 0, 0, 0) := rfl
theorem s139_16 {l0 l1 l2 l4 s0 : AV} {l3 : Int} {h : AH} : evL 139 16 [l0, l1, l2, I l3, l4] [s0] h = evL 139 17 [l0, l1, l2, I l3, l4] [I l3, s0] h := ev_go c139_16 rfl
theorem c139_17 : cd 139 17 = some (17, .ishr, 1, 0, 0, 0) := rfl
theorem s139_17 {l0 l1 l2 l3 l4 : AV} {s0 s1 : Int} {h : AH} : evL 139 17 [l0, l1, l2, l3, l4] [I s0, I s1] h = evL 139 18 [l0, l1, l2, l3, l4] [I (shr s1 s0)] h := ev_go c139_17 rfl
theorem c139_18 : cd 139 18 = some (18, .iconst 1, 1, 0, 0, 0) := rfl
theorem s139_18 {l0 l1 l2 l3 l4 s0 : AV} {h : AH} : evL 139 18 [l0, l1, l2, l3, l4] [s0] h = evL 139 19 [l0, l1, l2, l3, l4] [I 1, s0] h := ev_go c139_18 rfl
theorem c139_19 : cd 139 19 = some (19, .iand, 1, 0, 0, 0) := rfl
theorem s139_19 {l0 l1 l2 l3 l4 : AV} {s0 s1 : Int} {h : AH} : evL 139 19 [l0, l1, l2, l3, l4] [I s0, I s1] h = evL 139 20 [l0, l1, l2, l3, l4] [I (an s1 s0)] h := ev_go c139_19 rfl
theorem c139_20 : cd 139 20 = some (20, .ifCond .ne 28, 3, 0, 0, 0) := rfl
theorem s139_20 {l0 l1 l2 l3 l4 : AV} {s0 : Int} {h : AH} : evL 139 20 [l0, l1, l2, l3, l4] [I s0] h = if s0 = 0 then evL 139 23 [l0, l1, l2, l3, l4] [] h else evL 139 48 [l0, l1, l2, l3, l4] [] h := e_if_ne c139_20 rfl rfl
theorem c139_23 : cd 139 23 = some (23, .iload_n 2, 1, 0, 0, 0) := rfl
theorem s139_23 {l0 l1 l3 l4 : AV} {l2 : Int} {h : AH} : evL 139 23 [l0, l1, I l2, l3, l4] [] h = evL 139 24 [l0, l1, I l2, l3, l4] [I l2] h := ev_go c139_23 rfl
theorem c139_24 : cd 139 24 = some (24, .bipush (-4), 2, 0, 0, 0) := rfl
theorem s139_24 {l0 l1 l2 l3 l4 s0 : AV} {h : AH} : evL 139 24 [l0, l1, l2, l3, l4] [s0] h = evL 139 26 [l0, l1, l2, l3, l4] [I (-4), s0] h := ev_go c139_24 rfl
theorem c139_26 : cd 139 26 = some (26, .if_icmp .eq 18, 3, 0, 0, 0) := rfl
theorem s139_26 {l0 l1 l2 l3 l4 : AV} {s0 s1 : Int} {h : AH} : evL 139 26 [l0, l1, l2, l3, l4] [I s0, I s1] h = if s1 = s0 then evL 139 44 [l0, l1, l2, l3, l4] [] h else evL 139 29 [l0, l1, l2, l3, l4] [] h := e_icmp_eq c139_26 rfl rfl
theorem c139_29 : cd 139 29 = some (29, .aload_n 0, 1, 0, 0, 0) := rfl
theorem s139_29 {l1 l2 l3 l4 : AV} {l0 : Option Nat} {h : AH} : evL 139 29 [.inr (.inl l0), l1, l2, l3, l4] [] h = evL 139 30 [.inr (.inl l0), l1, l2, l3, l4] [.inr (.inl l0)] h := ev_go c139_29 rfl
theorem c139_30 : cd 139 30 = some (30, .iload_n 3, 1, 0, 0, 0) := rfl
theorem s139_30 {l0 l1 l2 l4 s0 : AV} {l3 : Int} {h : AH} : evL 139 30 [l0, l1, l2, I l3, l4] [s0] h = evL 139 31 [l0, l1, l2, I l3, l4] [I l3, s0] h := ev_go c139_30 rfl
theorem c139_31 : cd 139 31 = some (31, .iconst 0, 1, 0, 0, 0) := rfl
theorem s139_31 {l0 l1 l2 l3 l4 s0 s1 : AV} {h : AH} : evL 139 31 [l0, l1, l2, l3, l4] [s0, s1] h = evL 139 32 [l0, l1, l2, l3, l4] [I 0, s0, s1] h := ev_go c139_31 rfl
theorem c139_32 : cd 139 32 = some (32, .invokevirtual 54, 3, 116, 0, 806) := rfl
theorem s139_32 {l0 l1 l2 l3 l4 : AV} {s0 s1 : Int} {s2 : Nat} {M : Mem} {P : PMem} (hk : kd s2 = 8) : evL 139 32 [l0, l1, l2, l3, l4] [I s0, I s1, Rf s2] (Hp M P) = cont (evM 116 [Rf s2, I s1, I s0] (Hp M P)) (fun r h => evL 139 35 [l0, l1, l2, l3, l4] (rl r []) h) := e_callV (av' := [I s1, I s0]) (rest := []) (c := 8) c139_32 rfl rfl rfl rfl rfl rfl rfl hk rfl
theorem c139_35 : cd 139 35 = some (35, .aload_n 0, 1, 0, 0, 0) := rfl
theorem s139_35 {l1 l2 l3 l4 s0 : AV} {l0 : Option Nat} {h : AH} : evL 139 35 [.inr (.inl l0), l1, l2, l3, l4] [s0] h = evL 139 36 [.inr (.inl l0), l1, l2, l3, l4] [.inr (.inl l0), s0] h := ev_go c139_35 rfl
theorem c139_36 : cd 139 36 = some (36, .iload_n 2, 1, 0, 0, 0) := rfl
theorem s139_36 {l0 l1 l3 l4 s0 s1 : AV} {l2 : Int} {h : AH} : evL 139 36 [l0, l1, I l2, l3, l4] [s0, s1] h = evL 139 37 [l0, l1, I l2, l3, l4] [I l2, s0, s1] h := ev_go c139_36 rfl
theorem c139_37 : cd 139 37 = some (37, .iconst 0, 1, 0, 0, 0) := rfl
theorem s139_37 {l0 l1 l2 l3 l4 s0 s1 s2 : AV} {h : AH} : evL 139 37 [l0, l1, l2, l3, l4] [s0, s1, s2] h = evL 139 38 [l0, l1, l2, l3, l4] [I 0, s0, s1, s2] h := ev_go c139_37 rfl
theorem c139_38 : cd 139 38 = some (38, .invokevirtual 54, 3, 116, 0, 806) := rfl
theorem s139_38 {l0 l1 l2 l3 l4 s3 : AV} {s0 s1 : Int} {s2 : Nat} {M : Mem} {P : PMem} (hk : kd s2 = 8) : evL 139 38 [l0, l1, l2, l3, l4] [I s0, I s1, Rf s2, s3] (Hp M P) = cont (evM 116 [Rf s2, I s1, I s0] (Hp M P)) (fun r h => evL 139 41 [l0, l1, l2, l3, l4] (rl r [s3]) h) := e_callV (av' := [I s1, I s0]) (rest := [s3]) (c := 8) c139_38 rfl rfl rfl rfl rfl rfl rfl hk rfl
theorem c139_41 : cd 139 41 = some (41, .if_icmp .le 7, 3, 0, 0, 0) := rfl
theorem s139_41 {l0 l1 l2 l3 l4 : AV} {s0 s1 : Int} {h : AH} : evL 139 41 [l0, l1, l2, l3, l4] [I s0, I s1] h = if s1 ≤ s0 then evL 139 48 [l0, l1, l2, l3, l4] [] h else evL 139 44 [l0, l1, l2, l3, l4] [] h := e_icmp_le c139_41 rfl rfl
theorem c139_44 : cd 139 44 = some (44, .iconst 1, 1, 0, 0, 0) := rfl
theorem s139_44 {l0 l1 l2 l3 l4 : AV} {h : AH} : evL 139 44 [l0, l1, l2, l3, l4] [] h = evL 139 45 [l0, l1, l2, l3, l4] [I 1] h := ev_go c139_44 rfl
theorem c139_45 : cd 139 45 = some (45, .goto 4, 3, 0, 0, 0) := rfl
theorem s139_45 {l0 l1 l2 l3 l4 s0 : AV} {h : AH} : evL 139 45 [l0, l1, l2, l3, l4] [s0] h = evL 139 49 [l0, l1, l2, l3, l4] [s0] h := ev_go c139_45 rfl
theorem c139_48 : cd 139 48 = some (48, .iconst 0, 1, 0, 0, 0) := rfl
theorem s139_48 {l0 l1 l2 l3 l4 : AV} {h : AH} : evL 139 48 [l0, l1, l2, l3, l4] [] h = evL 139 49 [l0, l1, l2, l3, l4] [I 0] h := ev_go c139_48 rfl
theorem c139_49 : cd 139 49 = some (49, .istore 4, 2, 0, 0, 0) := rfl
theorem s139_49 {l0 l1 l2 l3 l4 : AV} {s0 : Int} {h : AH} : evL 139 49 [l0, l1, l2, l3, l4] [I s0] h = evL 139 51 [l0, l1, l2, l3, I s0] [] h := ev_go c139_49 rfl
theorem c139_51 : cd 139 51 = some (51, .iload 4, 2, 0, 0, 0) := rfl
theorem s139_51 {l0 l1 l2 l3 : AV} {l4 : Int} {h : AH} : evL 139 51 [l0, l1, l2, l3, I l4] [] h = evL 139 53 [l0, l1, l2, l3, I l4] [I l4] h := ev_go c139_51 rfl
theorem c139_53 : cd 139 53 = some (53, .ifCond .eq 7, 3, 0, 0, 0) := rfl
theorem s139_53 {l0 l1 l2 l3 l4 : AV} {s0 : Int} {h : AH} : evL 139 53 [l0, l1, l2, l3, l4] [I s0] h = if s0 = 0 then evL 139 60 [l0, l1, l2, l3, l4] [] h else evL 139 56 [l0, l1, l2, l3, l4] [] h := e_if_eq c139_53 rfl rfl
theorem c139_56 : cd 139 56 = some (56, .iload_n 3, 1, 0, 0, 0) := rfl
theorem s139_56 {l0 l1 l2 l4 : AV} {l3 : Int} {h : AH} : evL 139 56 [l0, l1, l2, I l3, l4] [] h = evL 139 57 [l0, l1, l2, I l3, l4] [I l3] h := ev_go c139_56 rfl
theorem c139_57 : cd 139 57 = some (57, .goto 4, 3, 0, 0, 0) := rfl
theorem s139_57 {l0 l1 l2 l3 l4 s0 : AV} {h : AH} : evL 139 57 [l0, l1, l2, l3, l4] [s0] h = evL 139 61 [l0, l1, l2, l3, l4] [s0] h := ev_go c139_57 rfl
theorem c139_60 : cd 139 60 = some (60, .iload_n 2, 1, 0, 0, 0) := rfl
theorem s139_60 {l0 l1 l3 l4 : AV} {l2 : Int} {h : AH} : evL 139 60 [l0, l1, I l2, l3, l4] [] h = evL 139 61 [l0, l1, I l2, l3, l4] [I l2] h := ev_go c139_60 rfl
theorem c139_61 : cd 139 61 = some (61, .istore_n 2, 1, 0, 0, 0) := rfl
theorem s139_61 {l0 l1 l2 l3 l4 : AV} {s0 : Int} {h : AH} : evL 139 61 [l0, l1, l2, l3, l4] [I s0] h = evL 139 62 [l0, l1, I s0, l3, l4] [] h := ev_go c139_61 rfl
theorem c139_62 : cd 139 62 = some (62, .iinc 3 1, 3, 0, 0, 0) := rfl
theorem s139_62 {l0 l1 l2 l4 : AV} {l3 : Int} {h : AH} : evL 139 62 [l0, l1, l2, I l3, l4] [] h = evL 139 65 [l0, l1, l2, I (ad l3 1), l4] [] h := ev_go c139_62 rfl
theorem c139_65 : cd 139 65 = some (65, .goto (-60), 3, 0, 0, 0) := rfl
theorem s139_65 {l0 l1 l2 l3 l4 : AV} {h : AH} : evL 139 65 [l0, l1, l2, l3, l4] [] h = evL 139 5 [l0, l1, l2, l3, l4] [] h := ev_go c139_65 rfl
theorem c139_68 : cd 139 68 = some (68, .iload_n 2, 1, 0, 0, 0) := rfl
theorem s139_68 {l0 l1 l3 l4 : AV} {l2 : Int} {h : AH} : evL 139 68 [l0, l1, I l2, l3, l4] [] h = evL 139 69 [l0, l1, I l2, l3, l4] [I l2] h := ev_go c139_68 rfl
theorem c139_69 : cd 139 69 = some (69, .ireturn, 1, 0, 0, 0) := rfl
theorem s139_69 {l0 l1 l2 l3 l4 : AV} {s0 : Int} {h : AH} : evL 139 69 [l0, l1, l2, l3, l4] [I s0] h = some (some (I s0), h) := e_ret c139_69 rfl
/-! 140: TankDiversModel.closesUp()V -/
theorem en140 {l0 : AV} {h : AH} : evM 140 [l0] h = evL 140 0 [l0, Db 0, Db 0] [] h := rfl
theorem c140_0 : cd 140 0 = some (0, .iconst 0, 1, 0, 0, 0) := rfl
theorem s140_0 {l0 l1 l2 : AV} {h : AH} : evL 140 0 [l0, l1, l2] [] h = evL 140 1 [l0, l1, l2] [I 0] h := ev_go c140_0 rfl
theorem c140_1 : cd 140 1 = some (1, .istore_n 1, 1, 0, 0, 0) := rfl
theorem s140_1 {l0 l1 l2 : AV} {s0 : Int} {h : AH} : evL 140 1 [l0, l1, l2] [I s0] h = evL 140 2 [l0, I s0, l2] [] h := ev_go c140_1 rfl
theorem c140_2 : cd 140 2 = some (2, .iconst 0, 1, 0, 0, 0) := rfl
theorem s140_2 {l0 l1 l2 : AV} {h : AH} : evL 140 2 [l0, l1, l2] [] h = evL 140 3 [l0, l1, l2] [I 0] h := ev_go c140_2 rfl
theorem c140_3 : cd 140 3 = some (3, .istore_n 2, 1, 0, 0, 0) := rfl
theorem s140_3 {l0 l1 l2 : AV} {s0 : Int} {h : AH} : evL 140 3 [l0, l1, l2] [I s0] h = evL 140 4 [l0, l1, I s0] [] h := ev_go c140_3 rfl
theorem c140_4 : cd 140 4 = some (4, .iload_n 2, 1, 0, 0, 0) := rfl
theorem s140_4 {l0 l1 : AV} {l2 : Int} {h : AH} : evL 140 4 [l0, l1, I l2] [] h = evL 140 5 [l0, l1, I l2] [I l2] h := ev_go c140_4 rfl
theorem c140_5 : cd 140 5 = some (5, .aload_n 0, 1, 0, 0, 0) := rfl
theorem s140_5 {l1 l2 s0 : AV} {l0 : Option Nat} {h : AH} : evL 140 5 [.inr (.inl l0), l1, l2] [s0] h = evL 140 6 [.inr (.inl l0), l1, l2] [.inr (.inl l0), s0] h := ev_go c140_5 rfl
theorem c140_6 : cd 140 6 = some (6, .getfield 7, 3, 8, 0, 725) := rfl
theorem s140_6 {l0 l1 l2 s1 : AV} {s0 : Nat} {M : Mem} {P : PMem} (hk : kd s0 = 8) : evL 140 6 [l0, l1, l2] [Rf s0, s1] (Hp M P) = evL 140 9 [l0, l1, l2] [Rf (rfd s0 0), s1] (Hp M P) := e_getR c140_6 rfl hk
theorem c140_9 : cd 140 9 = some (9, .bipush 8, 2, 0, 0, 0) := rfl
theorem s140_9 {l0 l1 l2 s0 s1 : AV} {h : AH} : evL 140 9 [l0, l1, l2] [s0, s1] h = evL 140 11 [l0, l1, l2] [I 8, s0, s1] h := ev_go c140_9 rfl
theorem c140_11 : cd 140 11 = some (11, .iaload, 1, 0, 0, 0) := rfl
theorem s140_11 {l0 l1 l2 s2 : AV} {s0 : Int} {s1 : Nat} {M : Mem} {P : PMem} (hk : kd s1 = 100) (h0 : 0 ≤ s0) (hn : s0.toNat < ln s1) : evL 140 11 [l0, l1, l2] [I s0, Rf s1, s2] (Hp M P) = evL 140 12 [l0, l1, l2] [I (M s1 s0.toNat), s2] (Hp M P) := e_iald c140_11 hk h0 hn
theorem c140_12 : cd 140 12 = some (12, .if_icmp .ge 42, 3, 0, 0, 0) := rfl
theorem s140_12 {l0 l1 l2 : AV} {s0 s1 : Int} {h : AH} : evL 140 12 [l0, l1, l2] [I s0, I s1] h = if s0 ≤ s1 then evL 140 54 [l0, l1, l2] [] h else evL 140 15 [l0, l1, l2] [] h := e_icmp_ge c140_12 rfl rfl
theorem c140_15 : cd 140 15 = some (15, .aload_n 0, 1, 0, 0, 0) := rfl
theorem s140_15 {l1 l2 : AV} {l0 : Option Nat} {h : AH} : evL 140 15 [.inr (.inl l0), l1, l2] [] h = evL 140 16 [.inr (.inl l0), l1, l2] [.inr (.inl l0)] h := ev_go c140_15 rfl
theorem c140_16 : cd 140 16 = some (16, .getfield 7, 3, 8, 0, 725) := rfl
theorem s140_16 {l0 l1 l2 : AV} {s0 : Nat} {M : Mem} {P : PMem} (hk : kd s0 = 8) : evL 140 16 [l0, l1, l2] [Rf s0] (Hp M P) = evL 140 19 [l0, l1, l2] [Rf (rfd s0 0)] (Hp M P) := e_getR c140_16 rfl hk
theorem c140_19 : cd 140 19 = some (19, .bipush 9, 2, 0, 0, 0) := rfl
theorem s140_19 {l0 l1 l2 s0 : AV} {h : AH} : evL 140 19 [l0, l1, l2] [s0] h = evL 140 21 [l0, l1, l2] [I 9, s0] h := ev_go c140_19 rfl
theorem c140_21 : cd 140 21 = some (21, .iload_n 2, 1, 0, 0, 0) := rfl
theorem s140_21 {l0 l1 s0 s1 : AV} {l2 : Int} {h : AH} : evL 140 21 [l0, l1, I l2] [s0, s1] h = evL 140 22 [l0, l1, I l2] [I l2, s0, s1] h := ev_go c140_21 rfl
theorem c140_22 : cd 140 22 = some (22, .iadd, 1, 0, 0, 0) := rfl
theorem s140_22 {l0 l1 l2 s2 : AV} {s0 s1 : Int} {h : AH} : evL 140 22 [l0, l1, l2] [I s0, I s1, s2] h = evL 140 23 [l0, l1, l2] [I (ad s1 s0), s2] h := ev_go c140_22 rfl
theorem c140_23 : cd 140 23 = some (23, .iaload, 1, 0, 0, 0) := rfl
theorem s140_23 {l0 l1 l2 : AV} {s0 : Int} {s1 : Nat} {M : Mem} {P : PMem} (hk : kd s1 = 100) (h0 : 0 ≤ s0) (hn : s0.toNat < ln s1) : evL 140 23 [l0, l1, l2] [I s0, Rf s1] (Hp M P) = evL 140 24 [l0, l1, l2] [I (M s1 s0.toNat)] (Hp M P) := e_iald c140_23 hk h0 hn
theorem c140_24 : cd 140 24 = some (24, .ifCond .le 24, 3, 0, 0, 0) := rfl
theorem s140_24 {l0 l1 l2 : AV} {s0 : Int} {h : AH} : evL 140 24 [l0, l1, l2] [I s0] h = if s0 ≤ 0 then evL 140 48 [l0, l1, l2] [] h else evL 140 27 [l0, l1, l2] [] h := e_if_le c140_24 rfl rfl
theorem c140_27 : cd 140 27 = some (27, .aload_n 0, 1, 0, 0, 0) := rfl
theorem s140_27 {l1 l2 : AV} {l0 : Option Nat} {h : AH} : evL 140 27 [.inr (.inl l0), l1, l2] [] h = evL 140 28 [.inr (.inl l0), l1, l2] [.inr (.inl l0)] h := ev_go c140_27 rfl
theorem c140_28 : cd 140 28 = some (28, .getfield 7, 3, 8, 0, 725) := rfl
theorem s140_28 {l0 l1 l2 : AV} {s0 : Nat} {M : Mem} {P : PMem} (hk : kd s0 = 8) : evL 140 28 [l0, l1, l2] [Rf s0] (Hp M P) = evL 140 31 [l0, l1, l2] [Rf (rfd s0 0)] (Hp M P) := e_getR c140_28 rfl hk
theorem c140_31 : cd 140 31 = some (31, .bipush 9, 2, 0, 0, 0) := rfl
theorem s140_31 {l0 l1 l2 s0 : AV} {h : AH} : evL 140 31 [l0, l1, l2] [s0] h = evL 140 33 [l0, l1, l2] [I 9, s0] h := ev_go c140_31 rfl
theorem c140_33 : cd 140 33 = some (33, .iload_n 1, 1, 0, 0, 0) := rfl
theorem s140_33 {l0 l2 s0 s1 : AV} {l1 : Int} {h : AH} : evL 140 33 [l0, I l1, l2] [s0, s1] h = evL 140 34 [l0, I l1, l2] [I l1, s0, s1] h := ev_go c140_33 rfl
theorem c140_34 : cd 140 34 = some (34, .iadd, 1, 0, 0, 0) := rfl
theorem s140_34 {l0 l1 l2 s2 : AV} {s0 s1 : Int} {h : AH} : evL 140 34 [l0, l1, l2] [I s0, I s1, s2] h = evL 140 35 [l0, l1, l2] [I (ad s1 s0), s2] h := ev_go c140_34 rfl
theorem c140_35 : cd 140 35 = some (35, .aload_n 0, 1, 0, 0, 0) := rfl
theorem s140_35 {l1 l2 s0 s1 : AV} {l0 : Option Nat} {h : AH} : evL 140 35 [.inr (.inl l0), l1, l2] [s0, s1] h = evL 140 36 [.inr (.inl l0), l1, l2] [.inr (.inl l0), s0, s1] h := ev_go c140_35 rfl
theorem c140_36 : cd 140 36 = some (36, .getfield 7, 3, 8, 0, 725) := rfl
theorem s140_36 {l0 l1 l2 s1 s2 : AV} {s0 : Nat} {M : Mem} {P : PMem} (hk : kd s0 = 8) : evL 140 36 [l0, l1, l2] [Rf s0, s1, s2] (Hp M P) = evL 140 39 [l0, l1, l2] [Rf (rfd s0 0), s1, s2] (Hp M P) := e_getR c140_36 rfl hk
theorem c140_39 : cd 140 39 = some (39, .bipush 9, 2, 0, 0, 0) := rfl
theorem s140_39 {l0 l1 l2 s0 s1 s2 : AV} {h : AH} : evL 140 39 [l0, l1, l2] [s0, s1, s2] h = evL 140 41 [l0, l1, l2] [I 9, s0, s1, s2] h := ev_go c140_39 rfl
theorem c140_41 : cd 140 41 = some (41, .iload_n 2, 1, 0, 0, 0) := rfl
theorem s140_41 {l0 l1 s0 s1 s2 s3 : AV} {l2 : Int} {h : AH} : evL 140 41 [l0, l1, I l2] [s0, s1, s2, s3] h = evL 140 42 [l0, l1, I l2] [I l2, s0, s1, s2, s3] h := ev_go c140_41 rfl
theorem c140_42 : cd 140 42 = some (42, .iadd, 1, 0, 0, 0) := rfl
theorem s140_42 {l0 l1 l2 s2 s3 s4 : AV} {s0 s1 : Int} {h : AH} : evL 140 42 [l0, l1, l2] [I s0, I s1, s2, s3, s4] h = evL 140 43 [l0, l1, l2] [I (ad s1 s0), s2, s3, s4] h := ev_go c140_42 rfl
theorem c140_43 : cd 140 43 = some (43, .iaload, 1, 0, 0, 0) := rfl
theorem s140_43 {l0 l1 l2 s2 s3 : AV} {s0 : Int} {s1 : Nat} {M : Mem} {P : PMem} (hk : kd s1 = 100) (h0 : 0 ≤ s0) (hn : s0.toNat < ln s1) : evL 140 43 [l0, l1, l2] [I s0, Rf s1, s2, s3] (Hp M P) = evL 140 44 [l0, l1, l2] [I (M s1 s0.toNat), s2, s3] (Hp M P) := e_iald c140_43 hk h0 hn
theorem c140_44 : cd 140 44 = some (44, .iastore, 1, 0, 0, 0) := rfl
theorem s140_44 {l0 l1 l2 : AV} {s0 s1 : Int} {s2 : Nat} {M : Mem} {P : PMem} (hk : kd s2 = 100) (h0 : 0 ≤ s1) (hn : s1.toNat < ln s2) : evL 140 44 [l0, l1, l2] [I s0, I s1, Rf s2] (Hp M P) = evL 140 45 [l0, l1, l2] [] (Hp (wr M s2 s1.toNat s0) P) := e_iast c140_44 hk h0 hn
theorem c140_45 : cd 140 45 = some (45, .iinc 1 1, 3, 0, 0, 0) := rfl
theorem s140_45 {l0 l2 : AV} {l1 : Int} {h : AH} : evL 140 45 [l0, I l1, l2] [] h = evL 140 48 [l0, I (ad l1 1), l2] [] h := ev_go c140_45 rfl
theorem c140_48 : cd 140 48 = some (48, .iinc 2 1, 3, 0, 0, 0) := rfl
theorem s140_48 {l0 l1 : AV} {l2 : Int} {h : AH} : evL 140 48 [l0, l1, I l2] [] h = evL 140 51 [l0, l1, I (ad l2 1)] [] h := ev_go c140_48 rfl
theorem c140_51 : cd 140 51 = some (51, .goto (-47), 3, 0, 0, 0) := rfl
theorem s140_51 {l0 l1 l2 : AV} {h : AH} : evL 140 51 [l0, l1, l2] [] h = evL 140 4 [l0, l1, l2] [] h := ev_go c140_51 rfl
theorem c140_54 : cd 140 54 = some (54, .iload_n 1, 1, 0, 0, 0) := rfl
theorem s140_54 {l0 l2 : AV} {l1 : Int} {h : AH} : evL 140 54 [l0, I l1, l2] [] h = evL 140 55 [l0, I l1, l2] [I l1] h := ev_go c140_54 rfl
theorem c140_55 : cd 140 55 = some (55, .istore_n 2, 1, 0, 0, 0) := rfl
theorem s140_55 {l0 l1 l2 : AV} {s0 : Int} {h : AH} : evL 140 55 [l0, l1, l2] [I s0] h = evL 140 56 [l0, l1, I s0] [] h := ev_go c140_55 rfl
theorem c140_56 : cd 140 56 = some (56, .iload_n 2, 1, 0, 0, 0) := rfl
theorem s140_56 {l0 l1 : AV} {l2 : Int} {h : AH} : evL 140 56 [l0, l1, I l2] [] h = evL 140 57 [l0, l1, I l2] [I l2] h := ev_go c140_56 rfl
theorem c140_57 : cd 140 57 = some (57, .bipush 16, 2, 0, 0, 0) := rfl
theorem s140_57 {l0 l1 l2 s0 : AV} {h : AH} : evL 140 57 [l0, l1, l2] [s0] h = evL 140 59 [l0, l1, l2] [I 16, s0] h := ev_go c140_57 rfl
theorem c140_59 : cd 140 59 = some (59, .if_icmp .ge 19, 3, 0, 0, 0) := rfl
theorem s140_59 {l0 l1 l2 : AV} {s0 s1 : Int} {h : AH} : evL 140 59 [l0, l1, l2] [I s0, I s1] h = if s0 ≤ s1 then evL 140 78 [l0, l1, l2] [] h else evL 140 62 [l0, l1, l2] [] h := e_icmp_ge c140_59 rfl rfl
theorem c140_62 : cd 140 62 = some (62, .aload_n 0, 1, 0, 0, 0) := rfl
theorem s140_62 {l1 l2 : AV} {l0 : Option Nat} {h : AH} : evL 140 62 [.inr (.inl l0), l1, l2] [] h = evL 140 63 [.inr (.inl l0), l1, l2] [.inr (.inl l0)] h := ev_go c140_62 rfl
theorem c140_63 : cd 140 63 = some (63, .getfield 7, 3, 8, 0, 725) := rfl
theorem s140_63 {l0 l1 l2 : AV} {s0 : Nat} {M : Mem} {P : PMem} (hk : kd s0 = 8) : evL 140 63 [l0, l1, l2] [Rf s0] (Hp M P) = evL 140 66 [l0, l1, l2] [Rf (rfd s0 0)] (Hp M P) := e_getR c140_63 rfl hk
theorem c140_66 : cd 140 66 = some (66, .bipush 9, 2, 0, 0, 0) := rfl
theorem s140_66 {l0 l1 l2 s0 : AV} {h : AH} : evL 140 66 [l0, l1, l2] [s0] h = evL 140 68 [l0, l1, l2] [I 9, s0] h := ev_go c140_66 rfl
theorem c140_68 : cd 140 68 = some (68, .iload_n 2, 1, 0, 0, 0) := rfl
theorem s140_68 {l0 l1 s0 s1 : AV} {l2 : Int} {h : AH} : evL 140 68 [l0, l1, I l2] [s0, s1] h = evL 140 69 [l0, l1, I l2] [I l2, s0, s1] h := ev_go c140_68 rfl
theorem c140_69 : cd 140 69 = some (69, .iadd, 1, 0, 0, 0) := rfl
theorem s140_69 {l0 l1 l2 s2 : AV} {s0 s1 : Int} {h : AH} : evL 140 69 [l0, l1, l2] [I s0, I s1, s2] h = evL 140 70 [l0, l1, l2] [I (ad s1 s0), s2] h := ev_go c140_69 rfl
theorem c140_70 : cd 140 70 = some (70, .iconst 0, 1, 0, 0, 0) := rfl
theorem s140_70 {l0 l1 l2 s0 s1 : AV} {h : AH} : evL 140 70 [l0, l1, l2] [s0, s1] h = evL 140 71 [l0, l1, l2] [I 0, s0, s1] h := ev_go c140_70 rfl
theorem c140_71 : cd 140 71 = some (71, .iastore, 1, 0, 0, 0) := rfl
theorem s140_71 {l0 l1 l2 : AV} {s0 s1 : Int} {s2 : Nat} {M : Mem} {P : PMem} (hk : kd s2 = 100) (h0 : 0 ≤ s1) (hn : s1.toNat < ln s2) : evL 140 71 [l0, l1, l2] [I s0, I s1, Rf s2] (Hp M P) = evL 140 72 [l0, l1, l2] [] (Hp (wr M s2 s1.toNat s0) P) := e_iast c140_71 hk h0 hn
theorem c140_72 : cd 140 72 = some (72, .iinc 2 1, 3, 0, 0, 0) := rfl
theorem s140_72 {l0 l1 : AV} {l2 : Int} {h : AH} : evL 140 72 [l0, l1, I l2] [] h = evL 140 75 [l0, l1, I (ad l2 1)] [] h := ev_go c140_72 rfl
theorem c140_75 : cd 140 75 = some (75, .goto (-19), 3, 0, 0, 0) := rfl
theorem s140_75 {l0 l1 l2 : AV} {h : AH} : evL 140 75 [l0, l1, l2] [] h = evL 140 56 [l0, l1, l2] [] h := ev_go c140_75 rfl
theorem c140_78 : cd 140 78 = some (78, .aload_n 0, 1, 0, 0, 0) := rfl
theorem s140_78 {l1 l2 : AV} {l0 : Option Nat} {h : AH} : evL 140 78 [.inr (.inl l0), l1, l2] [] h = evL 140 79 [.inr (.inl l0), l1, l2] [.inr (.inl l0)] h := ev_go c140_78 rfl
theorem c140_79 : cd 140 79 = some (79, .getfield 7, 3, 8, 0, 725) := rfl
theorem s140_79 {l0 l1 l2 : AV} {s0 : Nat} {M : Mem} {P : PMem} (hk : kd s0 = 8) : evL 140 79 [l0, l1, l2] [Rf s0] (Hp M P) = evL 140 82 [l0, l1, l2] [Rf (rfd s0 0)] (Hp M P) := e_getR c140_79 rfl hk
theorem c140_82 : cd 140 82 = some (82, .bipush 8, 2, 0, 0, 0) := rfl
theorem s140_82 {l0 l1 l2 s0 : AV} {h : AH} : evL 140 82 [l0, l1, l2] [s0] h = evL 140 84 [l0, l1, l2] [I 8, s0] h := ev_go c140_82 rfl
theorem c140_84 : cd 140 84 = some (84, .iload_n 1, 1, 0, 0, 0) := rfl
theorem s140_84 {l0 l2 s0 s1 : AV} {l1 : Int} {h : AH} : evL 140 84 [l0, I l1, l2] [s0, s1] h = evL 140 85 [l0, I l1, l2] [I l1, s0, s1] h := ev_go c140_84 rfl
theorem c140_85 : cd 140 85 = some (85, .iastore, 1, 0, 0, 0) := rfl
theorem s140_85 {l0 l1 l2 : AV} {s0 s1 : Int} {s2 : Nat} {M : Mem} {P : PMem} (hk : kd s2 = 100) (h0 : 0 ≤ s1) (hn : s1.toNat < ln s2) : evL 140 85 [l0, l1, l2] [I s0, I s1, Rf s2] (Hp M P) = evL 140 86 [l0, l1, l2] [] (Hp (wr M s2 s1.toNat s0) P) := e_iast c140_85 hk h0 hn
theorem c140_86 : cd 140 86 = some (86, .return_, 1, 0, 0, 0) := rfl
theorem s140_86 {l0 l1 l2 : AV} {h : AH} : evL 140 86 [l0, l1, l2] [] h = some (none, h) := e_ret c140_86 rfl
/-! 141: TankDiversModel.sinks(I)V -/
theorem en141 {l0 l1 : AV} {h : AH} : evM 141 [l0, l1] h = evL 141 0 [l0, l1, Db 0, Db 0, Db 0] [] h := rfl
theorem c141_0 : cd 141 0 = some (0, .iconst 0, 1, 0, 0, 0) := rfl
theorem s141_0 {l0 l1 l2 l3 l4 : AV} {h : AH} : evL 141 0 [l0, l1, l2, l3, l4] [] h = evL 141 1 [l0, l1, l2, l3, l4] [I 0] h := ev_go c141_0 rfl
theorem c141_1 : cd 141 1 = some (1, .istore_n 2, 1, 0, 0, 0) := rfl
theorem s141_1 {l0 l1 l2 l3 l4 : AV} {s0 : Int} {h : AH} : evL 141 1 [l0, l1, l2, l3, l4] [I s0] h = evL 141 2 [l0, l1, I s0, l3, l4] [] h := ev_go c141_1 rfl
theorem c141_2 : cd 141 2 = some (2, .iload_n 2, 1, 0, 0, 0) := rfl
theorem s141_2 {l0 l1 l3 l4 : AV} {l2 : Int} {h : AH} : evL 141 2 [l0, l1, I l2, l3, l4] [] h = evL 141 3 [l0, l1, I l2, l3, l4] [I l2] h := ev_go c141_2 rfl
theorem c141_3 : cd 141 3 = some (3, .aload_n 0, 1, 0, 0, 0) := rfl
theorem s141_3 {l1 l2 l3 l4 s0 : AV} {l0 : Option Nat} {h : AH} : evL 141 3 [.inr (.inl l0), l1, l2, l3, l4] [s0] h = evL 141 4 [.inr (.inl l0), l1, l2, l3, l4] [.inr (.inl l0), s0] h := ev_go c141_3 rfl
theorem c141_4 : cd 141 4 = some (4, .iload_n 1, 1, 0, 0, 0) := rfl
theorem s141_4 {l0 l2 l3 l4 s0 s1 : AV} {l1 : Int} {h : AH} : evL 141 4 [l0, I l1, l2, l3, l4] [s0, s1] h = evL 141 5 [l0, I l1, l2, l3, l4] [I l1, s0, s1] h := ev_go c141_4 rfl
theorem c141_5 : cd 141 5 = some (5, .iconst 3, 1, 0, 0, 0) := rfl
theorem s141_5 {l0 l1 l2 l3 l4 s0 s1 s2 : AV} {h : AH} : evL 141 5 [l0, l1, l2, l3, l4] [s0, s1, s2] h = evL 141 6 [l0, l1, l2, l3, l4] [I 3, s0, s1, s2] h := ev_go c141_5 rfl
theorem c141_6 : cd 141 6 = some (6, .invokevirtual 54, 3, 116, 0, 806) := rfl
theorem s141_6 {l0 l1 l2 l3 l4 s3 : AV} {s0 s1 : Int} {s2 : Nat} {M : Mem} {P : PMem} (hk : kd s2 = 8) : evL 141 6 [l0, l1, l2, l3, l4] [I s0, I s1, Rf s2, s3] (Hp M P) = cont (evM 116 [Rf s2, I s1, I s0] (Hp M P)) (fun r h => evL 141 9 [l0, l1, l2, l3, l4] (rl r [s3]) h) := e_callV (av' := [I s1, I s0]) (rest := [s3]) (c := 8) c141_6 rfl rfl rfl rfl rfl rfl rfl hk rfl
theorem c141_9 : cd 141 9 = some (9, .if_icmp .ge 63, 3, 0, 0, 0) := rfl
theorem s141_9 {l0 l1 l2 l3 l4 : AV} {s0 s1 : Int} {h : AH} : evL 141 9 [l0, l1, l2, l3, l4] [I s0, I s1] h = if s0 ≤ s1 then evL 141 72 [l0, l1, l2, l3, l4] [] h else evL 141 12 [l0, l1, l2, l3, l4] [] h := e_icmp_ge c141_9 rfl rfl
theorem c141_12 : cd 141 12 = some (12, .aload_n 0, 1, 0, 0, 0) := rfl
theorem s141_12 {l1 l2 l3 l4 : AV} {l0 : Option Nat} {h : AH} : evL 141 12 [.inr (.inl l0), l1, l2, l3, l4] [] h = evL 141 13 [.inr (.inl l0), l1, l2, l3, l4] [.inr (.inl l0)] h := ev_go c141_12 rfl
theorem c141_13 : cd 141 13 = some (13, .iload_n 1, 1, 0, 0, 0) := rfl
theorem s141_13 {l0 l2 l3 l4 s0 : AV} {l1 : Int} {h : AH} : evL 141 13 [l0, I l1, l2, l3, l4] [s0] h = evL 141 14 [l0, I l1, l2, l3, l4] [I l1, s0] h := ev_go c141_13 rfl
theorem c141_14 : cd 141 14 = some (14, .iconst 4, 1, 0, 0, 0) := rfl
theorem s141_14 {l0 l1 l2 l3 l4 s0 s1 : AV} {h : AH} : evL 141 14 [l0, l1, l2, l3, l4] [s0, s1] h = evL 141 15 [l0, l1, l2, l3, l4] [I 4, s0, s1] h := ev_go c141_14 rfl
theorem c141_15 : cd 141 15 = some (15, .iload_n 2, 1, 0, 0, 0) := rfl
theorem s141_15 {l0 l1 l3 l4 s0 s1 s2 : AV} {l2 : Int} {h : AH} : evL 141 15 [l0, l1, I l2, l3, l4] [s0, s1, s2] h = evL 141 16 [l0, l1, I l2, l3, l4] [I l2, s0, s1, s2] h := ev_go c141_15 rfl
theorem c141_16 : cd 141 16 = some (16, .iadd, 1, 0, 0, 0) := rfl
theorem s141_16 {l0 l1 l2 l3 l4 s2 s3 : AV} {s0 s1 : Int} {h : AH} : evL 141 16 [l0, l1, l2, l3, l4] [I s0, I s1, s2, s3] h = evL 141 17 [l0, l1, l2, l3, l4] [I (ad s1 s0), s2, s3] h := ev_go c141_16 rfl
theorem c141_17 : cd 141 17 = some (17, .invokevirtual 54, 3, 116, 0, 806) := rfl
theorem s141_17 {l0 l1 l2 l3 l4 : AV} {s0 s1 : Int} {s2 : Nat} {M : Mem} {P : PMem} (hk : kd s2 = 8) : evL 141 17 [l0, l1, l2, l3, l4] [I s0, I s1, Rf s2] (Hp M P) = cont (evM 116 [Rf s2, I s1, I s0] (Hp M P)) (fun r h => evL 141 20 [l0, l1, l2, l3, l4] (rl r []) h) := e_callV (av' := [I s1, I s0]) (rest := []) (c := 8) c141_17 rfl rfl rfl rfl rfl rfl rfl hk rfl
theorem c141_20 : cd 141 20 = some (20, .istore_n 3, 1, 0, 0, 0) := rfl
theorem s141_20 {l0 l1 l2 l3 l4 : AV} {s0 : Int} {h : AH} : evL 141 20 [l0, l1, l2, l3, l4] [I s0] h = evL 141 21 [l0, l1, l2, I s0, l4] [] h := ev_go c141_20 rfl
theorem c141_21 : cd 141 21 = some (21, .iconst 0, 1, 0, 0, 0) := rfl
theorem s141_21 {l0 l1 l2 l3 l4 : AV} {h : AH} : evL 141 21 [l0, l1, l2, l3, l4] [] h = evL 141 22 [l0, l1, l2, l3, l4] [I 0] h := ev_go c141_21 rfl
theorem c141_22 : cd 141 22 = some (22, .istore 4, 2, 0, 0, 0) := rfl
theorem s141_22 {l0 l1 l2 l3 l4 : AV} {s0 : Int} {h : AH} : evL 141 22 [l0, l1, l2, l3, l4] [I s0] h = evL 141 24 [l0, l1, l2, l3, I s0] [] h := ev_go c141_22 rfl
theorem c141_24 : cd 141 24 = some (24, .iload 4, 2, 0, 0, 0) := rfl
theorem s141_24 {l0 l1 l2 l3 : AV} {l4 : Int} {h : AH} : evL 141 24 [l0, l1, l2, l3, I l4] [] h = evL 141 26 [l0, l1, l2, l3, I l4] [I l4] h := ev_go c141_24 rfl
theorem c141_26 : cd 141 26 = some (26, .iload_n 3, 1, 0, 0, 0) := rfl
theorem s141_26 {l0 l1 l2 l4 s0 : AV} {l3 : Int} {h : AH} : evL 141 26 [l0, l1, l2, I l3, l4] [s0] h = evL 141 27 [l0, l1, l2, I l3, l4] [I l3, s0] h := ev_go c141_26 rfl
theorem c141_27 : cd 141 27 = some (27, .invokestatic 43, 3, 113, 0, 873) := rfl
theorem s141_27 {l0 l1 l2 l3 l4 s1 : AV} {s0 : Int} {M : Mem} {P : PMem} : evL 141 27 [l0, l1, l2, l3, l4] [I s0, s1] (Hp M P) = cont (evM 113 [I s0] (Hp M P)) (fun r h => evL 141 30 [l0, l1, l2, l3, l4] (rl r [s1]) h) := e_callS (av := [I s0]) (rest := [s1]) c141_27 rfl rfl rfl rfl rfl rfl
theorem c141_30 : cd 141 30 = some (30, .if_icmp .ge 36, 3, 0, 0, 0) := rfl
theorem s141_30 {l0 l1 l2 l3 l4 : AV} {s0 s1 : Int} {h : AH} : evL 141 30 [l0, l1, l2, l3, l4] [I s0, I s1] h = if s0 ≤ s1 then evL 141 66 [l0, l1, l2, l3, l4] [] h else evL 141 33 [l0, l1, l2, l3, l4] [] h := e_icmp_ge c141_30 rfl rfl
theorem c141_33 : cd 141 33 = some (33, .aload_n 0, 1, 0, 0, 0) := rfl
theorem s141_33 {l1 l2 l3 l4 : AV} {l0 : Option Nat} {h : AH} : evL 141 33 [.inr (.inl l0), l1, l2, l3, l4] [] h = evL 141 34 [.inr (.inl l0), l1, l2, l3, l4] [.inr (.inl l0)] h := ev_go c141_33 rfl
theorem c141_34 : cd 141 34 = some (34, .getfield 22, 3, 8, 9, 734) := rfl
theorem s141_34 {l0 l1 l2 l3 l4 : AV} {s0 : Nat} {M : Mem} {P : PMem} (hk : kd s0 = 8) : evL 141 34 [l0, l1, l2, l3, l4] [Rf s0] (Hp M P) = evL 141 37 [l0, l1, l2, l3, l4] [Rf (rfd s0 9)] (Hp M P) := e_getR c141_34 rfl hk
theorem c141_37 : cd 141 37 = some (37, .aload_n 0, 1, 0, 0, 0) := rfl
theorem s141_37 {l1 l2 l3 l4 s0 : AV} {l0 : Option Nat} {h : AH} : evL 141 37 [.inr (.inl l0), l1, l2, l3, l4] [s0] h = evL 141 38 [.inr (.inl l0), l1, l2, l3, l4] [.inr (.inl l0), s0] h := ev_go c141_37 rfl
theorem c141_38 : cd 141 38 = some (38, .getfield 108, 3, 8, 10, 735) := rfl
theorem s141_38 {l0 l1 l2 l3 l4 s1 : AV} {s0 : Nat} {M : Mem} {P : PMem} (hk : kd s0 = 8) : evL 141 38 [l0, l1, l2, l3, l4] [Rf s0, s1] (Hp M P) = evL 141 41 [l0, l1, l2, l3, l4] [I (M s0 10), s1] (Hp M P) := e_getI c141_38 rfl hk
theorem c141_41 : cd 141 41 = some (41, .iload_n 3, 1, 0, 0, 0) := rfl
theorem s141_41 {l0 l1 l2 l4 s0 s1 : AV} {l3 : Int} {h : AH} : evL 141 41 [l0, l1, l2, I l3, l4] [s0, s1] h = evL 141 42 [l0, l1, l2, I l3, l4] [I l3, s0, s1] h := ev_go c141_41 rfl
theorem c141_42 : cd 141 42 = some (42, .iload 4, 2, 0, 0, 0) := rfl
theorem s141_42 {l0 l1 l2 l3 s0 s1 s2 : AV} {l4 : Int} {h : AH} : evL 141 42 [l0, l1, l2, l3, I l4] [s0, s1, s2] h = evL 141 44 [l0, l1, l2, l3, I l4] [I l4, s0, s1, s2] h := ev_go c141_42 rfl
theorem c141_44 : cd 141 44 = some (44, .invokestatic 47, 3, 114, 0, 876) := rfl
theorem s141_44 {l0 l1 l2 l3 l4 s2 s3 : AV} {s0 s1 : Int} {M : Mem} {P : PMem} : evL 141 44 [l0, l1, l2, l3, l4] [I s0, I s1, s2, s3] (Hp M P) = cont (evM 114 [I s1, I s0] (Hp M P)) (fun r h => evL 141 47 [l0, l1, l2, l3, l4] (rl r [s2, s3]) h) := e_callS (av := [I s1, I s0]) (rest := [s2, s3]) c141_44 rfl rfl rfl rfl rfl rfl
theorem c141_47 : cd 141 47 = some (47, .iconst 1, 1, 0, 0, 0) := rfl
theorem s141_47 {l0 l1 l2 l3 l4 s0 s1 s2 : AV} {h : AH} : evL 141 47 [l0, l1, l2, l3, l4] [s0, s1, s2] h = evL 141 48 [l0, l1, l2, l3, l4] [I 1, s0, s1, s2] h := ev_go c141_47 rfl
theorem c141_48 : cd 141 48 = some (48, .iadd, 1, 0, 0, 0) := rfl
theorem s141_48 {l0 l1 l2 l3 l4 s2 s3 : AV} {s0 s1 : Int} {h : AH} : evL 141 48 [l0, l1, l2, l3, l4] [I s0, I s1, s2, s3] h = evL 141 49 [l0, l1, l2, l3, l4] [I (ad s1 s0), s2, s3] h := ev_go c141_48 rfl
theorem c141_49 : cd 141 49 = some (49, .iastore, 1, 0, 0, 0) := rfl
theorem s141_49 {l0 l1 l2 l3 l4 : AV} {s0 s1 : Int} {s2 : Nat} {M : Mem} {P : PMem} (hk : kd s2 = 100) (h0 : 0 ≤ s1) (hn : s1.toNat < ln s2) : evL 141 49 [l0, l1, l2, l3, l4] [I s0, I s1, Rf s2] (Hp M P) = evL 141 50 [l0, l1, l2, l3, l4] [] (Hp (wr M s2 s1.toNat s0) P) := e_iast c141_49 hk h0 hn
theorem c141_50 : cd 141 50 = some (50, .aload_n 0, 1, 0, 0, 0) := rfl
theorem s141_50 {l1 l2 l3 l4 : AV} {l0 : Option Nat} {h : AH} : evL 141 50 [.inr (.inl l0), l1, l2, l3, l4] [] h = evL 141 51 [.inr (.inl l0), l1, l2, l3, l4] [.inr (.inl l0)] h := ev_go c141_50 rfl
theorem c141_51 : cd 141 51 = some (51, .dup, 1, 0, 0, 0) := rfl
theorem s141_51 {l0 l1 l2 l3 l4 : AV} {s0 : Option Nat} {h : AH} : evL 141 51 [l0, l1, l2, l3, l4] [.inr (.inl s0)] h = evL 141 52 [l0, l1, l2, l3, l4] [.inr (.inl s0), .inr (.inl s0)] h := ev_go c141_51 rfl
theorem c141_52 : cd 141 52 = some (52, .getfield 108, 3, 8, 10, 735) := rfl
theorem s141_52 {l0 l1 l2 l3 l4 s1 : AV} {s0 : Nat} {M : Mem} {P : PMem} (hk : kd s0 = 8) : evL 141 52 [l0, l1, l2, l3, l4] [Rf s0, s1] (Hp M P) = evL 141 55 [l0, l1, l2, l3, l4] [I (M s0 10), s1] (Hp M P) := e_getI c141_52 rfl hk
theorem c141_55 : cd 141 55 = some (55, .iconst 1, 1, 0, 0, 0) := rfl
theorem s141_55 {l0 l1 l2 l3 l4 s0 s1 : AV} {h : AH} : evL 141 55 [l0, l1, l2, l3, l4] [s0, s1] h = evL 141 56 [l0, l1, l2, l3, l4] [I 1, s0, s1] h := ev_go c141_55 rfl
theorem c141_56 : cd 141 56 = some (56, .iadd, 1, 0, 0, 0) := rfl
theorem s141_56 {l0 l1 l2 l3 l4 s2 : AV} {s0 s1 : Int} {h : AH} : evL 141 56 [l0, l1, l2, l3, l4] [I s0, I s1, s2] h = evL 141 57 [l0, l1, l2, l3, l4] [I (ad s1 s0), s2] h := ev_go c141_56 rfl
theorem c141_57 : cd 141 57 = some (57, .putfield 108, 3, 8, 10, 735) := rfl
theorem s141_57 {l0 l1 l2 l3 l4 : AV} {s0 : Int} {s1 : Nat} {M : Mem} {P : PMem} (hk : kd s1 = 8) : evL 141 57 [l0, l1, l2, l3, l4] [I s0, Rf s1] (Hp M P) = evL 141 60 [l0, l1, l2, l3, l4] [] (Hp (wr M s1 10 s0) P) := e_putI c141_57 rfl hk
theorem c141_60 : cd 141 60 = some (60, .iinc 4 1, 3, 0, 0, 0) := rfl
theorem s141_60 {l0 l1 l2 l3 : AV} {l4 : Int} {h : AH} : evL 141 60 [l0, l1, l2, l3, I l4] [] h = evL 141 63 [l0, l1, l2, l3, I (ad l4 1)] [] h := ev_go c141_60 rfl
theorem c141_63 : cd 141 63 = some (63, .goto (-39), 3, 0, 0, 0) := rfl
theorem s141_63 {l0 l1 l2 l3 l4 : AV} {h : AH} : evL 141 63 [l0, l1, l2, l3, l4] [] h = evL 141 24 [l0, l1, l2, l3, l4] [] h := ev_go c141_63 rfl
theorem c141_66 : cd 141 66 = some (66, .iinc 2 1, 3, 0, 0, 0) := rfl
theorem s141_66 {l0 l1 l3 l4 : AV} {l2 : Int} {h : AH} : evL 141 66 [l0, l1, I l2, l3, l4] [] h = evL 141 69 [l0, l1, I (ad l2 1), l3, l4] [] h := ev_go c141_66 rfl
theorem c141_69 : cd 141 69 = some (69, .goto (-67), 3, 0, 0, 0) := rfl
theorem s141_69 {l0 l1 l2 l3 l4 : AV} {h : AH} : evL 141 69 [l0, l1, l2, l3, l4] [] h = evL 141 2 [l0, l1, l2, l3, l4] [] h := ev_go c141_69 rfl
theorem c141_72 : cd 141 72 = some (72, .return_, 1, 0, 0, 0) := rfl
theorem s141_72 {l0 l1 l2 l3 l4 : AV} {h : AH} : evL 141 72 [l0, l1, l2, l3, l4] [] h = some (none, h) := e_ret c141_72 rfl
