/-! ===== equations, on ===== -/
/-! 113: TankDiversLaw.plays(LTankDivers;I)Z -/
theorem en113 {l0 l1 : AV} {h : AH} : evM 113 [l0, l1] h = evL 113 0 [l0, l1, Db 0, Db 0, Db 0, Db 0, Db 0, Db 0, Db 0, Db 0, Db 0, Db 0, Db 0, Db 0, Db 0, Db 0] [] h := rfl
set_option maxRecDepth 20000 in
theorem c113_0 : cd 113 0 = some (0, .aload_n 0, 1, 0, 0, 0) := rfl
theorem s113_0 {l1 l2 l3 l4 l5 l6 l7 l8 l9 l10 l11 l12 l13 l14 l15 : AV} {l0 : Option Nat} {h : AH} : evL 113 0 [.inr (.inl l0), l1, l2, l3, l4, l5, l6, l7, l8, l9, l10, l11, l12, l13, l14, l15] [] h = evL 113 1 [.inr (.inl l0), l1, l2, l3, l4, l5, l6, l7, l8, l9, l10, l11, l12, l13, l14, l15] [.inr (.inl l0)] h := ev_go c113_0 rfl
set_option maxRecDepth 20000 in
theorem c113_1 : cd 113 1 = some (1, .invokestatic 56, 3, 109, 0, 387) := rfl
theorem s113_1 {l0 l1 l2 l3 l4 l5 l6 l7 l8 l9 l10 l11 l12 l13 l14 l15 : AV} {s0 : Nat} {M : Mem} {P : PMem} : evL 113 1 [l0, l1, l2, l3, l4, l5, l6, l7, l8, l9, l10, l11, l12, l13, l14, l15] [Rf s0] (Hp M P) = cont (evM 109 [Rf s0] (Hp M P)) (fun r h => evL 113 4 [l0, l1, l2, l3, l4, l5, l6, l7, l8, l9, l10, l11, l12, l13, l14, l15] (rl r []) h) := e_callS (av := [Rf s0]) (rest := []) c113_1 rfl rfl rfl rfl rfl rfl
set_option maxRecDepth 20000 in
theorem c113_4 : cd 113 4 = some (4, .lstore_n 2, 1, 0, 0, 0) := rfl
theorem s113_4 {l0 l1 l2 l3 l4 l5 l6 l7 l8 l9 l10 l11 l12 l13 l14 l15 : AV} {s0 : Int64} {h : AH} : evL 113 4 [l0, l1, l2, l3, l4, l5, l6, l7, l8, l9, l10, l11, l12, l13, l14, l15] [Lg s0] h = evL 113 5 [l0, l1, Lg s0, Db 0, l4, l5, l6, l7, l8, l9, l10, l11, l12, l13, l14, l15] [] h := ev_go c113_4 rfl
set_option maxRecDepth 20000 in
theorem c113_5 : cd 113 5 = some (5, .iload_n 1, 1, 0, 0, 0) := rfl
theorem s113_5 {l0 l2 l3 l4 l5 l6 l7 l8 l9 l10 l11 l12 l13 l14 l15 : AV} {l1 : Int} {h : AH} : evL 113 5 [l0, I l1, l2, l3, l4, l5, l6, l7, l8, l9, l10, l11, l12, l13, l14, l15] [] h = evL 113 6 [l0, I l1, l2, l3, l4, l5, l6, l7, l8, l9, l10, l11, l12, l13, l14, l15] [I l1] h := ev_go c113_5 rfl
set_option maxRecDepth 20000 in
theorem c113_6 : cd 113 6 = some (6, .bipush 11, 2, 0, 0, 0) := rfl
theorem s113_6 {l0 l1 l2 l3 l4 l5 l6 l7 l8 l9 l10 l11 l12 l13 l14 l15 s0 : AV} {h : AH} : evL 113 6 [l0, l1, l2, l3, l4, l5, l6, l7, l8, l9, l10, l11, l12, l13, l14, l15] [s0] h = evL 113 8 [l0, l1, l2, l3, l4, l5, l6, l7, l8, l9, l10, l11, l12, l13, l14, l15] [I 11, s0] h := ev_go c113_6 rfl
set_option maxRecDepth 20000 in
theorem c113_8 : cd 113 8 = some (8, .invokestatic 39, 3, 105, 0, 383) := rfl
theorem s113_8 {l0 l1 l2 l3 l4 l5 l6 l7 l8 l9 l10 l11 l12 l13 l14 l15 : AV} {s0 s1 : Int} {M : Mem} {P : PMem} : evL 113 8 [l0, l1, l2, l3, l4, l5, l6, l7, l8, l9, l10, l11, l12, l13, l14, l15] [I s0, I s1] (Hp M P) = cont (evM 105 [I s1, I s0] (Hp M P)) (fun r h => evL 113 11 [l0, l1, l2, l3, l4, l5, l6, l7, l8, l9, l10, l11, l12, l13, l14, l15] (rl r []) h) := e_callS (av := [I s1, I s0]) (rest := []) c113_8 rfl rfl rfl rfl rfl rfl
set_option maxRecDepth 20000 in
theorem c113_11 : cd 113 11 = some (11, .istore 4, 2, 0, 0, 0) := rfl
theorem s113_11 {l0 l1 l2 l3 l4 l5 l6 l7 l8 l9 l10 l11 l12 l13 l14 l15 : AV} {s0 : Int} {h : AH} : evL 113 11 [l0, l1, l2, l3, l4, l5, l6, l7, l8, l9, l10, l11, l12, l13, l14, l15] [I s0] h = evL 113 13 [l0, l1, l2, l3, I s0, l5, l6, l7, l8, l9, l10, l11, l12, l13, l14, l15] [] h := ev_go c113_11 rfl
set_option maxRecDepth 20000 in
theorem c113_13 : cd 113 13 = some (13, .aload_n 0, 1, 0, 0, 0) := rfl
theorem s113_13 {l1 l2 l3 l4 l5 l6 l7 l8 l9 l10 l11 l12 l13 l14 l15 : AV} {l0 : Option Nat} {h : AH} : evL 113 13 [.inr (.inl l0), l1, l2, l3, l4, l5, l6, l7, l8, l9, l10, l11, l12, l13, l14, l15] [] h = evL 113 14 [.inr (.inl l0), l1, l2, l3, l4, l5, l6, l7, l8, l9, l10, l11, l12, l13, l14, l15] [.inr (.inl l0)] h := ev_go c113_13 rfl
set_option maxRecDepth 20000 in
theorem c113_14 : cd 113 14 = some (14, .bipush 15, 2, 0, 0, 0) := rfl
theorem s113_14 {l0 l1 l2 l3 l4 l5 l6 l7 l8 l9 l10 l11 l12 l13 l14 l15 s0 : AV} {h : AH} : evL 113 14 [l0, l1, l2, l3, l4, l5, l6, l7, l8, l9, l10, l11, l12, l13, l14, l15] [s0] h = evL 113 16 [l0, l1, l2, l3, l4, l5, l6, l7, l8, l9, l10, l11, l12, l13, l14, l15] [I 15, s0] h := ev_go c113_14 rfl
set_option maxRecDepth 20000 in
theorem c113_16 : cd 113 16 = some (16, .invokevirtual 13, 3, 100, 0, 258) := rfl
theorem s113_16 {l0 l1 l2 l3 l4 l5 l6 l7 l8 l9 l10 l11 l12 l13 l14 l15 : AV} {s0 : Int} {s1 : Nat} {M : Mem} {P : PMem} (hk : kd s1 = 7) : evL 113 16 [l0, l1, l2, l3, l4, l5, l6, l7, l8, l9, l10, l11, l12, l13, l14, l15] [I s0, Rf s1] (Hp M P) = cont (evM 100 [Rf s1, I s0] (Hp M P)) (fun r h => evL 113 19 [l0, l1, l2, l3, l4, l5, l6, l7, l8, l9, l10, l11, l12, l13, l14, l15] (rl r []) h) := e_callV (av' := [I s0]) (rest := []) (c := 7) c113_16 rfl rfl rfl rfl rfl rfl rfl hk rfl
set_option maxRecDepth 20000 in
theorem c113_19 : cd 113 19 = some (19, .istore 5, 2, 0, 0, 0) := rfl
theorem s113_19 {l0 l1 l2 l3 l4 l5 l6 l7 l8 l9 l10 l11 l12 l13 l14 l15 : AV} {s0 : Int} {h : AH} : evL 113 19 [l0, l1, l2, l3, l4, l5, l6, l7, l8, l9, l10, l11, l12, l13, l14, l15] [I s0] h = evL 113 21 [l0, l1, l2, l3, l4, I s0, l6, l7, l8, l9, l10, l11, l12, l13, l14, l15] [] h := ev_go c113_19 rfl
set_option maxRecDepth 20000 in
theorem c113_21 : cd 113 21 = some (21, .aload_n 0, 1, 0, 0, 0) := rfl
theorem s113_21 {l1 l2 l3 l4 l5 l6 l7 l8 l9 l10 l11 l12 l13 l14 l15 : AV} {l0 : Option Nat} {h : AH} : evL 113 21 [.inr (.inl l0), l1, l2, l3, l4, l5, l6, l7, l8, l9, l10, l11, l12, l13, l14, l15] [] h = evL 113 22 [.inr (.inl l0), l1, l2, l3, l4, l5, l6, l7, l8, l9, l10, l11, l12, l13, l14, l15] [.inr (.inl l0)] h := ev_go c113_21 rfl
set_option maxRecDepth 20000 in
theorem c113_22 : cd 113 22 = some (22, .bipush 12, 2, 0, 0, 0) := rfl
theorem s113_22 {l0 l1 l2 l3 l4 l5 l6 l7 l8 l9 l10 l11 l12 l13 l14 l15 s0 : AV} {h : AH} : evL 113 22 [l0, l1, l2, l3, l4, l5, l6, l7, l8, l9, l10, l11, l12, l13, l14, l15] [s0] h = evL 113 24 [l0, l1, l2, l3, l4, l5, l6, l7, l8, l9, l10, l11, l12, l13, l14, l15] [I 12, s0] h := ev_go c113_22 rfl
set_option maxRecDepth 20000 in
theorem c113_24 : cd 113 24 = some (24, .invokevirtual 13, 3, 100, 0, 258) := rfl
theorem s113_24 {l0 l1 l2 l3 l4 l5 l6 l7 l8 l9 l10 l11 l12 l13 l14 l15 : AV} {s0 : Int} {s1 : Nat} {M : Mem} {P : PMem} (hk : kd s1 = 7) : evL 113 24 [l0, l1, l2, l3, l4, l5, l6, l7, l8, l9, l10, l11, l12, l13, l14, l15] [I s0, Rf s1] (Hp M P) = cont (evM 100 [Rf s1, I s0] (Hp M P)) (fun r h => evL 113 27 [l0, l1, l2, l3, l4, l5, l6, l7, l8, l9, l10, l11, l12, l13, l14, l15] (rl r []) h) := e_callV (av' := [I s0]) (rest := []) (c := 7) c113_24 rfl rfl rfl rfl rfl rfl rfl hk rfl
set_option maxRecDepth 20000 in
theorem c113_27 : cd 113 27 = some (27, .istore 6, 2, 0, 0, 0) := rfl
theorem s113_27 {l0 l1 l2 l3 l4 l5 l6 l7 l8 l9 l10 l11 l12 l13 l14 l15 : AV} {s0 : Int} {h : AH} : evL 113 27 [l0, l1, l2, l3, l4, l5, l6, l7, l8, l9, l10, l11, l12, l13, l14, l15] [I s0] h = evL 113 29 [l0, l1, l2, l3, l4, l5, I s0, l7, l8, l9, l10, l11, l12, l13, l14, l15] [] h := ev_go c113_27 rfl
set_option maxRecDepth 20000 in
theorem c113_29 : cd 113 29 = some (29, .aload_n 0, 1, 0, 0, 0) := rfl
theorem s113_29 {l1 l2 l3 l4 l5 l6 l7 l8 l9 l10 l11 l12 l13 l14 l15 : AV} {l0 : Option Nat} {h : AH} : evL 113 29 [.inr (.inl l0), l1, l2, l3, l4, l5, l6, l7, l8, l9, l10, l11, l12, l13, l14, l15] [] h = evL 113 30 [.inr (.inl l0), l1, l2, l3, l4, l5, l6, l7, l8, l9, l10, l11, l12, l13, l14, l15] [.inr (.inl l0)] h := ev_go c113_29 rfl
set_option maxRecDepth 20000 in
theorem c113_30 : cd 113 30 = some (30, .iconst 0, 1, 0, 0, 0) := rfl
theorem s113_30 {l0 l1 l2 l3 l4 l5 l6 l7 l8 l9 l10 l11 l12 l13 l14 l15 s0 : AV} {h : AH} : evL 113 30 [l0, l1, l2, l3, l4, l5, l6, l7, l8, l9, l10, l11, l12, l13, l14, l15] [s0] h = evL 113 31 [l0, l1, l2, l3, l4, l5, l6, l7, l8, l9, l10, l11, l12, l13, l14, l15] [I 0, s0] h := ev_go c113_30 rfl
set_option maxRecDepth 20000 in
theorem c113_31 : cd 113 31 = some (31, .invokevirtual 60, 3, 96, 0, 641) := rfl
theorem s113_31 {l0 l1 l2 l3 l4 l5 l6 l7 l8 l9 l10 l11 l12 l13 l14 l15 : AV} {s0 : Int} {s1 : Nat} {M : Mem} {P : PMem} (hk : kd s1 = 7) : evL 113 31 [l0, l1, l2, l3, l4, l5, l6, l7, l8, l9, l10, l11, l12, l13, l14, l15] [I s0, Rf s1] (Hp M P) = cont (evM 96 [Rf s1, I s0] (Hp M P)) (fun r h => evL 113 34 [l0, l1, l2, l3, l4, l5, l6, l7, l8, l9, l10, l11, l12, l13, l14, l15] (rl r []) h) := e_callV (av' := [I s0]) (rest := []) (c := 7) c113_31 rfl rfl rfl rfl rfl rfl rfl hk rfl
set_option maxRecDepth 20000 in
theorem c113_34 : cd 113 34 = some (34, .istore 7, 2, 0, 0, 0) := rfl
theorem s113_34 {l0 l1 l2 l3 l4 l5 l6 l7 l8 l9 l10 l11 l12 l13 l14 l15 : AV} {s0 : Int} {h : AH} : evL 113 34 [l0, l1, l2, l3, l4, l5, l6, l7, l8, l9, l10, l11, l12, l13, l14, l15] [I s0] h = evL 113 36 [l0, l1, l2, l3, l4, l5, l6, I s0, l8, l9, l10, l11, l12, l13, l14, l15] [] h := ev_go c113_34 rfl
set_option maxRecDepth 20000 in
theorem c113_36 : cd 113 36 = some (36, .aload_n 0, 1, 0, 0, 0) := rfl
theorem s113_36 {l1 l2 l3 l4 l5 l6 l7 l8 l9 l10 l11 l12 l13 l14 l15 : AV} {l0 : Option Nat} {h : AH} : evL 113 36 [.inr (.inl l0), l1, l2, l3, l4, l5, l6, l7, l8, l9, l10, l11, l12, l13, l14, l15] [] h = evL 113 37 [.inr (.inl l0), l1, l2, l3, l4, l5, l6, l7, l8, l9, l10, l11, l12, l13, l14, l15] [.inr (.inl l0)] h := ev_go c113_36 rfl
set_option maxRecDepth 20000 in
theorem c113_37 : cd 113 37 = some (37, .iconst 1, 1, 0, 0, 0) := rfl
theorem s113_37 {l0 l1 l2 l3 l4 l5 l6 l7 l8 l9 l10 l11 l12 l13 l14 l15 s0 : AV} {h : AH} : evL 113 37 [l0, l1, l2, l3, l4, l5, l6, l7, l8, l9, l10, l11, l12, l13, l14, l15] [s0] h = evL 113 38 [l0, l1, l2, l3, l4, l5, l6, l7, l8, l9, l10, l11, l12, l13, l14, l15] [I 1, s0] h := ev_go c113_37 rfl
set_option maxRecDepth 20000 in
theorem c113_38 : cd 113 38 = some (38, .invokevirtual 60, 3, 96, 0, 641) := rfl
theorem s113_38 {l0 l1 l2 l3 l4 l5 l6 l7 l8 l9 l10 l11 l12 l13 l14 l15 : AV} {s0 : Int} {s1 : Nat} {M : Mem} {P : PMem} (hk : kd s1 = 7) : evL 113 38 [l0, l1, l2, l3, l4, l5, l6, l7, l8, l9, l10, l11, l12, l13, l14, l15] [I s0, Rf s1] (Hp M P) = cont (evM 96 [Rf s1, I s0] (Hp M P)) (fun r h => evL 113 41 [l0, l1, l2, l3, l4, l5, l6, l7, l8, l9, l10, l11, l12, l13, l14, l15] (rl r []) h) := e_callV (av' := [I s0]) (rest := []) (c := 7) c113_38 rfl rfl rfl rfl rfl rfl rfl hk rfl
set_option maxRecDepth 20000 in
theorem c113_41 : cd 113 41 = some (41, .istore 8, 2, 0, 0, 0) := rfl
theorem s113_41 {l0 l1 l2 l3 l4 l5 l6 l7 l8 l9 l10 l11 l12 l13 l14 l15 : AV} {s0 : Int} {h : AH} : evL 113 41 [l0, l1, l2, l3, l4, l5, l6, l7, l8, l9, l10, l11, l12, l13, l14, l15] [I s0] h = evL 113 43 [l0, l1, l2, l3, l4, l5, l6, l7, I s0, l9, l10, l11, l12, l13, l14, l15] [] h := ev_go c113_41 rfl
set_option maxRecDepth 20000 in
theorem c113_43 : cd 113 43 = some (43, .aload_n 0, 1, 0, 0, 0) := rfl
theorem s113_43 {l1 l2 l3 l4 l5 l6 l7 l8 l9 l10 l11 l12 l13 l14 l15 : AV} {l0 : Option Nat} {h : AH} : evL 113 43 [.inr (.inl l0), l1, l2, l3, l4, l5, l6, l7, l8, l9, l10, l11, l12, l13, l14, l15] [] h = evL 113 44 [.inr (.inl l0), l1, l2, l3, l4, l5, l6, l7, l8, l9, l10, l11, l12, l13, l14, l15] [.inr (.inl l0)] h := ev_go c113_43 rfl
set_option maxRecDepth 20000 in
theorem c113_44 : cd 113 44 = some (44, .iload_n 1, 1, 0, 0, 0) := rfl
theorem s113_44 {l0 l2 l3 l4 l5 l6 l7 l8 l9 l10 l11 l12 l13 l14 l15 s0 : AV} {l1 : Int} {h : AH} : evL 113 44 [l0, I l1, l2, l3, l4, l5, l6, l7, l8, l9, l10, l11, l12, l13, l14, l15] [s0] h = evL 113 45 [l0, I l1, l2, l3, l4, l5, l6, l7, l8, l9, l10, l11, l12, l13, l14, l15] [I l1, s0] h := ev_go c113_44 rfl
set_option maxRecDepth 20000 in
theorem c113_45 : cd 113 45 = some (45, .invokestatic 63, 3, 112, 0, 645) := rfl
theorem s113_45 {l0 l1 l2 l3 l4 l5 l6 l7 l8 l9 l10 l11 l12 l13 l14 l15 : AV} {s0 : Int} {s1 : Nat} {M : Mem} {P : PMem} : evL 113 45 [l0, l1, l2, l3, l4, l5, l6, l7, l8, l9, l10, l11, l12, l13, l14, l15] [I s0, Rf s1] (Hp M P) = cont (evM 112 [Rf s1, I s0] (Hp M P)) (fun r h => evL 113 48 [l0, l1, l2, l3, l4, l5, l6, l7, l8, l9, l10, l11, l12, l13, l14, l15] (rl r []) h) := e_callS (av := [Rf s1, I s0]) (rest := []) c113_45 rfl rfl rfl rfl rfl rfl
set_option maxRecDepth 20000 in
theorem c113_48 : cd 113 48 = some (48, .istore 9, 2, 0, 0, 0) := rfl
theorem s113_48 {l0 l1 l2 l3 l4 l5 l6 l7 l8 l9 l10 l11 l12 l13 l14 l15 : AV} {s0 : Int} {h : AH} : evL 113 48 [l0, l1, l2, l3, l4, l5, l6, l7, l8, l9, l10, l11, l12, l13, l14, l15] [I s0] h = evL 113 50 [l0, l1, l2, l3, l4, l5, l6, l7, l8, I s0, l10, l11, l12, l13, l14, l15] [] h := ev_go c113_48 rfl
set_option maxRecDepth 20000 in
theorem c113_50 : cd 113 50 = some (50, .aload_n 0, 1, 0, 0, 0) := rfl
theorem s113_50 {l1 l2 l3 l4 l5 l6 l7 l8 l9 l10 l11 l12 l13 l14 l15 : AV} {l0 : Option Nat} {h : AH} : evL 113 50 [.inr (.inl l0), l1, l2, l3, l4, l5, l6, l7, l8, l9, l10, l11, l12, l13, l14, l15] [] h = evL 113 51 [.inr (.inl l0), l1, l2, l3, l4, l5, l6, l7, l8, l9, l10, l11, l12, l13, l14, l15] [.inr (.inl l0)] h := ev_go c113_50 rfl
set_option maxRecDepth 20000 in
theorem c113_51 : cd 113 51 = some (51, .bipush 14, 2, 0, 0, 0) := rfl
theorem s113_51 {l0 l1 l2 l3 l4 l5 l6 l7 l8 l9 l10 l11 l12 l13 l14 l15 s0 : AV} {h : AH} : evL 113 51 [l0, l1, l2, l3, l4, l5, l6, l7, l8, l9, l10, l11, l12, l13, l14, l15] [s0] h = evL 113 53 [l0, l1, l2, l3, l4, l5, l6, l7, l8, l9, l10, l11, l12, l13, l14, l15] [I 14, s0] h := ev_go c113_51 rfl
set_option maxRecDepth 20000 in
theorem c113_53 : cd 113 53 = some (53, .invokevirtual 13, 3, 100, 0, 258) := rfl
theorem s113_53 {l0 l1 l2 l3 l4 l5 l6 l7 l8 l9 l10 l11 l12 l13 l14 l15 : AV} {s0 : Int} {s1 : Nat} {M : Mem} {P : PMem} (hk : kd s1 = 7) : evL 113 53 [l0, l1, l2, l3, l4, l5, l6, l7, l8, l9, l10, l11, l12, l13, l14, l15] [I s0, Rf s1] (Hp M P) = cont (evM 100 [Rf s1, I s0] (Hp M P)) (fun r h => evL 113 56 [l0, l1, l2, l3, l4, l5, l6, l7, l8, l9, l10, l11, l12, l13, l14, l15] (rl r []) h) := e_callV (av' := [I s0]) (rest := []) (c := 7) c113_53 rfl rfl rfl rfl rfl rfl rfl hk rfl
set_option maxRecDepth 20000 in
theorem c113_56 : cd 113 56 = some (56, .istore 10, 2, 0, 0, 0) := rfl
theorem s113_56 {l0 l1 l2 l3 l4 l5 l6 l7 l8 l9 l10 l11 l12 l13 l14 l15 : AV} {s0 : Int} {h : AH} : evL 113 56 [l0, l1, l2, l3, l4, l5, l6, l7, l8, l9, l10, l11, l12, l13, l14, l15] [I s0] h = evL 113 58 [l0, l1, l2, l3, l4, l5, l6, l7, l8, l9, I s0, l11, l12, l13, l14, l15] [] h := ev_go c113_56 rfl
set_option maxRecDepth 20000 in
theorem c113_58 : cd 113 58 = some (58, .aload_n 0, 1, 0, 0, 0) := rfl
theorem s113_58 {l1 l2 l3 l4 l5 l6 l7 l8 l9 l10 l11 l12 l13 l14 l15 : AV} {l0 : Option Nat} {h : AH} : evL 113 58 [.inr (.inl l0), l1, l2, l3, l4, l5, l6, l7, l8, l9, l10, l11, l12, l13, l14, l15] [] h = evL 113 59 [.inr (.inl l0), l1, l2, l3, l4, l5, l6, l7, l8, l9, l10, l11, l12, l13, l14, l15] [.inr (.inl l0)] h := ev_go c113_58 rfl
set_option maxRecDepth 20000 in
theorem c113_59 : cd 113 59 = some (59, .invokevirtual 67, 3, 94, 0, 665) := rfl
theorem s113_59 {l0 l1 l2 l3 l4 l5 l6 l7 l8 l9 l10 l11 l12 l13 l14 l15 : AV} {s0 : Nat} {M : Mem} {P : PMem} (hk : kd s0 = 7) : evL 113 59 [l0, l1, l2, l3, l4, l5, l6, l7, l8, l9, l10, l11, l12, l13, l14, l15] [Rf s0] (Hp M P) = cont (evM 94 [Rf s0] (Hp M P)) (fun r h => evL 113 62 [l0, l1, l2, l3, l4, l5, l6, l7, l8, l9, l10, l11, l12, l13, l14, l15] (rl r []) h) := e_callV (av' := []) (rest := []) (c := 7) c113_59 rfl rfl rfl rfl rfl rfl rfl hk rfl
set_option maxRecDepth 20000 in
theorem c113_62 : cd 113 62 = some (62, .istore 11, 2, 0, 0, 0) := rfl
theorem s113_62 {l0 l1 l2 l3 l4 l5 l6 l7 l8 l9 l10 l11 l12 l13 l14 l15 : AV} {s0 : Int} {h : AH} : evL 113 62 [l0, l1, l2, l3, l4, l5, l6, l7, l8, l9, l10, l11, l12, l13, l14, l15] [I s0] h = evL 113 64 [l0, l1, l2, l3, l4, l5, l6, l7, l8, l9, l10, I s0, l12, l13, l14, l15] [] h := ev_go c113_62 rfl
set_option maxRecDepth 20000 in
theorem c113_64 : cd 113 64 = some (64, .aload_n 0, 1, 0, 0, 0) := rfl
theorem s113_64 {l1 l2 l3 l4 l5 l6 l7 l8 l9 l10 l11 l12 l13 l14 l15 : AV} {l0 : Option Nat} {h : AH} : evL 113 64 [.inr (.inl l0), l1, l2, l3, l4, l5, l6, l7, l8, l9, l10, l11, l12, l13, l14, l15] [] h = evL 113 65 [.inr (.inl l0), l1, l2, l3, l4, l5, l6, l7, l8, l9, l10, l11, l12, l13, l14, l15] [.inr (.inl l0)] h := ev_go c113_64 rfl
set_option maxRecDepth 20000 in
theorem c113_65 : cd 113 65 = some (65, .invokevirtual 70, 3, 95, 0, 677) := rfl
theorem s113_65 {l0 l1 l2 l3 l4 l5 l6 l7 l8 l9 l10 l11 l12 l13 l14 l15 : AV} {s0 : Nat} {M : Mem} {P : PMem} (hk : kd s0 = 7) : evL 113 65 [l0, l1, l2, l3, l4, l5, l6, l7, l8, l9, l10, l11, l12, l13, l14, l15] [Rf s0] (Hp M P) = cont (evM 95 [Rf s0] (Hp M P)) (fun r h => evL 113 68 [l0, l1, l2, l3, l4, l5, l6, l7, l8, l9, l10, l11, l12, l13, l14, l15] (rl r []) h) := e_callV (av' := []) (rest := []) (c := 7) c113_65 rfl rfl rfl rfl rfl rfl rfl hk rfl
set_option maxRecDepth 20000 in
theorem c113_68 : cd 113 68 = some (68, .istore 12, 2, 0, 0, 0) := rfl
theorem s113_68 {l0 l1 l2 l3 l4 l5 l6 l7 l8 l9 l10 l11 l12 l13 l14 l15 : AV} {s0 : Int} {h : AH} : evL 113 68 [l0, l1, l2, l3, l4, l5, l6, l7, l8, l9, l10, l11, l12, l13, l14, l15] [I s0] h = evL 113 70 [l0, l1, l2, l3, l4, l5, l6, l7, l8, l9, l10, l11, I s0, l13, l14, l15] [] h := ev_go c113_68 rfl
set_option maxRecDepth 20000 in
theorem c113_70 : cd 113 70 = some (70, .aload_n 0, 1, 0, 0, 0) := rfl
theorem s113_70 {l1 l2 l3 l4 l5 l6 l7 l8 l9 l10 l11 l12 l13 l14 l15 : AV} {l0 : Option Nat} {h : AH} : evL 113 70 [.inr (.inl l0), l1, l2, l3, l4, l5, l6, l7, l8, l9, l10, l11, l12, l13, l14, l15] [] h = evL 113 71 [.inr (.inl l0), l1, l2, l3, l4, l5, l6, l7, l8, l9, l10, l11, l12, l13, l14, l15] [.inr (.inl l0)] h := ev_go c113_70 rfl
set_option maxRecDepth 20000 in
theorem c113_71 : cd 113 71 = some (71, .invokevirtual 50, 3, 93, 0, 648) := rfl
theorem s113_71 {l0 l1 l2 l3 l4 l5 l6 l7 l8 l9 l10 l11 l12 l13 l14 l15 : AV} {s0 : Nat} {M : Mem} {P : PMem} (hk : kd s0 = 7) : evL 113 71 [l0, l1, l2, l3, l4, l5, l6, l7, l8, l9, l10, l11, l12, l13, l14, l15] [Rf s0] (Hp M P) = cont (evM 93 [Rf s0] (Hp M P)) (fun r h => evL 113 74 [l0, l1, l2, l3, l4, l5, l6, l7, l8, l9, l10, l11, l12, l13, l14, l15] (rl r []) h) := e_callV (av' := []) (rest := []) (c := 7) c113_71 rfl rfl rfl rfl rfl rfl rfl hk rfl
set_option maxRecDepth 20000 in
theorem c113_74 : cd 113 74 = some (74, .istore 13, 2, 0, 0, 0) := rfl
theorem s113_74 {l0 l1 l2 l3 l4 l5 l6 l7 l8 l9 l10 l11 l12 l13 l14 l15 : AV} {s0 : Int} {h : AH} : evL 113 74 [l0, l1, l2, l3, l4, l5, l6, l7, l8, l9, l10, l11, l12, l13, l14, l15] [I s0] h = evL 113 76 [l0, l1, l2, l3, l4, l5, l6, l7, l8, l9, l10, l11, l12, I s0, l14, l15] [] h := ev_go c113_74 rfl
set_option maxRecDepth 20000 in
theorem c113_76 : cd 113 76 = some (76, .iload 9, 2, 0, 0, 0) := rfl
theorem s113_76 {l0 l1 l2 l3 l4 l5 l6 l7 l8 l10 l11 l12 l13 l14 l15 : AV} {l9 : Int} {h : AH} : evL 113 76 [l0, l1, l2, l3, l4, l5, l6, l7, l8, I l9, l10, l11, l12, l13, l14, l15] [] h = evL 113 78 [l0, l1, l2, l3, l4, l5, l6, l7, l8, I l9, l10, l11, l12, l13, l14, l15] [I l9] h := ev_go c113_76 rfl
set_option maxRecDepth 20000 in
theorem c113_78 : cd 113 78 = some (78, .ifCond .eq 34, 3, 0, 0, 0) := rfl
theorem s113_78 {l0 l1 l2 l3 l4 l5 l6 l7 l8 l9 l10 l11 l12 l13 l14 l15 : AV} {s0 : Int} {h : AH} : evL 113 78 [l0, l1, l2, l3, l4, l5, l6, l7, l8, l9, l10, l11, l12, l13, l14, l15] [I s0] h = if s0 = 0 then evL 113 112 [l0, l1, l2, l3, l4, l5, l6, l7, l8, l9, l10, l11, l12, l13, l14, l15] [] h else evL 113 81 [l0, l1, l2, l3, l4, l5, l6, l7, l8, l9, l10, l11, l12, l13, l14, l15] [] h := e_if_eq c113_78 rfl rfl
set_option maxRecDepth 20000 in
theorem c113_81 : cd 113 81 = some (81, .iload 12, 2, 0, 0, 0) := rfl
theorem s113_81 {l0 l1 l2 l3 l4 l5 l6 l7 l8 l9 l10 l11 l13 l14 l15 : AV} {l12 : Int} {h : AH} : evL 113 81 [l0, l1, l2, l3, l4, l5, l6, l7, l8, l9, l10, l11, I l12, l13, l14, l15] [] h = evL 113 83 [l0, l1, l2, l3, l4, l5, l6, l7, l8, l9, l10, l11, I l12, l13, l14, l15] [I l12] h := ev_go c113_81 rfl
set_option maxRecDepth 20000 in
theorem c113_83 : cd 113 83 = some (83, .bipush (-2), 2, 0, 0, 0) := rfl
theorem s113_83 {l0 l1 l2 l3 l4 l5 l6 l7 l8 l9 l10 l11 l12 l13 l14 l15 s0 : AV} {h : AH} : evL 113 83 [l0, l1, l2, l3, l4, l5, l6, l7, l8, l9, l10, l11, l12, l13, l14, l15] [s0] h = evL 113 85 [l0, l1, l2, l3, l4, l5, l6, l7, l8, l9, l10, l11, l12, l13, l14, l15] [I (-2), s0] h := ev_go c113_83 rfl
set_option maxRecDepth 20000 in
theorem c113_85 : cd 113 85 = some (85, .if_icmp .ne 7, 3, 0, 0, 0) := rfl
theorem s113_85 {l0 l1 l2 l3 l4 l5 l6 l7 l8 l9 l10 l11 l12 l13 l14 l15 : AV} {s0 s1 : Int} {h : AH} : evL 113 85 [l0, l1, l2, l3, l4, l5, l6, l7, l8, l9, l10, l11, l12, l13, l14, l15] [I s0, I s1] h = if s1 = s0 then evL 113 88 [l0, l1, l2, l3, l4, l5, l6, l7, l8, l9, l10, l11, l12, l13, l14, l15] [] h else evL 113 92 [l0, l1, l2, l3, l4, l5, l6, l7, l8, l9, l10, l11, l12, l13, l14, l15] [] h := e_icmp_ne c113_85 rfl rfl
set_option maxRecDepth 20000 in
theorem c113_88 : cd 113 88 = some (88, .iconst 1, 1, 0, 0, 0) := rfl
theorem s113_88 {l0 l1 l2 l3 l4 l5 l6 l7 l8 l9 l10 l11 l12 l13 l14 l15 : AV} {h : AH} : evL 113 88 [l0, l1, l2, l3, l4, l5, l6, l7, l8, l9, l10, l11, l12, l13, l14, l15] [] h = evL 113 89 [l0, l1, l2, l3, l4, l5, l6, l7, l8, l9, l10, l11, l12, l13, l14, l15] [I 1] h := ev_go c113_88 rfl
set_option maxRecDepth 20000 in
theorem c113_89 : cd 113 89 = some (89, .goto 4, 3, 0, 0, 0) := rfl
theorem s113_89 {l0 l1 l2 l3 l4 l5 l6 l7 l8 l9 l10 l11 l12 l13 l14 l15 s0 : AV} {h : AH} : evL 113 89 [l0, l1, l2, l3, l4, l5, l6, l7, l8, l9, l10, l11, l12, l13, l14, l15] [s0] h = evL 113 93 [l0, l1, l2, l3, l4, l5, l6, l7, l8, l9, l10, l11, l12, l13, l14, l15] [s0] h := ev_go c113_89 rfl
set_option maxRecDepth 20000 in
theorem c113_92 : cd 113 92 = some (92, .iconst 0, 1, 0, 0, 0) := rfl
theorem s113_92 {l0 l1 l2 l3 l4 l5 l6 l7 l8 l9 l10 l11 l12 l13 l14 l15 : AV} {h : AH} : evL 113 92 [l0, l1, l2, l3, l4, l5, l6, l7, l8, l9, l10, l11, l12, l13, l14, l15] [] h = evL 113 93 [l0, l1, l2, l3, l4, l5, l6, l7, l8, l9, l10, l11, l12, l13, l14, l15] [I 0] h := ev_go c113_92 rfl
set_option maxRecDepth 20000 in
theorem c113_93 : cd 113 93 = some (93, .iload 11, 2, 0, 0, 0) := rfl
theorem s113_93 {l0 l1 l2 l3 l4 l5 l6 l7 l8 l9 l10 l12 l13 l14 l15 s0 : AV} {l11 : Int} {h : AH} : evL 113 93 [l0, l1, l2, l3, l4, l5, l6, l7, l8, l9, l10, I l11, l12, l13, l14, l15] [s0] h = evL 113 95 [l0, l1, l2, l3, l4, l5, l6, l7, l8, l9, l10, I l11, l12, l13, l14, l15] [I l11, s0] h := ev_go c113_93 rfl
set_option maxRecDepth 20000 in
theorem c113_95 : cd 113 95 = some (95, .bipush (-4), 2, 0, 0, 0) := rfl
theorem s113_95 {l0 l1 l2 l3 l4 l5 l6 l7 l8 l9 l10 l11 l12 l13 l14 l15 s0 s1 : AV} {h : AH} : evL 113 95 [l0, l1, l2, l3, l4, l5, l6, l7, l8, l9, l10, l11, l12, l13, l14, l15] [s0, s1] h = evL 113 97 [l0, l1, l2, l3, l4, l5, l6, l7, l8, l9, l10, l11, l12, l13, l14, l15] [I (-4), s0, s1] h := ev_go c113_95 rfl
set_option maxRecDepth 20000 in
theorem c113_97 : cd 113 97 = some (97, .if_icmp .eq 7, 3, 0, 0, 0) := rfl
theorem s113_97 {l0 l1 l2 l3 l4 l5 l6 l7 l8 l9 l10 l11 l12 l13 l14 l15 s2 : AV} {s0 s1 : Int} {h : AH} : evL 113 97 [l0, l1, l2, l3, l4, l5, l6, l7, l8, l9, l10, l11, l12, l13, l14, l15] [I s0, I s1, s2] h = if s1 = s0 then evL 113 104 [l0, l1, l2, l3, l4, l5, l6, l7, l8, l9, l10, l11, l12, l13, l14, l15] [s2] h else evL 113 100 [l0, l1, l2, l3, l4, l5, l6, l7, l8, l9, l10, l11, l12, l13, l14, l15] [s2] h := e_icmp_eq c113_97 rfl rfl
set_option maxRecDepth 20000 in
theorem c113_100 : cd 113 100 = some (100, .iconst 1, 1, 0, 0, 0) := rfl
theorem s113_100 {l0 l1 l2 l3 l4 l5 l6 l7 l8 l9 l10 l11 l12 l13 l14 l15 s0 : AV} {h : AH} : evL 113 100 [l0, l1, l2, l3, l4, l5, l6, l7, l8, l9, l10, l11, l12, l13, l14, l15] [s0] h = evL 113 101 [l0, l1, l2, l3, l4, l5, l6, l7, l8, l9, l10, l11, l12, l13, l14, l15] [I 1, s0] h := ev_go c113_100 rfl
set_option maxRecDepth 20000 in
theorem c113_101 : cd 113 101 = some (101, .goto 4, 3, 0, 0, 0) := rfl
theorem s113_101 {l0 l1 l2 l3 l4 l5 l6 l7 l8 l9 l10 l11 l12 l13 l14 l15 s0 s1 : AV} {h : AH} : evL 113 101 [l0, l1, l2, l3, l4, l5, l6, l7, l8, l9, l10, l11, l12, l13, l14, l15] [s0, s1] h = evL 113 105 [l0, l1, l2, l3, l4, l5, l6, l7, l8, l9, l10, l11, l12, l13, l14, l15] [s0, s1] h := ev_go c113_101 rfl
set_option maxRecDepth 20000 in
theorem c113_104 : cd 113 104 = some (104, .iconst 0, 1, 0, 0, 0) := rfl
theorem s113_104 {l0 l1 l2 l3 l4 l5 l6 l7 l8 l9 l10 l11 l12 l13 l14 l15 s0 : AV} {h : AH} : evL 113 104 [l0, l1, l2, l3, l4, l5, l6, l7, l8, l9, l10, l11, l12, l13, l14, l15] [s0] h = evL 113 105 [l0, l1, l2, l3, l4, l5, l6, l7, l8, l9, l10, l11, l12, l13, l14, l15] [I 0, s0] h := ev_go c113_104 rfl
set_option maxRecDepth 20000 in
theorem c113_105 : cd 113 105 = some (105, .if_icmp .ne 7, 3, 0, 0, 0) := rfl
theorem s113_105 {l0 l1 l2 l3 l4 l5 l6 l7 l8 l9 l10 l11 l12 l13 l14 l15 : AV} {s0 s1 : Int} {h : AH} : evL 113 105 [l0, l1, l2, l3, l4, l5, l6, l7, l8, l9, l10, l11, l12, l13, l14, l15] [I s0, I s1] h = if s1 = s0 then evL 113 108 [l0, l1, l2, l3, l4, l5, l6, l7, l8, l9, l10, l11, l12, l13, l14, l15] [] h else evL 113 112 [l0, l1, l2, l3, l4, l5, l6, l7, l8, l9, l10, l11, l12, l13, l14, l15] [] h := e_icmp_ne c113_105 rfl rfl
set_option maxRecDepth 20000 in
theorem c113_108 : cd 113 108 = some (108, .iconst 1, 1, 0, 0, 0) := rfl
theorem s113_108 {l0 l1 l2 l3 l4 l5 l6 l7 l8 l9 l10 l11 l12 l13 l14 l15 : AV} {h : AH} : evL 113 108 [l0, l1, l2, l3, l4, l5, l6, l7, l8, l9, l10, l11, l12, l13, l14, l15] [] h = evL 113 109 [l0, l1, l2, l3, l4, l5, l6, l7, l8, l9, l10, l11, l12, l13, l14, l15] [I 1] h := ev_go c113_108 rfl
set_option maxRecDepth 20000 in
theorem c113_109 : cd 113 109 = some (109, .goto 4, 3, 0, 0, 0) := rfl
theorem s113_109 {l0 l1 l2 l3 l4 l5 l6 l7 l8 l9 l10 l11 l12 l13 l14 l15 s0 : AV} {h : AH} : evL 113 109 [l0, l1, l2, l3, l4, l5, l6, l7, l8, l9, l10, l11, l12, l13, l14, l15] [s0] h = evL 113 113 [l0, l1, l2, l3, l4, l5, l6, l7, l8, l9, l10, l11, l12, l13, l14, l15] [s0] h := ev_go c113_109 rfl
set_option maxRecDepth 20000 in
theorem c113_112 : cd 113 112 = some (112, .iconst 0, 1, 0, 0, 0) := rfl
theorem s113_112 {l0 l1 l2 l3 l4 l5 l6 l7 l8 l9 l10 l11 l12 l13 l14 l15 : AV} {h : AH} : evL 113 112 [l0, l1, l2, l3, l4, l5, l6, l7, l8, l9, l10, l11, l12, l13, l14, l15] [] h = evL 113 113 [l0, l1, l2, l3, l4, l5, l6, l7, l8, l9, l10, l11, l12, l13, l14, l15] [I 0] h := ev_go c113_112 rfl
set_option maxRecDepth 20000 in
theorem c113_113 : cd 113 113 = some (113, .istore 14, 2, 0, 0, 0) := rfl
theorem s113_113 {l0 l1 l2 l3 l4 l5 l6 l7 l8 l9 l10 l11 l12 l13 l14 l15 : AV} {s0 : Int} {h : AH} : evL 113 113 [l0, l1, l2, l3, l4, l5, l6, l7, l8, l9, l10, l11, l12, l13, l14, l15] [I s0] h = evL 113 115 [l0, l1, l2, l3, l4, l5, l6, l7, l8, l9, l10, l11, l12, l13, I s0, l15] [] h := ev_go c113_113 rfl
set_option maxRecDepth 20000 in
theorem c113_115 : cd 113 115 = some (115, .iload 11, 2, 0, 0, 0) := rfl
theorem s113_115 {l0 l1 l2 l3 l4 l5 l6 l7 l8 l9 l10 l12 l13 l14 l15 : AV} {l11 : Int} {h : AH} : evL 113 115 [l0, l1, l2, l3, l4, l5, l6, l7, l8, l9, l10, I l11, l12, l13, l14, l15] [] h = evL 113 117 [l0, l1, l2, l3, l4, l5, l6, l7, l8, l9, l10, I l11, l12, l13, l14, l15] [I l11] h := ev_go c113_115 rfl
set_option maxRecDepth 20000 in
theorem c113_117 : cd 113 117 = some (117, .bipush (-4), 2, 0, 0, 0) := rfl
theorem s113_117 {l0 l1 l2 l3 l4 l5 l6 l7 l8 l9 l10 l11 l12 l13 l14 l15 s0 : AV} {h : AH} : evL 113 117 [l0, l1, l2, l3, l4, l5, l6, l7, l8, l9, l10, l11, l12, l13, l14, l15] [s0] h = evL 113 119 [l0, l1, l2, l3, l4, l5, l6, l7, l8, l9, l10, l11, l12, l13, l14, l15] [I (-4), s0] h := ev_go c113_117 rfl
set_option maxRecDepth 20000 in
theorem c113_119 : cd 113 119 = some (119, .if_icmp .eq 73, 3, 0, 0, 0) := rfl
theorem s113_119 {l0 l1 l2 l3 l4 l5 l6 l7 l8 l9 l10 l11 l12 l13 l14 l15 : AV} {s0 s1 : Int} {h : AH} : evL 113 119 [l0, l1, l2, l3, l4, l5, l6, l7, l8, l9, l10, l11, l12, l13, l14, l15] [I s0, I s1] h = if s1 = s0 then evL 113 192 [l0, l1, l2, l3, l4, l5, l6, l7, l8, l9, l10, l11, l12, l13, l14, l15] [] h else evL 113 122 [l0, l1, l2, l3, l4, l5, l6, l7, l8, l9, l10, l11, l12, l13, l14, l15] [] h := e_icmp_eq c113_119 rfl rfl
set_option maxRecDepth 20000 in
theorem c113_122 : cd 113 122 = some (122, .iload 14, 2, 0, 0, 0) := rfl
theorem s113_122 {l0 l1 l2 l3 l4 l5 l6 l7 l8 l9 l10 l11 l12 l13 l15 : AV} {l14 : Int} {h : AH} : evL 113 122 [l0, l1, l2, l3, l4, l5, l6, l7, l8, l9, l10, l11, l12, l13, I l14, l15] [] h = evL 113 124 [l0, l1, l2, l3, l4, l5, l6, l7, l8, l9, l10, l11, l12, l13, I l14, l15] [I l14] h := ev_go c113_122 rfl
set_option maxRecDepth 20000 in
theorem c113_124 : cd 113 124 = some (124, .ifCond .eq 66, 3, 0, 0, 0) := rfl
theorem s113_124 {l0 l1 l2 l3 l4 l5 l6 l7 l8 l9 l10 l11 l12 l13 l14 l15 : AV} {s0 : Int} {h : AH} : evL 113 124 [l0, l1, l2, l3, l4, l5, l6, l7, l8, l9, l10, l11, l12, l13, l14, l15] [I s0] h = if s0 = 0 then evL 113 190 [l0, l1, l2, l3, l4, l5, l6, l7, l8, l9, l10, l11, l12, l13, l14, l15] [] h else evL 113 127 [l0, l1, l2, l3, l4, l5, l6, l7, l8, l9, l10, l11, l12, l13, l14, l15] [] h := e_if_eq c113_124 rfl rfl
set_option maxRecDepth 20000 in
theorem c113_127 : cd 113 127 = some (127, .iload 11, 2, 0, 0, 0) := rfl
theorem s113_127 {l0 l1 l2 l3 l4 l5 l6 l7 l8 l9 l10 l12 l13 l14 l15 : AV} {l11 : Int} {h : AH} : evL 113 127 [l0, l1, l2, l3, l4, l5, l6, l7, l8, l9, l10, I l11, l12, l13, l14, l15] [] h = evL 113 129 [l0, l1, l2, l3, l4, l5, l6, l7, l8, l9, l10, I l11, l12, l13, l14, l15] [I l11] h := ev_go c113_127 rfl
set_option maxRecDepth 20000 in
theorem c113_129 : cd 113 129 = some (129, .ifCond .lt 61, 3, 0, 0, 0) := rfl
theorem s113_129 {l0 l1 l2 l3 l4 l5 l6 l7 l8 l9 l10 l11 l12 l13 l14 l15 : AV} {s0 : Int} {h : AH} : evL 113 129 [l0, l1, l2, l3, l4, l5, l6, l7, l8, l9, l10, l11, l12, l13, l14, l15] [I s0] h = if s0 < 0 then evL 113 190 [l0, l1, l2, l3, l4, l5, l6, l7, l8, l9, l10, l11, l12, l13, l14, l15] [] h else evL 113 132 [l0, l1, l2, l3, l4, l5, l6, l7, l8, l9, l10, l11, l12, l13, l14, l15] [] h := e_if_lt c113_129 rfl rfl
set_option maxRecDepth 20000 in
theorem c113_132 : cd 113 132 = some (132, .iload 11, 2, 0, 0, 0) := rfl
theorem s113_132 {l0 l1 l2 l3 l4 l5 l6 l7 l8 l9 l10 l12 l13 l14 l15 : AV} {l11 : Int} {h : AH} : evL 113 132 [l0, l1, l2, l3, l4, l5, l6, l7, l8, l9, l10, I l11, l12, l13, l14, l15] [] h = evL 113 134 [l0, l1, l2, l3, l4, l5, l6, l7, l8, l9, l10, I l11, l12, l13, l14, l15] [I l11] h := ev_go c113_132 rfl
set_option maxRecDepth 20000 in
theorem c113_134 : cd 113 134 = some (134, .iload 10, 2, 0, 0, 0) := rfl
theorem s113_134 {l0 l1 l2 l3 l4 l5 l6 l7 l8 l9 l11 l12 l13 l14 l15 s0 : AV} {l10 : Int} {h : AH} : evL 113 134 [l0, l1, l2, l3, l4, l5, l6, l7, l8, l9, I l10, l11, l12, l13, l14, l15] [s0] h = evL 113 136 [l0, l1, l2, l3, l4, l5, l6, l7, l8, l9, I l10, l11, l12, l13, l14, l15] [I l10, s0] h := ev_go c113_134 rfl
set_option maxRecDepth 20000 in
theorem c113_136 : cd 113 136 = some (136, .if_icmp .gt 54, 3, 0, 0, 0) := rfl
theorem s113_136 {l0 l1 l2 l3 l4 l5 l6 l7 l8 l9 l10 l11 l12 l13 l14 l15 : AV} {s0 s1 : Int} {h : AH} : evL 113 136 [l0, l1, l2, l3, l4, l5, l6, l7, l8, l9, l10, l11, l12, l13, l14, l15] [I s0, I s1] h = if s0 < s1 then evL 113 190 [l0, l1, l2, l3, l4, l5, l6, l7, l8, l9, l10, l11, l12, l13, l14, l15] [] h else evL 113 139 [l0, l1, l2, l3, l4, l5, l6, l7, l8, l9, l10, l11, l12, l13, l14, l15] [] h := e_icmp_gt c113_136 rfl rfl
set_option maxRecDepth 20000 in
theorem c113_139 : cd 113 139 = some (139, .iload 13, 2, 0, 0, 0) := rfl
theorem s113_139 {l0 l1 l2 l3 l4 l5 l6 l7 l8 l9 l10 l11 l12 l14 l15 : AV} {l13 : Int} {h : AH} : evL 113 139 [l0, l1, l2, l3, l4, l5, l6, l7, l8, l9, l10, l11, l12, I l13, l14, l15] [] h = evL 113 141 [l0, l1, l2, l3, l4, l5, l6, l7, l8, l9, l10, l11, l12, I l13, l14, l15] [I l13] h := ev_go c113_139 rfl
set_option maxRecDepth 20000 in
theorem c113_141 : cd 113 141 = some (141, .iload 10, 2, 0, 0, 0) := rfl
theorem s113_141 {l0 l1 l2 l3 l4 l5 l6 l7 l8 l9 l11 l12 l13 l14 l15 s0 : AV} {l10 : Int} {h : AH} : evL 113 141 [l0, l1, l2, l3, l4, l5, l6, l7, l8, l9, I l10, l11, l12, l13, l14, l15] [s0] h = evL 113 143 [l0, l1, l2, l3, l4, l5, l6, l7, l8, l9, I l10, l11, l12, l13, l14, l15] [I l10, s0] h := ev_go c113_141 rfl
set_option maxRecDepth 20000 in
theorem c113_143 : cd 113 143 = some (143, .if_icmp .ne 47, 3, 0, 0, 0) := rfl
theorem s113_143 {l0 l1 l2 l3 l4 l5 l6 l7 l8 l9 l10 l11 l12 l13 l14 l15 : AV} {s0 s1 : Int} {h : AH} : evL 113 143 [l0, l1, l2, l3, l4, l5, l6, l7, l8, l9, l10, l11, l12, l13, l14, l15] [I s0, I s1] h = if s1 = s0 then evL 113 146 [l0, l1, l2, l3, l4, l5, l6, l7, l8, l9, l10, l11, l12, l13, l14, l15] [] h else evL 113 190 [l0, l1, l2, l3, l4, l5, l6, l7, l8, l9, l10, l11, l12, l13, l14, l15] [] h := e_icmp_ne c113_143 rfl rfl
set_option maxRecDepth 20000 in
theorem c113_146 : cd 113 146 = some (146, .aload_n 0, 1, 0, 0, 0) := rfl
theorem s113_146 {l1 l2 l3 l4 l5 l6 l7 l8 l9 l10 l11 l12 l13 l14 l15 : AV} {l0 : Option Nat} {h : AH} : evL 113 146 [.inr (.inl l0), l1, l2, l3, l4, l5, l6, l7, l8, l9, l10, l11, l12, l13, l14, l15] [] h = evL 113 147 [.inr (.inl l0), l1, l2, l3, l4, l5, l6, l7, l8, l9, l10, l11, l12, l13, l14, l15] [.inr (.inl l0)] h := ev_go c113_146 rfl
set_option maxRecDepth 20000 in
theorem c113_147 : cd 113 147 = some (147, .invokestatic 56, 3, 109, 0, 387) := rfl
theorem s113_147 {l0 l1 l2 l3 l4 l5 l6 l7 l8 l9 l10 l11 l12 l13 l14 l15 : AV} {s0 : Nat} {M : Mem} {P : PMem} : evL 113 147 [l0, l1, l2, l3, l4, l5, l6, l7, l8, l9, l10, l11, l12, l13, l14, l15] [Rf s0] (Hp M P) = cont (evM 109 [Rf s0] (Hp M P)) (fun r h => evL 113 150 [l0, l1, l2, l3, l4, l5, l6, l7, l8, l9, l10, l11, l12, l13, l14, l15] (rl r []) h) := e_callS (av := [Rf s0]) (rest := []) c113_147 rfl rfl rfl rfl rfl rfl
set_option maxRecDepth 20000 in
theorem c113_150 : cd 113 150 = some (150, .lload_n 2, 1, 0, 0, 0) := rfl
theorem s113_150 {l0 l1 l4 l5 l6 l7 l8 l9 l10 l11 l12 l13 l14 l15 s0 : AV} {l2 : Int64} {h : AH} : evL 113 150 [l0, l1, Lg l2, Db 0, l4, l5, l6, l7, l8, l9, l10, l11, l12, l13, l14, l15] [s0] h = evL 113 151 [l0, l1, Lg l2, Db 0, l4, l5, l6, l7, l8, l9, l10, l11, l12, l13, l14, l15] [Lg l2, s0] h := ev_go c113_150 rfl
set_option maxRecDepth 20000 in
theorem c113_151 : cd 113 151 = some (151, .lcmp, 1, 0, 0, 0) := rfl
theorem s113_151 {l0 l1 l2 l3 l4 l5 l6 l7 l8 l9 l10 l11 l12 l13 l14 l15 : AV} {s0 s1 : Int64} {h : AH} : evL 113 151 [l0, l1, l2, l3, l4, l5, l6, l7, l8, l9, l10, l11, l12, l13, l14, l15] [Lg s0, Lg s1] h = evL 113 152 [l0, l1, l2, l3, l4, l5, l6, l7, l8, l9, l10, l11, l12, l13, l14, l15] [I (lg_cmp s1 s0).toInt] h := ev_go c113_151 rfl
set_option maxRecDepth 20000 in
theorem c113_152 : cd 113 152 = some (152, .ifCond .ne 38, 3, 0, 0, 0) := rfl
theorem s113_152 {l0 l1 l2 l3 l4 l5 l6 l7 l8 l9 l10 l11 l12 l13 l14 l15 : AV} {s0 : Int} {h : AH} : evL 113 152 [l0, l1, l2, l3, l4, l5, l6, l7, l8, l9, l10, l11, l12, l13, l14, l15] [I s0] h = if s0 = 0 then evL 113 155 [l0, l1, l2, l3, l4, l5, l6, l7, l8, l9, l10, l11, l12, l13, l14, l15] [] h else evL 113 190 [l0, l1, l2, l3, l4, l5, l6, l7, l8, l9, l10, l11, l12, l13, l14, l15] [] h := e_if_ne c113_152 rfl rfl
set_option maxRecDepth 20000 in
theorem c113_155 : cd 113 155 = some (155, .aload_n 0, 1, 0, 0, 0) := rfl
theorem s113_155 {l1 l2 l3 l4 l5 l6 l7 l8 l9 l10 l11 l12 l13 l14 l15 : AV} {l0 : Option Nat} {h : AH} : evL 113 155 [.inr (.inl l0), l1, l2, l3, l4, l5, l6, l7, l8, l9, l10, l11, l12, l13, l14, l15] [] h = evL 113 156 [.inr (.inl l0), l1, l2, l3, l4, l5, l6, l7, l8, l9, l10, l11, l12, l13, l14, l15] [.inr (.inl l0)] h := ev_go c113_155 rfl
set_option maxRecDepth 20000 in
theorem c113_156 : cd 113 156 = some (156, .bipush 15, 2, 0, 0, 0) := rfl
theorem s113_156 {l0 l1 l2 l3 l4 l5 l6 l7 l8 l9 l10 l11 l12 l13 l14 l15 s0 : AV} {h : AH} : evL 113 156 [l0, l1, l2, l3, l4, l5, l6, l7, l8, l9, l10, l11, l12, l13, l14, l15] [s0] h = evL 113 158 [l0, l1, l2, l3, l4, l5, l6, l7, l8, l9, l10, l11, l12, l13, l14, l15] [I 15, s0] h := ev_go c113_156 rfl
set_option maxRecDepth 20000 in
theorem c113_158 : cd 113 158 = some (158, .invokevirtual 13, 3, 100, 0, 258) := rfl
theorem s113_158 {l0 l1 l2 l3 l4 l5 l6 l7 l8 l9 l10 l11 l12 l13 l14 l15 : AV} {s0 : Int} {s1 : Nat} {M : Mem} {P : PMem} (hk : kd s1 = 7) : evL 113 158 [l0, l1, l2, l3, l4, l5, l6, l7, l8, l9, l10, l11, l12, l13, l14, l15] [I s0, Rf s1] (Hp M P) = cont (evM 100 [Rf s1, I s0] (Hp M P)) (fun r h => evL 113 161 [l0, l1, l2, l3, l4, l5, l6, l7, l8, l9, l10, l11, l12, l13, l14, l15] (rl r []) h) := e_callV (av' := [I s0]) (rest := []) (c := 7) c113_158 rfl rfl rfl rfl rfl rfl rfl hk rfl
set_option maxRecDepth 20000 in
theorem c113_161 : cd 113 161 = some (161, .iload 5, 2, 0, 0, 0) := rfl
theorem s113_161 {l0 l1 l2 l3 l4 l6 l7 l8 l9 l10 l11 l12 l13 l14 l15 s0 : AV} {l5 : Int} {h : AH} : evL 113 161 [l0, l1, l2, l3, l4, I l5, l6, l7, l8, l9, l10, l11, l12, l13, l14, l15] [s0] h = evL 113 163 [l0, l1, l2, l3, l4, I l5, l6, l7, l8, l9, l10, l11, l12, l13, l14, l15] [I l5, s0] h := ev_go c113_161 rfl
set_option maxRecDepth 20000 in
theorem c113_163 : cd 113 163 = some (163, .if_icmp .ne 27, 3, 0, 0, 0) := rfl
theorem s113_163 {l0 l1 l2 l3 l4 l5 l6 l7 l8 l9 l10 l11 l12 l13 l14 l15 : AV} {s0 s1 : Int} {h : AH} : evL 113 163 [l0, l1, l2, l3, l4, l5, l6, l7, l8, l9, l10, l11, l12, l13, l14, l15] [I s0, I s1] h = if s1 = s0 then evL 113 166 [l0, l1, l2, l3, l4, l5, l6, l7, l8, l9, l10, l11, l12, l13, l14, l15] [] h else evL 113 190 [l0, l1, l2, l3, l4, l5, l6, l7, l8, l9, l10, l11, l12, l13, l14, l15] [] h := e_icmp_ne c113_163 rfl rfl
set_option maxRecDepth 20000 in
theorem c113_166 : cd 113 166 = some (166, .aload_n 0, 1, 0, 0, 0) := rfl
theorem s113_166 {l1 l2 l3 l4 l5 l6 l7 l8 l9 l10 l11 l12 l13 l14 l15 : AV} {l0 : Option Nat} {h : AH} : evL 113 166 [.inr (.inl l0), l1, l2, l3, l4, l5, l6, l7, l8, l9, l10, l11, l12, l13, l14, l15] [] h = evL 113 167 [.inr (.inl l0), l1, l2, l3, l4, l5, l6, l7, l8, l9, l10, l11, l12, l13, l14, l15] [.inr (.inl l0)] h := ev_go c113_166 rfl
set_option maxRecDepth 20000 in
theorem c113_167 : cd 113 167 = some (167, .iconst 0, 1, 0, 0, 0) := rfl
theorem s113_167 {l0 l1 l2 l3 l4 l5 l6 l7 l8 l9 l10 l11 l12 l13 l14 l15 s0 : AV} {h : AH} : evL 113 167 [l0, l1, l2, l3, l4, l5, l6, l7, l8, l9, l10, l11, l12, l13, l14, l15] [s0] h = evL 113 168 [l0, l1, l2, l3, l4, l5, l6, l7, l8, l9, l10, l11, l12, l13, l14, l15] [I 0, s0] h := ev_go c113_167 rfl
set_option maxRecDepth 20000 in
theorem c113_168 : cd 113 168 = some (168, .invokevirtual 60, 3, 96, 0, 641) := rfl
theorem s113_168 {l0 l1 l2 l3 l4 l5 l6 l7 l8 l9 l10 l11 l12 l13 l14 l15 : AV} {s0 : Int} {s1 : Nat} {M : Mem} {P : PMem} (hk : kd s1 = 7) : evL 113 168 [l0, l1, l2, l3, l4, l5, l6, l7, l8, l9, l10, l11, l12, l13, l14, l15] [I s0, Rf s1] (Hp M P) = cont (evM 96 [Rf s1, I s0] (Hp M P)) (fun r h => evL 113 171 [l0, l1, l2, l3, l4, l5, l6, l7, l8, l9, l10, l11, l12, l13, l14, l15] (rl r []) h) := e_callV (av' := [I s0]) (rest := []) (c := 7) c113_168 rfl rfl rfl rfl rfl rfl rfl hk rfl
set_option maxRecDepth 20000 in
theorem c113_171 : cd 113 171 = some (171, .iload 7, 2, 0, 0, 0) := rfl
theorem s113_171 {l0 l1 l2 l3 l4 l5 l6 l8 l9 l10 l11 l12 l13 l14 l15 s0 : AV} {l7 : Int} {h : AH} : evL 113 171 [l0, l1, l2, l3, l4, l5, l6, I l7, l8, l9, l10, l11, l12, l13, l14, l15] [s0] h = evL 113 173 [l0, l1, l2, l3, l4, l5, l6, I l7, l8, l9, l10, l11, l12, l13, l14, l15] [I l7, s0] h := ev_go c113_171 rfl
set_option maxRecDepth 20000 in
theorem c113_173 : cd 113 173 = some (173, .if_icmp .ne 17, 3, 0, 0, 0) := rfl
theorem s113_173 {l0 l1 l2 l3 l4 l5 l6 l7 l8 l9 l10 l11 l12 l13 l14 l15 : AV} {s0 s1 : Int} {h : AH} : evL 113 173 [l0, l1, l2, l3, l4, l5, l6, l7, l8, l9, l10, l11, l12, l13, l14, l15] [I s0, I s1] h = if s1 = s0 then evL 113 176 [l0, l1, l2, l3, l4, l5, l6, l7, l8, l9, l10, l11, l12, l13, l14, l15] [] h else evL 113 190 [l0, l1, l2, l3, l4, l5, l6, l7, l8, l9, l10, l11, l12, l13, l14, l15] [] h := e_icmp_ne c113_173 rfl rfl
set_option maxRecDepth 20000 in
theorem c113_176 : cd 113 176 = some (176, .aload_n 0, 1, 0, 0, 0) := rfl
theorem s113_176 {l1 l2 l3 l4 l5 l6 l7 l8 l9 l10 l11 l12 l13 l14 l15 : AV} {l0 : Option Nat} {h : AH} : evL 113 176 [.inr (.inl l0), l1, l2, l3, l4, l5, l6, l7, l8, l9, l10, l11, l12, l13, l14, l15] [] h = evL 113 177 [.inr (.inl l0), l1, l2, l3, l4, l5, l6, l7, l8, l9, l10, l11, l12, l13, l14, l15] [.inr (.inl l0)] h := ev_go c113_176 rfl
set_option maxRecDepth 20000 in
theorem c113_177 : cd 113 177 = some (177, .iconst 1, 1, 0, 0, 0) := rfl
theorem s113_177 {l0 l1 l2 l3 l4 l5 l6 l7 l8 l9 l10 l11 l12 l13 l14 l15 s0 : AV} {h : AH} : evL 113 177 [l0, l1, l2, l3, l4, l5, l6, l7, l8, l9, l10, l11, l12, l13, l14, l15] [s0] h = evL 113 178 [l0, l1, l2, l3, l4, l5, l6, l7, l8, l9, l10, l11, l12, l13, l14, l15] [I 1, s0] h := ev_go c113_177 rfl
set_option maxRecDepth 20000 in
theorem c113_178 : cd 113 178 = some (178, .invokevirtual 60, 3, 96, 0, 641) := rfl
theorem s113_178 {l0 l1 l2 l3 l4 l5 l6 l7 l8 l9 l10 l11 l12 l13 l14 l15 : AV} {s0 : Int} {s1 : Nat} {M : Mem} {P : PMem} (hk : kd s1 = 7) : evL 113 178 [l0, l1, l2, l3, l4, l5, l6, l7, l8, l9, l10, l11, l12, l13, l14, l15] [I s0, Rf s1] (Hp M P) = cont (evM 96 [Rf s1, I s0] (Hp M P)) (fun r h => evL 113 181 [l0, l1, l2, l3, l4, l5, l6, l7, l8, l9, l10, l11, l12, l13, l14, l15] (rl r []) h) := e_callV (av' := [I s0]) (rest := []) (c := 7) c113_178 rfl rfl rfl rfl rfl rfl rfl hk rfl
set_option maxRecDepth 20000 in
theorem c113_181 : cd 113 181 = some (181, .iload 8, 2, 0, 0, 0) := rfl
theorem s113_181 {l0 l1 l2 l3 l4 l5 l6 l7 l9 l10 l11 l12 l13 l14 l15 s0 : AV} {l8 : Int} {h : AH} : evL 113 181 [l0, l1, l2, l3, l4, l5, l6, l7, I l8, l9, l10, l11, l12, l13, l14, l15] [s0] h = evL 113 183 [l0, l1, l2, l3, l4, l5, l6, l7, I l8, l9, l10, l11, l12, l13, l14, l15] [I l8, s0] h := ev_go c113_181 rfl
set_option maxRecDepth 20000 in
theorem c113_183 : cd 113 183 = some (183, .if_icmp .ne 7, 3, 0, 0, 0) := rfl
theorem s113_183 {l0 l1 l2 l3 l4 l5 l6 l7 l8 l9 l10 l11 l12 l13 l14 l15 : AV} {s0 s1 : Int} {h : AH} : evL 113 183 [l0, l1, l2, l3, l4, l5, l6, l7, l8, l9, l10, l11, l12, l13, l14, l15] [I s0, I s1] h = if s1 = s0 then evL 113 186 [l0, l1, l2, l3, l4, l5, l6, l7, l8, l9, l10, l11, l12, l13, l14, l15] [] h else evL 113 190 [l0, l1, l2, l3, l4, l5, l6, l7, l8, l9, l10, l11, l12, l13, l14, l15] [] h := e_icmp_ne c113_183 rfl rfl
set_option maxRecDepth 20000 in
theorem c113_186 : cd 113 186 = some (186, .iconst 1, 1, 0, 0, 0) := rfl
theorem s113_186 {l0 l1 l2 l3 l4 l5 l6 l7 l8 l9 l10 l11 l12 l13 l14 l15 : AV} {h : AH} : evL 113 186 [l0, l1, l2, l3, l4, l5, l6, l7, l8, l9, l10, l11, l12, l13, l14, l15] [] h = evL 113 187 [l0, l1, l2, l3, l4, l5, l6, l7, l8, l9, l10, l11, l12, l13, l14, l15] [I 1] h := ev_go c113_186 rfl
set_option maxRecDepth 20000 in
theorem c113_187 : cd 113 187 = some (187, .goto 4, 3, 0, 0, 0) := rfl
theorem s113_187 {l0 l1 l2 l3 l4 l5 l6 l7 l8 l9 l10 l11 l12 l13 l14 l15 s0 : AV} {h : AH} : evL 113 187 [l0, l1, l2, l3, l4, l5, l6, l7, l8, l9, l10, l11, l12, l13, l14, l15] [s0] h = evL 113 191 [l0, l1, l2, l3, l4, l5, l6, l7, l8, l9, l10, l11, l12, l13, l14, l15] [s0] h := ev_go c113_187 rfl
set_option maxRecDepth 20000 in
theorem c113_190 : cd 113 190 = some (190, .iconst 0, 1, 0, 0, 0) := rfl
theorem s113_190 {l0 l1 l2 l3 l4 l5 l6 l7 l8 l9 l10 l11 l12 l13 l14 l15 : AV} {h : AH} : evL 113 190 [l0, l1, l2, l3, l4, l5, l6, l7, l8, l9, l10, l11, l12, l13, l14, l15] [] h = evL 113 191 [l0, l1, l2, l3, l4, l5, l6, l7, l8, l9, l10, l11, l12, l13, l14, l15] [I 0] h := ev_go c113_190 rfl
set_option maxRecDepth 20000 in
theorem c113_191 : cd 113 191 = some (191, .ireturn, 1, 0, 0, 0) := rfl
theorem s113_191 {l0 l1 l2 l3 l4 l5 l6 l7 l8 l9 l10 l11 l12 l13 l14 l15 : AV} {s0 : Int} {h : AH} (hz : s0 = 0 ∨ s0 = 1) : evL 113 191 [l0, l1, l2, l3, l4, l5, l6, l7, l8, l9, l10, l11, l12, l13, l14, l15] [I s0] h = some (some (I s0), h) := e_ret c113_191 (if_pos hz)
set_option maxRecDepth 20000 in
theorem c113_192 : cd 113 192 = some (192, .iload 12, 2, 0, 0, 0) := rfl
theorem s113_192 {l0 l1 l2 l3 l4 l5 l6 l7 l8 l9 l10 l11 l13 l14 l15 : AV} {l12 : Int} {h : AH} : evL 113 192 [l0, l1, l2, l3, l4, l5, l6, l7, l8, l9, l10, l11, I l12, l13, l14, l15] [] h = evL 113 194 [l0, l1, l2, l3, l4, l5, l6, l7, l8, l9, l10, l11, I l12, l13, l14, l15] [I l12] h := ev_go c113_192 rfl
set_option maxRecDepth 20000 in
theorem c113_194 : cd 113 194 = some (194, .iconst 2, 1, 0, 0, 0) := rfl
theorem s113_194 {l0 l1 l2 l3 l4 l5 l6 l7 l8 l9 l10 l11 l12 l13 l14 l15 s0 : AV} {h : AH} : evL 113 194 [l0, l1, l2, l3, l4, l5, l6, l7, l8, l9, l10, l11, l12, l13, l14, l15] [s0] h = evL 113 195 [l0, l1, l2, l3, l4, l5, l6, l7, l8, l9, l10, l11, l12, l13, l14, l15] [I 2, s0] h := ev_go c113_194 rfl
set_option maxRecDepth 20000 in
theorem c113_195 : cd 113 195 = some (195, .iload 4, 2, 0, 0, 0) := rfl
theorem s113_195 {l0 l1 l2 l3 l5 l6 l7 l8 l9 l10 l11 l12 l13 l14 l15 s0 s1 : AV} {l4 : Int} {h : AH} : evL 113 195 [l0, l1, l2, l3, I l4, l5, l6, l7, l8, l9, l10, l11, l12, l13, l14, l15] [s0, s1] h = evL 113 197 [l0, l1, l2, l3, I l4, l5, l6, l7, l8, l9, l10, l11, l12, l13, l14, l15] [I l4, s0, s1] h := ev_go c113_195 rfl
set_option maxRecDepth 20000 in
theorem c113_197 : cd 113 197 = some (197, .imul, 1, 0, 0, 0) := rfl
theorem s113_197 {l0 l1 l2 l3 l4 l5 l6 l7 l8 l9 l10 l11 l12 l13 l14 l15 s2 : AV} {s0 s1 : Int} {h : AH} : evL 113 197 [l0, l1, l2, l3, l4, l5, l6, l7, l8, l9, l10, l11, l12, l13, l14, l15] [I s0, I s1, s2] h = evL 113 198 [l0, l1, l2, l3, l4, l5, l6, l7, l8, l9, l10, l11, l12, l13, l14, l15] [I (ml s1 s0), s2] h := ev_go c113_197 rfl
set_option maxRecDepth 20000 in
theorem c113_198 : cd 113 198 = some (198, .if_icmp .ne 7, 3, 0, 0, 0) := rfl
theorem s113_198 {l0 l1 l2 l3 l4 l5 l6 l7 l8 l9 l10 l11 l12 l13 l14 l15 : AV} {s0 s1 : Int} {h : AH} : evL 113 198 [l0, l1, l2, l3, l4, l5, l6, l7, l8, l9, l10, l11, l12, l13, l14, l15] [I s0, I s1] h = if s1 = s0 then evL 113 201 [l0, l1, l2, l3, l4, l5, l6, l7, l8, l9, l10, l11, l12, l13, l14, l15] [] h else evL 113 205 [l0, l1, l2, l3, l4, l5, l6, l7, l8, l9, l10, l11, l12, l13, l14, l15] [] h := e_icmp_ne c113_198 rfl rfl
set_option maxRecDepth 20000 in
theorem c113_201 : cd 113 201 = some (201, .iconst 1, 1, 0, 0, 0) := rfl
theorem s113_201 {l0 l1 l2 l3 l4 l5 l6 l7 l8 l9 l10 l11 l12 l13 l14 l15 : AV} {h : AH} : evL 113 201 [l0, l1, l2, l3, l4, l5, l6, l7, l8, l9, l10, l11, l12, l13, l14, l15] [] h = evL 113 202 [l0, l1, l2, l3, l4, l5, l6, l7, l8, l9, l10, l11, l12, l13, l14, l15] [I 1] h := ev_go c113_201 rfl
set_option maxRecDepth 20000 in
theorem c113_202 : cd 113 202 = some (202, .goto 4, 3, 0, 0, 0) := rfl
theorem s113_202 {l0 l1 l2 l3 l4 l5 l6 l7 l8 l9 l10 l11 l12 l13 l14 l15 s0 : AV} {h : AH} : evL 113 202 [l0, l1, l2, l3, l4, l5, l6, l7, l8, l9, l10, l11, l12, l13, l14, l15] [s0] h = evL 113 206 [l0, l1, l2, l3, l4, l5, l6, l7, l8, l9, l10, l11, l12, l13, l14, l15] [s0] h := ev_go c113_202 rfl
set_option maxRecDepth 20000 in
theorem c113_205 : cd 113 205 = some (205, .iconst 0, 1, 0, 0, 0) := rfl
theorem s113_205 {l0 l1 l2 l3 l4 l5 l6 l7 l8 l9 l10 l11 l12 l13 l14 l15 : AV} {h : AH} : evL 113 205 [l0, l1, l2, l3, l4, l5, l6, l7, l8, l9, l10, l11, l12, l13, l14, l15] [] h = evL 113 206 [l0, l1, l2, l3, l4, l5, l6, l7, l8, l9, l10, l11, l12, l13, l14, l15] [I 0] h := ev_go c113_205 rfl
set_option maxRecDepth 20000 in
theorem c113_206 : cd 113 206 = some (206, .istore 15, 2, 0, 0, 0) := rfl
theorem s113_206 {l0 l1 l2 l3 l4 l5 l6 l7 l8 l9 l10 l11 l12 l13 l14 l15 : AV} {s0 : Int} {h : AH} : evL 113 206 [l0, l1, l2, l3, l4, l5, l6, l7, l8, l9, l10, l11, l12, l13, l14, l15] [I s0] h = evL 113 208 [l0, l1, l2, l3, l4, l5, l6, l7, l8, l9, l10, l11, l12, l13, l14, I s0] [] h := ev_go c113_206 rfl
set_option maxRecDepth 20000 in
theorem c113_208 : cd 113 208 = some (208, .iload 14, 2, 0, 0, 0) := rfl
theorem s113_208 {l0 l1 l2 l3 l4 l5 l6 l7 l8 l9 l10 l11 l12 l13 l15 : AV} {l14 : Int} {h : AH} : evL 113 208 [l0, l1, l2, l3, l4, l5, l6, l7, l8, l9, l10, l11, l12, l13, I l14, l15] [] h = evL 113 210 [l0, l1, l2, l3, l4, l5, l6, l7, l8, l9, l10, l11, l12, l13, I l14, l15] [I l14] h := ev_go c113_208 rfl
set_option maxRecDepth 20000 in
theorem c113_210 : cd 113 210 = some (210, .ifCond .eq 136, 3, 0, 0, 0) := rfl
theorem s113_210 {l0 l1 l2 l3 l4 l5 l6 l7 l8 l9 l10 l11 l12 l13 l14 l15 : AV} {s0 : Int} {h : AH} : evL 113 210 [l0, l1, l2, l3, l4, l5, l6, l7, l8, l9, l10, l11, l12, l13, l14, l15] [I s0] h = if s0 = 0 then evL 113 346 [l0, l1, l2, l3, l4, l5, l6, l7, l8, l9, l10, l11, l12, l13, l14, l15] [] h else evL 113 213 [l0, l1, l2, l3, l4, l5, l6, l7, l8, l9, l10, l11, l12, l13, l14, l15] [] h := e_if_eq c113_210 rfl rfl
set_option maxRecDepth 20000 in
theorem c113_213 : cd 113 213 = some (213, .iload 12, 2, 0, 0, 0) := rfl
theorem s113_213 {l0 l1 l2 l3 l4 l5 l6 l7 l8 l9 l10 l11 l13 l14 l15 : AV} {l12 : Int} {h : AH} : evL 113 213 [l0, l1, l2, l3, l4, l5, l6, l7, l8, l9, l10, l11, I l12, l13, l14, l15] [] h = evL 113 215 [l0, l1, l2, l3, l4, l5, l6, l7, l8, l9, l10, l11, I l12, l13, l14, l15] [I l12] h := ev_go c113_213 rfl
set_option maxRecDepth 20000 in
theorem c113_215 : cd 113 215 = some (215, .ifCond .lt 131, 3, 0, 0, 0) := rfl
theorem s113_215 {l0 l1 l2 l3 l4 l5 l6 l7 l8 l9 l10 l11 l12 l13 l14 l15 : AV} {s0 : Int} {h : AH} : evL 113 215 [l0, l1, l2, l3, l4, l5, l6, l7, l8, l9, l10, l11, l12, l13, l14, l15] [I s0] h = if s0 < 0 then evL 113 346 [l0, l1, l2, l3, l4, l5, l6, l7, l8, l9, l10, l11, l12, l13, l14, l15] [] h else evL 113 218 [l0, l1, l2, l3, l4, l5, l6, l7, l8, l9, l10, l11, l12, l13, l14, l15] [] h := e_if_lt c113_215 rfl rfl
set_option maxRecDepth 20000 in
theorem c113_218 : cd 113 218 = some (218, .iload 12, 2, 0, 0, 0) := rfl
theorem s113_218 {l0 l1 l2 l3 l4 l5 l6 l7 l8 l9 l10 l11 l13 l14 l15 : AV} {l12 : Int} {h : AH} : evL 113 218 [l0, l1, l2, l3, l4, l5, l6, l7, l8, l9, l10, l11, I l12, l13, l14, l15] [] h = evL 113 220 [l0, l1, l2, l3, l4, l5, l6, l7, l8, l9, l10, l11, I l12, l13, l14, l15] [I l12] h := ev_go c113_218 rfl
set_option maxRecDepth 20000 in
theorem c113_220 : cd 113 220 = some (220, .iconst 2, 1, 0, 0, 0) := rfl
theorem s113_220 {l0 l1 l2 l3 l4 l5 l6 l7 l8 l9 l10 l11 l12 l13 l14 l15 s0 : AV} {h : AH} : evL 113 220 [l0, l1, l2, l3, l4, l5, l6, l7, l8, l9, l10, l11, l12, l13, l14, l15] [s0] h = evL 113 221 [l0, l1, l2, l3, l4, l5, l6, l7, l8, l9, l10, l11, l12, l13, l14, l15] [I 2, s0] h := ev_go c113_220 rfl
set_option maxRecDepth 20000 in
theorem c113_221 : cd 113 221 = some (221, .iload 4, 2, 0, 0, 0) := rfl
theorem s113_221 {l0 l1 l2 l3 l5 l6 l7 l8 l9 l10 l11 l12 l13 l14 l15 s0 s1 : AV} {l4 : Int} {h : AH} : evL 113 221 [l0, l1, l2, l3, I l4, l5, l6, l7, l8, l9, l10, l11, l12, l13, l14, l15] [s0, s1] h = evL 113 223 [l0, l1, l2, l3, I l4, l5, l6, l7, l8, l9, l10, l11, l12, l13, l14, l15] [I l4, s0, s1] h := ev_go c113_221 rfl
set_option maxRecDepth 20000 in
theorem c113_223 : cd 113 223 = some (223, .imul, 1, 0, 0, 0) := rfl
theorem s113_223 {l0 l1 l2 l3 l4 l5 l6 l7 l8 l9 l10 l11 l12 l13 l14 l15 s2 : AV} {s0 s1 : Int} {h : AH} : evL 113 223 [l0, l1, l2, l3, l4, l5, l6, l7, l8, l9, l10, l11, l12, l13, l14, l15] [I s0, I s1, s2] h = evL 113 224 [l0, l1, l2, l3, l4, l5, l6, l7, l8, l9, l10, l11, l12, l13, l14, l15] [I (ml s1 s0), s2] h := ev_go c113_223 rfl
set_option maxRecDepth 20000 in
theorem c113_224 : cd 113 224 = some (224, .if_icmp .gt 122, 3, 0, 0, 0) := rfl
theorem s113_224 {l0 l1 l2 l3 l4 l5 l6 l7 l8 l9 l10 l11 l12 l13 l14 l15 : AV} {s0 s1 : Int} {h : AH} : evL 113 224 [l0, l1, l2, l3, l4, l5, l6, l7, l8, l9, l10, l11, l12, l13, l14, l15] [I s0, I s1] h = if s0 < s1 then evL 113 346 [l0, l1, l2, l3, l4, l5, l6, l7, l8, l9, l10, l11, l12, l13, l14, l15] [] h else evL 113 227 [l0, l1, l2, l3, l4, l5, l6, l7, l8, l9, l10, l11, l12, l13, l14, l15] [] h := e_icmp_gt c113_224 rfl rfl
set_option maxRecDepth 20000 in
theorem c113_227 : cd 113 227 = some (227, .iload 13, 2, 0, 0, 0) := rfl
theorem s113_227 {l0 l1 l2 l3 l4 l5 l6 l7 l8 l9 l10 l11 l12 l14 l15 : AV} {l13 : Int} {h : AH} : evL 113 227 [l0, l1, l2, l3, l4, l5, l6, l7, l8, l9, l10, l11, l12, I l13, l14, l15] [] h = evL 113 229 [l0, l1, l2, l3, l4, l5, l6, l7, l8, l9, l10, l11, l12, I l13, l14, l15] [I l13] h := ev_go c113_227 rfl
set_option maxRecDepth 20000 in
theorem c113_229 : cd 113 229 = some (229, .ifCond .ne 117, 3, 0, 0, 0) := rfl
theorem s113_229 {l0 l1 l2 l3 l4 l5 l6 l7 l8 l9 l10 l11 l12 l13 l14 l15 : AV} {s0 : Int} {h : AH} : evL 113 229 [l0, l1, l2, l3, l4, l5, l6, l7, l8, l9, l10, l11, l12, l13, l14, l15] [I s0] h = if s0 = 0 then evL 113 232 [l0, l1, l2, l3, l4, l5, l6, l7, l8, l9, l10, l11, l12, l13, l14, l15] [] h else evL 113 346 [l0, l1, l2, l3, l4, l5, l6, l7, l8, l9, l10, l11, l12, l13, l14, l15] [] h := e_if_ne c113_229 rfl rfl
set_option maxRecDepth 20000 in
theorem c113_232 : cd 113 232 = some (232, .aload_n 0, 1, 0, 0, 0) := rfl
theorem s113_232 {l1 l2 l3 l4 l5 l6 l7 l8 l9 l10 l11 l12 l13 l14 l15 : AV} {l0 : Option Nat} {h : AH} : evL 113 232 [.inr (.inl l0), l1, l2, l3, l4, l5, l6, l7, l8, l9, l10, l11, l12, l13, l14, l15] [] h = evL 113 233 [.inr (.inl l0), l1, l2, l3, l4, l5, l6, l7, l8, l9, l10, l11, l12, l13, l14, l15] [.inr (.inl l0)] h := ev_go c113_232 rfl
set_option maxRecDepth 20000 in
theorem c113_233 : cd 113 233 = some (233, .bipush 15, 2, 0, 0, 0) := rfl
theorem s113_233 {l0 l1 l2 l3 l4 l5 l6 l7 l8 l9 l10 l11 l12 l13 l14 l15 s0 : AV} {h : AH} : evL 113 233 [l0, l1, l2, l3, l4, l5, l6, l7, l8, l9, l10, l11, l12, l13, l14, l15] [s0] h = evL 113 235 [l0, l1, l2, l3, l4, l5, l6, l7, l8, l9, l10, l11, l12, l13, l14, l15] [I 15, s0] h := ev_go c113_233 rfl
set_option maxRecDepth 20000 in
theorem c113_235 : cd 113 235 = some (235, .invokevirtual 13, 3, 100, 0, 258) := rfl
theorem s113_235 {l0 l1 l2 l3 l4 l5 l6 l7 l8 l9 l10 l11 l12 l13 l14 l15 : AV} {s0 : Int} {s1 : Nat} {M : Mem} {P : PMem} (hk : kd s1 = 7) : evL 113 235 [l0, l1, l2, l3, l4, l5, l6, l7, l8, l9, l10, l11, l12, l13, l14, l15] [I s0, Rf s1] (Hp M P) = cont (evM 100 [Rf s1, I s0] (Hp M P)) (fun r h => evL 113 238 [l0, l1, l2, l3, l4, l5, l6, l7, l8, l9, l10, l11, l12, l13, l14, l15] (rl r []) h) := e_callV (av' := [I s0]) (rest := []) (c := 7) c113_235 rfl rfl rfl rfl rfl rfl rfl hk rfl
set_option maxRecDepth 20000 in
theorem c113_238 : cd 113 238 = some (238, .iload 5, 2, 0, 0, 0) := rfl
theorem s113_238 {l0 l1 l2 l3 l4 l6 l7 l8 l9 l10 l11 l12 l13 l14 l15 s0 : AV} {l5 : Int} {h : AH} : evL 113 238 [l0, l1, l2, l3, l4, I l5, l6, l7, l8, l9, l10, l11, l12, l13, l14, l15] [s0] h = evL 113 240 [l0, l1, l2, l3, l4, I l5, l6, l7, l8, l9, l10, l11, l12, l13, l14, l15] [I l5, s0] h := ev_go c113_238 rfl
set_option maxRecDepth 20000 in
theorem c113_240 : cd 113 240 = some (240, .iconst 4, 1, 0, 0, 0) := rfl
theorem s113_240 {l0 l1 l2 l3 l4 l5 l6 l7 l8 l9 l10 l11 l12 l13 l14 l15 s0 s1 : AV} {h : AH} : evL 113 240 [l0, l1, l2, l3, l4, l5, l6, l7, l8, l9, l10, l11, l12, l13, l14, l15] [s0, s1] h = evL 113 241 [l0, l1, l2, l3, l4, l5, l6, l7, l8, l9, l10, l11, l12, l13, l14, l15] [I 4, s0, s1] h := ev_go c113_240 rfl
set_option maxRecDepth 20000 in
theorem c113_241 : cd 113 241 = some (241, .if_icmp .ge 10, 3, 0, 0, 0) := rfl
theorem s113_241 {l0 l1 l2 l3 l4 l5 l6 l7 l8 l9 l10 l11 l12 l13 l14 l15 s2 : AV} {s0 s1 : Int} {h : AH} : evL 113 241 [l0, l1, l2, l3, l4, l5, l6, l7, l8, l9, l10, l11, l12, l13, l14, l15] [I s0, I s1, s2] h = if s0 ≤ s1 then evL 113 251 [l0, l1, l2, l3, l4, l5, l6, l7, l8, l9, l10, l11, l12, l13, l14, l15] [s2] h else evL 113 244 [l0, l1, l2, l3, l4, l5, l6, l7, l8, l9, l10, l11, l12, l13, l14, l15] [s2] h := e_icmp_ge c113_241 rfl rfl
set_option maxRecDepth 20000 in
theorem c113_244 : cd 113 244 = some (244, .iload 5, 2, 0, 0, 0) := rfl
theorem s113_244 {l0 l1 l2 l3 l4 l6 l7 l8 l9 l10 l11 l12 l13 l14 l15 s0 : AV} {l5 : Int} {h : AH} : evL 113 244 [l0, l1, l2, l3, l4, I l5, l6, l7, l8, l9, l10, l11, l12, l13, l14, l15] [s0] h = evL 113 246 [l0, l1, l2, l3, l4, I l5, l6, l7, l8, l9, l10, l11, l12, l13, l14, l15] [I l5, s0] h := ev_go c113_244 rfl
set_option maxRecDepth 20000 in
theorem c113_246 : cd 113 246 = some (246, .iconst 1, 1, 0, 0, 0) := rfl
theorem s113_246 {l0 l1 l2 l3 l4 l5 l6 l7 l8 l9 l10 l11 l12 l13 l14 l15 s0 s1 : AV} {h : AH} : evL 113 246 [l0, l1, l2, l3, l4, l5, l6, l7, l8, l9, l10, l11, l12, l13, l14, l15] [s0, s1] h = evL 113 247 [l0, l1, l2, l3, l4, l5, l6, l7, l8, l9, l10, l11, l12, l13, l14, l15] [I 1, s0, s1] h := ev_go c113_246 rfl
set_option maxRecDepth 20000 in
theorem c113_247 : cd 113 247 = some (247, .iadd, 1, 0, 0, 0) := rfl
theorem s113_247 {l0 l1 l2 l3 l4 l5 l6 l7 l8 l9 l10 l11 l12 l13 l14 l15 s2 : AV} {s0 s1 : Int} {h : AH} : evL 113 247 [l0, l1, l2, l3, l4, l5, l6, l7, l8, l9, l10, l11, l12, l13, l14, l15] [I s0, I s1, s2] h = evL 113 248 [l0, l1, l2, l3, l4, l5, l6, l7, l8, l9, l10, l11, l12, l13, l14, l15] [I (ad s1 s0), s2] h := ev_go c113_247 rfl
set_option maxRecDepth 20000 in
theorem c113_248 : cd 113 248 = some (248, .goto 4, 3, 0, 0, 0) := rfl
theorem s113_248 {l0 l1 l2 l3 l4 l5 l6 l7 l8 l9 l10 l11 l12 l13 l14 l15 s0 s1 : AV} {h : AH} : evL 113 248 [l0, l1, l2, l3, l4, l5, l6, l7, l8, l9, l10, l11, l12, l13, l14, l15] [s0, s1] h = evL 113 252 [l0, l1, l2, l3, l4, l5, l6, l7, l8, l9, l10, l11, l12, l13, l14, l15] [s0, s1] h := ev_go c113_248 rfl
set_option maxRecDepth 20000 in
theorem c113_251 : cd 113 251 = some (251, .iconst 4, 1, 0, 0, 0) := rfl
theorem s113_251 {l0 l1 l2 l3 l4 l5 l6 l7 l8 l9 l10 l11 l12 l13 l14 l15 s0 : AV} {h : AH} : evL 113 251 [l0, l1, l2, l3, l4, l5, l6, l7, l8, l9, l10, l11, l12, l13, l14, l15] [s0] h = evL 113 252 [l0, l1, l2, l3, l4, l5, l6, l7, l8, l9, l10, l11, l12, l13, l14, l15] [I 4, s0] h := ev_go c113_251 rfl
set_option maxRecDepth 20000 in
theorem c113_252 : cd 113 252 = some (252, .if_icmp .ne 94, 3, 0, 0, 0) := rfl
theorem s113_252 {l0 l1 l2 l3 l4 l5 l6 l7 l8 l9 l10 l11 l12 l13 l14 l15 : AV} {s0 s1 : Int} {h : AH} : evL 113 252 [l0, l1, l2, l3, l4, l5, l6, l7, l8, l9, l10, l11, l12, l13, l14, l15] [I s0, I s1] h = if s1 = s0 then evL 113 255 [l0, l1, l2, l3, l4, l5, l6, l7, l8, l9, l10, l11, l12, l13, l14, l15] [] h else evL 113 346 [l0, l1, l2, l3, l4, l5, l6, l7, l8, l9, l10, l11, l12, l13, l14, l15] [] h := e_icmp_ne c113_252 rfl rfl
set_option maxRecDepth 20000 in
theorem c113_255 : cd 113 255 = some (255, .aload_n 0, 1, 0, 0, 0) := rfl
theorem s113_255 {l1 l2 l3 l4 l5 l6 l7 l8 l9 l10 l11 l12 l13 l14 l15 : AV} {l0 : Option Nat} {h : AH} : evL 113 255 [.inr (.inl l0), l1, l2, l3, l4, l5, l6, l7, l8, l9, l10, l11, l12, l13, l14, l15] [] h = evL 113 256 [.inr (.inl l0), l1, l2, l3, l4, l5, l6, l7, l8, l9, l10, l11, l12, l13, l14, l15] [.inr (.inl l0)] h := ev_go c113_255 rfl
set_option maxRecDepth 20000 in
theorem c113_256 : cd 113 256 = some (256, .bipush 12, 2, 0, 0, 0) := rfl
theorem s113_256 {l0 l1 l2 l3 l4 l5 l6 l7 l8 l9 l10 l11 l12 l13 l14 l15 s0 : AV} {h : AH} : evL 113 256 [l0, l1, l2, l3, l4, l5, l6, l7, l8, l9, l10, l11, l12, l13, l14, l15] [s0] h = evL 113 258 [l0, l1, l2, l3, l4, l5, l6, l7, l8, l9, l10, l11, l12, l13, l14, l15] [I 12, s0] h := ev_go c113_256 rfl
set_option maxRecDepth 20000 in
theorem c113_258 : cd 113 258 = some (258, .invokevirtual 13, 3, 100, 0, 258) := rfl
theorem s113_258 {l0 l1 l2 l3 l4 l5 l6 l7 l8 l9 l10 l11 l12 l13 l14 l15 : AV} {s0 : Int} {s1 : Nat} {M : Mem} {P : PMem} (hk : kd s1 = 7) : evL 113 258 [l0, l1, l2, l3, l4, l5, l6, l7, l8, l9, l10, l11, l12, l13, l14, l15] [I s0, Rf s1] (Hp M P) = cont (evM 100 [Rf s1, I s0] (Hp M P)) (fun r h => evL 113 261 [l0, l1, l2, l3, l4, l5, l6, l7, l8, l9, l10, l11, l12, l13, l14, l15] (rl r []) h) := e_callV (av' := [I s0]) (rest := []) (c := 7) c113_258 rfl rfl rfl rfl rfl rfl rfl hk rfl
set_option maxRecDepth 20000 in
theorem c113_261 : cd 113 261 = some (261, .iload 6, 2, 0, 0, 0) := rfl
theorem s113_261 {l0 l1 l2 l3 l4 l5 l7 l8 l9 l10 l11 l12 l13 l14 l15 s0 : AV} {l6 : Int} {h : AH} : evL 113 261 [l0, l1, l2, l3, l4, l5, I l6, l7, l8, l9, l10, l11, l12, l13, l14, l15] [s0] h = evL 113 263 [l0, l1, l2, l3, l4, l5, I l6, l7, l8, l9, l10, l11, l12, l13, l14, l15] [I l6, s0] h := ev_go c113_261 rfl
set_option maxRecDepth 20000 in
theorem c113_263 : cd 113 263 = some (263, .iload 15, 2, 0, 0, 0) := rfl
theorem s113_263 {l0 l1 l2 l3 l4 l5 l6 l7 l8 l9 l10 l11 l12 l13 l14 s0 s1 : AV} {l15 : Int} {h : AH} : evL 113 263 [l0, l1, l2, l3, l4, l5, l6, l7, l8, l9, l10, l11, l12, l13, l14, I l15] [s0, s1] h = evL 113 265 [l0, l1, l2, l3, l4, l5, l6, l7, l8, l9, l10, l11, l12, l13, l14, I l15] [I l15, s0, s1] h := ev_go c113_263 rfl
set_option maxRecDepth 20000 in
theorem c113_265 : cd 113 265 = some (265, .ifCond .eq 7, 3, 0, 0, 0) := rfl
theorem s113_265 {l0 l1 l2 l3 l4 l5 l6 l7 l8 l9 l10 l11 l12 l13 l14 l15 s1 s2 : AV} {s0 : Int} {h : AH} : evL 113 265 [l0, l1, l2, l3, l4, l5, l6, l7, l8, l9, l10, l11, l12, l13, l14, l15] [I s0, s1, s2] h = if s0 = 0 then evL 113 272 [l0, l1, l2, l3, l4, l5, l6, l7, l8, l9, l10, l11, l12, l13, l14, l15] [s1, s2] h else evL 113 268 [l0, l1, l2, l3, l4, l5, l6, l7, l8, l9, l10, l11, l12, l13, l14, l15] [s1, s2] h := e_if_eq c113_265 rfl rfl
set_option maxRecDepth 20000 in
theorem c113_268 : cd 113 268 = some (268, .iconst 0, 1, 0, 0, 0) := rfl
theorem s113_268 {l0 l1 l2 l3 l4 l5 l6 l7 l8 l9 l10 l11 l12 l13 l14 l15 s0 s1 : AV} {h : AH} : evL 113 268 [l0, l1, l2, l3, l4, l5, l6, l7, l8, l9, l10, l11, l12, l13, l14, l15] [s0, s1] h = evL 113 269 [l0, l1, l2, l3, l4, l5, l6, l7, l8, l9, l10, l11, l12, l13, l14, l15] [I 0, s0, s1] h := ev_go c113_268 rfl
set_option maxRecDepth 20000 in
theorem c113_269 : cd 113 269 = some (269, .goto 4, 3, 0, 0, 0) := rfl
theorem s113_269 {l0 l1 l2 l3 l4 l5 l6 l7 l8 l9 l10 l11 l12 l13 l14 l15 s0 s1 s2 : AV} {h : AH} : evL 113 269 [l0, l1, l2, l3, l4, l5, l6, l7, l8, l9, l10, l11, l12, l13, l14, l15] [s0, s1, s2] h = evL 113 273 [l0, l1, l2, l3, l4, l5, l6, l7, l8, l9, l10, l11, l12, l13, l14, l15] [s0, s1, s2] h := ev_go c113_269 rfl
set_option maxRecDepth 20000 in
theorem c113_272 : cd 113 272 = some (272, .iconst 1, 1, 0, 0, 0) := rfl
theorem s113_272 {l0 l1 l2 l3 l4 l5 l6 l7 l8 l9 l10 l11 l12 l13 l14 l15 s0 s1 : AV} {h : AH} : evL 113 272 [l0, l1, l2, l3, l4, l5, l6, l7, l8, l9, l10, l11, l12, l13, l14, l15] [s0, s1] h = evL 113 273 [l0, l1, l2, l3, l4, l5, l6, l7, l8, l9, l10, l11, l12, l13, l14, l15] [I 1, s0, s1] h := ev_go c113_272 rfl
set_option maxRecDepth 20000 in
theorem c113_273 : cd 113 273 = some (273, .iadd, 1, 0, 0, 0) := rfl
theorem s113_273 {l0 l1 l2 l3 l4 l5 l6 l7 l8 l9 l10 l11 l12 l13 l14 l15 s2 : AV} {s0 s1 : Int} {h : AH} : evL 113 273 [l0, l1, l2, l3, l4, l5, l6, l7, l8, l9, l10, l11, l12, l13, l14, l15] [I s0, I s1, s2] h = evL 113 274 [l0, l1, l2, l3, l4, l5, l6, l7, l8, l9, l10, l11, l12, l13, l14, l15] [I (ad s1 s0), s2] h := ev_go c113_273 rfl
set_option maxRecDepth 20000 in
theorem c113_274 : cd 113 274 = some (274, .if_icmp .ne 72, 3, 0, 0, 0) := rfl
theorem s113_274 {l0 l1 l2 l3 l4 l5 l6 l7 l8 l9 l10 l11 l12 l13 l14 l15 : AV} {s0 s1 : Int} {h : AH} : evL 113 274 [l0, l1, l2, l3, l4, l5, l6, l7, l8, l9, l10, l11, l12, l13, l14, l15] [I s0, I s1] h = if s1 = s0 then evL 113 277 [l0, l1, l2, l3, l4, l5, l6, l7, l8, l9, l10, l11, l12, l13, l14, l15] [] h else evL 113 346 [l0, l1, l2, l3, l4, l5, l6, l7, l8, l9, l10, l11, l12, l13, l14, l15] [] h := e_icmp_ne c113_274 rfl rfl
set_option maxRecDepth 20000 in
theorem c113_277 : cd 113 277 = some (277, .iload 15, 2, 0, 0, 0) := rfl
theorem s113_277 {l0 l1 l2 l3 l4 l5 l6 l7 l8 l9 l10 l11 l12 l13 l14 : AV} {l15 : Int} {h : AH} : evL 113 277 [l0, l1, l2, l3, l4, l5, l6, l7, l8, l9, l10, l11, l12, l13, l14, I l15] [] h = evL 113 279 [l0, l1, l2, l3, l4, l5, l6, l7, l8, l9, l10, l11, l12, l13, l14, I l15] [I l15] h := ev_go c113_277 rfl
set_option maxRecDepth 20000 in
theorem c113_279 : cd 113 279 = some (279, .ifCond .eq 26, 3, 0, 0, 0) := rfl
theorem s113_279 {l0 l1 l2 l3 l4 l5 l6 l7 l8 l9 l10 l11 l12 l13 l14 l15 : AV} {s0 : Int} {h : AH} : evL 113 279 [l0, l1, l2, l3, l4, l5, l6, l7, l8, l9, l10, l11, l12, l13, l14, l15] [I s0] h = if s0 = 0 then evL 113 305 [l0, l1, l2, l3, l4, l5, l6, l7, l8, l9, l10, l11, l12, l13, l14, l15] [] h else evL 113 282 [l0, l1, l2, l3, l4, l5, l6, l7, l8, l9, l10, l11, l12, l13, l14, l15] [] h := e_if_eq c113_279 rfl rfl
set_option maxRecDepth 20000 in
theorem c113_282 : cd 113 282 = some (282, .aload_n 0, 1, 0, 0, 0) := rfl
theorem s113_282 {l1 l2 l3 l4 l5 l6 l7 l8 l9 l10 l11 l12 l13 l14 l15 : AV} {l0 : Option Nat} {h : AH} : evL 113 282 [.inr (.inl l0), l1, l2, l3, l4, l5, l6, l7, l8, l9, l10, l11, l12, l13, l14, l15] [] h = evL 113 283 [.inr (.inl l0), l1, l2, l3, l4, l5, l6, l7, l8, l9, l10, l11, l12, l13, l14, l15] [.inr (.inl l0)] h := ev_go c113_282 rfl
set_option maxRecDepth 20000 in
theorem c113_283 : cd 113 283 = some (283, .iconst 0, 1, 0, 0, 0) := rfl
theorem s113_283 {l0 l1 l2 l3 l4 l5 l6 l7 l8 l9 l10 l11 l12 l13 l14 l15 s0 : AV} {h : AH} : evL 113 283 [l0, l1, l2, l3, l4, l5, l6, l7, l8, l9, l10, l11, l12, l13, l14, l15] [s0] h = evL 113 284 [l0, l1, l2, l3, l4, l5, l6, l7, l8, l9, l10, l11, l12, l13, l14, l15] [I 0, s0] h := ev_go c113_283 rfl
set_option maxRecDepth 20000 in
theorem c113_284 : cd 113 284 = some (284, .invokevirtual 60, 3, 96, 0, 641) := rfl
theorem s113_284 {l0 l1 l2 l3 l4 l5 l6 l7 l8 l9 l10 l11 l12 l13 l14 l15 : AV} {s0 : Int} {s1 : Nat} {M : Mem} {P : PMem} (hk : kd s1 = 7) : evL 113 284 [l0, l1, l2, l3, l4, l5, l6, l7, l8, l9, l10, l11, l12, l13, l14, l15] [I s0, Rf s1] (Hp M P) = cont (evM 96 [Rf s1, I s0] (Hp M P)) (fun r h => evL 113 287 [l0, l1, l2, l3, l4, l5, l6, l7, l8, l9, l10, l11, l12, l13, l14, l15] (rl r []) h) := e_callV (av' := [I s0]) (rest := []) (c := 7) c113_284 rfl rfl rfl rfl rfl rfl rfl hk rfl
set_option maxRecDepth 20000 in
theorem c113_287 : cd 113 287 = some (287, .bipush (-4), 2, 0, 0, 0) := rfl
theorem s113_287 {l0 l1 l2 l3 l4 l5 l6 l7 l8 l9 l10 l11 l12 l13 l14 l15 s0 : AV} {h : AH} : evL 113 287 [l0, l1, l2, l3, l4, l5, l6, l7, l8, l9, l10, l11, l12, l13, l14, l15] [s0] h = evL 113 289 [l0, l1, l2, l3, l4, l5, l6, l7, l8, l9, l10, l11, l12, l13, l14, l15] [I (-4), s0] h := ev_go c113_287 rfl
set_option maxRecDepth 20000 in
theorem c113_289 : cd 113 289 = some (289, .if_icmp .ne 57, 3, 0, 0, 0) := rfl
theorem s113_289 {l0 l1 l2 l3 l4 l5 l6 l7 l8 l9 l10 l11 l12 l13 l14 l15 : AV} {s0 s1 : Int} {h : AH} : evL 113 289 [l0, l1, l2, l3, l4, l5, l6, l7, l8, l9, l10, l11, l12, l13, l14, l15] [I s0, I s1] h = if s1 = s0 then evL 113 292 [l0, l1, l2, l3, l4, l5, l6, l7, l8, l9, l10, l11, l12, l13, l14, l15] [] h else evL 113 346 [l0, l1, l2, l3, l4, l5, l6, l7, l8, l9, l10, l11, l12, l13, l14, l15] [] h := e_icmp_ne c113_289 rfl rfl
set_option maxRecDepth 20000 in
theorem c113_292 : cd 113 292 = some (292, .aload_n 0, 1, 0, 0, 0) := rfl
theorem s113_292 {l1 l2 l3 l4 l5 l6 l7 l8 l9 l10 l11 l12 l13 l14 l15 : AV} {l0 : Option Nat} {h : AH} : evL 113 292 [.inr (.inl l0), l1, l2, l3, l4, l5, l6, l7, l8, l9, l10, l11, l12, l13, l14, l15] [] h = evL 113 293 [.inr (.inl l0), l1, l2, l3, l4, l5, l6, l7, l8, l9, l10, l11, l12, l13, l14, l15] [.inr (.inl l0)] h := ev_go c113_292 rfl
set_option maxRecDepth 20000 in
theorem c113_293 : cd 113 293 = some (293, .iconst 1, 1, 0, 0, 0) := rfl
theorem s113_293 {l0 l1 l2 l3 l4 l5 l6 l7 l8 l9 l10 l11 l12 l13 l14 l15 s0 : AV} {h : AH} : evL 113 293 [l0, l1, l2, l3, l4, l5, l6, l7, l8, l9, l10, l11, l12, l13, l14, l15] [s0] h = evL 113 294 [l0, l1, l2, l3, l4, l5, l6, l7, l8, l9, l10, l11, l12, l13, l14, l15] [I 1, s0] h := ev_go c113_293 rfl
set_option maxRecDepth 20000 in
theorem c113_294 : cd 113 294 = some (294, .invokevirtual 60, 3, 96, 0, 641) := rfl
theorem s113_294 {l0 l1 l2 l3 l4 l5 l6 l7 l8 l9 l10 l11 l12 l13 l14 l15 : AV} {s0 : Int} {s1 : Nat} {M : Mem} {P : PMem} (hk : kd s1 = 7) : evL 113 294 [l0, l1, l2, l3, l4, l5, l6, l7, l8, l9, l10, l11, l12, l13, l14, l15] [I s0, Rf s1] (Hp M P) = cont (evM 96 [Rf s1, I s0] (Hp M P)) (fun r h => evL 113 297 [l0, l1, l2, l3, l4, l5, l6, l7, l8, l9, l10, l11, l12, l13, l14, l15] (rl r []) h) := e_callV (av' := [I s0]) (rest := []) (c := 7) c113_294 rfl rfl rfl rfl rfl rfl rfl hk rfl
set_option maxRecDepth 20000 in
theorem c113_297 : cd 113 297 = some (297, .bipush (-4), 2, 0, 0, 0) := rfl
theorem s113_297 {l0 l1 l2 l3 l4 l5 l6 l7 l8 l9 l10 l11 l12 l13 l14 l15 s0 : AV} {h : AH} : evL 113 297 [l0, l1, l2, l3, l4, l5, l6, l7, l8, l9, l10, l11, l12, l13, l14, l15] [s0] h = evL 113 299 [l0, l1, l2, l3, l4, l5, l6, l7, l8, l9, l10, l11, l12, l13, l14, l15] [I (-4), s0] h := ev_go c113_297 rfl
set_option maxRecDepth 20000 in
theorem c113_299 : cd 113 299 = some (299, .if_icmp .ne 47, 3, 0, 0, 0) := rfl
theorem s113_299 {l0 l1 l2 l3 l4 l5 l6 l7 l8 l9 l10 l11 l12 l13 l14 l15 : AV} {s0 s1 : Int} {h : AH} : evL 113 299 [l0, l1, l2, l3, l4, l5, l6, l7, l8, l9, l10, l11, l12, l13, l14, l15] [I s0, I s1] h = if s1 = s0 then evL 113 302 [l0, l1, l2, l3, l4, l5, l6, l7, l8, l9, l10, l11, l12, l13, l14, l15] [] h else evL 113 346 [l0, l1, l2, l3, l4, l5, l6, l7, l8, l9, l10, l11, l12, l13, l14, l15] [] h := e_icmp_ne c113_299 rfl rfl
set_option maxRecDepth 20000 in
theorem c113_302 : cd 113 302 = some (302, .goto 40, 3, 0, 0, 0) := rfl
theorem s113_302 {l0 l1 l2 l3 l4 l5 l6 l7 l8 l9 l10 l11 l12 l13 l14 l15 : AV} {h : AH} : evL 113 302 [l0, l1, l2, l3, l4, l5, l6, l7, l8, l9, l10, l11, l12, l13, l14, l15] [] h = evL 113 342 [l0, l1, l2, l3, l4, l5, l6, l7, l8, l9, l10, l11, l12, l13, l14, l15] [] h := ev_go c113_302 rfl
set_option maxRecDepth 20000 in
theorem c113_305 : cd 113 305 = some (305, .aload_n 0, 1, 0, 0, 0) := rfl
theorem s113_305 {l1 l2 l3 l4 l5 l6 l7 l8 l9 l10 l11 l12 l13 l14 l15 : AV} {l0 : Option Nat} {h : AH} : evL 113 305 [.inr (.inl l0), l1, l2, l3, l4, l5, l6, l7, l8, l9, l10, l11, l12, l13, l14, l15] [] h = evL 113 306 [.inr (.inl l0), l1, l2, l3, l4, l5, l6, l7, l8, l9, l10, l11, l12, l13, l14, l15] [.inr (.inl l0)] h := ev_go c113_305 rfl
set_option maxRecDepth 20000 in
theorem c113_306 : cd 113 306 = some (306, .iconst 0, 1, 0, 0, 0) := rfl
theorem s113_306 {l0 l1 l2 l3 l4 l5 l6 l7 l8 l9 l10 l11 l12 l13 l14 l15 s0 : AV} {h : AH} : evL 113 306 [l0, l1, l2, l3, l4, l5, l6, l7, l8, l9, l10, l11, l12, l13, l14, l15] [s0] h = evL 113 307 [l0, l1, l2, l3, l4, l5, l6, l7, l8, l9, l10, l11, l12, l13, l14, l15] [I 0, s0] h := ev_go c113_306 rfl
set_option maxRecDepth 20000 in
theorem c113_307 : cd 113 307 = some (307, .invokevirtual 60, 3, 96, 0, 641) := rfl
theorem s113_307 {l0 l1 l2 l3 l4 l5 l6 l7 l8 l9 l10 l11 l12 l13 l14 l15 : AV} {s0 : Int} {s1 : Nat} {M : Mem} {P : PMem} (hk : kd s1 = 7) : evL 113 307 [l0, l1, l2, l3, l4, l5, l6, l7, l8, l9, l10, l11, l12, l13, l14, l15] [I s0, Rf s1] (Hp M P) = cont (evM 96 [Rf s1, I s0] (Hp M P)) (fun r h => evL 113 310 [l0, l1, l2, l3, l4, l5, l6, l7, l8, l9, l10, l11, l12, l13, l14, l15] (rl r []) h) := e_callV (av' := [I s0]) (rest := []) (c := 7) c113_307 rfl rfl rfl rfl rfl rfl rfl hk rfl
set_option maxRecDepth 20000 in
theorem c113_310 : cd 113 310 = some (310, .iconst 1, 1, 0, 0, 0) := rfl
theorem s113_310 {l0 l1 l2 l3 l4 l5 l6 l7 l8 l9 l10 l11 l12 l13 l14 l15 s0 : AV} {h : AH} : evL 113 310 [l0, l1, l2, l3, l4, l5, l6, l7, l8, l9, l10, l11, l12, l13, l14, l15] [s0] h = evL 113 311 [l0, l1, l2, l3, l4, l5, l6, l7, l8, l9, l10, l11, l12, l13, l14, l15] [I 1, s0] h := ev_go c113_310 rfl
set_option maxRecDepth 20000 in
theorem c113_311 : cd 113 311 = some (311, .if_icmp .lt 35, 3, 0, 0, 0) := rfl
theorem s113_311 {l0 l1 l2 l3 l4 l5 l6 l7 l8 l9 l10 l11 l12 l13 l14 l15 : AV} {s0 s1 : Int} {h : AH} : evL 113 311 [l0, l1, l2, l3, l4, l5, l6, l7, l8, l9, l10, l11, l12, l13, l14, l15] [I s0, I s1] h = if s1 < s0 then evL 113 346 [l0, l1, l2, l3, l4, l5, l6, l7, l8, l9, l10, l11, l12, l13, l14, l15] [] h else evL 113 314 [l0, l1, l2, l3, l4, l5, l6, l7, l8, l9, l10, l11, l12, l13, l14, l15] [] h := e_icmp_lt c113_311 rfl rfl
set_option maxRecDepth 20000 in
theorem c113_314 : cd 113 314 = some (314, .aload_n 0, 1, 0, 0, 0) := rfl
theorem s113_314 {l1 l2 l3 l4 l5 l6 l7 l8 l9 l10 l11 l12 l13 l14 l15 : AV} {l0 : Option Nat} {h : AH} : evL 113 314 [.inr (.inl l0), l1, l2, l3, l4, l5, l6, l7, l8, l9, l10, l11, l12, l13, l14, l15] [] h = evL 113 315 [.inr (.inl l0), l1, l2, l3, l4, l5, l6, l7, l8, l9, l10, l11, l12, l13, l14, l15] [.inr (.inl l0)] h := ev_go c113_314 rfl
set_option maxRecDepth 20000 in
theorem c113_315 : cd 113 315 = some (315, .iconst 0, 1, 0, 0, 0) := rfl
theorem s113_315 {l0 l1 l2 l3 l4 l5 l6 l7 l8 l9 l10 l11 l12 l13 l14 l15 s0 : AV} {h : AH} : evL 113 315 [l0, l1, l2, l3, l4, l5, l6, l7, l8, l9, l10, l11, l12, l13, l14, l15] [s0] h = evL 113 316 [l0, l1, l2, l3, l4, l5, l6, l7, l8, l9, l10, l11, l12, l13, l14, l15] [I 0, s0] h := ev_go c113_315 rfl
set_option maxRecDepth 20000 in
theorem c113_316 : cd 113 316 = some (316, .invokevirtual 60, 3, 96, 0, 641) := rfl
theorem s113_316 {l0 l1 l2 l3 l4 l5 l6 l7 l8 l9 l10 l11 l12 l13 l14 l15 : AV} {s0 : Int} {s1 : Nat} {M : Mem} {P : PMem} (hk : kd s1 = 7) : evL 113 316 [l0, l1, l2, l3, l4, l5, l6, l7, l8, l9, l10, l11, l12, l13, l14, l15] [I s0, Rf s1] (Hp M P) = cont (evM 96 [Rf s1, I s0] (Hp M P)) (fun r h => evL 113 319 [l0, l1, l2, l3, l4, l5, l6, l7, l8, l9, l10, l11, l12, l13, l14, l15] (rl r []) h) := e_callV (av' := [I s0]) (rest := []) (c := 7) c113_316 rfl rfl rfl rfl rfl rfl rfl hk rfl
set_option maxRecDepth 20000 in
theorem c113_319 : cd 113 319 = some (319, .bipush 8, 2, 0, 0, 0) := rfl
theorem s113_319 {l0 l1 l2 l3 l4 l5 l6 l7 l8 l9 l10 l11 l12 l13 l14 l15 s0 : AV} {h : AH} : evL 113 319 [l0, l1, l2, l3, l4, l5, l6, l7, l8, l9, l10, l11, l12, l13, l14, l15] [s0] h = evL 113 321 [l0, l1, l2, l3, l4, l5, l6, l7, l8, l9, l10, l11, l12, l13, l14, l15] [I 8, s0] h := ev_go c113_319 rfl
set_option maxRecDepth 20000 in
theorem c113_321 : cd 113 321 = some (321, .if_icmp .gt 25, 3, 0, 0, 0) := rfl
theorem s113_321 {l0 l1 l2 l3 l4 l5 l6 l7 l8 l9 l10 l11 l12 l13 l14 l15 : AV} {s0 s1 : Int} {h : AH} : evL 113 321 [l0, l1, l2, l3, l4, l5, l6, l7, l8, l9, l10, l11, l12, l13, l14, l15] [I s0, I s1] h = if s0 < s1 then evL 113 346 [l0, l1, l2, l3, l4, l5, l6, l7, l8, l9, l10, l11, l12, l13, l14, l15] [] h else evL 113 324 [l0, l1, l2, l3, l4, l5, l6, l7, l8, l9, l10, l11, l12, l13, l14, l15] [] h := e_icmp_gt c113_321 rfl rfl
set_option maxRecDepth 20000 in
theorem c113_324 : cd 113 324 = some (324, .aload_n 0, 1, 0, 0, 0) := rfl
theorem s113_324 {l1 l2 l3 l4 l5 l6 l7 l8 l9 l10 l11 l12 l13 l14 l15 : AV} {l0 : Option Nat} {h : AH} : evL 113 324 [.inr (.inl l0), l1, l2, l3, l4, l5, l6, l7, l8, l9, l10, l11, l12, l13, l14, l15] [] h = evL 113 325 [.inr (.inl l0), l1, l2, l3, l4, l5, l6, l7, l8, l9, l10, l11, l12, l13, l14, l15] [.inr (.inl l0)] h := ev_go c113_324 rfl
set_option maxRecDepth 20000 in
theorem c113_325 : cd 113 325 = some (325, .iconst 1, 1, 0, 0, 0) := rfl
theorem s113_325 {l0 l1 l2 l3 l4 l5 l6 l7 l8 l9 l10 l11 l12 l13 l14 l15 s0 : AV} {h : AH} : evL 113 325 [l0, l1, l2, l3, l4, l5, l6, l7, l8, l9, l10, l11, l12, l13, l14, l15] [s0] h = evL 113 326 [l0, l1, l2, l3, l4, l5, l6, l7, l8, l9, l10, l11, l12, l13, l14, l15] [I 1, s0] h := ev_go c113_325 rfl
set_option maxRecDepth 20000 in
theorem c113_326 : cd 113 326 = some (326, .invokevirtual 60, 3, 96, 0, 641) := rfl
theorem s113_326 {l0 l1 l2 l3 l4 l5 l6 l7 l8 l9 l10 l11 l12 l13 l14 l15 : AV} {s0 : Int} {s1 : Nat} {M : Mem} {P : PMem} (hk : kd s1 = 7) : evL 113 326 [l0, l1, l2, l3, l4, l5, l6, l7, l8, l9, l10, l11, l12, l13, l14, l15] [I s0, Rf s1] (Hp M P) = cont (evM 96 [Rf s1, I s0] (Hp M P)) (fun r h => evL 113 329 [l0, l1, l2, l3, l4, l5, l6, l7, l8, l9, l10, l11, l12, l13, l14, l15] (rl r []) h) := e_callV (av' := [I s0]) (rest := []) (c := 7) c113_326 rfl rfl rfl rfl rfl rfl rfl hk rfl
set_option maxRecDepth 20000 in
theorem c113_329 : cd 113 329 = some (329, .ifCond .lt 17, 3, 0, 0, 0) := rfl
theorem s113_329 {l0 l1 l2 l3 l4 l5 l6 l7 l8 l9 l10 l11 l12 l13 l14 l15 : AV} {s0 : Int} {h : AH} : evL 113 329 [l0, l1, l2, l3, l4, l5, l6, l7, l8, l9, l10, l11, l12, l13, l14, l15] [I s0] h = if s0 < 0 then evL 113 346 [l0, l1, l2, l3, l4, l5, l6, l7, l8, l9, l10, l11, l12, l13, l14, l15] [] h else evL 113 332 [l0, l1, l2, l3, l4, l5, l6, l7, l8, l9, l10, l11, l12, l13, l14, l15] [] h := e_if_lt c113_329 rfl rfl
set_option maxRecDepth 20000 in
theorem c113_332 : cd 113 332 = some (332, .aload_n 0, 1, 0, 0, 0) := rfl
theorem s113_332 {l1 l2 l3 l4 l5 l6 l7 l8 l9 l10 l11 l12 l13 l14 l15 : AV} {l0 : Option Nat} {h : AH} : evL 113 332 [.inr (.inl l0), l1, l2, l3, l4, l5, l6, l7, l8, l9, l10, l11, l12, l13, l14, l15] [] h = evL 113 333 [.inr (.inl l0), l1, l2, l3, l4, l5, l6, l7, l8, l9, l10, l11, l12, l13, l14, l15] [.inr (.inl l0)] h := ev_go c113_332 rfl
set_option maxRecDepth 20000 in
theorem c113_333 : cd 113 333 = some (333, .iconst 1, 1, 0, 0, 0) := rfl
theorem s113_333 {l0 l1 l2 l3 l4 l5 l6 l7 l8 l9 l10 l11 l12 l13 l14 l15 s0 : AV} {h : AH} : evL 113 333 [l0, l1, l2, l3, l4, l5, l6, l7, l8, l9, l10, l11, l12, l13, l14, l15] [s0] h = evL 113 334 [l0, l1, l2, l3, l4, l5, l6, l7, l8, l9, l10, l11, l12, l13, l14, l15] [I 1, s0] h := ev_go c113_333 rfl
set_option maxRecDepth 20000 in
theorem c113_334 : cd 113 334 = some (334, .invokevirtual 60, 3, 96, 0, 641) := rfl
theorem s113_334 {l0 l1 l2 l3 l4 l5 l6 l7 l8 l9 l10 l11 l12 l13 l14 l15 : AV} {s0 : Int} {s1 : Nat} {M : Mem} {P : PMem} (hk : kd s1 = 7) : evL 113 334 [l0, l1, l2, l3, l4, l5, l6, l7, l8, l9, l10, l11, l12, l13, l14, l15] [I s0, Rf s1] (Hp M P) = cont (evM 96 [Rf s1, I s0] (Hp M P)) (fun r h => evL 113 337 [l0, l1, l2, l3, l4, l5, l6, l7, l8, l9, l10, l11, l12, l13, l14, l15] (rl r []) h) := e_callV (av' := [I s0]) (rest := []) (c := 7) c113_334 rfl rfl rfl rfl rfl rfl rfl hk rfl
set_option maxRecDepth 20000 in
theorem c113_337 : cd 113 337 = some (337, .iload 10, 2, 0, 0, 0) := rfl
theorem s113_337 {l0 l1 l2 l3 l4 l5 l6 l7 l8 l9 l11 l12 l13 l14 l15 s0 : AV} {l10 : Int} {h : AH} : evL 113 337 [l0, l1, l2, l3, l4, l5, l6, l7, l8, l9, I l10, l11, l12, l13, l14, l15] [s0] h = evL 113 339 [l0, l1, l2, l3, l4, l5, l6, l7, l8, l9, I l10, l11, l12, l13, l14, l15] [I l10, s0] h := ev_go c113_337 rfl
set_option maxRecDepth 20000 in
theorem c113_339 : cd 113 339 = some (339, .if_icmp .ge 7, 3, 0, 0, 0) := rfl
theorem s113_339 {l0 l1 l2 l3 l4 l5 l6 l7 l8 l9 l10 l11 l12 l13 l14 l15 : AV} {s0 s1 : Int} {h : AH} : evL 113 339 [l0, l1, l2, l3, l4, l5, l6, l7, l8, l9, l10, l11, l12, l13, l14, l15] [I s0, I s1] h = if s0 ≤ s1 then evL 113 346 [l0, l1, l2, l3, l4, l5, l6, l7, l8, l9, l10, l11, l12, l13, l14, l15] [] h else evL 113 342 [l0, l1, l2, l3, l4, l5, l6, l7, l8, l9, l10, l11, l12, l13, l14, l15] [] h := e_icmp_ge c113_339 rfl rfl
set_option maxRecDepth 20000 in
theorem c113_342 : cd 113 342 = some (342, .iconst 1, 1, 0, 0, 0) := rfl
theorem s113_342 {l0 l1 l2 l3 l4 l5 l6 l7 l8 l9 l10 l11 l12 l13 l14 l15 : AV} {h : AH} : evL 113 342 [l0, l1, l2, l3, l4, l5, l6, l7, l8, l9, l10, l11, l12, l13, l14, l15] [] h = evL 113 343 [l0, l1, l2, l3, l4, l5, l6, l7, l8, l9, l10, l11, l12, l13, l14, l15] [I 1] h := ev_go c113_342 rfl
set_option maxRecDepth 20000 in
theorem c113_343 : cd 113 343 = some (343, .goto 4, 3, 0, 0, 0) := rfl
theorem s113_343 {l0 l1 l2 l3 l4 l5 l6 l7 l8 l9 l10 l11 l12 l13 l14 l15 s0 : AV} {h : AH} : evL 113 343 [l0, l1, l2, l3, l4, l5, l6, l7, l8, l9, l10, l11, l12, l13, l14, l15] [s0] h = evL 113 347 [l0, l1, l2, l3, l4, l5, l6, l7, l8, l9, l10, l11, l12, l13, l14, l15] [s0] h := ev_go c113_343 rfl
set_option maxRecDepth 20000 in
theorem c113_346 : cd 113 346 = some (346, .iconst 0, 1, 0, 0, 0) := rfl
theorem s113_346 {l0 l1 l2 l3 l4 l5 l6 l7 l8 l9 l10 l11 l12 l13 l14 l15 : AV} {h : AH} : evL 113 346 [l0, l1, l2, l3, l4, l5, l6, l7, l8, l9, l10, l11, l12, l13, l14, l15] [] h = evL 113 347 [l0, l1, l2, l3, l4, l5, l6, l7, l8, l9, l10, l11, l12, l13, l14, l15] [I 0] h := ev_go c113_346 rfl
set_option maxRecDepth 20000 in
theorem c113_347 : cd 113 347 = some (347, .ireturn, 1, 0, 0, 0) := rfl
theorem s113_347 {l0 l1 l2 l3 l4 l5 l6 l7 l8 l9 l10 l11 l12 l13 l14 l15 : AV} {s0 : Int} {h : AH} (hz : s0 = 0 ∨ s0 = 1) : evL 113 347 [l0, l1, l2, l3, l4, l5, l6, l7, l8, l9, l10, l11, l12, l13, l14, l15] [I s0] h = some (some (I s0), h) := e_ret c113_347 (if_pos hz)
/-! 114: TankDiversLaw.deeds(LTankDivers;II)Z -/
theorem en114 {l0 l1 l2 : AV} {h : AH} : evM 114 [l0, l1, l2] h = evL 114 0 [l0, l1, l2, Db 0, Db 0, Db 0, Db 0, Db 0, Db 0, Db 0, Db 0, Db 0, Db 0, Db 0] [] h := rfl
set_option maxRecDepth 20000 in
theorem c114_0 : cd 114 0 = some (0, .aload_n 0, 1, 0, 0, 0) := rfl
theorem s114_0 {l1 l2 l3 l4 l5 l6 l7 l8 l9 l10 l11 l12 l13 : AV} {l0 : Option Nat} {h : AH} : evL 114 0 [.inr (.inl l0), l1, l2, l3, l4, l5, l6, l7, l8, l9, l10, l11, l12, l13] [] h = evL 114 1 [.inr (.inl l0), l1, l2, l3, l4, l5, l6, l7, l8, l9, l10, l11, l12, l13] [.inr (.inl l0)] h := ev_go c114_0 rfl
set_option maxRecDepth 20000 in
theorem c114_1 : cd 114 1 = some (1, .iconst 3, 1, 0, 0, 0) := rfl
theorem s114_1 {l0 l1 l2 l3 l4 l5 l6 l7 l8 l9 l10 l11 l12 l13 s0 : AV} {h : AH} : evL 114 1 [l0, l1, l2, l3, l4, l5, l6, l7, l8, l9, l10, l11, l12, l13] [s0] h = evL 114 2 [l0, l1, l2, l3, l4, l5, l6, l7, l8, l9, l10, l11, l12, l13] [I 3, s0] h := ev_go c114_1 rfl
set_option maxRecDepth 20000 in
theorem c114_2 : cd 114 2 = some (2, .invokevirtual 13, 3, 100, 0, 258) := rfl
theorem s114_2 {l0 l1 l2 l3 l4 l5 l6 l7 l8 l9 l10 l11 l12 l13 : AV} {s0 : Int} {s1 : Nat} {M : Mem} {P : PMem} (hk : kd s1 = 7) : evL 114 2 [l0, l1, l2, l3, l4, l5, l6, l7, l8, l9, l10, l11, l12, l13] [I s0, Rf s1] (Hp M P) = cont (evM 100 [Rf s1, I s0] (Hp M P)) (fun r h => evL 114 5 [l0, l1, l2, l3, l4, l5, l6, l7, l8, l9, l10, l11, l12, l13] (rl r []) h) := e_callV (av' := [I s0]) (rest := []) (c := 7) c114_2 rfl rfl rfl rfl rfl rfl rfl hk rfl
set_option maxRecDepth 20000 in
theorem c114_5 : cd 114 5 = some (5, .istore_n 3, 1, 0, 0, 0) := rfl
theorem s114_5 {l0 l1 l2 l3 l4 l5 l6 l7 l8 l9 l10 l11 l12 l13 : AV} {s0 : Int} {h : AH} : evL 114 5 [l0, l1, l2, l3, l4, l5, l6, l7, l8, l9, l10, l11, l12, l13] [I s0] h = evL 114 6 [l0, l1, l2, I s0, l4, l5, l6, l7, l8, l9, l10, l11, l12, l13] [] h := ev_go c114_5 rfl
set_option maxRecDepth 20000 in
theorem c114_6 : cd 114 6 = some (6, .aload_n 0, 1, 0, 0, 0) := rfl
theorem s114_6 {l1 l2 l3 l4 l5 l6 l7 l8 l9 l10 l11 l12 l13 : AV} {l0 : Option Nat} {h : AH} : evL 114 6 [.inr (.inl l0), l1, l2, l3, l4, l5, l6, l7, l8, l9, l10, l11, l12, l13] [] h = evL 114 7 [.inr (.inl l0), l1, l2, l3, l4, l5, l6, l7, l8, l9, l10, l11, l12, l13] [.inr (.inl l0)] h := ev_go c114_6 rfl
set_option maxRecDepth 20000 in
theorem c114_7 : cd 114 7 = some (7, .iconst 4, 1, 0, 0, 0) := rfl
theorem s114_7 {l0 l1 l2 l3 l4 l5 l6 l7 l8 l9 l10 l11 l12 l13 s0 : AV} {h : AH} : evL 114 7 [l0, l1, l2, l3, l4, l5, l6, l7, l8, l9, l10, l11, l12, l13] [s0] h = evL 114 8 [l0, l1, l2, l3, l4, l5, l6, l7, l8, l9, l10, l11, l12, l13] [I 4, s0] h := ev_go c114_7 rfl
set_option maxRecDepth 20000 in
theorem c114_8 : cd 114 8 = some (8, .invokevirtual 13, 3, 100, 0, 258) := rfl
theorem s114_8 {l0 l1 l2 l3 l4 l5 l6 l7 l8 l9 l10 l11 l12 l13 : AV} {s0 : Int} {s1 : Nat} {M : Mem} {P : PMem} (hk : kd s1 = 7) : evL 114 8 [l0, l1, l2, l3, l4, l5, l6, l7, l8, l9, l10, l11, l12, l13] [I s0, Rf s1] (Hp M P) = cont (evM 100 [Rf s1, I s0] (Hp M P)) (fun r h => evL 114 11 [l0, l1, l2, l3, l4, l5, l6, l7, l8, l9, l10, l11, l12, l13] (rl r []) h) := e_callV (av' := [I s0]) (rest := []) (c := 7) c114_8 rfl rfl rfl rfl rfl rfl rfl hk rfl
set_option maxRecDepth 20000 in
theorem c114_11 : cd 114 11 = some (11, .istore 4, 2, 0, 0, 0) := rfl
theorem s114_11 {l0 l1 l2 l3 l4 l5 l6 l7 l8 l9 l10 l11 l12 l13 : AV} {s0 : Int} {h : AH} : evL 114 11 [l0, l1, l2, l3, l4, l5, l6, l7, l8, l9, l10, l11, l12, l13] [I s0] h = evL 114 13 [l0, l1, l2, l3, I s0, l5, l6, l7, l8, l9, l10, l11, l12, l13] [] h := ev_go c114_11 rfl
set_option maxRecDepth 20000 in
theorem c114_13 : cd 114 13 = some (13, .aload_n 0, 1, 0, 0, 0) := rfl
theorem s114_13 {l1 l2 l3 l4 l5 l6 l7 l8 l9 l10 l11 l12 l13 : AV} {l0 : Option Nat} {h : AH} : evL 114 13 [.inr (.inl l0), l1, l2, l3, l4, l5, l6, l7, l8, l9, l10, l11, l12, l13] [] h = evL 114 14 [.inr (.inl l0), l1, l2, l3, l4, l5, l6, l7, l8, l9, l10, l11, l12, l13] [.inr (.inl l0)] h := ev_go c114_13 rfl
set_option maxRecDepth 20000 in
theorem c114_14 : cd 114 14 = some (14, .bipush 12, 2, 0, 0, 0) := rfl
theorem s114_14 {l0 l1 l2 l3 l4 l5 l6 l7 l8 l9 l10 l11 l12 l13 s0 : AV} {h : AH} : evL 114 14 [l0, l1, l2, l3, l4, l5, l6, l7, l8, l9, l10, l11, l12, l13] [s0] h = evL 114 16 [l0, l1, l2, l3, l4, l5, l6, l7, l8, l9, l10, l11, l12, l13] [I 12, s0] h := ev_go c114_14 rfl
set_option maxRecDepth 20000 in
theorem c114_16 : cd 114 16 = some (16, .invokevirtual 13, 3, 100, 0, 258) := rfl
theorem s114_16 {l0 l1 l2 l3 l4 l5 l6 l7 l8 l9 l10 l11 l12 l13 : AV} {s0 : Int} {s1 : Nat} {M : Mem} {P : PMem} (hk : kd s1 = 7) : evL 114 16 [l0, l1, l2, l3, l4, l5, l6, l7, l8, l9, l10, l11, l12, l13] [I s0, Rf s1] (Hp M P) = cont (evM 100 [Rf s1, I s0] (Hp M P)) (fun r h => evL 114 19 [l0, l1, l2, l3, l4, l5, l6, l7, l8, l9, l10, l11, l12, l13] (rl r []) h) := e_callV (av' := [I s0]) (rest := []) (c := 7) c114_16 rfl rfl rfl rfl rfl rfl rfl hk rfl
set_option maxRecDepth 20000 in
theorem c114_19 : cd 114 19 = some (19, .istore 5, 2, 0, 0, 0) := rfl
theorem s114_19 {l0 l1 l2 l3 l4 l5 l6 l7 l8 l9 l10 l11 l12 l13 : AV} {s0 : Int} {h : AH} : evL 114 19 [l0, l1, l2, l3, l4, l5, l6, l7, l8, l9, l10, l11, l12, l13] [I s0] h = evL 114 21 [l0, l1, l2, l3, l4, I s0, l6, l7, l8, l9, l10, l11, l12, l13] [] h := ev_go c114_19 rfl
set_option maxRecDepth 20000 in
theorem c114_21 : cd 114 21 = some (21, .iload 4, 2, 0, 0, 0) := rfl
theorem s114_21 {l0 l1 l2 l3 l5 l6 l7 l8 l9 l10 l11 l12 l13 : AV} {l4 : Int} {h : AH} : evL 114 21 [l0, l1, l2, l3, I l4, l5, l6, l7, l8, l9, l10, l11, l12, l13] [] h = evL 114 23 [l0, l1, l2, l3, I l4, l5, l6, l7, l8, l9, l10, l11, l12, l13] [I l4] h := ev_go c114_21 rfl
set_option maxRecDepth 20000 in
theorem c114_23 : cd 114 23 = some (23, .iconst 1, 1, 0, 0, 0) := rfl
theorem s114_23 {l0 l1 l2 l3 l4 l5 l6 l7 l8 l9 l10 l11 l12 l13 s0 : AV} {h : AH} : evL 114 23 [l0, l1, l2, l3, l4, l5, l6, l7, l8, l9, l10, l11, l12, l13] [s0] h = evL 114 24 [l0, l1, l2, l3, l4, l5, l6, l7, l8, l9, l10, l11, l12, l13] [I 1, s0] h := ev_go c114_23 rfl
set_option maxRecDepth 20000 in
theorem c114_24 : cd 114 24 = some (24, .if_icmp .ne 12, 3, 0, 0, 0) := rfl
theorem s114_24 {l0 l1 l2 l3 l4 l5 l6 l7 l8 l9 l10 l11 l12 l13 : AV} {s0 s1 : Int} {h : AH} : evL 114 24 [l0, l1, l2, l3, l4, l5, l6, l7, l8, l9, l10, l11, l12, l13] [I s0, I s1] h = if s1 = s0 then evL 114 27 [l0, l1, l2, l3, l4, l5, l6, l7, l8, l9, l10, l11, l12, l13] [] h else evL 114 36 [l0, l1, l2, l3, l4, l5, l6, l7, l8, l9, l10, l11, l12, l13] [] h := e_icmp_ne c114_24 rfl rfl
set_option maxRecDepth 20000 in
theorem c114_27 : cd 114 27 = some (27, .aload_n 0, 1, 0, 0, 0) := rfl
theorem s114_27 {l1 l2 l3 l4 l5 l6 l7 l8 l9 l10 l11 l12 l13 : AV} {l0 : Option Nat} {h : AH} : evL 114 27 [.inr (.inl l0), l1, l2, l3, l4, l5, l6, l7, l8, l9, l10, l11, l12, l13] [] h = evL 114 28 [.inr (.inl l0), l1, l2, l3, l4, l5, l6, l7, l8, l9, l10, l11, l12, l13] [.inr (.inl l0)] h := ev_go c114_27 rfl
set_option maxRecDepth 20000 in
theorem c114_28 : cd 114 28 = some (28, .iload_n 3, 1, 0, 0, 0) := rfl
theorem s114_28 {l0 l1 l2 l4 l5 l6 l7 l8 l9 l10 l11 l12 l13 s0 : AV} {l3 : Int} {h : AH} : evL 114 28 [l0, l1, l2, I l3, l4, l5, l6, l7, l8, l9, l10, l11, l12, l13] [s0] h = evL 114 29 [l0, l1, l2, I l3, l4, l5, l6, l7, l8, l9, l10, l11, l12, l13] [I l3, s0] h := ev_go c114_28 rfl
set_option maxRecDepth 20000 in
theorem c114_29 : cd 114 29 = some (29, .iconst 0, 1, 0, 0, 0) := rfl
theorem s114_29 {l0 l1 l2 l3 l4 l5 l6 l7 l8 l9 l10 l11 l12 l13 s0 s1 : AV} {h : AH} : evL 114 29 [l0, l1, l2, l3, l4, l5, l6, l7, l8, l9, l10, l11, l12, l13] [s0, s1] h = evL 114 30 [l0, l1, l2, l3, l4, l5, l6, l7, l8, l9, l10, l11, l12, l13] [I 0, s0, s1] h := ev_go c114_29 rfl
set_option maxRecDepth 20000 in
theorem c114_30 : cd 114 30 = some (30, .invokevirtual 23, 3, 97, 0, 406) := rfl
theorem s114_30 {l0 l1 l2 l3 l4 l5 l6 l7 l8 l9 l10 l11 l12 l13 : AV} {s0 s1 : Int} {s2 : Nat} {M : Mem} {P : PMem} (hk : kd s2 = 7) : evL 114 30 [l0, l1, l2, l3, l4, l5, l6, l7, l8, l9, l10, l11, l12, l13] [I s0, I s1, Rf s2] (Hp M P) = cont (evM 97 [Rf s2, I s1, I s0] (Hp M P)) (fun r h => evL 114 33 [l0, l1, l2, l3, l4, l5, l6, l7, l8, l9, l10, l11, l12, l13] (rl r []) h) := e_callV (av' := [I s1, I s0]) (rest := []) (c := 7) c114_30 rfl rfl rfl rfl rfl rfl rfl hk rfl
set_option maxRecDepth 20000 in
theorem c114_33 : cd 114 33 = some (33, .goto 4, 3, 0, 0, 0) := rfl
theorem s114_33 {l0 l1 l2 l3 l4 l5 l6 l7 l8 l9 l10 l11 l12 l13 s0 : AV} {h : AH} : evL 114 33 [l0, l1, l2, l3, l4, l5, l6, l7, l8, l9, l10, l11, l12, l13] [s0] h = evL 114 37 [l0, l1, l2, l3, l4, l5, l6, l7, l8, l9, l10, l11, l12, l13] [s0] h := ev_go c114_33 rfl
set_option maxRecDepth 20000 in
theorem c114_36 : cd 114 36 = some (36, .iconst 0, 1, 0, 0, 0) := rfl
theorem s114_36 {l0 l1 l2 l3 l4 l5 l6 l7 l8 l9 l10 l11 l12 l13 : AV} {h : AH} : evL 114 36 [l0, l1, l2, l3, l4, l5, l6, l7, l8, l9, l10, l11, l12, l13] [] h = evL 114 37 [l0, l1, l2, l3, l4, l5, l6, l7, l8, l9, l10, l11, l12, l13] [I 0] h := ev_go c114_36 rfl
set_option maxRecDepth 20000 in
theorem c114_37 : cd 114 37 = some (37, .istore 6, 2, 0, 0, 0) := rfl
theorem s114_37 {l0 l1 l2 l3 l4 l5 l6 l7 l8 l9 l10 l11 l12 l13 : AV} {s0 : Int} {h : AH} : evL 114 37 [l0, l1, l2, l3, l4, l5, l6, l7, l8, l9, l10, l11, l12, l13] [I s0] h = evL 114 39 [l0, l1, l2, l3, l4, l5, I s0, l7, l8, l9, l10, l11, l12, l13] [] h := ev_go c114_37 rfl
set_option maxRecDepth 20000 in
theorem c114_39 : cd 114 39 = some (39, .iload 4, 2, 0, 0, 0) := rfl
theorem s114_39 {l0 l1 l2 l3 l5 l6 l7 l8 l9 l10 l11 l12 l13 : AV} {l4 : Int} {h : AH} : evL 114 39 [l0, l1, l2, l3, I l4, l5, l6, l7, l8, l9, l10, l11, l12, l13] [] h = evL 114 41 [l0, l1, l2, l3, I l4, l5, l6, l7, l8, l9, l10, l11, l12, l13] [I l4] h := ev_go c114_39 rfl
set_option maxRecDepth 20000 in
theorem c114_41 : cd 114 41 = some (41, .iconst 1, 1, 0, 0, 0) := rfl
theorem s114_41 {l0 l1 l2 l3 l4 l5 l6 l7 l8 l9 l10 l11 l12 l13 s0 : AV} {h : AH} : evL 114 41 [l0, l1, l2, l3, l4, l5, l6, l7, l8, l9, l10, l11, l12, l13] [s0] h = evL 114 42 [l0, l1, l2, l3, l4, l5, l6, l7, l8, l9, l10, l11, l12, l13] [I 1, s0] h := ev_go c114_41 rfl
set_option maxRecDepth 20000 in
theorem c114_42 : cd 114 42 = some (42, .if_icmp .ne 12, 3, 0, 0, 0) := rfl
theorem s114_42 {l0 l1 l2 l3 l4 l5 l6 l7 l8 l9 l10 l11 l12 l13 : AV} {s0 s1 : Int} {h : AH} : evL 114 42 [l0, l1, l2, l3, l4, l5, l6, l7, l8, l9, l10, l11, l12, l13] [I s0, I s1] h = if s1 = s0 then evL 114 45 [l0, l1, l2, l3, l4, l5, l6, l7, l8, l9, l10, l11, l12, l13] [] h else evL 114 54 [l0, l1, l2, l3, l4, l5, l6, l7, l8, l9, l10, l11, l12, l13] [] h := e_icmp_ne c114_42 rfl rfl
set_option maxRecDepth 20000 in
theorem c114_45 : cd 114 45 = some (45, .aload_n 0, 1, 0, 0, 0) := rfl
theorem s114_45 {l1 l2 l3 l4 l5 l6 l7 l8 l9 l10 l11 l12 l13 : AV} {l0 : Option Nat} {h : AH} : evL 114 45 [.inr (.inl l0), l1, l2, l3, l4, l5, l6, l7, l8, l9, l10, l11, l12, l13] [] h = evL 114 46 [.inr (.inl l0), l1, l2, l3, l4, l5, l6, l7, l8, l9, l10, l11, l12, l13] [.inr (.inl l0)] h := ev_go c114_45 rfl
set_option maxRecDepth 20000 in
theorem c114_46 : cd 114 46 = some (46, .iload_n 3, 1, 0, 0, 0) := rfl
theorem s114_46 {l0 l1 l2 l4 l5 l6 l7 l8 l9 l10 l11 l12 l13 s0 : AV} {l3 : Int} {h : AH} : evL 114 46 [l0, l1, l2, I l3, l4, l5, l6, l7, l8, l9, l10, l11, l12, l13] [s0] h = evL 114 47 [l0, l1, l2, I l3, l4, l5, l6, l7, l8, l9, l10, l11, l12, l13] [I l3, s0] h := ev_go c114_46 rfl
set_option maxRecDepth 20000 in
theorem c114_47 : cd 114 47 = some (47, .iconst 3, 1, 0, 0, 0) := rfl
theorem s114_47 {l0 l1 l2 l3 l4 l5 l6 l7 l8 l9 l10 l11 l12 l13 s0 s1 : AV} {h : AH} : evL 114 47 [l0, l1, l2, l3, l4, l5, l6, l7, l8, l9, l10, l11, l12, l13] [s0, s1] h = evL 114 48 [l0, l1, l2, l3, l4, l5, l6, l7, l8, l9, l10, l11, l12, l13] [I 3, s0, s1] h := ev_go c114_47 rfl
set_option maxRecDepth 20000 in
theorem c114_48 : cd 114 48 = some (48, .invokevirtual 23, 3, 97, 0, 406) := rfl
theorem s114_48 {l0 l1 l2 l3 l4 l5 l6 l7 l8 l9 l10 l11 l12 l13 : AV} {s0 s1 : Int} {s2 : Nat} {M : Mem} {P : PMem} (hk : kd s2 = 7) : evL 114 48 [l0, l1, l2, l3, l4, l5, l6, l7, l8, l9, l10, l11, l12, l13] [I s0, I s1, Rf s2] (Hp M P) = cont (evM 97 [Rf s2, I s1, I s0] (Hp M P)) (fun r h => evL 114 51 [l0, l1, l2, l3, l4, l5, l6, l7, l8, l9, l10, l11, l12, l13] (rl r []) h) := e_callV (av' := [I s1, I s0]) (rest := []) (c := 7) c114_48 rfl rfl rfl rfl rfl rfl rfl hk rfl
set_option maxRecDepth 20000 in
theorem c114_51 : cd 114 51 = some (51, .goto 4, 3, 0, 0, 0) := rfl
theorem s114_51 {l0 l1 l2 l3 l4 l5 l6 l7 l8 l9 l10 l11 l12 l13 s0 : AV} {h : AH} : evL 114 51 [l0, l1, l2, l3, l4, l5, l6, l7, l8, l9, l10, l11, l12, l13] [s0] h = evL 114 55 [l0, l1, l2, l3, l4, l5, l6, l7, l8, l9, l10, l11, l12, l13] [s0] h := ev_go c114_51 rfl
set_option maxRecDepth 20000 in
theorem c114_54 : cd 114 54 = some (54, .iconst 0, 1, 0, 0, 0) := rfl
theorem s114_54 {l0 l1 l2 l3 l4 l5 l6 l7 l8 l9 l10 l11 l12 l13 : AV} {h : AH} : evL 114 54 [l0, l1, l2, l3, l4, l5, l6, l7, l8, l9, l10, l11, l12, l13] [] h = evL 114 55 [l0, l1, l2, l3, l4, l5, l6, l7, l8, l9, l10, l11, l12, l13] [I 0] h := ev_go c114_54 rfl
set_option maxRecDepth 20000 in
theorem c114_55 : cd 114 55 = some (55, .istore 7, 2, 0, 0, 0) := rfl
theorem s114_55 {l0 l1 l2 l3 l4 l5 l6 l7 l8 l9 l10 l11 l12 l13 : AV} {s0 : Int} {h : AH} : evL 114 55 [l0, l1, l2, l3, l4, l5, l6, l7, l8, l9, l10, l11, l12, l13] [I s0] h = evL 114 57 [l0, l1, l2, l3, l4, l5, l6, I s0, l8, l9, l10, l11, l12, l13] [] h := ev_go c114_55 rfl
set_option maxRecDepth 20000 in
theorem c114_57 : cd 114 57 = some (57, .iload 6, 2, 0, 0, 0) := rfl
theorem s114_57 {l0 l1 l2 l3 l4 l5 l7 l8 l9 l10 l11 l12 l13 : AV} {l6 : Int} {h : AH} : evL 114 57 [l0, l1, l2, l3, l4, l5, I l6, l7, l8, l9, l10, l11, l12, l13] [] h = evL 114 59 [l0, l1, l2, l3, l4, l5, I l6, l7, l8, l9, l10, l11, l12, l13] [I l6] h := ev_go c114_57 rfl
set_option maxRecDepth 20000 in
theorem c114_59 : cd 114 59 = some (59, .ifCond .le 13, 3, 0, 0, 0) := rfl
theorem s114_59 {l0 l1 l2 l3 l4 l5 l6 l7 l8 l9 l10 l11 l12 l13 : AV} {s0 : Int} {h : AH} : evL 114 59 [l0, l1, l2, l3, l4, l5, l6, l7, l8, l9, l10, l11, l12, l13] [I s0] h = if s0 ≤ 0 then evL 114 72 [l0, l1, l2, l3, l4, l5, l6, l7, l8, l9, l10, l11, l12, l13] [] h else evL 114 62 [l0, l1, l2, l3, l4, l5, l6, l7, l8, l9, l10, l11, l12, l13] [] h := e_if_le c114_59 rfl rfl
set_option maxRecDepth 20000 in
theorem c114_62 : cd 114 62 = some (62, .aload_n 0, 1, 0, 0, 0) := rfl
theorem s114_62 {l1 l2 l3 l4 l5 l6 l7 l8 l9 l10 l11 l12 l13 : AV} {l0 : Option Nat} {h : AH} : evL 114 62 [.inr (.inl l0), l1, l2, l3, l4, l5, l6, l7, l8, l9, l10, l11, l12, l13] [] h = evL 114 63 [.inr (.inl l0), l1, l2, l3, l4, l5, l6, l7, l8, l9, l10, l11, l12, l13] [.inr (.inl l0)] h := ev_go c114_62 rfl
set_option maxRecDepth 20000 in
theorem c114_63 : cd 114 63 = some (63, .iload 6, 2, 0, 0, 0) := rfl
theorem s114_63 {l0 l1 l2 l3 l4 l5 l7 l8 l9 l10 l11 l12 l13 s0 : AV} {l6 : Int} {h : AH} : evL 114 63 [l0, l1, l2, l3, l4, l5, I l6, l7, l8, l9, l10, l11, l12, l13] [s0] h = evL 114 65 [l0, l1, l2, l3, l4, l5, I l6, l7, l8, l9, l10, l11, l12, l13] [I l6, s0] h := ev_go c114_63 rfl
set_option maxRecDepth 20000 in
theorem c114_65 : cd 114 65 = some (65, .iconst 0, 1, 0, 0, 0) := rfl
theorem s114_65 {l0 l1 l2 l3 l4 l5 l6 l7 l8 l9 l10 l11 l12 l13 s0 s1 : AV} {h : AH} : evL 114 65 [l0, l1, l2, l3, l4, l5, l6, l7, l8, l9, l10, l11, l12, l13] [s0, s1] h = evL 114 66 [l0, l1, l2, l3, l4, l5, l6, l7, l8, l9, l10, l11, l12, l13] [I 0, s0, s1] h := ev_go c114_65 rfl
set_option maxRecDepth 20000 in
theorem c114_66 : cd 114 66 = some (66, .invokevirtual 19, 3, 99, 0, 392) := rfl
theorem s114_66 {l0 l1 l2 l3 l4 l5 l6 l7 l8 l9 l10 l11 l12 l13 : AV} {s0 s1 : Int} {s2 : Nat} {M : Mem} {P : PMem} (hk : kd s2 = 7) : evL 114 66 [l0, l1, l2, l3, l4, l5, l6, l7, l8, l9, l10, l11, l12, l13] [I s0, I s1, Rf s2] (Hp M P) = cont (evM 99 [Rf s2, I s1, I s0] (Hp M P)) (fun r h => evL 114 69 [l0, l1, l2, l3, l4, l5, l6, l7, l8, l9, l10, l11, l12, l13] (rl r []) h) := e_callV (av' := [I s1, I s0]) (rest := []) (c := 7) c114_66 rfl rfl rfl rfl rfl rfl rfl hk rfl
set_option maxRecDepth 20000 in
theorem c114_69 : cd 114 69 = some (69, .goto 4, 3, 0, 0, 0) := rfl
theorem s114_69 {l0 l1 l2 l3 l4 l5 l6 l7 l8 l9 l10 l11 l12 l13 s0 : AV} {h : AH} : evL 114 69 [l0, l1, l2, l3, l4, l5, l6, l7, l8, l9, l10, l11, l12, l13] [s0] h = evL 114 73 [l0, l1, l2, l3, l4, l5, l6, l7, l8, l9, l10, l11, l12, l13] [s0] h := ev_go c114_69 rfl
set_option maxRecDepth 20000 in
theorem c114_72 : cd 114 72 = some (72, .iconst 0, 1, 0, 0, 0) := rfl
theorem s114_72 {l0 l1 l2 l3 l4 l5 l6 l7 l8 l9 l10 l11 l12 l13 : AV} {h : AH} : evL 114 72 [l0, l1, l2, l3, l4, l5, l6, l7, l8, l9, l10, l11, l12, l13] [] h = evL 114 73 [l0, l1, l2, l3, l4, l5, l6, l7, l8, l9, l10, l11, l12, l13] [I 0] h := ev_go c114_72 rfl
set_option maxRecDepth 20000 in
theorem c114_73 : cd 114 73 = some (73, .istore 8, 2, 0, 0, 0) := rfl
theorem s114_73 {l0 l1 l2 l3 l4 l5 l6 l7 l8 l9 l10 l11 l12 l13 : AV} {s0 : Int} {h : AH} : evL 114 73 [l0, l1, l2, l3, l4, l5, l6, l7, l8, l9, l10, l11, l12, l13] [I s0] h = evL 114 75 [l0, l1, l2, l3, l4, l5, l6, l7, I s0, l9, l10, l11, l12, l13] [] h := ev_go c114_73 rfl
set_option maxRecDepth 20000 in
theorem c114_75 : cd 114 75 = some (75, .aload_n 0, 1, 0, 0, 0) := rfl
theorem s114_75 {l1 l2 l3 l4 l5 l6 l7 l8 l9 l10 l11 l12 l13 : AV} {l0 : Option Nat} {h : AH} : evL 114 75 [.inr (.inl l0), l1, l2, l3, l4, l5, l6, l7, l8, l9, l10, l11, l12, l13] [] h = evL 114 76 [.inr (.inl l0), l1, l2, l3, l4, l5, l6, l7, l8, l9, l10, l11, l12, l13] [.inr (.inl l0)] h := ev_go c114_75 rfl
set_option maxRecDepth 20000 in
theorem c114_76 : cd 114 76 = some (76, .iconst 2, 1, 0, 0, 0) := rfl
theorem s114_76 {l0 l1 l2 l3 l4 l5 l6 l7 l8 l9 l10 l11 l12 l13 s0 : AV} {h : AH} : evL 114 76 [l0, l1, l2, l3, l4, l5, l6, l7, l8, l9, l10, l11, l12, l13] [s0] h = evL 114 77 [l0, l1, l2, l3, l4, l5, l6, l7, l8, l9, l10, l11, l12, l13] [I 2, s0] h := ev_go c114_76 rfl
set_option maxRecDepth 20000 in
theorem c114_77 : cd 114 77 = some (77, .invokevirtual 13, 3, 100, 0, 258) := rfl
theorem s114_77 {l0 l1 l2 l3 l4 l5 l6 l7 l8 l9 l10 l11 l12 l13 : AV} {s0 : Int} {s1 : Nat} {M : Mem} {P : PMem} (hk : kd s1 = 7) : evL 114 77 [l0, l1, l2, l3, l4, l5, l6, l7, l8, l9, l10, l11, l12, l13] [I s0, Rf s1] (Hp M P) = cont (evM 100 [Rf s1, I s0] (Hp M P)) (fun r h => evL 114 80 [l0, l1, l2, l3, l4, l5, l6, l7, l8, l9, l10, l11, l12, l13] (rl r []) h) := e_callV (av' := [I s0]) (rest := []) (c := 7) c114_77 rfl rfl rfl rfl rfl rfl rfl hk rfl
set_option maxRecDepth 20000 in
theorem c114_80 : cd 114 80 = some (80, .istore 9, 2, 0, 0, 0) := rfl
theorem s114_80 {l0 l1 l2 l3 l4 l5 l6 l7 l8 l9 l10 l11 l12 l13 : AV} {s0 : Int} {h : AH} : evL 114 80 [l0, l1, l2, l3, l4, l5, l6, l7, l8, l9, l10, l11, l12, l13] [I s0] h = evL 114 82 [l0, l1, l2, l3, l4, l5, l6, l7, l8, I s0, l10, l11, l12, l13] [] h := ev_go c114_80 rfl
set_option maxRecDepth 20000 in
theorem c114_82 : cd 114 82 = some (82, .iload_n 2, 1, 0, 0, 0) := rfl
theorem s114_82 {l0 l1 l3 l4 l5 l6 l7 l8 l9 l10 l11 l12 l13 : AV} {l2 : Int} {h : AH} : evL 114 82 [l0, l1, I l2, l3, l4, l5, l6, l7, l8, l9, l10, l11, l12, l13] [] h = evL 114 83 [l0, l1, I l2, l3, l4, l5, l6, l7, l8, l9, l10, l11, l12, l13] [I l2] h := ev_go c114_82 rfl
set_option maxRecDepth 20000 in
theorem c114_83 : cd 114 83 = some (83, .bipush 9, 2, 0, 0, 0) := rfl
theorem s114_83 {l0 l1 l2 l3 l4 l5 l6 l7 l8 l9 l10 l11 l12 l13 s0 : AV} {h : AH} : evL 114 83 [l0, l1, l2, l3, l4, l5, l6, l7, l8, l9, l10, l11, l12, l13] [s0] h = evL 114 85 [l0, l1, l2, l3, l4, l5, l6, l7, l8, l9, l10, l11, l12, l13] [I 9, s0] h := ev_go c114_83 rfl
set_option maxRecDepth 20000 in
theorem c114_85 : cd 114 85 = some (85, .invokestatic 39, 3, 105, 0, 383) := rfl
theorem s114_85 {l0 l1 l2 l3 l4 l5 l6 l7 l8 l9 l10 l11 l12 l13 : AV} {s0 s1 : Int} {M : Mem} {P : PMem} : evL 114 85 [l0, l1, l2, l3, l4, l5, l6, l7, l8, l9, l10, l11, l12, l13] [I s0, I s1] (Hp M P) = cont (evM 105 [I s1, I s0] (Hp M P)) (fun r h => evL 114 88 [l0, l1, l2, l3, l4, l5, l6, l7, l8, l9, l10, l11, l12, l13] (rl r []) h) := e_callS (av := [I s1, I s0]) (rest := []) c114_85 rfl rfl rfl rfl rfl rfl
set_option maxRecDepth 20000 in
theorem c114_88 : cd 114 88 = some (88, .iconst 2, 1, 0, 0, 0) := rfl
theorem s114_88 {l0 l1 l2 l3 l4 l5 l6 l7 l8 l9 l10 l11 l12 l13 s0 : AV} {h : AH} : evL 114 88 [l0, l1, l2, l3, l4, l5, l6, l7, l8, l9, l10, l11, l12, l13] [s0] h = evL 114 89 [l0, l1, l2, l3, l4, l5, l6, l7, l8, l9, l10, l11, l12, l13] [I 2, s0] h := ev_go c114_88 rfl
set_option maxRecDepth 20000 in
theorem c114_89 : cd 114 89 = some (89, .isub, 1, 0, 0, 0) := rfl
theorem s114_89 {l0 l1 l2 l3 l4 l5 l6 l7 l8 l9 l10 l11 l12 l13 : AV} {s0 s1 : Int} {h : AH} : evL 114 89 [l0, l1, l2, l3, l4, l5, l6, l7, l8, l9, l10, l11, l12, l13] [I s0, I s1] h = evL 114 90 [l0, l1, l2, l3, l4, l5, l6, l7, l8, l9, l10, l11, l12, l13] [I (sb s1 s0)] h := ev_go c114_89 rfl
set_option maxRecDepth 20000 in
theorem c114_90 : cd 114 90 = some (90, .istore 10, 2, 0, 0, 0) := rfl
theorem s114_90 {l0 l1 l2 l3 l4 l5 l6 l7 l8 l9 l10 l11 l12 l13 : AV} {s0 : Int} {h : AH} : evL 114 90 [l0, l1, l2, l3, l4, l5, l6, l7, l8, l9, l10, l11, l12, l13] [I s0] h = evL 114 92 [l0, l1, l2, l3, l4, l5, l6, l7, l8, l9, I s0, l11, l12, l13] [] h := ev_go c114_90 rfl
set_option maxRecDepth 20000 in
theorem c114_92 : cd 114 92 = some (92, .iload 4, 2, 0, 0, 0) := rfl
theorem s114_92 {l0 l1 l2 l3 l5 l6 l7 l8 l9 l10 l11 l12 l13 : AV} {l4 : Int} {h : AH} : evL 114 92 [l0, l1, l2, l3, I l4, l5, l6, l7, l8, l9, l10, l11, l12, l13] [] h = evL 114 94 [l0, l1, l2, l3, I l4, l5, l6, l7, l8, l9, l10, l11, l12, l13] [I l4] h := ev_go c114_92 rfl
set_option maxRecDepth 20000 in
theorem c114_94 : cd 114 94 = some (94, .iconst 2, 1, 0, 0, 0) := rfl
theorem s114_94 {l0 l1 l2 l3 l4 l5 l6 l7 l8 l9 l10 l11 l12 l13 s0 : AV} {h : AH} : evL 114 94 [l0, l1, l2, l3, l4, l5, l6, l7, l8, l9, l10, l11, l12, l13] [s0] h = evL 114 95 [l0, l1, l2, l3, l4, l5, l6, l7, l8, l9, l10, l11, l12, l13] [I 2, s0] h := ev_go c114_94 rfl
set_option maxRecDepth 20000 in
theorem c114_95 : cd 114 95 = some (95, .if_icmp .ne 7, 3, 0, 0, 0) := rfl
theorem s114_95 {l0 l1 l2 l3 l4 l5 l6 l7 l8 l9 l10 l11 l12 l13 : AV} {s0 s1 : Int} {h : AH} : evL 114 95 [l0, l1, l2, l3, l4, l5, l6, l7, l8, l9, l10, l11, l12, l13] [I s0, I s1] h = if s1 = s0 then evL 114 98 [l0, l1, l2, l3, l4, l5, l6, l7, l8, l9, l10, l11, l12, l13] [] h else evL 114 102 [l0, l1, l2, l3, l4, l5, l6, l7, l8, l9, l10, l11, l12, l13] [] h := e_icmp_ne c114_95 rfl rfl
set_option maxRecDepth 20000 in
theorem c114_98 : cd 114 98 = some (98, .iconst 1, 1, 0, 0, 0) := rfl
theorem s114_98 {l0 l1 l2 l3 l4 l5 l6 l7 l8 l9 l10 l11 l12 l13 : AV} {h : AH} : evL 114 98 [l0, l1, l2, l3, l4, l5, l6, l7, l8, l9, l10, l11, l12, l13] [] h = evL 114 99 [l0, l1, l2, l3, l4, l5, l6, l7, l8, l9, l10, l11, l12, l13] [I 1] h := ev_go c114_98 rfl
set_option maxRecDepth 20000 in
theorem c114_99 : cd 114 99 = some (99, .goto 88, 3, 0, 0, 0) := rfl
theorem s114_99 {l0 l1 l2 l3 l4 l5 l6 l7 l8 l9 l10 l11 l12 l13 s0 : AV} {h : AH} : evL 114 99 [l0, l1, l2, l3, l4, l5, l6, l7, l8, l9, l10, l11, l12, l13] [s0] h = evL 114 187 [l0, l1, l2, l3, l4, l5, l6, l7, l8, l9, l10, l11, l12, l13] [s0] h := ev_go c114_99 rfl
set_option maxRecDepth 20000 in
theorem c114_102 : cd 114 102 = some (102, .iload 4, 2, 0, 0, 0) := rfl
theorem s114_102 {l0 l1 l2 l3 l5 l6 l7 l8 l9 l10 l11 l12 l13 : AV} {l4 : Int} {h : AH} : evL 114 102 [l0, l1, l2, l3, I l4, l5, l6, l7, l8, l9, l10, l11, l12, l13] [] h = evL 114 104 [l0, l1, l2, l3, I l4, l5, l6, l7, l8, l9, l10, l11, l12, l13] [I l4] h := ev_go c114_102 rfl
set_option maxRecDepth 20000 in
theorem c114_104 : cd 114 104 = some (104, .ifCond .ne 7, 3, 0, 0, 0) := rfl
theorem s114_104 {l0 l1 l2 l3 l4 l5 l6 l7 l8 l9 l10 l11 l12 l13 : AV} {s0 : Int} {h : AH} : evL 114 104 [l0, l1, l2, l3, l4, l5, l6, l7, l8, l9, l10, l11, l12, l13] [I s0] h = if s0 = 0 then evL 114 107 [l0, l1, l2, l3, l4, l5, l6, l7, l8, l9, l10, l11, l12, l13] [] h else evL 114 111 [l0, l1, l2, l3, l4, l5, l6, l7, l8, l9, l10, l11, l12, l13] [] h := e_if_ne c114_104 rfl rfl
set_option maxRecDepth 20000 in
theorem c114_107 : cd 114 107 = some (107, .iconst 2, 1, 0, 0, 0) := rfl
theorem s114_107 {l0 l1 l2 l3 l4 l5 l6 l7 l8 l9 l10 l11 l12 l13 : AV} {h : AH} : evL 114 107 [l0, l1, l2, l3, l4, l5, l6, l7, l8, l9, l10, l11, l12, l13] [] h = evL 114 108 [l0, l1, l2, l3, l4, l5, l6, l7, l8, l9, l10, l11, l12, l13] [I 2] h := ev_go c114_107 rfl
set_option maxRecDepth 20000 in
theorem c114_108 : cd 114 108 = some (108, .goto 79, 3, 0, 0, 0) := rfl
theorem s114_108 {l0 l1 l2 l3 l4 l5 l6 l7 l8 l9 l10 l11 l12 l13 s0 : AV} {h : AH} : evL 114 108 [l0, l1, l2, l3, l4, l5, l6, l7, l8, l9, l10, l11, l12, l13] [s0] h = evL 114 187 [l0, l1, l2, l3, l4, l5, l6, l7, l8, l9, l10, l11, l12, l13] [s0] h := ev_go c114_108 rfl
set_option maxRecDepth 20000 in
theorem c114_111 : cd 114 111 = some (111, .iload_n 1, 1, 0, 0, 0) := rfl
theorem s114_111 {l0 l2 l3 l4 l5 l6 l7 l8 l9 l10 l11 l12 l13 : AV} {l1 : Int} {h : AH} : evL 114 111 [l0, I l1, l2, l3, l4, l5, l6, l7, l8, l9, l10, l11, l12, l13] [] h = evL 114 112 [l0, I l1, l2, l3, l4, l5, l6, l7, l8, l9, l10, l11, l12, l13] [I l1] h := ev_go c114_111 rfl
set_option maxRecDepth 20000 in
theorem c114_112 : cd 114 112 = some (112, .iconst 2, 1, 0, 0, 0) := rfl
theorem s114_112 {l0 l1 l2 l3 l4 l5 l6 l7 l8 l9 l10 l11 l12 l13 s0 : AV} {h : AH} : evL 114 112 [l0, l1, l2, l3, l4, l5, l6, l7, l8, l9, l10, l11, l12, l13] [s0] h = evL 114 113 [l0, l1, l2, l3, l4, l5, l6, l7, l8, l9, l10, l11, l12, l13] [I 2, s0] h := ev_go c114_112 rfl
set_option maxRecDepth 20000 in
theorem c114_113 : cd 114 113 = some (113, .if_icmp .ne 7, 3, 0, 0, 0) := rfl
theorem s114_113 {l0 l1 l2 l3 l4 l5 l6 l7 l8 l9 l10 l11 l12 l13 : AV} {s0 s1 : Int} {h : AH} : evL 114 113 [l0, l1, l2, l3, l4, l5, l6, l7, l8, l9, l10, l11, l12, l13] [I s0, I s1] h = if s1 = s0 then evL 114 116 [l0, l1, l2, l3, l4, l5, l6, l7, l8, l9, l10, l11, l12, l13] [] h else evL 114 120 [l0, l1, l2, l3, l4, l5, l6, l7, l8, l9, l10, l11, l12, l13] [] h := e_icmp_ne c114_113 rfl rfl
set_option maxRecDepth 20000 in
theorem c114_116 : cd 114 116 = some (116, .iconst 0, 1, 0, 0, 0) := rfl
theorem s114_116 {l0 l1 l2 l3 l4 l5 l6 l7 l8 l9 l10 l11 l12 l13 : AV} {h : AH} : evL 114 116 [l0, l1, l2, l3, l4, l5, l6, l7, l8, l9, l10, l11, l12, l13] [] h = evL 114 117 [l0, l1, l2, l3, l4, l5, l6, l7, l8, l9, l10, l11, l12, l13] [I 0] h := ev_go c114_116 rfl
set_option maxRecDepth 20000 in
theorem c114_117 : cd 114 117 = some (117, .goto 70, 3, 0, 0, 0) := rfl
theorem s114_117 {l0 l1 l2 l3 l4 l5 l6 l7 l8 l9 l10 l11 l12 l13 s0 : AV} {h : AH} : evL 114 117 [l0, l1, l2, l3, l4, l5, l6, l7, l8, l9, l10, l11, l12, l13] [s0] h = evL 114 187 [l0, l1, l2, l3, l4, l5, l6, l7, l8, l9, l10, l11, l12, l13] [s0] h := ev_go c114_117 rfl
set_option maxRecDepth 20000 in
theorem c114_120 : cd 114 120 = some (120, .iload 6, 2, 0, 0, 0) := rfl
theorem s114_120 {l0 l1 l2 l3 l4 l5 l7 l8 l9 l10 l11 l12 l13 : AV} {l6 : Int} {h : AH} : evL 114 120 [l0, l1, l2, l3, l4, l5, I l6, l7, l8, l9, l10, l11, l12, l13] [] h = evL 114 122 [l0, l1, l2, l3, l4, l5, I l6, l7, l8, l9, l10, l11, l12, l13] [I l6] h := ev_go c114_120 rfl
set_option maxRecDepth 20000 in
theorem c114_122 : cd 114 122 = some (122, .ifCond .ne 7, 3, 0, 0, 0) := rfl
theorem s114_122 {l0 l1 l2 l3 l4 l5 l6 l7 l8 l9 l10 l11 l12 l13 : AV} {s0 : Int} {h : AH} : evL 114 122 [l0, l1, l2, l3, l4, l5, l6, l7, l8, l9, l10, l11, l12, l13] [I s0] h = if s0 = 0 then evL 114 125 [l0, l1, l2, l3, l4, l5, l6, l7, l8, l9, l10, l11, l12, l13] [] h else evL 114 129 [l0, l1, l2, l3, l4, l5, l6, l7, l8, l9, l10, l11, l12, l13] [] h := e_if_ne c114_122 rfl rfl
set_option maxRecDepth 20000 in
theorem c114_125 : cd 114 125 = some (125, .iconst 5, 1, 0, 0, 0) := rfl
theorem s114_125 {l0 l1 l2 l3 l4 l5 l6 l7 l8 l9 l10 l11 l12 l13 : AV} {h : AH} : evL 114 125 [l0, l1, l2, l3, l4, l5, l6, l7, l8, l9, l10, l11, l12, l13] [] h = evL 114 126 [l0, l1, l2, l3, l4, l5, l6, l7, l8, l9, l10, l11, l12, l13] [I 5] h := ev_go c114_125 rfl
set_option maxRecDepth 20000 in
theorem c114_126 : cd 114 126 = some (126, .goto 61, 3, 0, 0, 0) := rfl
theorem s114_126 {l0 l1 l2 l3 l4 l5 l6 l7 l8 l9 l10 l11 l12 l13 s0 : AV} {h : AH} : evL 114 126 [l0, l1, l2, l3, l4, l5, l6, l7, l8, l9, l10, l11, l12, l13] [s0] h = evL 114 187 [l0, l1, l2, l3, l4, l5, l6, l7, l8, l9, l10, l11, l12, l13] [s0] h := ev_go c114_126 rfl
set_option maxRecDepth 20000 in
theorem c114_129 : cd 114 129 = some (129, .iload_n 1, 1, 0, 0, 0) := rfl
theorem s114_129 {l0 l2 l3 l4 l5 l6 l7 l8 l9 l10 l11 l12 l13 : AV} {l1 : Int} {h : AH} : evL 114 129 [l0, I l1, l2, l3, l4, l5, l6, l7, l8, l9, l10, l11, l12, l13] [] h = evL 114 130 [l0, I l1, l2, l3, l4, l5, l6, l7, l8, l9, l10, l11, l12, l13] [I l1] h := ev_go c114_129 rfl
set_option maxRecDepth 20000 in
theorem c114_130 : cd 114 130 = some (130, .ifCond .ne 29, 3, 0, 0, 0) := rfl
theorem s114_130 {l0 l1 l2 l3 l4 l5 l6 l7 l8 l9 l10 l11 l12 l13 : AV} {s0 : Int} {h : AH} : evL 114 130 [l0, l1, l2, l3, l4, l5, l6, l7, l8, l9, l10, l11, l12, l13] [I s0] h = if s0 = 0 then evL 114 133 [l0, l1, l2, l3, l4, l5, l6, l7, l8, l9, l10, l11, l12, l13] [] h else evL 114 159 [l0, l1, l2, l3, l4, l5, l6, l7, l8, l9, l10, l11, l12, l13] [] h := e_if_ne c114_130 rfl rfl
set_option maxRecDepth 20000 in
theorem c114_133 : cd 114 133 = some (133, .iload 8, 2, 0, 0, 0) := rfl
theorem s114_133 {l0 l1 l2 l3 l4 l5 l6 l7 l9 l10 l11 l12 l13 : AV} {l8 : Int} {h : AH} : evL 114 133 [l0, l1, l2, l3, l4, l5, l6, l7, I l8, l9, l10, l11, l12, l13] [] h = evL 114 135 [l0, l1, l2, l3, l4, l5, l6, l7, I l8, l9, l10, l11, l12, l13] [I l8] h := ev_go c114_133 rfl
set_option maxRecDepth 20000 in
theorem c114_135 : cd 114 135 = some (135, .ifCond .ne 8, 3, 0, 0, 0) := rfl
theorem s114_135 {l0 l1 l2 l3 l4 l5 l6 l7 l8 l9 l10 l11 l12 l13 : AV} {s0 : Int} {h : AH} : evL 114 135 [l0, l1, l2, l3, l4, l5, l6, l7, l8, l9, l10, l11, l12, l13] [I s0] h = if s0 = 0 then evL 114 138 [l0, l1, l2, l3, l4, l5, l6, l7, l8, l9, l10, l11, l12, l13] [] h else evL 114 143 [l0, l1, l2, l3, l4, l5, l6, l7, l8, l9, l10, l11, l12, l13] [] h := e_if_ne c114_135 rfl rfl
set_option maxRecDepth 20000 in
theorem c114_138 : cd 114 138 = some (138, .bipush 6, 2, 0, 0, 0) := rfl
theorem s114_138 {l0 l1 l2 l3 l4 l5 l6 l7 l8 l9 l10 l11 l12 l13 : AV} {h : AH} : evL 114 138 [l0, l1, l2, l3, l4, l5, l6, l7, l8, l9, l10, l11, l12, l13] [] h = evL 114 140 [l0, l1, l2, l3, l4, l5, l6, l7, l8, l9, l10, l11, l12, l13] [I 6] h := ev_go c114_138 rfl
set_option maxRecDepth 20000 in
theorem c114_140 : cd 114 140 = some (140, .goto 47, 3, 0, 0, 0) := rfl
theorem s114_140 {l0 l1 l2 l3 l4 l5 l6 l7 l8 l9 l10 l11 l12 l13 s0 : AV} {h : AH} : evL 114 140 [l0, l1, l2, l3, l4, l5, l6, l7, l8, l9, l10, l11, l12, l13] [s0] h = evL 114 187 [l0, l1, l2, l3, l4, l5, l6, l7, l8, l9, l10, l11, l12, l13] [s0] h := ev_go c114_140 rfl
set_option maxRecDepth 20000 in
theorem c114_143 : cd 114 143 = some (143, .iload 7, 2, 0, 0, 0) := rfl
theorem s114_143 {l0 l1 l2 l3 l4 l5 l6 l8 l9 l10 l11 l12 l13 : AV} {l7 : Int} {h : AH} : evL 114 143 [l0, l1, l2, l3, l4, l5, l6, I l7, l8, l9, l10, l11, l12, l13] [] h = evL 114 145 [l0, l1, l2, l3, l4, l5, l6, I l7, l8, l9, l10, l11, l12, l13] [I l7] h := ev_go c114_143 rfl
set_option maxRecDepth 20000 in
theorem c114_145 : cd 114 145 = some (145, .bipush 6, 2, 0, 0, 0) := rfl
theorem s114_145 {l0 l1 l2 l3 l4 l5 l6 l7 l8 l9 l10 l11 l12 l13 s0 : AV} {h : AH} : evL 114 145 [l0, l1, l2, l3, l4, l5, l6, l7, l8, l9, l10, l11, l12, l13] [s0] h = evL 114 147 [l0, l1, l2, l3, l4, l5, l6, l7, l8, l9, l10, l11, l12, l13] [I 6, s0] h := ev_go c114_145 rfl
set_option maxRecDepth 20000 in
theorem c114_147 : cd 114 147 = some (147, .if_icmp .ne 8, 3, 0, 0, 0) := rfl
theorem s114_147 {l0 l1 l2 l3 l4 l5 l6 l7 l8 l9 l10 l11 l12 l13 : AV} {s0 s1 : Int} {h : AH} : evL 114 147 [l0, l1, l2, l3, l4, l5, l6, l7, l8, l9, l10, l11, l12, l13] [I s0, I s1] h = if s1 = s0 then evL 114 150 [l0, l1, l2, l3, l4, l5, l6, l7, l8, l9, l10, l11, l12, l13] [] h else evL 114 155 [l0, l1, l2, l3, l4, l5, l6, l7, l8, l9, l10, l11, l12, l13] [] h := e_icmp_ne c114_147 rfl rfl
set_option maxRecDepth 20000 in
theorem c114_150 : cd 114 150 = some (150, .bipush 8, 2, 0, 0, 0) := rfl
theorem s114_150 {l0 l1 l2 l3 l4 l5 l6 l7 l8 l9 l10 l11 l12 l13 : AV} {h : AH} : evL 114 150 [l0, l1, l2, l3, l4, l5, l6, l7, l8, l9, l10, l11, l12, l13] [] h = evL 114 152 [l0, l1, l2, l3, l4, l5, l6, l7, l8, l9, l10, l11, l12, l13] [I 8] h := ev_go c114_150 rfl
set_option maxRecDepth 20000 in
theorem c114_152 : cd 114 152 = some (152, .goto 35, 3, 0, 0, 0) := rfl
theorem s114_152 {l0 l1 l2 l3 l4 l5 l6 l7 l8 l9 l10 l11 l12 l13 s0 : AV} {h : AH} : evL 114 152 [l0, l1, l2, l3, l4, l5, l6, l7, l8, l9, l10, l11, l12, l13] [s0] h = evL 114 187 [l0, l1, l2, l3, l4, l5, l6, l7, l8, l9, l10, l11, l12, l13] [s0] h := ev_go c114_152 rfl
set_option maxRecDepth 20000 in
theorem c114_155 : cd 114 155 = some (155, .iconst 0, 1, 0, 0, 0) := rfl
theorem s114_155 {l0 l1 l2 l3 l4 l5 l6 l7 l8 l9 l10 l11 l12 l13 : AV} {h : AH} : evL 114 155 [l0, l1, l2, l3, l4, l5, l6, l7, l8, l9, l10, l11, l12, l13] [] h = evL 114 156 [l0, l1, l2, l3, l4, l5, l6, l7, l8, l9, l10, l11, l12, l13] [I 0] h := ev_go c114_155 rfl
set_option maxRecDepth 20000 in
theorem c114_156 : cd 114 156 = some (156, .goto 31, 3, 0, 0, 0) := rfl
theorem s114_156 {l0 l1 l2 l3 l4 l5 l6 l7 l8 l9 l10 l11 l12 l13 s0 : AV} {h : AH} : evL 114 156 [l0, l1, l2, l3, l4, l5, l6, l7, l8, l9, l10, l11, l12, l13] [s0] h = evL 114 187 [l0, l1, l2, l3, l4, l5, l6, l7, l8, l9, l10, l11, l12, l13] [s0] h := ev_go c114_156 rfl
set_option maxRecDepth 20000 in
theorem c114_159 : cd 114 159 = some (159, .iload 10, 2, 0, 0, 0) := rfl
theorem s114_159 {l0 l1 l2 l3 l4 l5 l6 l7 l8 l9 l11 l12 l13 : AV} {l10 : Int} {h : AH} : evL 114 159 [l0, l1, l2, l3, l4, l5, l6, l7, l8, l9, I l10, l11, l12, l13] [] h = evL 114 161 [l0, l1, l2, l3, l4, l5, l6, l7, l8, l9, I l10, l11, l12, l13] [I l10] h := ev_go c114_159 rfl
set_option maxRecDepth 20000 in
theorem c114_161 : cd 114 161 = some (161, .ifCond .lt 10, 3, 0, 0, 0) := rfl
theorem s114_161 {l0 l1 l2 l3 l4 l5 l6 l7 l8 l9 l10 l11 l12 l13 : AV} {s0 : Int} {h : AH} : evL 114 161 [l0, l1, l2, l3, l4, l5, l6, l7, l8, l9, l10, l11, l12, l13] [I s0] h = if s0 < 0 then evL 114 171 [l0, l1, l2, l3, l4, l5, l6, l7, l8, l9, l10, l11, l12, l13] [] h else evL 114 164 [l0, l1, l2, l3, l4, l5, l6, l7, l8, l9, l10, l11, l12, l13] [] h := e_if_lt c114_161 rfl rfl
set_option maxRecDepth 20000 in
theorem c114_164 : cd 114 164 = some (164, .iload 10, 2, 0, 0, 0) := rfl
theorem s114_164 {l0 l1 l2 l3 l4 l5 l6 l7 l8 l9 l11 l12 l13 : AV} {l10 : Int} {h : AH} : evL 114 164 [l0, l1, l2, l3, l4, l5, l6, l7, l8, l9, I l10, l11, l12, l13] [] h = evL 114 166 [l0, l1, l2, l3, l4, l5, l6, l7, l8, l9, I l10, l11, l12, l13] [I l10] h := ev_go c114_164 rfl
set_option maxRecDepth 20000 in
theorem c114_166 : cd 114 166 = some (166, .iload 7, 2, 0, 0, 0) := rfl
theorem s114_166 {l0 l1 l2 l3 l4 l5 l6 l8 l9 l10 l11 l12 l13 s0 : AV} {l7 : Int} {h : AH} : evL 114 166 [l0, l1, l2, l3, l4, l5, l6, I l7, l8, l9, l10, l11, l12, l13] [s0] h = evL 114 168 [l0, l1, l2, l3, l4, l5, l6, I l7, l8, l9, l10, l11, l12, l13] [I l7, s0] h := ev_go c114_166 rfl
set_option maxRecDepth 20000 in
theorem c114_168 : cd 114 168 = some (168, .if_icmp .lt 8, 3, 0, 0, 0) := rfl
theorem s114_168 {l0 l1 l2 l3 l4 l5 l6 l7 l8 l9 l10 l11 l12 l13 : AV} {s0 s1 : Int} {h : AH} : evL 114 168 [l0, l1, l2, l3, l4, l5, l6, l7, l8, l9, l10, l11, l12, l13] [I s0, I s1] h = if s1 < s0 then evL 114 176 [l0, l1, l2, l3, l4, l5, l6, l7, l8, l9, l10, l11, l12, l13] [] h else evL 114 171 [l0, l1, l2, l3, l4, l5, l6, l7, l8, l9, l10, l11, l12, l13] [] h := e_icmp_lt c114_168 rfl rfl
set_option maxRecDepth 20000 in
theorem c114_171 : cd 114 171 = some (171, .bipush 6, 2, 0, 0, 0) := rfl
theorem s114_171 {l0 l1 l2 l3 l4 l5 l6 l7 l8 l9 l10 l11 l12 l13 : AV} {h : AH} : evL 114 171 [l0, l1, l2, l3, l4, l5, l6, l7, l8, l9, l10, l11, l12, l13] [] h = evL 114 173 [l0, l1, l2, l3, l4, l5, l6, l7, l8, l9, l10, l11, l12, l13] [I 6] h := ev_go c114_171 rfl
set_option maxRecDepth 20000 in
theorem c114_173 : cd 114 173 = some (173, .goto 14, 3, 0, 0, 0) := rfl
theorem s114_173 {l0 l1 l2 l3 l4 l5 l6 l7 l8 l9 l10 l11 l12 l13 s0 : AV} {h : AH} : evL 114 173 [l0, l1, l2, l3, l4, l5, l6, l7, l8, l9, l10, l11, l12, l13] [s0] h = evL 114 187 [l0, l1, l2, l3, l4, l5, l6, l7, l8, l9, l10, l11, l12, l13] [s0] h := ev_go c114_173 rfl
set_option maxRecDepth 20000 in
theorem c114_176 : cd 114 176 = some (176, .iload 8, 2, 0, 0, 0) := rfl
theorem s114_176 {l0 l1 l2 l3 l4 l5 l6 l7 l9 l10 l11 l12 l13 : AV} {l8 : Int} {h : AH} : evL 114 176 [l0, l1, l2, l3, l4, l5, l6, l7, I l8, l9, l10, l11, l12, l13] [] h = evL 114 178 [l0, l1, l2, l3, l4, l5, l6, l7, I l8, l9, l10, l11, l12, l13] [I l8] h := ev_go c114_176 rfl
set_option maxRecDepth 20000 in
theorem c114_178 : cd 114 178 = some (178, .ifCond .le 8, 3, 0, 0, 0) := rfl
theorem s114_178 {l0 l1 l2 l3 l4 l5 l6 l7 l8 l9 l10 l11 l12 l13 : AV} {s0 : Int} {h : AH} : evL 114 178 [l0, l1, l2, l3, l4, l5, l6, l7, l8, l9, l10, l11, l12, l13] [I s0] h = if s0 ≤ 0 then evL 114 186 [l0, l1, l2, l3, l4, l5, l6, l7, l8, l9, l10, l11, l12, l13] [] h else evL 114 181 [l0, l1, l2, l3, l4, l5, l6, l7, l8, l9, l10, l11, l12, l13] [] h := e_if_le c114_178 rfl rfl
set_option maxRecDepth 20000 in
theorem c114_181 : cd 114 181 = some (181, .bipush 7, 2, 0, 0, 0) := rfl
theorem s114_181 {l0 l1 l2 l3 l4 l5 l6 l7 l8 l9 l10 l11 l12 l13 : AV} {h : AH} : evL 114 181 [l0, l1, l2, l3, l4, l5, l6, l7, l8, l9, l10, l11, l12, l13] [] h = evL 114 183 [l0, l1, l2, l3, l4, l5, l6, l7, l8, l9, l10, l11, l12, l13] [I 7] h := ev_go c114_181 rfl
set_option maxRecDepth 20000 in
theorem c114_183 : cd 114 183 = some (183, .goto 4, 3, 0, 0, 0) := rfl
theorem s114_183 {l0 l1 l2 l3 l4 l5 l6 l7 l8 l9 l10 l11 l12 l13 s0 : AV} {h : AH} : evL 114 183 [l0, l1, l2, l3, l4, l5, l6, l7, l8, l9, l10, l11, l12, l13] [s0] h = evL 114 187 [l0, l1, l2, l3, l4, l5, l6, l7, l8, l9, l10, l11, l12, l13] [s0] h := ev_go c114_183 rfl
set_option maxRecDepth 20000 in
theorem c114_186 : cd 114 186 = some (186, .iconst 0, 1, 0, 0, 0) := rfl
theorem s114_186 {l0 l1 l2 l3 l4 l5 l6 l7 l8 l9 l10 l11 l12 l13 : AV} {h : AH} : evL 114 186 [l0, l1, l2, l3, l4, l5, l6, l7, l8, l9, l10, l11, l12, l13] [] h = evL 114 187 [l0, l1, l2, l3, l4, l5, l6, l7, l8, l9, l10, l11, l12, l13] [I 0] h := ev_go c114_186 rfl
set_option maxRecDepth 20000 in
theorem c114_187 : cd 114 187 = some (187, .istore 11, 2, 0, 0, 0) := rfl
theorem s114_187 {l0 l1 l2 l3 l4 l5 l6 l7 l8 l9 l10 l11 l12 l13 : AV} {s0 : Int} {h : AH} : evL 114 187 [l0, l1, l2, l3, l4, l5, l6, l7, l8, l9, l10, l11, l12, l13] [I s0] h = evL 114 189 [l0, l1, l2, l3, l4, l5, l6, l7, l8, l9, l10, I s0, l12, l13] [] h := ev_go c114_187 rfl
set_option maxRecDepth 20000 in
theorem c114_189 : cd 114 189 = some (189, .iload_n 1, 1, 0, 0, 0) := rfl
theorem s114_189 {l0 l2 l3 l4 l5 l6 l7 l8 l9 l10 l11 l12 l13 : AV} {l1 : Int} {h : AH} : evL 114 189 [l0, I l1, l2, l3, l4, l5, l6, l7, l8, l9, l10, l11, l12, l13] [] h = evL 114 190 [l0, I l1, l2, l3, l4, l5, l6, l7, l8, l9, l10, l11, l12, l13] [I l1] h := ev_go c114_189 rfl
set_option maxRecDepth 20000 in
theorem c114_190 : cd 114 190 = some (190, .ifCond .ne 10, 3, 0, 0, 0) := rfl
theorem s114_190 {l0 l1 l2 l3 l4 l5 l6 l7 l8 l9 l10 l11 l12 l13 : AV} {s0 : Int} {h : AH} : evL 114 190 [l0, l1, l2, l3, l4, l5, l6, l7, l8, l9, l10, l11, l12, l13] [I s0] h = if s0 = 0 then evL 114 193 [l0, l1, l2, l3, l4, l5, l6, l7, l8, l9, l10, l11, l12, l13] [] h else evL 114 200 [l0, l1, l2, l3, l4, l5, l6, l7, l8, l9, l10, l11, l12, l13] [] h := e_if_ne c114_190 rfl rfl
set_option maxRecDepth 20000 in
theorem c114_193 : cd 114 193 = some (193, .aload_n 0, 1, 0, 0, 0) := rfl
theorem s114_193 {l1 l2 l3 l4 l5 l6 l7 l8 l9 l10 l11 l12 l13 : AV} {l0 : Option Nat} {h : AH} : evL 114 193 [.inr (.inl l0), l1, l2, l3, l4, l5, l6, l7, l8, l9, l10, l11, l12, l13] [] h = evL 114 194 [.inr (.inl l0), l1, l2, l3, l4, l5, l6, l7, l8, l9, l10, l11, l12, l13] [.inr (.inl l0)] h := ev_go c114_193 rfl
set_option maxRecDepth 20000 in
theorem c114_194 : cd 114 194 = some (194, .invokevirtual 73, 3, 89, 0, 554) := rfl
theorem s114_194 {l0 l1 l2 l3 l4 l5 l6 l7 l8 l9 l10 l11 l12 l13 : AV} {s0 : Nat} {M : Mem} {P : PMem} (hk : kd s0 = 7) : evL 114 194 [l0, l1, l2, l3, l4, l5, l6, l7, l8, l9, l10, l11, l12, l13] [Rf s0] (Hp M P) = cont (evM 89 [Rf s0] (Hp M P)) (fun r h => evL 114 197 [l0, l1, l2, l3, l4, l5, l6, l7, l8, l9, l10, l11, l12, l13] (rl r []) h) := e_callV (av' := []) (rest := []) (c := 7) c114_194 rfl rfl rfl rfl rfl rfl rfl hk rfl
set_option maxRecDepth 20000 in
theorem c114_197 : cd 114 197 = some (197, .goto 21, 3, 0, 0, 0) := rfl
theorem s114_197 {l0 l1 l2 l3 l4 l5 l6 l7 l8 l9 l10 l11 l12 l13 s0 : AV} {h : AH} : evL 114 197 [l0, l1, l2, l3, l4, l5, l6, l7, l8, l9, l10, l11, l12, l13] [s0] h = evL 114 218 [l0, l1, l2, l3, l4, l5, l6, l7, l8, l9, l10, l11, l12, l13] [s0] h := ev_go c114_197 rfl
set_option maxRecDepth 20000 in
theorem c114_200 : cd 114 200 = some (200, .iload_n 1, 1, 0, 0, 0) := rfl
theorem s114_200 {l0 l2 l3 l4 l5 l6 l7 l8 l9 l10 l11 l12 l13 : AV} {l1 : Int} {h : AH} : evL 114 200 [l0, I l1, l2, l3, l4, l5, l6, l7, l8, l9, l10, l11, l12, l13] [] h = evL 114 201 [l0, I l1, l2, l3, l4, l5, l6, l7, l8, l9, l10, l11, l12, l13] [I l1] h := ev_go c114_200 rfl
set_option maxRecDepth 20000 in
theorem c114_201 : cd 114 201 = some (201, .iconst 1, 1, 0, 0, 0) := rfl
theorem s114_201 {l0 l1 l2 l3 l4 l5 l6 l7 l8 l9 l10 l11 l12 l13 s0 : AV} {h : AH} : evL 114 201 [l0, l1, l2, l3, l4, l5, l6, l7, l8, l9, l10, l11, l12, l13] [s0] h = evL 114 202 [l0, l1, l2, l3, l4, l5, l6, l7, l8, l9, l10, l11, l12, l13] [I 1, s0] h := ev_go c114_201 rfl
set_option maxRecDepth 20000 in
theorem c114_202 : cd 114 202 = some (202, .if_icmp .ne 12, 3, 0, 0, 0) := rfl
theorem s114_202 {l0 l1 l2 l3 l4 l5 l6 l7 l8 l9 l10 l11 l12 l13 : AV} {s0 s1 : Int} {h : AH} : evL 114 202 [l0, l1, l2, l3, l4, l5, l6, l7, l8, l9, l10, l11, l12, l13] [I s0, I s1] h = if s1 = s0 then evL 114 205 [l0, l1, l2, l3, l4, l5, l6, l7, l8, l9, l10, l11, l12, l13] [] h else evL 114 214 [l0, l1, l2, l3, l4, l5, l6, l7, l8, l9, l10, l11, l12, l13] [] h := e_icmp_ne c114_202 rfl rfl
set_option maxRecDepth 20000 in
theorem c114_205 : cd 114 205 = some (205, .aload_n 0, 1, 0, 0, 0) := rfl
theorem s114_205 {l1 l2 l3 l4 l5 l6 l7 l8 l9 l10 l11 l12 l13 : AV} {l0 : Option Nat} {h : AH} : evL 114 205 [.inr (.inl l0), l1, l2, l3, l4, l5, l6, l7, l8, l9, l10, l11, l12, l13] [] h = evL 114 206 [.inr (.inl l0), l1, l2, l3, l4, l5, l6, l7, l8, l9, l10, l11, l12, l13] [.inr (.inl l0)] h := ev_go c114_205 rfl
set_option maxRecDepth 20000 in
theorem c114_206 : cd 114 206 = some (206, .iload 10, 2, 0, 0, 0) := rfl
theorem s114_206 {l0 l1 l2 l3 l4 l5 l6 l7 l8 l9 l11 l12 l13 s0 : AV} {l10 : Int} {h : AH} : evL 114 206 [l0, l1, l2, l3, l4, l5, l6, l7, l8, l9, I l10, l11, l12, l13] [s0] h = evL 114 208 [l0, l1, l2, l3, l4, l5, l6, l7, l8, l9, I l10, l11, l12, l13] [I l10, s0] h := ev_go c114_206 rfl
set_option maxRecDepth 20000 in
theorem c114_208 : cd 114 208 = some (208, .invokevirtual 76, 3, 90, 0, 630) := rfl
theorem s114_208 {l0 l1 l2 l3 l4 l5 l6 l7 l8 l9 l10 l11 l12 l13 : AV} {s0 : Int} {s1 : Nat} {M : Mem} {P : PMem} (hk : kd s1 = 7) : evL 114 208 [l0, l1, l2, l3, l4, l5, l6, l7, l8, l9, l10, l11, l12, l13] [I s0, Rf s1] (Hp M P) = cont (evM 90 [Rf s1, I s0] (Hp M P)) (fun r h => evL 114 211 [l0, l1, l2, l3, l4, l5, l6, l7, l8, l9, l10, l11, l12, l13] (rl r []) h) := e_callV (av' := [I s0]) (rest := []) (c := 7) c114_208 rfl rfl rfl rfl rfl rfl rfl hk rfl
set_option maxRecDepth 20000 in
theorem c114_211 : cd 114 211 = some (211, .goto 7, 3, 0, 0, 0) := rfl
theorem s114_211 {l0 l1 l2 l3 l4 l5 l6 l7 l8 l9 l10 l11 l12 l13 s0 : AV} {h : AH} : evL 114 211 [l0, l1, l2, l3, l4, l5, l6, l7, l8, l9, l10, l11, l12, l13] [s0] h = evL 114 218 [l0, l1, l2, l3, l4, l5, l6, l7, l8, l9, l10, l11, l12, l13] [s0] h := ev_go c114_211 rfl
set_option maxRecDepth 20000 in
theorem c114_214 : cd 114 214 = some (214, .aload_n 0, 1, 0, 0, 0) := rfl
theorem s114_214 {l1 l2 l3 l4 l5 l6 l7 l8 l9 l10 l11 l12 l13 : AV} {l0 : Option Nat} {h : AH} : evL 114 214 [.inr (.inl l0), l1, l2, l3, l4, l5, l6, l7, l8, l9, l10, l11, l12, l13] [] h = evL 114 215 [.inr (.inl l0), l1, l2, l3, l4, l5, l6, l7, l8, l9, l10, l11, l12, l13] [.inr (.inl l0)] h := ev_go c114_214 rfl
set_option maxRecDepth 20000 in
theorem c114_215 : cd 114 215 = some (215, .invokevirtual 79, 3, 91, 0, 634) := rfl
theorem s114_215 {l0 l1 l2 l3 l4 l5 l6 l7 l8 l9 l10 l11 l12 l13 : AV} {s0 : Nat} {M : Mem} {P : PMem} (hk : kd s0 = 7) : evL 114 215 [l0, l1, l2, l3, l4, l5, l6, l7, l8, l9, l10, l11, l12, l13] [Rf s0] (Hp M P) = cont (evM 91 [Rf s0] (Hp M P)) (fun r h => evL 114 218 [l0, l1, l2, l3, l4, l5, l6, l7, l8, l9, l10, l11, l12, l13] (rl r []) h) := e_callV (av' := []) (rest := []) (c := 7) c114_215 rfl rfl rfl rfl rfl rfl rfl hk rfl
set_option maxRecDepth 20000 in
theorem c114_218 : cd 114 218 = some (218, .istore 12, 2, 0, 0, 0) := rfl
theorem s114_218 {l0 l1 l2 l3 l4 l5 l6 l7 l8 l9 l10 l11 l12 l13 : AV} {s0 : Int} {h : AH} : evL 114 218 [l0, l1, l2, l3, l4, l5, l6, l7, l8, l9, l10, l11, l12, l13] [I s0] h = evL 114 220 [l0, l1, l2, l3, l4, l5, l6, l7, l8, l9, l10, l11, I s0, l13] [] h := ev_go c114_218 rfl
set_option maxRecDepth 20000 in
theorem c114_220 : cd 114 220 = some (220, .iload 11, 2, 0, 0, 0) := rfl
theorem s114_220 {l0 l1 l2 l3 l4 l5 l6 l7 l8 l9 l10 l12 l13 : AV} {l11 : Int} {h : AH} : evL 114 220 [l0, l1, l2, l3, l4, l5, l6, l7, l8, l9, l10, I l11, l12, l13] [] h = evL 114 222 [l0, l1, l2, l3, l4, l5, l6, l7, l8, l9, l10, I l11, l12, l13] [I l11] h := ev_go c114_220 rfl
set_option maxRecDepth 20000 in
theorem c114_222 : cd 114 222 = some (222, .ifCond .le 58, 3, 0, 0, 0) := rfl
theorem s114_222 {l0 l1 l2 l3 l4 l5 l6 l7 l8 l9 l10 l11 l12 l13 : AV} {s0 : Int} {h : AH} : evL 114 222 [l0, l1, l2, l3, l4, l5, l6, l7, l8, l9, l10, l11, l12, l13] [I s0] h = if s0 ≤ 0 then evL 114 280 [l0, l1, l2, l3, l4, l5, l6, l7, l8, l9, l10, l11, l12, l13] [] h else evL 114 225 [l0, l1, l2, l3, l4, l5, l6, l7, l8, l9, l10, l11, l12, l13] [] h := e_if_le c114_222 rfl rfl
set_option maxRecDepth 20000 in
theorem c114_225 : cd 114 225 = some (225, .iload 12, 2, 0, 0, 0) := rfl
theorem s114_225 {l0 l1 l2 l3 l4 l5 l6 l7 l8 l9 l10 l11 l13 : AV} {l12 : Int} {h : AH} : evL 114 225 [l0, l1, l2, l3, l4, l5, l6, l7, l8, l9, l10, l11, I l12, l13] [] h = evL 114 227 [l0, l1, l2, l3, l4, l5, l6, l7, l8, l9, l10, l11, I l12, l13] [I l12] h := ev_go c114_225 rfl
set_option maxRecDepth 20000 in
theorem c114_227 : cd 114 227 = some (227, .iload 11, 2, 0, 0, 0) := rfl
theorem s114_227 {l0 l1 l2 l3 l4 l5 l6 l7 l8 l9 l10 l12 l13 s0 : AV} {l11 : Int} {h : AH} : evL 114 227 [l0, l1, l2, l3, l4, l5, l6, l7, l8, l9, l10, I l11, l12, l13] [s0] h = evL 114 229 [l0, l1, l2, l3, l4, l5, l6, l7, l8, l9, l10, I l11, l12, l13] [I l11, s0] h := ev_go c114_227 rfl
set_option maxRecDepth 20000 in
theorem c114_229 : cd 114 229 = some (229, .if_icmp .ne 49, 3, 0, 0, 0) := rfl
theorem s114_229 {l0 l1 l2 l3 l4 l5 l6 l7 l8 l9 l10 l11 l12 l13 : AV} {s0 s1 : Int} {h : AH} : evL 114 229 [l0, l1, l2, l3, l4, l5, l6, l7, l8, l9, l10, l11, l12, l13] [I s0, I s1] h = if s1 = s0 then evL 114 232 [l0, l1, l2, l3, l4, l5, l6, l7, l8, l9, l10, l11, l12, l13] [] h else evL 114 278 [l0, l1, l2, l3, l4, l5, l6, l7, l8, l9, l10, l11, l12, l13] [] h := e_icmp_ne c114_229 rfl rfl
set_option maxRecDepth 20000 in
theorem c114_232 : cd 114 232 = some (232, .aload_n 0, 1, 0, 0, 0) := rfl
theorem s114_232 {l1 l2 l3 l4 l5 l6 l7 l8 l9 l10 l11 l12 l13 : AV} {l0 : Option Nat} {h : AH} : evL 114 232 [.inr (.inl l0), l1, l2, l3, l4, l5, l6, l7, l8, l9, l10, l11, l12, l13] [] h = evL 114 233 [.inr (.inl l0), l1, l2, l3, l4, l5, l6, l7, l8, l9, l10, l11, l12, l13] [.inr (.inl l0)] h := ev_go c114_232 rfl
set_option maxRecDepth 20000 in
theorem c114_233 : cd 114 233 = some (233, .bipush 12, 2, 0, 0, 0) := rfl
theorem s114_233 {l0 l1 l2 l3 l4 l5 l6 l7 l8 l9 l10 l11 l12 l13 s0 : AV} {h : AH} : evL 114 233 [l0, l1, l2, l3, l4, l5, l6, l7, l8, l9, l10, l11, l12, l13] [s0] h = evL 114 235 [l0, l1, l2, l3, l4, l5, l6, l7, l8, l9, l10, l11, l12, l13] [I 12, s0] h := ev_go c114_233 rfl
set_option maxRecDepth 20000 in
theorem c114_235 : cd 114 235 = some (235, .invokevirtual 13, 3, 100, 0, 258) := rfl
theorem s114_235 {l0 l1 l2 l3 l4 l5 l6 l7 l8 l9 l10 l11 l12 l13 : AV} {s0 : Int} {s1 : Nat} {M : Mem} {P : PMem} (hk : kd s1 = 7) : evL 114 235 [l0, l1, l2, l3, l4, l5, l6, l7, l8, l9, l10, l11, l12, l13] [I s0, Rf s1] (Hp M P) = cont (evM 100 [Rf s1, I s0] (Hp M P)) (fun r h => evL 114 238 [l0, l1, l2, l3, l4, l5, l6, l7, l8, l9, l10, l11, l12, l13] (rl r []) h) := e_callV (av' := [I s0]) (rest := []) (c := 7) c114_235 rfl rfl rfl rfl rfl rfl rfl hk rfl
set_option maxRecDepth 20000 in
theorem c114_238 : cd 114 238 = some (238, .iload 5, 2, 0, 0, 0) := rfl
theorem s114_238 {l0 l1 l2 l3 l4 l6 l7 l8 l9 l10 l11 l12 l13 s0 : AV} {l5 : Int} {h : AH} : evL 114 238 [l0, l1, l2, l3, l4, I l5, l6, l7, l8, l9, l10, l11, l12, l13] [s0] h = evL 114 240 [l0, l1, l2, l3, l4, I l5, l6, l7, l8, l9, l10, l11, l12, l13] [I l5, s0] h := ev_go c114_238 rfl
set_option maxRecDepth 20000 in
theorem c114_240 : cd 114 240 = some (240, .iconst 1, 1, 0, 0, 0) := rfl
theorem s114_240 {l0 l1 l2 l3 l4 l5 l6 l7 l8 l9 l10 l11 l12 l13 s0 s1 : AV} {h : AH} : evL 114 240 [l0, l1, l2, l3, l4, l5, l6, l7, l8, l9, l10, l11, l12, l13] [s0, s1] h = evL 114 241 [l0, l1, l2, l3, l4, l5, l6, l7, l8, l9, l10, l11, l12, l13] [I 1, s0, s1] h := ev_go c114_240 rfl
set_option maxRecDepth 20000 in
theorem c114_241 : cd 114 241 = some (241, .iadd, 1, 0, 0, 0) := rfl
theorem s114_241 {l0 l1 l2 l3 l4 l5 l6 l7 l8 l9 l10 l11 l12 l13 s2 : AV} {s0 s1 : Int} {h : AH} : evL 114 241 [l0, l1, l2, l3, l4, l5, l6, l7, l8, l9, l10, l11, l12, l13] [I s0, I s1, s2] h = evL 114 242 [l0, l1, l2, l3, l4, l5, l6, l7, l8, l9, l10, l11, l12, l13] [I (ad s1 s0), s2] h := ev_go c114_241 rfl
set_option maxRecDepth 20000 in
theorem c114_242 : cd 114 242 = some (242, .if_icmp .ne 36, 3, 0, 0, 0) := rfl
theorem s114_242 {l0 l1 l2 l3 l4 l5 l6 l7 l8 l9 l10 l11 l12 l13 : AV} {s0 s1 : Int} {h : AH} : evL 114 242 [l0, l1, l2, l3, l4, l5, l6, l7, l8, l9, l10, l11, l12, l13] [I s0, I s1] h = if s1 = s0 then evL 114 245 [l0, l1, l2, l3, l4, l5, l6, l7, l8, l9, l10, l11, l12, l13] [] h else evL 114 278 [l0, l1, l2, l3, l4, l5, l6, l7, l8, l9, l10, l11, l12, l13] [] h := e_icmp_ne c114_242 rfl rfl
set_option maxRecDepth 20000 in
theorem c114_245 : cd 114 245 = some (245, .aload_n 0, 1, 0, 0, 0) := rfl
theorem s114_245 {l1 l2 l3 l4 l5 l6 l7 l8 l9 l10 l11 l12 l13 : AV} {l0 : Option Nat} {h : AH} : evL 114 245 [.inr (.inl l0), l1, l2, l3, l4, l5, l6, l7, l8, l9, l10, l11, l12, l13] [] h = evL 114 246 [.inr (.inl l0), l1, l2, l3, l4, l5, l6, l7, l8, l9, l10, l11, l12, l13] [.inr (.inl l0)] h := ev_go c114_245 rfl
set_option maxRecDepth 20000 in
theorem c114_246 : cd 114 246 = some (246, .iconst 4, 1, 0, 0, 0) := rfl
theorem s114_246 {l0 l1 l2 l3 l4 l5 l6 l7 l8 l9 l10 l11 l12 l13 s0 : AV} {h : AH} : evL 114 246 [l0, l1, l2, l3, l4, l5, l6, l7, l8, l9, l10, l11, l12, l13] [s0] h = evL 114 247 [l0, l1, l2, l3, l4, l5, l6, l7, l8, l9, l10, l11, l12, l13] [I 4, s0] h := ev_go c114_246 rfl
set_option maxRecDepth 20000 in
theorem c114_247 : cd 114 247 = some (247, .invokevirtual 13, 3, 100, 0, 258) := rfl
theorem s114_247 {l0 l1 l2 l3 l4 l5 l6 l7 l8 l9 l10 l11 l12 l13 : AV} {s0 : Int} {s1 : Nat} {M : Mem} {P : PMem} (hk : kd s1 = 7) : evL 114 247 [l0, l1, l2, l3, l4, l5, l6, l7, l8, l9, l10, l11, l12, l13] [I s0, Rf s1] (Hp M P) = cont (evM 100 [Rf s1, I s0] (Hp M P)) (fun r h => evL 114 250 [l0, l1, l2, l3, l4, l5, l6, l7, l8, l9, l10, l11, l12, l13] (rl r []) h) := e_callV (av' := [I s0]) (rest := []) (c := 7) c114_247 rfl rfl rfl rfl rfl rfl rfl hk rfl
set_option maxRecDepth 20000 in
theorem c114_250 : cd 114 250 = some (250, .iload 4, 2, 0, 0, 0) := rfl
theorem s114_250 {l0 l1 l2 l3 l5 l6 l7 l8 l9 l10 l11 l12 l13 s0 : AV} {l4 : Int} {h : AH} : evL 114 250 [l0, l1, l2, l3, I l4, l5, l6, l7, l8, l9, l10, l11, l12, l13] [s0] h = evL 114 252 [l0, l1, l2, l3, I l4, l5, l6, l7, l8, l9, l10, l11, l12, l13] [I l4, s0] h := ev_go c114_250 rfl
set_option maxRecDepth 20000 in
theorem c114_252 : cd 114 252 = some (252, .if_icmp .ne 26, 3, 0, 0, 0) := rfl
theorem s114_252 {l0 l1 l2 l3 l4 l5 l6 l7 l8 l9 l10 l11 l12 l13 : AV} {s0 s1 : Int} {h : AH} : evL 114 252 [l0, l1, l2, l3, l4, l5, l6, l7, l8, l9, l10, l11, l12, l13] [I s0, I s1] h = if s1 = s0 then evL 114 255 [l0, l1, l2, l3, l4, l5, l6, l7, l8, l9, l10, l11, l12, l13] [] h else evL 114 278 [l0, l1, l2, l3, l4, l5, l6, l7, l8, l9, l10, l11, l12, l13] [] h := e_icmp_ne c114_252 rfl rfl
set_option maxRecDepth 20000 in
theorem c114_255 : cd 114 255 = some (255, .aload_n 0, 1, 0, 0, 0) := rfl
theorem s114_255 {l1 l2 l3 l4 l5 l6 l7 l8 l9 l10 l11 l12 l13 : AV} {l0 : Option Nat} {h : AH} : evL 114 255 [.inr (.inl l0), l1, l2, l3, l4, l5, l6, l7, l8, l9, l10, l11, l12, l13] [] h = evL 114 256 [.inr (.inl l0), l1, l2, l3, l4, l5, l6, l7, l8, l9, l10, l11, l12, l13] [.inr (.inl l0)] h := ev_go c114_255 rfl
set_option maxRecDepth 20000 in
theorem c114_256 : cd 114 256 = some (256, .iconst 3, 1, 0, 0, 0) := rfl
theorem s114_256 {l0 l1 l2 l3 l4 l5 l6 l7 l8 l9 l10 l11 l12 l13 s0 : AV} {h : AH} : evL 114 256 [l0, l1, l2, l3, l4, l5, l6, l7, l8, l9, l10, l11, l12, l13] [s0] h = evL 114 257 [l0, l1, l2, l3, l4, l5, l6, l7, l8, l9, l10, l11, l12, l13] [I 3, s0] h := ev_go c114_256 rfl
set_option maxRecDepth 20000 in
theorem c114_257 : cd 114 257 = some (257, .invokevirtual 13, 3, 100, 0, 258) := rfl
theorem s114_257 {l0 l1 l2 l3 l4 l5 l6 l7 l8 l9 l10 l11 l12 l13 : AV} {s0 : Int} {s1 : Nat} {M : Mem} {P : PMem} (hk : kd s1 = 7) : evL 114 257 [l0, l1, l2, l3, l4, l5, l6, l7, l8, l9, l10, l11, l12, l13] [I s0, Rf s1] (Hp M P) = cont (evM 100 [Rf s1, I s0] (Hp M P)) (fun r h => evL 114 260 [l0, l1, l2, l3, l4, l5, l6, l7, l8, l9, l10, l11, l12, l13] (rl r []) h) := e_callV (av' := [I s0]) (rest := []) (c := 7) c114_257 rfl rfl rfl rfl rfl rfl rfl hk rfl
set_option maxRecDepth 20000 in
theorem c114_260 : cd 114 260 = some (260, .iload_n 3, 1, 0, 0, 0) := rfl
theorem s114_260 {l0 l1 l2 l4 l5 l6 l7 l8 l9 l10 l11 l12 l13 s0 : AV} {l3 : Int} {h : AH} : evL 114 260 [l0, l1, l2, I l3, l4, l5, l6, l7, l8, l9, l10, l11, l12, l13] [s0] h = evL 114 261 [l0, l1, l2, I l3, l4, l5, l6, l7, l8, l9, l10, l11, l12, l13] [I l3, s0] h := ev_go c114_260 rfl
set_option maxRecDepth 20000 in
theorem c114_261 : cd 114 261 = some (261, .if_icmp .ne 17, 3, 0, 0, 0) := rfl
theorem s114_261 {l0 l1 l2 l3 l4 l5 l6 l7 l8 l9 l10 l11 l12 l13 : AV} {s0 s1 : Int} {h : AH} : evL 114 261 [l0, l1, l2, l3, l4, l5, l6, l7, l8, l9, l10, l11, l12, l13] [I s0, I s1] h = if s1 = s0 then evL 114 264 [l0, l1, l2, l3, l4, l5, l6, l7, l8, l9, l10, l11, l12, l13] [] h else evL 114 278 [l0, l1, l2, l3, l4, l5, l6, l7, l8, l9, l10, l11, l12, l13] [] h := e_icmp_ne c114_261 rfl rfl
set_option maxRecDepth 20000 in
theorem c114_264 : cd 114 264 = some (264, .aload_n 0, 1, 0, 0, 0) := rfl
theorem s114_264 {l1 l2 l3 l4 l5 l6 l7 l8 l9 l10 l11 l12 l13 : AV} {l0 : Option Nat} {h : AH} : evL 114 264 [.inr (.inl l0), l1, l2, l3, l4, l5, l6, l7, l8, l9, l10, l11, l12, l13] [] h = evL 114 265 [.inr (.inl l0), l1, l2, l3, l4, l5, l6, l7, l8, l9, l10, l11, l12, l13] [.inr (.inl l0)] h := ev_go c114_264 rfl
set_option maxRecDepth 20000 in
theorem c114_265 : cd 114 265 = some (265, .iconst 2, 1, 0, 0, 0) := rfl
theorem s114_265 {l0 l1 l2 l3 l4 l5 l6 l7 l8 l9 l10 l11 l12 l13 s0 : AV} {h : AH} : evL 114 265 [l0, l1, l2, l3, l4, l5, l6, l7, l8, l9, l10, l11, l12, l13] [s0] h = evL 114 266 [l0, l1, l2, l3, l4, l5, l6, l7, l8, l9, l10, l11, l12, l13] [I 2, s0] h := ev_go c114_265 rfl
set_option maxRecDepth 20000 in
theorem c114_266 : cd 114 266 = some (266, .invokevirtual 13, 3, 100, 0, 258) := rfl
theorem s114_266 {l0 l1 l2 l3 l4 l5 l6 l7 l8 l9 l10 l11 l12 l13 : AV} {s0 : Int} {s1 : Nat} {M : Mem} {P : PMem} (hk : kd s1 = 7) : evL 114 266 [l0, l1, l2, l3, l4, l5, l6, l7, l8, l9, l10, l11, l12, l13] [I s0, Rf s1] (Hp M P) = cont (evM 100 [Rf s1, I s0] (Hp M P)) (fun r h => evL 114 269 [l0, l1, l2, l3, l4, l5, l6, l7, l8, l9, l10, l11, l12, l13] (rl r []) h) := e_callV (av' := [I s0]) (rest := []) (c := 7) c114_266 rfl rfl rfl rfl rfl rfl rfl hk rfl
set_option maxRecDepth 20000 in
theorem c114_269 : cd 114 269 = some (269, .iload 9, 2, 0, 0, 0) := rfl
theorem s114_269 {l0 l1 l2 l3 l4 l5 l6 l7 l8 l10 l11 l12 l13 s0 : AV} {l9 : Int} {h : AH} : evL 114 269 [l0, l1, l2, l3, l4, l5, l6, l7, l8, I l9, l10, l11, l12, l13] [s0] h = evL 114 271 [l0, l1, l2, l3, l4, l5, l6, l7, l8, I l9, l10, l11, l12, l13] [I l9, s0] h := ev_go c114_269 rfl
set_option maxRecDepth 20000 in
theorem c114_271 : cd 114 271 = some (271, .if_icmp .ne 7, 3, 0, 0, 0) := rfl
theorem s114_271 {l0 l1 l2 l3 l4 l5 l6 l7 l8 l9 l10 l11 l12 l13 : AV} {s0 s1 : Int} {h : AH} : evL 114 271 [l0, l1, l2, l3, l4, l5, l6, l7, l8, l9, l10, l11, l12, l13] [I s0, I s1] h = if s1 = s0 then evL 114 274 [l0, l1, l2, l3, l4, l5, l6, l7, l8, l9, l10, l11, l12, l13] [] h else evL 114 278 [l0, l1, l2, l3, l4, l5, l6, l7, l8, l9, l10, l11, l12, l13] [] h := e_icmp_ne c114_271 rfl rfl
set_option maxRecDepth 20000 in
theorem c114_274 : cd 114 274 = some (274, .iconst 1, 1, 0, 0, 0) := rfl
theorem s114_274 {l0 l1 l2 l3 l4 l5 l6 l7 l8 l9 l10 l11 l12 l13 : AV} {h : AH} : evL 114 274 [l0, l1, l2, l3, l4, l5, l6, l7, l8, l9, l10, l11, l12, l13] [] h = evL 114 275 [l0, l1, l2, l3, l4, l5, l6, l7, l8, l9, l10, l11, l12, l13] [I 1] h := ev_go c114_274 rfl
set_option maxRecDepth 20000 in
theorem c114_275 : cd 114 275 = some (275, .goto 4, 3, 0, 0, 0) := rfl
theorem s114_275 {l0 l1 l2 l3 l4 l5 l6 l7 l8 l9 l10 l11 l12 l13 s0 : AV} {h : AH} : evL 114 275 [l0, l1, l2, l3, l4, l5, l6, l7, l8, l9, l10, l11, l12, l13] [s0] h = evL 114 279 [l0, l1, l2, l3, l4, l5, l6, l7, l8, l9, l10, l11, l12, l13] [s0] h := ev_go c114_275 rfl
set_option maxRecDepth 20000 in
theorem c114_278 : cd 114 278 = some (278, .iconst 0, 1, 0, 0, 0) := rfl
theorem s114_278 {l0 l1 l2 l3 l4 l5 l6 l7 l8 l9 l10 l11 l12 l13 : AV} {h : AH} : evL 114 278 [l0, l1, l2, l3, l4, l5, l6, l7, l8, l9, l10, l11, l12, l13] [] h = evL 114 279 [l0, l1, l2, l3, l4, l5, l6, l7, l8, l9, l10, l11, l12, l13] [I 0] h := ev_go c114_278 rfl
set_option maxRecDepth 20000 in
theorem c114_279 : cd 114 279 = some (279, .ireturn, 1, 0, 0, 0) := rfl
theorem s114_279 {l0 l1 l2 l3 l4 l5 l6 l7 l8 l9 l10 l11 l12 l13 : AV} {s0 : Int} {h : AH} (hz : s0 = 0 ∨ s0 = 1) : evL 114 279 [l0, l1, l2, l3, l4, l5, l6, l7, l8, l9, l10, l11, l12, l13] [I s0] h = some (some (I s0), h) := e_ret c114_279 (if_pos hz)
set_option maxRecDepth 20000 in
theorem c114_280 : cd 114 280 = some (280, .iload 12, 2, 0, 0, 0) := rfl
theorem s114_280 {l0 l1 l2 l3 l4 l5 l6 l7 l8 l9 l10 l11 l13 : AV} {l12 : Int} {h : AH} : evL 114 280 [l0, l1, l2, l3, l4, l5, l6, l7, l8, l9, l10, l11, I l12, l13] [] h = evL 114 282 [l0, l1, l2, l3, l4, l5, l6, l7, l8, l9, l10, l11, I l12, l13] [I l12] h := ev_go c114_280 rfl
set_option maxRecDepth 20000 in
theorem c114_282 : cd 114 282 = some (282, .bipush 10, 2, 0, 0, 0) := rfl
theorem s114_282 {l0 l1 l2 l3 l4 l5 l6 l7 l8 l9 l10 l11 l12 l13 s0 : AV} {h : AH} : evL 114 282 [l0, l1, l2, l3, l4, l5, l6, l7, l8, l9, l10, l11, l12, l13] [s0] h = evL 114 284 [l0, l1, l2, l3, l4, l5, l6, l7, l8, l9, l10, l11, l12, l13] [I 10, s0] h := ev_go c114_282 rfl
set_option maxRecDepth 20000 in
theorem c114_284 : cd 114 284 = some (284, .iload_n 1, 1, 0, 0, 0) := rfl
theorem s114_284 {l0 l2 l3 l4 l5 l6 l7 l8 l9 l10 l11 l12 l13 s0 s1 : AV} {l1 : Int} {h : AH} : evL 114 284 [l0, I l1, l2, l3, l4, l5, l6, l7, l8, l9, l10, l11, l12, l13] [s0, s1] h = evL 114 285 [l0, I l1, l2, l3, l4, l5, l6, l7, l8, l9, l10, l11, l12, l13] [I l1, s0, s1] h := ev_go c114_284 rfl
set_option maxRecDepth 20000 in
theorem c114_285 : cd 114 285 = some (285, .ifCond .ne 10, 3, 0, 0, 0) := rfl
theorem s114_285 {l0 l1 l2 l3 l4 l5 l6 l7 l8 l9 l10 l11 l12 l13 s1 s2 : AV} {s0 : Int} {h : AH} : evL 114 285 [l0, l1, l2, l3, l4, l5, l6, l7, l8, l9, l10, l11, l12, l13] [I s0, s1, s2] h = if s0 = 0 then evL 114 288 [l0, l1, l2, l3, l4, l5, l6, l7, l8, l9, l10, l11, l12, l13] [s1, s2] h else evL 114 295 [l0, l1, l2, l3, l4, l5, l6, l7, l8, l9, l10, l11, l12, l13] [s1, s2] h := e_if_ne c114_285 rfl rfl
set_option maxRecDepth 20000 in
theorem c114_288 : cd 114 288 = some (288, .iload 7, 2, 0, 0, 0) := rfl
theorem s114_288 {l0 l1 l2 l3 l4 l5 l6 l8 l9 l10 l11 l12 l13 s0 s1 : AV} {l7 : Int} {h : AH} : evL 114 288 [l0, l1, l2, l3, l4, l5, l6, I l7, l8, l9, l10, l11, l12, l13] [s0, s1] h = evL 114 290 [l0, l1, l2, l3, l4, l5, l6, I l7, l8, l9, l10, l11, l12, l13] [I l7, s0, s1] h := ev_go c114_288 rfl
set_option maxRecDepth 20000 in
theorem c114_290 : cd 114 290 = some (290, .iconst 1, 1, 0, 0, 0) := rfl
theorem s114_290 {l0 l1 l2 l3 l4 l5 l6 l7 l8 l9 l10 l11 l12 l13 s0 s1 s2 : AV} {h : AH} : evL 114 290 [l0, l1, l2, l3, l4, l5, l6, l7, l8, l9, l10, l11, l12, l13] [s0, s1, s2] h = evL 114 291 [l0, l1, l2, l3, l4, l5, l6, l7, l8, l9, l10, l11, l12, l13] [I 1, s0, s1, s2] h := ev_go c114_290 rfl
set_option maxRecDepth 20000 in
theorem c114_291 : cd 114 291 = some (291, .iadd, 1, 0, 0, 0) := rfl
theorem s114_291 {l0 l1 l2 l3 l4 l5 l6 l7 l8 l9 l10 l11 l12 l13 s2 s3 : AV} {s0 s1 : Int} {h : AH} : evL 114 291 [l0, l1, l2, l3, l4, l5, l6, l7, l8, l9, l10, l11, l12, l13] [I s0, I s1, s2, s3] h = evL 114 292 [l0, l1, l2, l3, l4, l5, l6, l7, l8, l9, l10, l11, l12, l13] [I (ad s1 s0), s2, s3] h := ev_go c114_291 rfl
set_option maxRecDepth 20000 in
theorem c114_292 : cd 114 292 = some (292, .goto 16, 3, 0, 0, 0) := rfl
theorem s114_292 {l0 l1 l2 l3 l4 l5 l6 l7 l8 l9 l10 l11 l12 l13 s0 s1 s2 : AV} {h : AH} : evL 114 292 [l0, l1, l2, l3, l4, l5, l6, l7, l8, l9, l10, l11, l12, l13] [s0, s1, s2] h = evL 114 308 [l0, l1, l2, l3, l4, l5, l6, l7, l8, l9, l10, l11, l12, l13] [s0, s1, s2] h := ev_go c114_292 rfl
set_option maxRecDepth 20000 in
theorem c114_295 : cd 114 295 = some (295, .iload_n 1, 1, 0, 0, 0) := rfl
theorem s114_295 {l0 l2 l3 l4 l5 l6 l7 l8 l9 l10 l11 l12 l13 s0 s1 : AV} {l1 : Int} {h : AH} : evL 114 295 [l0, I l1, l2, l3, l4, l5, l6, l7, l8, l9, l10, l11, l12, l13] [s0, s1] h = evL 114 296 [l0, I l1, l2, l3, l4, l5, l6, l7, l8, l9, l10, l11, l12, l13] [I l1, s0, s1] h := ev_go c114_295 rfl
set_option maxRecDepth 20000 in
theorem c114_296 : cd 114 296 = some (296, .iconst 1, 1, 0, 0, 0) := rfl
theorem s114_296 {l0 l1 l2 l3 l4 l5 l6 l7 l8 l9 l10 l11 l12 l13 s0 s1 s2 : AV} {h : AH} : evL 114 296 [l0, l1, l2, l3, l4, l5, l6, l7, l8, l9, l10, l11, l12, l13] [s0, s1, s2] h = evL 114 297 [l0, l1, l2, l3, l4, l5, l6, l7, l8, l9, l10, l11, l12, l13] [I 1, s0, s1, s2] h := ev_go c114_296 rfl
set_option maxRecDepth 20000 in
theorem c114_297 : cd 114 297 = some (297, .if_icmp .ne 10, 3, 0, 0, 0) := rfl
theorem s114_297 {l0 l1 l2 l3 l4 l5 l6 l7 l8 l9 l10 l11 l12 l13 s2 s3 : AV} {s0 s1 : Int} {h : AH} : evL 114 297 [l0, l1, l2, l3, l4, l5, l6, l7, l8, l9, l10, l11, l12, l13] [I s0, I s1, s2, s3] h = if s1 = s0 then evL 114 300 [l0, l1, l2, l3, l4, l5, l6, l7, l8, l9, l10, l11, l12, l13] [s2, s3] h else evL 114 307 [l0, l1, l2, l3, l4, l5, l6, l7, l8, l9, l10, l11, l12, l13] [s2, s3] h := e_icmp_ne c114_297 rfl rfl
set_option maxRecDepth 20000 in
theorem c114_300 : cd 114 300 = some (300, .iload 7, 2, 0, 0, 0) := rfl
theorem s114_300 {l0 l1 l2 l3 l4 l5 l6 l8 l9 l10 l11 l12 l13 s0 s1 : AV} {l7 : Int} {h : AH} : evL 114 300 [l0, l1, l2, l3, l4, l5, l6, I l7, l8, l9, l10, l11, l12, l13] [s0, s1] h = evL 114 302 [l0, l1, l2, l3, l4, l5, l6, I l7, l8, l9, l10, l11, l12, l13] [I l7, s0, s1] h := ev_go c114_300 rfl
set_option maxRecDepth 20000 in
theorem c114_302 : cd 114 302 = some (302, .iconst 1, 1, 0, 0, 0) := rfl
theorem s114_302 {l0 l1 l2 l3 l4 l5 l6 l7 l8 l9 l10 l11 l12 l13 s0 s1 s2 : AV} {h : AH} : evL 114 302 [l0, l1, l2, l3, l4, l5, l6, l7, l8, l9, l10, l11, l12, l13] [s0, s1, s2] h = evL 114 303 [l0, l1, l2, l3, l4, l5, l6, l7, l8, l9, l10, l11, l12, l13] [I 1, s0, s1, s2] h := ev_go c114_302 rfl
set_option maxRecDepth 20000 in
theorem c114_303 : cd 114 303 = some (303, .isub, 1, 0, 0, 0) := rfl
theorem s114_303 {l0 l1 l2 l3 l4 l5 l6 l7 l8 l9 l10 l11 l12 l13 s2 s3 : AV} {s0 s1 : Int} {h : AH} : evL 114 303 [l0, l1, l2, l3, l4, l5, l6, l7, l8, l9, l10, l11, l12, l13] [I s0, I s1, s2, s3] h = evL 114 304 [l0, l1, l2, l3, l4, l5, l6, l7, l8, l9, l10, l11, l12, l13] [I (sb s1 s0), s2, s3] h := ev_go c114_303 rfl
set_option maxRecDepth 20000 in
theorem c114_304 : cd 114 304 = some (304, .goto 4, 3, 0, 0, 0) := rfl
theorem s114_304 {l0 l1 l2 l3 l4 l5 l6 l7 l8 l9 l10 l11 l12 l13 s0 s1 s2 : AV} {h : AH} : evL 114 304 [l0, l1, l2, l3, l4, l5, l6, l7, l8, l9, l10, l11, l12, l13] [s0, s1, s2] h = evL 114 308 [l0, l1, l2, l3, l4, l5, l6, l7, l8, l9, l10, l11, l12, l13] [s0, s1, s2] h := ev_go c114_304 rfl
set_option maxRecDepth 20000 in
theorem c114_307 : cd 114 307 = some (307, .iconst 0, 1, 0, 0, 0) := rfl
theorem s114_307 {l0 l1 l2 l3 l4 l5 l6 l7 l8 l9 l10 l11 l12 l13 s0 s1 : AV} {h : AH} : evL 114 307 [l0, l1, l2, l3, l4, l5, l6, l7, l8, l9, l10, l11, l12, l13] [s0, s1] h = evL 114 308 [l0, l1, l2, l3, l4, l5, l6, l7, l8, l9, l10, l11, l12, l13] [I 0, s0, s1] h := ev_go c114_307 rfl
set_option maxRecDepth 20000 in
theorem c114_308 : cd 114 308 = some (308, .iadd, 1, 0, 0, 0) := rfl
theorem s114_308 {l0 l1 l2 l3 l4 l5 l6 l7 l8 l9 l10 l11 l12 l13 s2 : AV} {s0 s1 : Int} {h : AH} : evL 114 308 [l0, l1, l2, l3, l4, l5, l6, l7, l8, l9, l10, l11, l12, l13] [I s0, I s1, s2] h = evL 114 309 [l0, l1, l2, l3, l4, l5, l6, l7, l8, l9, l10, l11, l12, l13] [I (ad s1 s0), s2] h := ev_go c114_308 rfl
set_option maxRecDepth 20000 in
theorem c114_309 : cd 114 309 = some (309, .if_icmp .ne 27, 3, 0, 0, 0) := rfl
theorem s114_309 {l0 l1 l2 l3 l4 l5 l6 l7 l8 l9 l10 l11 l12 l13 : AV} {s0 s1 : Int} {h : AH} : evL 114 309 [l0, l1, l2, l3, l4, l5, l6, l7, l8, l9, l10, l11, l12, l13] [I s0, I s1] h = if s1 = s0 then evL 114 312 [l0, l1, l2, l3, l4, l5, l6, l7, l8, l9, l10, l11, l12, l13] [] h else evL 114 336 [l0, l1, l2, l3, l4, l5, l6, l7, l8, l9, l10, l11, l12, l13] [] h := e_icmp_ne c114_309 rfl rfl
set_option maxRecDepth 20000 in
theorem c114_312 : cd 114 312 = some (312, .aload_n 0, 1, 0, 0, 0) := rfl
theorem s114_312 {l1 l2 l3 l4 l5 l6 l7 l8 l9 l10 l11 l12 l13 : AV} {l0 : Option Nat} {h : AH} : evL 114 312 [.inr (.inl l0), l1, l2, l3, l4, l5, l6, l7, l8, l9, l10, l11, l12, l13] [] h = evL 114 313 [.inr (.inl l0), l1, l2, l3, l4, l5, l6, l7, l8, l9, l10, l11, l12, l13] [.inr (.inl l0)] h := ev_go c114_312 rfl
set_option maxRecDepth 20000 in
theorem c114_313 : cd 114 313 = some (313, .bipush 12, 2, 0, 0, 0) := rfl
theorem s114_313 {l0 l1 l2 l3 l4 l5 l6 l7 l8 l9 l10 l11 l12 l13 s0 : AV} {h : AH} : evL 114 313 [l0, l1, l2, l3, l4, l5, l6, l7, l8, l9, l10, l11, l12, l13] [s0] h = evL 114 315 [l0, l1, l2, l3, l4, l5, l6, l7, l8, l9, l10, l11, l12, l13] [I 12, s0] h := ev_go c114_313 rfl
set_option maxRecDepth 20000 in
theorem c114_315 : cd 114 315 = some (315, .invokevirtual 13, 3, 100, 0, 258) := rfl
theorem s114_315 {l0 l1 l2 l3 l4 l5 l6 l7 l8 l9 l10 l11 l12 l13 : AV} {s0 : Int} {s1 : Nat} {M : Mem} {P : PMem} (hk : kd s1 = 7) : evL 114 315 [l0, l1, l2, l3, l4, l5, l6, l7, l8, l9, l10, l11, l12, l13] [I s0, Rf s1] (Hp M P) = cont (evM 100 [Rf s1, I s0] (Hp M P)) (fun r h => evL 114 318 [l0, l1, l2, l3, l4, l5, l6, l7, l8, l9, l10, l11, l12, l13] (rl r []) h) := e_callV (av' := [I s0]) (rest := []) (c := 7) c114_315 rfl rfl rfl rfl rfl rfl rfl hk rfl
set_option maxRecDepth 20000 in
theorem c114_318 : cd 114 318 = some (318, .iload 5, 2, 0, 0, 0) := rfl
theorem s114_318 {l0 l1 l2 l3 l4 l6 l7 l8 l9 l10 l11 l12 l13 s0 : AV} {l5 : Int} {h : AH} : evL 114 318 [l0, l1, l2, l3, l4, I l5, l6, l7, l8, l9, l10, l11, l12, l13] [s0] h = evL 114 320 [l0, l1, l2, l3, l4, I l5, l6, l7, l8, l9, l10, l11, l12, l13] [I l5, s0] h := ev_go c114_318 rfl
set_option maxRecDepth 20000 in
theorem c114_320 : cd 114 320 = some (320, .if_icmp .ne 16, 3, 0, 0, 0) := rfl
theorem s114_320 {l0 l1 l2 l3 l4 l5 l6 l7 l8 l9 l10 l11 l12 l13 : AV} {s0 s1 : Int} {h : AH} : evL 114 320 [l0, l1, l2, l3, l4, l5, l6, l7, l8, l9, l10, l11, l12, l13] [I s0, I s1] h = if s1 = s0 then evL 114 323 [l0, l1, l2, l3, l4, l5, l6, l7, l8, l9, l10, l11, l12, l13] [] h else evL 114 336 [l0, l1, l2, l3, l4, l5, l6, l7, l8, l9, l10, l11, l12, l13] [] h := e_icmp_ne c114_320 rfl rfl
set_option maxRecDepth 20000 in
theorem c114_323 : cd 114 323 = some (323, .aload_n 0, 1, 0, 0, 0) := rfl
theorem s114_323 {l1 l2 l3 l4 l5 l6 l7 l8 l9 l10 l11 l12 l13 : AV} {l0 : Option Nat} {h : AH} : evL 114 323 [.inr (.inl l0), l1, l2, l3, l4, l5, l6, l7, l8, l9, l10, l11, l12, l13] [] h = evL 114 324 [.inr (.inl l0), l1, l2, l3, l4, l5, l6, l7, l8, l9, l10, l11, l12, l13] [.inr (.inl l0)] h := ev_go c114_323 rfl
set_option maxRecDepth 20000 in
theorem c114_324 : cd 114 324 = some (324, .iconst 4, 1, 0, 0, 0) := rfl
theorem s114_324 {l0 l1 l2 l3 l4 l5 l6 l7 l8 l9 l10 l11 l12 l13 s0 : AV} {h : AH} : evL 114 324 [l0, l1, l2, l3, l4, l5, l6, l7, l8, l9, l10, l11, l12, l13] [s0] h = evL 114 325 [l0, l1, l2, l3, l4, l5, l6, l7, l8, l9, l10, l11, l12, l13] [I 4, s0] h := ev_go c114_324 rfl
set_option maxRecDepth 20000 in
theorem c114_325 : cd 114 325 = some (325, .invokevirtual 13, 3, 100, 0, 258) := rfl
theorem s114_325 {l0 l1 l2 l3 l4 l5 l6 l7 l8 l9 l10 l11 l12 l13 : AV} {s0 : Int} {s1 : Nat} {M : Mem} {P : PMem} (hk : kd s1 = 7) : evL 114 325 [l0, l1, l2, l3, l4, l5, l6, l7, l8, l9, l10, l11, l12, l13] [I s0, Rf s1] (Hp M P) = cont (evM 100 [Rf s1, I s0] (Hp M P)) (fun r h => evL 114 328 [l0, l1, l2, l3, l4, l5, l6, l7, l8, l9, l10, l11, l12, l13] (rl r []) h) := e_callV (av' := [I s0]) (rest := []) (c := 7) c114_325 rfl rfl rfl rfl rfl rfl rfl hk rfl
set_option maxRecDepth 20000 in
theorem c114_328 : cd 114 328 = some (328, .iconst 1, 1, 0, 0, 0) := rfl
theorem s114_328 {l0 l1 l2 l3 l4 l5 l6 l7 l8 l9 l10 l11 l12 l13 s0 : AV} {h : AH} : evL 114 328 [l0, l1, l2, l3, l4, l5, l6, l7, l8, l9, l10, l11, l12, l13] [s0] h = evL 114 329 [l0, l1, l2, l3, l4, l5, l6, l7, l8, l9, l10, l11, l12, l13] [I 1, s0] h := ev_go c114_328 rfl
set_option maxRecDepth 20000 in
theorem c114_329 : cd 114 329 = some (329, .if_icmp .eq 7, 3, 0, 0, 0) := rfl
theorem s114_329 {l0 l1 l2 l3 l4 l5 l6 l7 l8 l9 l10 l11 l12 l13 : AV} {s0 s1 : Int} {h : AH} : evL 114 329 [l0, l1, l2, l3, l4, l5, l6, l7, l8, l9, l10, l11, l12, l13] [I s0, I s1] h = if s1 = s0 then evL 114 336 [l0, l1, l2, l3, l4, l5, l6, l7, l8, l9, l10, l11, l12, l13] [] h else evL 114 332 [l0, l1, l2, l3, l4, l5, l6, l7, l8, l9, l10, l11, l12, l13] [] h := e_icmp_eq c114_329 rfl rfl
set_option maxRecDepth 20000 in
theorem c114_332 : cd 114 332 = some (332, .iconst 1, 1, 0, 0, 0) := rfl
theorem s114_332 {l0 l1 l2 l3 l4 l5 l6 l7 l8 l9 l10 l11 l12 l13 : AV} {h : AH} : evL 114 332 [l0, l1, l2, l3, l4, l5, l6, l7, l8, l9, l10, l11, l12, l13] [] h = evL 114 333 [l0, l1, l2, l3, l4, l5, l6, l7, l8, l9, l10, l11, l12, l13] [I 1] h := ev_go c114_332 rfl
set_option maxRecDepth 20000 in
theorem c114_333 : cd 114 333 = some (333, .goto 4, 3, 0, 0, 0) := rfl
theorem s114_333 {l0 l1 l2 l3 l4 l5 l6 l7 l8 l9 l10 l11 l12 l13 s0 : AV} {h : AH} : evL 114 333 [l0, l1, l2, l3, l4, l5, l6, l7, l8, l9, l10, l11, l12, l13] [s0] h = evL 114 337 [l0, l1, l2, l3, l4, l5, l6, l7, l8, l9, l10, l11, l12, l13] [s0] h := ev_go c114_333 rfl
set_option maxRecDepth 20000 in
theorem c114_336 : cd 114 336 = some (336, .iconst 0, 1, 0, 0, 0) := rfl
theorem s114_336 {l0 l1 l2 l3 l4 l5 l6 l7 l8 l9 l10 l11 l12 l13 : AV} {h : AH} : evL 114 336 [l0, l1, l2, l3, l4, l5, l6, l7, l8, l9, l10, l11, l12, l13] [] h = evL 114 337 [l0, l1, l2, l3, l4, l5, l6, l7, l8, l9, l10, l11, l12, l13] [I 0] h := ev_go c114_336 rfl
set_option maxRecDepth 20000 in
theorem c114_337 : cd 114 337 = some (337, .istore 13, 2, 0, 0, 0) := rfl
theorem s114_337 {l0 l1 l2 l3 l4 l5 l6 l7 l8 l9 l10 l11 l12 l13 : AV} {s0 : Int} {h : AH} : evL 114 337 [l0, l1, l2, l3, l4, l5, l6, l7, l8, l9, l10, l11, l12, l13] [I s0] h = evL 114 339 [l0, l1, l2, l3, l4, l5, l6, l7, l8, l9, l10, l11, l12, I s0] [] h := ev_go c114_337 rfl
set_option maxRecDepth 20000 in
theorem c114_339 : cd 114 339 = some (339, .iload 13, 2, 0, 0, 0) := rfl
theorem s114_339 {l0 l1 l2 l3 l4 l5 l6 l7 l8 l9 l10 l11 l12 : AV} {l13 : Int} {h : AH} : evL 114 339 [l0, l1, l2, l3, l4, l5, l6, l7, l8, l9, l10, l11, l12, I l13] [] h = evL 114 341 [l0, l1, l2, l3, l4, l5, l6, l7, l8, l9, l10, l11, l12, I l13] [I l13] h := ev_go c114_339 rfl
set_option maxRecDepth 20000 in
theorem c114_341 : cd 114 341 = some (341, .ifCond .eq 93, 3, 0, 0, 0) := rfl
theorem s114_341 {l0 l1 l2 l3 l4 l5 l6 l7 l8 l9 l10 l11 l12 l13 : AV} {s0 : Int} {h : AH} : evL 114 341 [l0, l1, l2, l3, l4, l5, l6, l7, l8, l9, l10, l11, l12, l13] [I s0] h = if s0 = 0 then evL 114 434 [l0, l1, l2, l3, l4, l5, l6, l7, l8, l9, l10, l11, l12, l13] [] h else evL 114 344 [l0, l1, l2, l3, l4, l5, l6, l7, l8, l9, l10, l11, l12, l13] [] h := e_if_eq c114_341 rfl rfl
set_option maxRecDepth 20000 in
theorem c114_344 : cd 114 344 = some (344, .aload_n 0, 1, 0, 0, 0) := rfl
theorem s114_344 {l1 l2 l3 l4 l5 l6 l7 l8 l9 l10 l11 l12 l13 : AV} {l0 : Option Nat} {h : AH} : evL 114 344 [.inr (.inl l0), l1, l2, l3, l4, l5, l6, l7, l8, l9, l10, l11, l12, l13] [] h = evL 114 345 [.inr (.inl l0), l1, l2, l3, l4, l5, l6, l7, l8, l9, l10, l11, l12, l13] [.inr (.inl l0)] h := ev_go c114_344 rfl
set_option maxRecDepth 20000 in
theorem c114_345 : cd 114 345 = some (345, .iconst 2, 1, 0, 0, 0) := rfl
theorem s114_345 {l0 l1 l2 l3 l4 l5 l6 l7 l8 l9 l10 l11 l12 l13 s0 : AV} {h : AH} : evL 114 345 [l0, l1, l2, l3, l4, l5, l6, l7, l8, l9, l10, l11, l12, l13] [s0] h = evL 114 346 [l0, l1, l2, l3, l4, l5, l6, l7, l8, l9, l10, l11, l12, l13] [I 2, s0] h := ev_go c114_345 rfl
set_option maxRecDepth 20000 in
theorem c114_346 : cd 114 346 = some (346, .invokevirtual 13, 3, 100, 0, 258) := rfl
theorem s114_346 {l0 l1 l2 l3 l4 l5 l6 l7 l8 l9 l10 l11 l12 l13 : AV} {s0 : Int} {s1 : Nat} {M : Mem} {P : PMem} (hk : kd s1 = 7) : evL 114 346 [l0, l1, l2, l3, l4, l5, l6, l7, l8, l9, l10, l11, l12, l13] [I s0, Rf s1] (Hp M P) = cont (evM 100 [Rf s1, I s0] (Hp M P)) (fun r h => evL 114 349 [l0, l1, l2, l3, l4, l5, l6, l7, l8, l9, l10, l11, l12, l13] (rl r []) h) := e_callV (av' := [I s0]) (rest := []) (c := 7) c114_346 rfl rfl rfl rfl rfl rfl rfl hk rfl
set_option maxRecDepth 20000 in
theorem c114_349 : cd 114 349 = some (349, .iload 9, 2, 0, 0, 0) := rfl
theorem s114_349 {l0 l1 l2 l3 l4 l5 l6 l7 l8 l10 l11 l12 l13 s0 : AV} {l9 : Int} {h : AH} : evL 114 349 [l0, l1, l2, l3, l4, l5, l6, l7, l8, I l9, l10, l11, l12, l13] [s0] h = evL 114 351 [l0, l1, l2, l3, l4, l5, l6, l7, l8, I l9, l10, l11, l12, l13] [I l9, s0] h := ev_go c114_349 rfl
set_option maxRecDepth 20000 in
theorem c114_351 : cd 114 351 = some (351, .if_icmp .gt 79, 3, 0, 0, 0) := rfl
theorem s114_351 {l0 l1 l2 l3 l4 l5 l6 l7 l8 l9 l10 l11 l12 l13 : AV} {s0 s1 : Int} {h : AH} : evL 114 351 [l0, l1, l2, l3, l4, l5, l6, l7, l8, l9, l10, l11, l12, l13] [I s0, I s1] h = if s0 < s1 then evL 114 430 [l0, l1, l2, l3, l4, l5, l6, l7, l8, l9, l10, l11, l12, l13] [] h else evL 114 354 [l0, l1, l2, l3, l4, l5, l6, l7, l8, l9, l10, l11, l12, l13] [] h := e_icmp_gt c114_351 rfl rfl
set_option maxRecDepth 20000 in
theorem c114_354 : cd 114 354 = some (354, .aload_n 0, 1, 0, 0, 0) := rfl
theorem s114_354 {l1 l2 l3 l4 l5 l6 l7 l8 l9 l10 l11 l12 l13 : AV} {l0 : Option Nat} {h : AH} : evL 114 354 [.inr (.inl l0), l1, l2, l3, l4, l5, l6, l7, l8, l9, l10, l11, l12, l13] [] h = evL 114 355 [.inr (.inl l0), l1, l2, l3, l4, l5, l6, l7, l8, l9, l10, l11, l12, l13] [.inr (.inl l0)] h := ev_go c114_354 rfl
set_option maxRecDepth 20000 in
theorem c114_355 : cd 114 355 = some (355, .iconst 2, 1, 0, 0, 0) := rfl
theorem s114_355 {l0 l1 l2 l3 l4 l5 l6 l7 l8 l9 l10 l11 l12 l13 s0 : AV} {h : AH} : evL 114 355 [l0, l1, l2, l3, l4, l5, l6, l7, l8, l9, l10, l11, l12, l13] [s0] h = evL 114 356 [l0, l1, l2, l3, l4, l5, l6, l7, l8, l9, l10, l11, l12, l13] [I 2, s0] h := ev_go c114_355 rfl
set_option maxRecDepth 20000 in
theorem c114_356 : cd 114 356 = some (356, .invokevirtual 13, 3, 100, 0, 258) := rfl
theorem s114_356 {l0 l1 l2 l3 l4 l5 l6 l7 l8 l9 l10 l11 l12 l13 : AV} {s0 : Int} {s1 : Nat} {M : Mem} {P : PMem} (hk : kd s1 = 7) : evL 114 356 [l0, l1, l2, l3, l4, l5, l6, l7, l8, l9, l10, l11, l12, l13] [I s0, Rf s1] (Hp M P) = cont (evM 100 [Rf s1, I s0] (Hp M P)) (fun r h => evL 114 359 [l0, l1, l2, l3, l4, l5, l6, l7, l8, l9, l10, l11, l12, l13] (rl r []) h) := e_callV (av' := [I s0]) (rest := []) (c := 7) c114_356 rfl rfl rfl rfl rfl rfl rfl hk rfl
set_option maxRecDepth 20000 in
theorem c114_359 : cd 114 359 = some (359, .iload 9, 2, 0, 0, 0) := rfl
theorem s114_359 {l0 l1 l2 l3 l4 l5 l6 l7 l8 l10 l11 l12 l13 s0 : AV} {l9 : Int} {h : AH} : evL 114 359 [l0, l1, l2, l3, l4, l5, l6, l7, l8, I l9, l10, l11, l12, l13] [s0] h = evL 114 361 [l0, l1, l2, l3, l4, l5, l6, l7, l8, I l9, l10, l11, l12, l13] [I l9, s0] h := ev_go c114_359 rfl
set_option maxRecDepth 20000 in
theorem c114_361 : cd 114 361 = some (361, .if_icmp .ne 73, 3, 0, 0, 0) := rfl
theorem s114_361 {l0 l1 l2 l3 l4 l5 l6 l7 l8 l9 l10 l11 l12 l13 : AV} {s0 s1 : Int} {h : AH} : evL 114 361 [l0, l1, l2, l3, l4, l5, l6, l7, l8, l9, l10, l11, l12, l13] [I s0, I s1] h = if s1 = s0 then evL 114 364 [l0, l1, l2, l3, l4, l5, l6, l7, l8, l9, l10, l11, l12, l13] [] h else evL 114 434 [l0, l1, l2, l3, l4, l5, l6, l7, l8, l9, l10, l11, l12, l13] [] h := e_icmp_ne c114_361 rfl rfl
set_option maxRecDepth 20000 in
theorem c114_364 : cd 114 364 = some (364, .aload_n 0, 1, 0, 0, 0) := rfl
theorem s114_364 {l1 l2 l3 l4 l5 l6 l7 l8 l9 l10 l11 l12 l13 : AV} {l0 : Option Nat} {h : AH} : evL 114 364 [.inr (.inl l0), l1, l2, l3, l4, l5, l6, l7, l8, l9, l10, l11, l12, l13] [] h = evL 114 365 [.inr (.inl l0), l1, l2, l3, l4, l5, l6, l7, l8, l9, l10, l11, l12, l13] [.inr (.inl l0)] h := ev_go c114_364 rfl
set_option maxRecDepth 20000 in
theorem c114_365 : cd 114 365 = some (365, .iload_n 3, 1, 0, 0, 0) := rfl
theorem s114_365 {l0 l1 l2 l4 l5 l6 l7 l8 l9 l10 l11 l12 l13 s0 : AV} {l3 : Int} {h : AH} : evL 114 365 [l0, l1, l2, I l3, l4, l5, l6, l7, l8, l9, l10, l11, l12, l13] [s0] h = evL 114 366 [l0, l1, l2, I l3, l4, l5, l6, l7, l8, l9, l10, l11, l12, l13] [I l3, s0] h := ev_go c114_365 rfl
set_option maxRecDepth 20000 in
theorem c114_366 : cd 114 366 = some (366, .iconst 3, 1, 0, 0, 0) := rfl
theorem s114_366 {l0 l1 l2 l3 l4 l5 l6 l7 l8 l9 l10 l11 l12 l13 s0 s1 : AV} {h : AH} : evL 114 366 [l0, l1, l2, l3, l4, l5, l6, l7, l8, l9, l10, l11, l12, l13] [s0, s1] h = evL 114 367 [l0, l1, l2, l3, l4, l5, l6, l7, l8, l9, l10, l11, l12, l13] [I 3, s0, s1] h := ev_go c114_366 rfl
set_option maxRecDepth 20000 in
theorem c114_367 : cd 114 367 = some (367, .invokevirtual 23, 3, 97, 0, 406) := rfl
theorem s114_367 {l0 l1 l2 l3 l4 l5 l6 l7 l8 l9 l10 l11 l12 l13 : AV} {s0 s1 : Int} {s2 : Nat} {M : Mem} {P : PMem} (hk : kd s2 = 7) : evL 114 367 [l0, l1, l2, l3, l4, l5, l6, l7, l8, l9, l10, l11, l12, l13] [I s0, I s1, Rf s2] (Hp M P) = cont (evM 97 [Rf s2, I s1, I s0] (Hp M P)) (fun r h => evL 114 370 [l0, l1, l2, l3, l4, l5, l6, l7, l8, l9, l10, l11, l12, l13] (rl r []) h) := e_callV (av' := [I s1, I s0]) (rest := []) (c := 7) c114_367 rfl rfl rfl rfl rfl rfl rfl hk rfl
set_option maxRecDepth 20000 in
theorem c114_370 : cd 114 370 = some (370, .iload_n 1, 1, 0, 0, 0) := rfl
theorem s114_370 {l0 l2 l3 l4 l5 l6 l7 l8 l9 l10 l11 l12 l13 s0 : AV} {l1 : Int} {h : AH} : evL 114 370 [l0, I l1, l2, l3, l4, l5, l6, l7, l8, l9, l10, l11, l12, l13] [s0] h = evL 114 371 [l0, I l1, l2, l3, l4, l5, l6, l7, l8, l9, l10, l11, l12, l13] [I l1, s0] h := ev_go c114_370 rfl
set_option maxRecDepth 20000 in
theorem c114_371 : cd 114 371 = some (371, .ifCond .ne 10, 3, 0, 0, 0) := rfl
theorem s114_371 {l0 l1 l2 l3 l4 l5 l6 l7 l8 l9 l10 l11 l12 l13 s1 : AV} {s0 : Int} {h : AH} : evL 114 371 [l0, l1, l2, l3, l4, l5, l6, l7, l8, l9, l10, l11, l12, l13] [I s0, s1] h = if s0 = 0 then evL 114 374 [l0, l1, l2, l3, l4, l5, l6, l7, l8, l9, l10, l11, l12, l13] [s1] h else evL 114 381 [l0, l1, l2, l3, l4, l5, l6, l7, l8, l9, l10, l11, l12, l13] [s1] h := e_if_ne c114_371 rfl rfl
set_option maxRecDepth 20000 in
theorem c114_374 : cd 114 374 = some (374, .iload 7, 2, 0, 0, 0) := rfl
theorem s114_374 {l0 l1 l2 l3 l4 l5 l6 l8 l9 l10 l11 l12 l13 s0 : AV} {l7 : Int} {h : AH} : evL 114 374 [l0, l1, l2, l3, l4, l5, l6, I l7, l8, l9, l10, l11, l12, l13] [s0] h = evL 114 376 [l0, l1, l2, l3, l4, l5, l6, I l7, l8, l9, l10, l11, l12, l13] [I l7, s0] h := ev_go c114_374 rfl
set_option maxRecDepth 20000 in
theorem c114_376 : cd 114 376 = some (376, .iconst 1, 1, 0, 0, 0) := rfl
theorem s114_376 {l0 l1 l2 l3 l4 l5 l6 l7 l8 l9 l10 l11 l12 l13 s0 s1 : AV} {h : AH} : evL 114 376 [l0, l1, l2, l3, l4, l5, l6, l7, l8, l9, l10, l11, l12, l13] [s0, s1] h = evL 114 377 [l0, l1, l2, l3, l4, l5, l6, l7, l8, l9, l10, l11, l12, l13] [I 1, s0, s1] h := ev_go c114_376 rfl
set_option maxRecDepth 20000 in
theorem c114_377 : cd 114 377 = some (377, .iadd, 1, 0, 0, 0) := rfl
theorem s114_377 {l0 l1 l2 l3 l4 l5 l6 l7 l8 l9 l10 l11 l12 l13 s2 : AV} {s0 s1 : Int} {h : AH} : evL 114 377 [l0, l1, l2, l3, l4, l5, l6, l7, l8, l9, l10, l11, l12, l13] [I s0, I s1, s2] h = evL 114 378 [l0, l1, l2, l3, l4, l5, l6, l7, l8, l9, l10, l11, l12, l13] [I (ad s1 s0), s2] h := ev_go c114_377 rfl
set_option maxRecDepth 20000 in
theorem c114_378 : cd 114 378 = some (378, .goto 17, 3, 0, 0, 0) := rfl
theorem s114_378 {l0 l1 l2 l3 l4 l5 l6 l7 l8 l9 l10 l11 l12 l13 s0 s1 : AV} {h : AH} : evL 114 378 [l0, l1, l2, l3, l4, l5, l6, l7, l8, l9, l10, l11, l12, l13] [s0, s1] h = evL 114 395 [l0, l1, l2, l3, l4, l5, l6, l7, l8, l9, l10, l11, l12, l13] [s0, s1] h := ev_go c114_378 rfl
set_option maxRecDepth 20000 in
theorem c114_381 : cd 114 381 = some (381, .iload_n 1, 1, 0, 0, 0) := rfl
theorem s114_381 {l0 l2 l3 l4 l5 l6 l7 l8 l9 l10 l11 l12 l13 s0 : AV} {l1 : Int} {h : AH} : evL 114 381 [l0, I l1, l2, l3, l4, l5, l6, l7, l8, l9, l10, l11, l12, l13] [s0] h = evL 114 382 [l0, I l1, l2, l3, l4, l5, l6, l7, l8, l9, l10, l11, l12, l13] [I l1, s0] h := ev_go c114_381 rfl
set_option maxRecDepth 20000 in
theorem c114_382 : cd 114 382 = some (382, .iconst 1, 1, 0, 0, 0) := rfl
theorem s114_382 {l0 l1 l2 l3 l4 l5 l6 l7 l8 l9 l10 l11 l12 l13 s0 s1 : AV} {h : AH} : evL 114 382 [l0, l1, l2, l3, l4, l5, l6, l7, l8, l9, l10, l11, l12, l13] [s0, s1] h = evL 114 383 [l0, l1, l2, l3, l4, l5, l6, l7, l8, l9, l10, l11, l12, l13] [I 1, s0, s1] h := ev_go c114_382 rfl
set_option maxRecDepth 20000 in
theorem c114_383 : cd 114 383 = some (383, .if_icmp .ne 10, 3, 0, 0, 0) := rfl
theorem s114_383 {l0 l1 l2 l3 l4 l5 l6 l7 l8 l9 l10 l11 l12 l13 s2 : AV} {s0 s1 : Int} {h : AH} : evL 114 383 [l0, l1, l2, l3, l4, l5, l6, l7, l8, l9, l10, l11, l12, l13] [I s0, I s1, s2] h = if s1 = s0 then evL 114 386 [l0, l1, l2, l3, l4, l5, l6, l7, l8, l9, l10, l11, l12, l13] [s2] h else evL 114 393 [l0, l1, l2, l3, l4, l5, l6, l7, l8, l9, l10, l11, l12, l13] [s2] h := e_icmp_ne c114_383 rfl rfl
set_option maxRecDepth 20000 in
theorem c114_386 : cd 114 386 = some (386, .iload 7, 2, 0, 0, 0) := rfl
theorem s114_386 {l0 l1 l2 l3 l4 l5 l6 l8 l9 l10 l11 l12 l13 s0 : AV} {l7 : Int} {h : AH} : evL 114 386 [l0, l1, l2, l3, l4, l5, l6, I l7, l8, l9, l10, l11, l12, l13] [s0] h = evL 114 388 [l0, l1, l2, l3, l4, l5, l6, I l7, l8, l9, l10, l11, l12, l13] [I l7, s0] h := ev_go c114_386 rfl
set_option maxRecDepth 20000 in
theorem c114_388 : cd 114 388 = some (388, .iconst 1, 1, 0, 0, 0) := rfl
theorem s114_388 {l0 l1 l2 l3 l4 l5 l6 l7 l8 l9 l10 l11 l12 l13 s0 s1 : AV} {h : AH} : evL 114 388 [l0, l1, l2, l3, l4, l5, l6, l7, l8, l9, l10, l11, l12, l13] [s0, s1] h = evL 114 389 [l0, l1, l2, l3, l4, l5, l6, l7, l8, l9, l10, l11, l12, l13] [I 1, s0, s1] h := ev_go c114_388 rfl
set_option maxRecDepth 20000 in
theorem c114_389 : cd 114 389 = some (389, .isub, 1, 0, 0, 0) := rfl
theorem s114_389 {l0 l1 l2 l3 l4 l5 l6 l7 l8 l9 l10 l11 l12 l13 s2 : AV} {s0 s1 : Int} {h : AH} : evL 114 389 [l0, l1, l2, l3, l4, l5, l6, l7, l8, l9, l10, l11, l12, l13] [I s0, I s1, s2] h = evL 114 390 [l0, l1, l2, l3, l4, l5, l6, l7, l8, l9, l10, l11, l12, l13] [I (sb s1 s0), s2] h := ev_go c114_389 rfl
set_option maxRecDepth 20000 in
theorem c114_390 : cd 114 390 = some (390, .goto 5, 3, 0, 0, 0) := rfl
theorem s114_390 {l0 l1 l2 l3 l4 l5 l6 l7 l8 l9 l10 l11 l12 l13 s0 s1 : AV} {h : AH} : evL 114 390 [l0, l1, l2, l3, l4, l5, l6, l7, l8, l9, l10, l11, l12, l13] [s0, s1] h = evL 114 395 [l0, l1, l2, l3, l4, l5, l6, l7, l8, l9, l10, l11, l12, l13] [s0, s1] h := ev_go c114_390 rfl
set_option maxRecDepth 20000 in
theorem c114_393 : cd 114 393 = some (393, .iload 7, 2, 0, 0, 0) := rfl
theorem s114_393 {l0 l1 l2 l3 l4 l5 l6 l8 l9 l10 l11 l12 l13 s0 : AV} {l7 : Int} {h : AH} : evL 114 393 [l0, l1, l2, l3, l4, l5, l6, I l7, l8, l9, l10, l11, l12, l13] [s0] h = evL 114 395 [l0, l1, l2, l3, l4, l5, l6, I l7, l8, l9, l10, l11, l12, l13] [I l7, s0] h := ev_go c114_393 rfl
set_option maxRecDepth 20000 in
theorem c114_395 : cd 114 395 = some (395, .if_icmp .ne 39, 3, 0, 0, 0) := rfl
theorem s114_395 {l0 l1 l2 l3 l4 l5 l6 l7 l8 l9 l10 l11 l12 l13 : AV} {s0 s1 : Int} {h : AH} : evL 114 395 [l0, l1, l2, l3, l4, l5, l6, l7, l8, l9, l10, l11, l12, l13] [I s0, I s1] h = if s1 = s0 then evL 114 398 [l0, l1, l2, l3, l4, l5, l6, l7, l8, l9, l10, l11, l12, l13] [] h else evL 114 434 [l0, l1, l2, l3, l4, l5, l6, l7, l8, l9, l10, l11, l12, l13] [] h := e_icmp_ne c114_395 rfl rfl
set_option maxRecDepth 20000 in
theorem c114_398 : cd 114 398 = some (398, .iload_n 1, 1, 0, 0, 0) := rfl
theorem s114_398 {l0 l2 l3 l4 l5 l6 l7 l8 l9 l10 l11 l12 l13 : AV} {l1 : Int} {h : AH} : evL 114 398 [l0, I l1, l2, l3, l4, l5, l6, l7, l8, l9, l10, l11, l12, l13] [] h = evL 114 399 [l0, I l1, l2, l3, l4, l5, l6, l7, l8, l9, l10, l11, l12, l13] [I l1] h := ev_go c114_398 rfl
set_option maxRecDepth 20000 in
theorem c114_399 : cd 114 399 = some (399, .iconst 2, 1, 0, 0, 0) := rfl
theorem s114_399 {l0 l1 l2 l3 l4 l5 l6 l7 l8 l9 l10 l11 l12 l13 s0 : AV} {h : AH} : evL 114 399 [l0, l1, l2, l3, l4, l5, l6, l7, l8, l9, l10, l11, l12, l13] [s0] h = evL 114 400 [l0, l1, l2, l3, l4, l5, l6, l7, l8, l9, l10, l11, l12, l13] [I 2, s0] h := ev_go c114_399 rfl
set_option maxRecDepth 20000 in
theorem c114_400 : cd 114 400 = some (400, .if_icmp .eq 30, 3, 0, 0, 0) := rfl
theorem s114_400 {l0 l1 l2 l3 l4 l5 l6 l7 l8 l9 l10 l11 l12 l13 : AV} {s0 s1 : Int} {h : AH} : evL 114 400 [l0, l1, l2, l3, l4, l5, l6, l7, l8, l9, l10, l11, l12, l13] [I s0, I s1] h = if s1 = s0 then evL 114 430 [l0, l1, l2, l3, l4, l5, l6, l7, l8, l9, l10, l11, l12, l13] [] h else evL 114 403 [l0, l1, l2, l3, l4, l5, l6, l7, l8, l9, l10, l11, l12, l13] [] h := e_icmp_eq c114_400 rfl rfl
set_option maxRecDepth 20000 in
theorem c114_403 : cd 114 403 = some (403, .aload_n 0, 1, 0, 0, 0) := rfl
theorem s114_403 {l1 l2 l3 l4 l5 l6 l7 l8 l9 l10 l11 l12 l13 : AV} {l0 : Option Nat} {h : AH} : evL 114 403 [.inr (.inl l0), l1, l2, l3, l4, l5, l6, l7, l8, l9, l10, l11, l12, l13] [] h = evL 114 404 [.inr (.inl l0), l1, l2, l3, l4, l5, l6, l7, l8, l9, l10, l11, l12, l13] [.inr (.inl l0)] h := ev_go c114_403 rfl
set_option maxRecDepth 20000 in
theorem c114_404 : cd 114 404 = some (404, .iload 6, 2, 0, 0, 0) := rfl
theorem s114_404 {l0 l1 l2 l3 l4 l5 l7 l8 l9 l10 l11 l12 l13 s0 : AV} {l6 : Int} {h : AH} : evL 114 404 [l0, l1, l2, l3, l4, l5, I l6, l7, l8, l9, l10, l11, l12, l13] [s0] h = evL 114 406 [l0, l1, l2, l3, l4, l5, I l6, l7, l8, l9, l10, l11, l12, l13] [I l6, s0] h := ev_go c114_404 rfl
set_option maxRecDepth 20000 in
theorem c114_406 : cd 114 406 = some (406, .iconst 0, 1, 0, 0, 0) := rfl
theorem s114_406 {l0 l1 l2 l3 l4 l5 l6 l7 l8 l9 l10 l11 l12 l13 s0 s1 : AV} {h : AH} : evL 114 406 [l0, l1, l2, l3, l4, l5, l6, l7, l8, l9, l10, l11, l12, l13] [s0, s1] h = evL 114 407 [l0, l1, l2, l3, l4, l5, l6, l7, l8, l9, l10, l11, l12, l13] [I 0, s0, s1] h := ev_go c114_406 rfl
set_option maxRecDepth 20000 in
theorem c114_407 : cd 114 407 = some (407, .invokevirtual 19, 3, 99, 0, 392) := rfl
theorem s114_407 {l0 l1 l2 l3 l4 l5 l6 l7 l8 l9 l10 l11 l12 l13 : AV} {s0 s1 : Int} {s2 : Nat} {M : Mem} {P : PMem} (hk : kd s2 = 7) : evL 114 407 [l0, l1, l2, l3, l4, l5, l6, l7, l8, l9, l10, l11, l12, l13] [I s0, I s1, Rf s2] (Hp M P) = cont (evM 99 [Rf s2, I s1, I s0] (Hp M P)) (fun r h => evL 114 410 [l0, l1, l2, l3, l4, l5, l6, l7, l8, l9, l10, l11, l12, l13] (rl r []) h) := e_callV (av' := [I s1, I s0]) (rest := []) (c := 7) c114_407 rfl rfl rfl rfl rfl rfl rfl hk rfl
set_option maxRecDepth 20000 in
theorem c114_410 : cd 114 410 = some (410, .ifCond .ne 7, 3, 0, 0, 0) := rfl
theorem s114_410 {l0 l1 l2 l3 l4 l5 l6 l7 l8 l9 l10 l11 l12 l13 : AV} {s0 : Int} {h : AH} : evL 114 410 [l0, l1, l2, l3, l4, l5, l6, l7, l8, l9, l10, l11, l12, l13] [I s0] h = if s0 = 0 then evL 114 413 [l0, l1, l2, l3, l4, l5, l6, l7, l8, l9, l10, l11, l12, l13] [] h else evL 114 417 [l0, l1, l2, l3, l4, l5, l6, l7, l8, l9, l10, l11, l12, l13] [] h := e_if_ne c114_410 rfl rfl
set_option maxRecDepth 20000 in
theorem c114_413 : cd 114 413 = some (413, .iconst 1, 1, 0, 0, 0) := rfl
theorem s114_413 {l0 l1 l2 l3 l4 l5 l6 l7 l8 l9 l10 l11 l12 l13 : AV} {h : AH} : evL 114 413 [l0, l1, l2, l3, l4, l5, l6, l7, l8, l9, l10, l11, l12, l13] [] h = evL 114 414 [l0, l1, l2, l3, l4, l5, l6, l7, l8, l9, l10, l11, l12, l13] [I 1] h := ev_go c114_413 rfl
set_option maxRecDepth 20000 in
theorem c114_414 : cd 114 414 = some (414, .goto 4, 3, 0, 0, 0) := rfl
theorem s114_414 {l0 l1 l2 l3 l4 l5 l6 l7 l8 l9 l10 l11 l12 l13 s0 : AV} {h : AH} : evL 114 414 [l0, l1, l2, l3, l4, l5, l6, l7, l8, l9, l10, l11, l12, l13] [s0] h = evL 114 418 [l0, l1, l2, l3, l4, l5, l6, l7, l8, l9, l10, l11, l12, l13] [s0] h := ev_go c114_414 rfl
set_option maxRecDepth 20000 in
theorem c114_417 : cd 114 417 = some (417, .iconst 0, 1, 0, 0, 0) := rfl
theorem s114_417 {l0 l1 l2 l3 l4 l5 l6 l7 l8 l9 l10 l11 l12 l13 : AV} {h : AH} : evL 114 417 [l0, l1, l2, l3, l4, l5, l6, l7, l8, l9, l10, l11, l12, l13] [] h = evL 114 418 [l0, l1, l2, l3, l4, l5, l6, l7, l8, l9, l10, l11, l12, l13] [I 0] h := ev_go c114_417 rfl
set_option maxRecDepth 20000 in
theorem c114_418 : cd 114 418 = some (418, .iload_n 1, 1, 0, 0, 0) := rfl
theorem s114_418 {l0 l2 l3 l4 l5 l6 l7 l8 l9 l10 l11 l12 l13 s0 : AV} {l1 : Int} {h : AH} : evL 114 418 [l0, I l1, l2, l3, l4, l5, l6, l7, l8, l9, l10, l11, l12, l13] [s0] h = evL 114 419 [l0, I l1, l2, l3, l4, l5, l6, l7, l8, l9, l10, l11, l12, l13] [I l1, s0] h := ev_go c114_418 rfl
set_option maxRecDepth 20000 in
theorem c114_419 : cd 114 419 = some (419, .ifCond .ne 7, 3, 0, 0, 0) := rfl
theorem s114_419 {l0 l1 l2 l3 l4 l5 l6 l7 l8 l9 l10 l11 l12 l13 s1 : AV} {s0 : Int} {h : AH} : evL 114 419 [l0, l1, l2, l3, l4, l5, l6, l7, l8, l9, l10, l11, l12, l13] [I s0, s1] h = if s0 = 0 then evL 114 422 [l0, l1, l2, l3, l4, l5, l6, l7, l8, l9, l10, l11, l12, l13] [s1] h else evL 114 426 [l0, l1, l2, l3, l4, l5, l6, l7, l8, l9, l10, l11, l12, l13] [s1] h := e_if_ne c114_419 rfl rfl
set_option maxRecDepth 20000 in
theorem c114_422 : cd 114 422 = some (422, .iconst 1, 1, 0, 0, 0) := rfl
theorem s114_422 {l0 l1 l2 l3 l4 l5 l6 l7 l8 l9 l10 l11 l12 l13 s0 : AV} {h : AH} : evL 114 422 [l0, l1, l2, l3, l4, l5, l6, l7, l8, l9, l10, l11, l12, l13] [s0] h = evL 114 423 [l0, l1, l2, l3, l4, l5, l6, l7, l8, l9, l10, l11, l12, l13] [I 1, s0] h := ev_go c114_422 rfl
set_option maxRecDepth 20000 in
theorem c114_423 : cd 114 423 = some (423, .goto 4, 3, 0, 0, 0) := rfl
theorem s114_423 {l0 l1 l2 l3 l4 l5 l6 l7 l8 l9 l10 l11 l12 l13 s0 s1 : AV} {h : AH} : evL 114 423 [l0, l1, l2, l3, l4, l5, l6, l7, l8, l9, l10, l11, l12, l13] [s0, s1] h = evL 114 427 [l0, l1, l2, l3, l4, l5, l6, l7, l8, l9, l10, l11, l12, l13] [s0, s1] h := ev_go c114_423 rfl
set_option maxRecDepth 20000 in
theorem c114_426 : cd 114 426 = some (426, .iconst 0, 1, 0, 0, 0) := rfl
theorem s114_426 {l0 l1 l2 l3 l4 l5 l6 l7 l8 l9 l10 l11 l12 l13 s0 : AV} {h : AH} : evL 114 426 [l0, l1, l2, l3, l4, l5, l6, l7, l8, l9, l10, l11, l12, l13] [s0] h = evL 114 427 [l0, l1, l2, l3, l4, l5, l6, l7, l8, l9, l10, l11, l12, l13] [I 0, s0] h := ev_go c114_426 rfl
set_option maxRecDepth 20000 in
theorem c114_427 : cd 114 427 = some (427, .if_icmp .ne 7, 3, 0, 0, 0) := rfl
theorem s114_427 {l0 l1 l2 l3 l4 l5 l6 l7 l8 l9 l10 l11 l12 l13 : AV} {s0 s1 : Int} {h : AH} : evL 114 427 [l0, l1, l2, l3, l4, l5, l6, l7, l8, l9, l10, l11, l12, l13] [I s0, I s1] h = if s1 = s0 then evL 114 430 [l0, l1, l2, l3, l4, l5, l6, l7, l8, l9, l10, l11, l12, l13] [] h else evL 114 434 [l0, l1, l2, l3, l4, l5, l6, l7, l8, l9, l10, l11, l12, l13] [] h := e_icmp_ne c114_427 rfl rfl
set_option maxRecDepth 20000 in
theorem c114_430 : cd 114 430 = some (430, .iconst 1, 1, 0, 0, 0) := rfl
theorem s114_430 {l0 l1 l2 l3 l4 l5 l6 l7 l8 l9 l10 l11 l12 l13 : AV} {h : AH} : evL 114 430 [l0, l1, l2, l3, l4, l5, l6, l7, l8, l9, l10, l11, l12, l13] [] h = evL 114 431 [l0, l1, l2, l3, l4, l5, l6, l7, l8, l9, l10, l11, l12, l13] [I 1] h := ev_go c114_430 rfl
set_option maxRecDepth 20000 in
theorem c114_431 : cd 114 431 = some (431, .goto 4, 3, 0, 0, 0) := rfl
theorem s114_431 {l0 l1 l2 l3 l4 l5 l6 l7 l8 l9 l10 l11 l12 l13 s0 : AV} {h : AH} : evL 114 431 [l0, l1, l2, l3, l4, l5, l6, l7, l8, l9, l10, l11, l12, l13] [s0] h = evL 114 435 [l0, l1, l2, l3, l4, l5, l6, l7, l8, l9, l10, l11, l12, l13] [s0] h := ev_go c114_431 rfl
set_option maxRecDepth 20000 in
theorem c114_434 : cd 114 434 = some (434, .iconst 0, 1, 0, 0, 0) := rfl
theorem s114_434 {l0 l1 l2 l3 l4 l5 l6 l7 l8 l9 l10 l11 l12 l13 : AV} {h : AH} : evL 114 434 [l0, l1, l2, l3, l4, l5, l6, l7, l8, l9, l10, l11, l12, l13] [] h = evL 114 435 [l0, l1, l2, l3, l4, l5, l6, l7, l8, l9, l10, l11, l12, l13] [I 0] h := ev_go c114_434 rfl
set_option maxRecDepth 20000 in
theorem c114_435 : cd 114 435 = some (435, .ireturn, 1, 0, 0, 0) := rfl
theorem s114_435 {l0 l1 l2 l3 l4 l5 l6 l7 l8 l9 l10 l11 l12 l13 : AV} {s0 : Int} {h : AH} (hz : s0 = 0 ∨ s0 = 1) : evL 114 435 [l0, l1, l2, l3, l4, l5, l6, l7, l8, l9, l10, l11, l12, l13] [I s0] h = some (some (I s0), h) := e_ret c114_435 (if_pos hz)
/-! 115: TankDiversLaw.moves(LTankDivers;I)Z -/
theorem en115 {l0 l1 : AV} {h : AH} : evM 115 [l0, l1] h = evL 115 0 [l0, l1, Db 0, Db 0, Db 0, Db 0, Db 0, Db 0, Db 0, Db 0, Db 0, Db 0, Db 0, Db 0] [] h := rfl
set_option maxRecDepth 20000 in
theorem c115_0 : cd 115 0 = some (0, .aload_n 0, 1, 0, 0, 0) := rfl
theorem s115_0 {l1 l2 l3 l4 l5 l6 l7 l8 l9 l10 l11 l12 l13 : AV} {l0 : Option Nat} {h : AH} : evL 115 0 [.inr (.inl l0), l1, l2, l3, l4, l5, l6, l7, l8, l9, l10, l11, l12, l13] [] h = evL 115 1 [.inr (.inl l0), l1, l2, l3, l4, l5, l6, l7, l8, l9, l10, l11, l12, l13] [.inr (.inl l0)] h := ev_go c115_0 rfl
set_option maxRecDepth 20000 in
theorem c115_1 : cd 115 1 = some (1, .iconst 3, 1, 0, 0, 0) := rfl
theorem s115_1 {l0 l1 l2 l3 l4 l5 l6 l7 l8 l9 l10 l11 l12 l13 s0 : AV} {h : AH} : evL 115 1 [l0, l1, l2, l3, l4, l5, l6, l7, l8, l9, l10, l11, l12, l13] [s0] h = evL 115 2 [l0, l1, l2, l3, l4, l5, l6, l7, l8, l9, l10, l11, l12, l13] [I 3, s0] h := ev_go c115_1 rfl
set_option maxRecDepth 20000 in
theorem c115_2 : cd 115 2 = some (2, .invokevirtual 13, 3, 100, 0, 258) := rfl
theorem s115_2 {l0 l1 l2 l3 l4 l5 l6 l7 l8 l9 l10 l11 l12 l13 : AV} {s0 : Int} {s1 : Nat} {M : Mem} {P : PMem} (hk : kd s1 = 7) : evL 115 2 [l0, l1, l2, l3, l4, l5, l6, l7, l8, l9, l10, l11, l12, l13] [I s0, Rf s1] (Hp M P) = cont (evM 100 [Rf s1, I s0] (Hp M P)) (fun r h => evL 115 5 [l0, l1, l2, l3, l4, l5, l6, l7, l8, l9, l10, l11, l12, l13] (rl r []) h) := e_callV (av' := [I s0]) (rest := []) (c := 7) c115_2 rfl rfl rfl rfl rfl rfl rfl hk rfl
set_option maxRecDepth 20000 in
theorem c115_5 : cd 115 5 = some (5, .istore_n 2, 1, 0, 0, 0) := rfl
theorem s115_5 {l0 l1 l2 l3 l4 l5 l6 l7 l8 l9 l10 l11 l12 l13 : AV} {s0 : Int} {h : AH} : evL 115 5 [l0, l1, l2, l3, l4, l5, l6, l7, l8, l9, l10, l11, l12, l13] [I s0] h = evL 115 6 [l0, l1, I s0, l3, l4, l5, l6, l7, l8, l9, l10, l11, l12, l13] [] h := ev_go c115_5 rfl
set_option maxRecDepth 20000 in
theorem c115_6 : cd 115 6 = some (6, .aload_n 0, 1, 0, 0, 0) := rfl
theorem s115_6 {l1 l2 l3 l4 l5 l6 l7 l8 l9 l10 l11 l12 l13 : AV} {l0 : Option Nat} {h : AH} : evL 115 6 [.inr (.inl l0), l1, l2, l3, l4, l5, l6, l7, l8, l9, l10, l11, l12, l13] [] h = evL 115 7 [.inr (.inl l0), l1, l2, l3, l4, l5, l6, l7, l8, l9, l10, l11, l12, l13] [.inr (.inl l0)] h := ev_go c115_6 rfl
set_option maxRecDepth 20000 in
theorem c115_7 : cd 115 7 = some (7, .iconst 4, 1, 0, 0, 0) := rfl
theorem s115_7 {l0 l1 l2 l3 l4 l5 l6 l7 l8 l9 l10 l11 l12 l13 s0 : AV} {h : AH} : evL 115 7 [l0, l1, l2, l3, l4, l5, l6, l7, l8, l9, l10, l11, l12, l13] [s0] h = evL 115 8 [l0, l1, l2, l3, l4, l5, l6, l7, l8, l9, l10, l11, l12, l13] [I 4, s0] h := ev_go c115_7 rfl
set_option maxRecDepth 20000 in
theorem c115_8 : cd 115 8 = some (8, .invokevirtual 13, 3, 100, 0, 258) := rfl
theorem s115_8 {l0 l1 l2 l3 l4 l5 l6 l7 l8 l9 l10 l11 l12 l13 : AV} {s0 : Int} {s1 : Nat} {M : Mem} {P : PMem} (hk : kd s1 = 7) : evL 115 8 [l0, l1, l2, l3, l4, l5, l6, l7, l8, l9, l10, l11, l12, l13] [I s0, Rf s1] (Hp M P) = cont (evM 100 [Rf s1, I s0] (Hp M P)) (fun r h => evL 115 11 [l0, l1, l2, l3, l4, l5, l6, l7, l8, l9, l10, l11, l12, l13] (rl r []) h) := e_callV (av' := [I s0]) (rest := []) (c := 7) c115_8 rfl rfl rfl rfl rfl rfl rfl hk rfl
set_option maxRecDepth 20000 in
theorem c115_11 : cd 115 11 = some (11, .istore_n 3, 1, 0, 0, 0) := rfl
theorem s115_11 {l0 l1 l2 l3 l4 l5 l6 l7 l8 l9 l10 l11 l12 l13 : AV} {s0 : Int} {h : AH} : evL 115 11 [l0, l1, l2, l3, l4, l5, l6, l7, l8, l9, l10, l11, l12, l13] [I s0] h = evL 115 12 [l0, l1, l2, I s0, l4, l5, l6, l7, l8, l9, l10, l11, l12, l13] [] h := ev_go c115_11 rfl
set_option maxRecDepth 20000 in
theorem c115_12 : cd 115 12 = some (12, .iload_n 1, 1, 0, 0, 0) := rfl
theorem s115_12 {l0 l2 l3 l4 l5 l6 l7 l8 l9 l10 l11 l12 l13 : AV} {l1 : Int} {h : AH} : evL 115 12 [l0, I l1, l2, l3, l4, l5, l6, l7, l8, l9, l10, l11, l12, l13] [] h = evL 115 13 [l0, I l1, l2, l3, l4, l5, l6, l7, l8, l9, l10, l11, l12, l13] [I l1] h := ev_go c115_12 rfl
set_option maxRecDepth 20000 in
theorem c115_13 : cd 115 13 = some (13, .iconst 4, 1, 0, 0, 0) := rfl
theorem s115_13 {l0 l1 l2 l3 l4 l5 l6 l7 l8 l9 l10 l11 l12 l13 s0 : AV} {h : AH} : evL 115 13 [l0, l1, l2, l3, l4, l5, l6, l7, l8, l9, l10, l11, l12, l13] [s0] h = evL 115 14 [l0, l1, l2, l3, l4, l5, l6, l7, l8, l9, l10, l11, l12, l13] [I 4, s0] h := ev_go c115_13 rfl
set_option maxRecDepth 20000 in
theorem c115_14 : cd 115 14 = some (14, .invokestatic 39, 3, 105, 0, 383) := rfl
theorem s115_14 {l0 l1 l2 l3 l4 l5 l6 l7 l8 l9 l10 l11 l12 l13 : AV} {s0 s1 : Int} {M : Mem} {P : PMem} : evL 115 14 [l0, l1, l2, l3, l4, l5, l6, l7, l8, l9, l10, l11, l12, l13] [I s0, I s1] (Hp M P) = cont (evM 105 [I s1, I s0] (Hp M P)) (fun r h => evL 115 17 [l0, l1, l2, l3, l4, l5, l6, l7, l8, l9, l10, l11, l12, l13] (rl r []) h) := e_callS (av := [I s1, I s0]) (rest := []) c115_14 rfl rfl rfl rfl rfl rfl
set_option maxRecDepth 20000 in
theorem c115_17 : cd 115 17 = some (17, .ifCond .ne 7, 3, 0, 0, 0) := rfl
theorem s115_17 {l0 l1 l2 l3 l4 l5 l6 l7 l8 l9 l10 l11 l12 l13 : AV} {s0 : Int} {h : AH} : evL 115 17 [l0, l1, l2, l3, l4, l5, l6, l7, l8, l9, l10, l11, l12, l13] [I s0] h = if s0 = 0 then evL 115 20 [l0, l1, l2, l3, l4, l5, l6, l7, l8, l9, l10, l11, l12, l13] [] h else evL 115 24 [l0, l1, l2, l3, l4, l5, l6, l7, l8, l9, l10, l11, l12, l13] [] h := e_if_ne c115_17 rfl rfl
set_option maxRecDepth 20000 in
theorem c115_20 : cd 115 20 = some (20, .iconst 1, 1, 0, 0, 0) := rfl
theorem s115_20 {l0 l1 l2 l3 l4 l5 l6 l7 l8 l9 l10 l11 l12 l13 : AV} {h : AH} : evL 115 20 [l0, l1, l2, l3, l4, l5, l6, l7, l8, l9, l10, l11, l12, l13] [] h = evL 115 21 [l0, l1, l2, l3, l4, l5, l6, l7, l8, l9, l10, l11, l12, l13] [I 1] h := ev_go c115_20 rfl
set_option maxRecDepth 20000 in
theorem c115_21 : cd 115 21 = some (21, .goto 4, 3, 0, 0, 0) := rfl
theorem s115_21 {l0 l1 l2 l3 l4 l5 l6 l7 l8 l9 l10 l11 l12 l13 s0 : AV} {h : AH} : evL 115 21 [l0, l1, l2, l3, l4, l5, l6, l7, l8, l9, l10, l11, l12, l13] [s0] h = evL 115 25 [l0, l1, l2, l3, l4, l5, l6, l7, l8, l9, l10, l11, l12, l13] [s0] h := ev_go c115_21 rfl
set_option maxRecDepth 20000 in
theorem c115_24 : cd 115 24 = some (24, .iconst 0, 1, 0, 0, 0) := rfl
theorem s115_24 {l0 l1 l2 l3 l4 l5 l6 l7 l8 l9 l10 l11 l12 l13 : AV} {h : AH} : evL 115 24 [l0, l1, l2, l3, l4, l5, l6, l7, l8, l9, l10, l11, l12, l13] [] h = evL 115 25 [l0, l1, l2, l3, l4, l5, l6, l7, l8, l9, l10, l11, l12, l13] [I 0] h := ev_go c115_24 rfl
set_option maxRecDepth 20000 in
theorem c115_25 : cd 115 25 = some (25, .istore 4, 2, 0, 0, 0) := rfl
theorem s115_25 {l0 l1 l2 l3 l4 l5 l6 l7 l8 l9 l10 l11 l12 l13 : AV} {s0 : Int} {h : AH} : evL 115 25 [l0, l1, l2, l3, l4, l5, l6, l7, l8, l9, l10, l11, l12, l13] [I s0] h = evL 115 27 [l0, l1, l2, l3, I s0, l5, l6, l7, l8, l9, l10, l11, l12, l13] [] h := ev_go c115_25 rfl
set_option maxRecDepth 20000 in
theorem c115_27 : cd 115 27 = some (27, .aload_n 0, 1, 0, 0, 0) := rfl
theorem s115_27 {l1 l2 l3 l4 l5 l6 l7 l8 l9 l10 l11 l12 l13 : AV} {l0 : Option Nat} {h : AH} : evL 115 27 [.inr (.inl l0), l1, l2, l3, l4, l5, l6, l7, l8, l9, l10, l11, l12, l13] [] h = evL 115 28 [.inr (.inl l0), l1, l2, l3, l4, l5, l6, l7, l8, l9, l10, l11, l12, l13] [.inr (.inl l0)] h := ev_go c115_27 rfl
set_option maxRecDepth 20000 in
theorem c115_28 : cd 115 28 = some (28, .bipush 12, 2, 0, 0, 0) := rfl
theorem s115_28 {l0 l1 l2 l3 l4 l5 l6 l7 l8 l9 l10 l11 l12 l13 s0 : AV} {h : AH} : evL 115 28 [l0, l1, l2, l3, l4, l5, l6, l7, l8, l9, l10, l11, l12, l13] [s0] h = evL 115 30 [l0, l1, l2, l3, l4, l5, l6, l7, l8, l9, l10, l11, l12, l13] [I 12, s0] h := ev_go c115_28 rfl
set_option maxRecDepth 20000 in
theorem c115_30 : cd 115 30 = some (30, .invokevirtual 13, 3, 100, 0, 258) := rfl
theorem s115_30 {l0 l1 l2 l3 l4 l5 l6 l7 l8 l9 l10 l11 l12 l13 : AV} {s0 : Int} {s1 : Nat} {M : Mem} {P : PMem} (hk : kd s1 = 7) : evL 115 30 [l0, l1, l2, l3, l4, l5, l6, l7, l8, l9, l10, l11, l12, l13] [I s0, Rf s1] (Hp M P) = cont (evM 100 [Rf s1, I s0] (Hp M P)) (fun r h => evL 115 33 [l0, l1, l2, l3, l4, l5, l6, l7, l8, l9, l10, l11, l12, l13] (rl r []) h) := e_callV (av' := [I s0]) (rest := []) (c := 7) c115_30 rfl rfl rfl rfl rfl rfl rfl hk rfl
set_option maxRecDepth 20000 in
theorem c115_33 : cd 115 33 = some (33, .istore 5, 2, 0, 0, 0) := rfl
theorem s115_33 {l0 l1 l2 l3 l4 l5 l6 l7 l8 l9 l10 l11 l12 l13 : AV} {s0 : Int} {h : AH} : evL 115 33 [l0, l1, l2, l3, l4, l5, l6, l7, l8, l9, l10, l11, l12, l13] [I s0] h = evL 115 35 [l0, l1, l2, l3, l4, I s0, l6, l7, l8, l9, l10, l11, l12, l13] [] h := ev_go c115_33 rfl
set_option maxRecDepth 20000 in
theorem c115_35 : cd 115 35 = some (35, .aload_n 0, 1, 0, 0, 0) := rfl
theorem s115_35 {l1 l2 l3 l4 l5 l6 l7 l8 l9 l10 l11 l12 l13 : AV} {l0 : Option Nat} {h : AH} : evL 115 35 [.inr (.inl l0), l1, l2, l3, l4, l5, l6, l7, l8, l9, l10, l11, l12, l13] [] h = evL 115 36 [.inr (.inl l0), l1, l2, l3, l4, l5, l6, l7, l8, l9, l10, l11, l12, l13] [.inr (.inl l0)] h := ev_go c115_35 rfl
set_option maxRecDepth 20000 in
theorem c115_36 : cd 115 36 = some (36, .iconst 5, 1, 0, 0, 0) := rfl
theorem s115_36 {l0 l1 l2 l3 l4 l5 l6 l7 l8 l9 l10 l11 l12 l13 s0 : AV} {h : AH} : evL 115 36 [l0, l1, l2, l3, l4, l5, l6, l7, l8, l9, l10, l11, l12, l13] [s0] h = evL 115 37 [l0, l1, l2, l3, l4, l5, l6, l7, l8, l9, l10, l11, l12, l13] [I 5, s0] h := ev_go c115_36 rfl
set_option maxRecDepth 20000 in
theorem c115_37 : cd 115 37 = some (37, .invokevirtual 13, 3, 100, 0, 258) := rfl
theorem s115_37 {l0 l1 l2 l3 l4 l5 l6 l7 l8 l9 l10 l11 l12 l13 : AV} {s0 : Int} {s1 : Nat} {M : Mem} {P : PMem} (hk : kd s1 = 7) : evL 115 37 [l0, l1, l2, l3, l4, l5, l6, l7, l8, l9, l10, l11, l12, l13] [I s0, Rf s1] (Hp M P) = cont (evM 100 [Rf s1, I s0] (Hp M P)) (fun r h => evL 115 40 [l0, l1, l2, l3, l4, l5, l6, l7, l8, l9, l10, l11, l12, l13] (rl r []) h) := e_callV (av' := [I s0]) (rest := []) (c := 7) c115_37 rfl rfl rfl rfl rfl rfl rfl hk rfl
set_option maxRecDepth 20000 in
theorem c115_40 : cd 115 40 = some (40, .istore 6, 2, 0, 0, 0) := rfl
theorem s115_40 {l0 l1 l2 l3 l4 l5 l6 l7 l8 l9 l10 l11 l12 l13 : AV} {s0 : Int} {h : AH} : evL 115 40 [l0, l1, l2, l3, l4, l5, l6, l7, l8, l9, l10, l11, l12, l13] [I s0] h = evL 115 42 [l0, l1, l2, l3, l4, l5, I s0, l7, l8, l9, l10, l11, l12, l13] [] h := ev_go c115_40 rfl
set_option maxRecDepth 20000 in
theorem c115_42 : cd 115 42 = some (42, .iload_n 3, 1, 0, 0, 0) := rfl
theorem s115_42 {l0 l1 l2 l4 l5 l6 l7 l8 l9 l10 l11 l12 l13 : AV} {l3 : Int} {h : AH} : evL 115 42 [l0, l1, l2, I l3, l4, l5, l6, l7, l8, l9, l10, l11, l12, l13] [] h = evL 115 43 [l0, l1, l2, I l3, l4, l5, l6, l7, l8, l9, l10, l11, l12, l13] [I l3] h := ev_go c115_42 rfl
set_option maxRecDepth 20000 in
theorem c115_43 : cd 115 43 = some (43, .iconst 2, 1, 0, 0, 0) := rfl
theorem s115_43 {l0 l1 l2 l3 l4 l5 l6 l7 l8 l9 l10 l11 l12 l13 s0 : AV} {h : AH} : evL 115 43 [l0, l1, l2, l3, l4, l5, l6, l7, l8, l9, l10, l11, l12, l13] [s0] h = evL 115 44 [l0, l1, l2, l3, l4, l5, l6, l7, l8, l9, l10, l11, l12, l13] [I 2, s0] h := ev_go c115_43 rfl
set_option maxRecDepth 20000 in
theorem c115_44 : cd 115 44 = some (44, .if_icmp .ne 7, 3, 0, 0, 0) := rfl
theorem s115_44 {l0 l1 l2 l3 l4 l5 l6 l7 l8 l9 l10 l11 l12 l13 : AV} {s0 s1 : Int} {h : AH} : evL 115 44 [l0, l1, l2, l3, l4, l5, l6, l7, l8, l9, l10, l11, l12, l13] [I s0, I s1] h = if s1 = s0 then evL 115 47 [l0, l1, l2, l3, l4, l5, l6, l7, l8, l9, l10, l11, l12, l13] [] h else evL 115 51 [l0, l1, l2, l3, l4, l5, l6, l7, l8, l9, l10, l11, l12, l13] [] h := e_icmp_ne c115_44 rfl rfl
set_option maxRecDepth 20000 in
theorem c115_47 : cd 115 47 = some (47, .iconst 0, 1, 0, 0, 0) := rfl
theorem s115_47 {l0 l1 l2 l3 l4 l5 l6 l7 l8 l9 l10 l11 l12 l13 : AV} {h : AH} : evL 115 47 [l0, l1, l2, l3, l4, l5, l6, l7, l8, l9, l10, l11, l12, l13] [] h = evL 115 48 [l0, l1, l2, l3, l4, l5, l6, l7, l8, l9, l10, l11, l12, l13] [I 0] h := ev_go c115_47 rfl
set_option maxRecDepth 20000 in
theorem c115_48 : cd 115 48 = some (48, .goto 9, 3, 0, 0, 0) := rfl
theorem s115_48 {l0 l1 l2 l3 l4 l5 l6 l7 l8 l9 l10 l11 l12 l13 s0 : AV} {h : AH} : evL 115 48 [l0, l1, l2, l3, l4, l5, l6, l7, l8, l9, l10, l11, l12, l13] [s0] h = evL 115 57 [l0, l1, l2, l3, l4, l5, l6, l7, l8, l9, l10, l11, l12, l13] [s0] h := ev_go c115_48 rfl
set_option maxRecDepth 20000 in
theorem c115_51 : cd 115 51 = some (51, .aload_n 0, 1, 0, 0, 0) := rfl
theorem s115_51 {l1 l2 l3 l4 l5 l6 l7 l8 l9 l10 l11 l12 l13 : AV} {l0 : Option Nat} {h : AH} : evL 115 51 [.inr (.inl l0), l1, l2, l3, l4, l5, l6, l7, l8, l9, l10, l11, l12, l13] [] h = evL 115 52 [.inr (.inl l0), l1, l2, l3, l4, l5, l6, l7, l8, l9, l10, l11, l12, l13] [.inr (.inl l0)] h := ev_go c115_51 rfl
set_option maxRecDepth 20000 in
theorem c115_52 : cd 115 52 = some (52, .iload_n 2, 1, 0, 0, 0) := rfl
theorem s115_52 {l0 l1 l3 l4 l5 l6 l7 l8 l9 l10 l11 l12 l13 s0 : AV} {l2 : Int} {h : AH} : evL 115 52 [l0, l1, I l2, l3, l4, l5, l6, l7, l8, l9, l10, l11, l12, l13] [s0] h = evL 115 53 [l0, l1, I l2, l3, l4, l5, l6, l7, l8, l9, l10, l11, l12, l13] [I l2, s0] h := ev_go c115_52 rfl
set_option maxRecDepth 20000 in
theorem c115_53 : cd 115 53 = some (53, .iconst 3, 1, 0, 0, 0) := rfl
theorem s115_53 {l0 l1 l2 l3 l4 l5 l6 l7 l8 l9 l10 l11 l12 l13 s0 s1 : AV} {h : AH} : evL 115 53 [l0, l1, l2, l3, l4, l5, l6, l7, l8, l9, l10, l11, l12, l13] [s0, s1] h = evL 115 54 [l0, l1, l2, l3, l4, l5, l6, l7, l8, l9, l10, l11, l12, l13] [I 3, s0, s1] h := ev_go c115_53 rfl
set_option maxRecDepth 20000 in
theorem c115_54 : cd 115 54 = some (54, .invokevirtual 23, 3, 97, 0, 406) := rfl
theorem s115_54 {l0 l1 l2 l3 l4 l5 l6 l7 l8 l9 l10 l11 l12 l13 : AV} {s0 s1 : Int} {s2 : Nat} {M : Mem} {P : PMem} (hk : kd s2 = 7) : evL 115 54 [l0, l1, l2, l3, l4, l5, l6, l7, l8, l9, l10, l11, l12, l13] [I s0, I s1, Rf s2] (Hp M P) = cont (evM 97 [Rf s2, I s1, I s0] (Hp M P)) (fun r h => evL 115 57 [l0, l1, l2, l3, l4, l5, l6, l7, l8, l9, l10, l11, l12, l13] (rl r []) h) := e_callV (av' := [I s1, I s0]) (rest := []) (c := 7) c115_54 rfl rfl rfl rfl rfl rfl rfl hk rfl
set_option maxRecDepth 20000 in
theorem c115_57 : cd 115 57 = some (57, .istore 7, 2, 0, 0, 0) := rfl
theorem s115_57 {l0 l1 l2 l3 l4 l5 l6 l7 l8 l9 l10 l11 l12 l13 : AV} {s0 : Int} {h : AH} : evL 115 57 [l0, l1, l2, l3, l4, l5, l6, l7, l8, l9, l10, l11, l12, l13] [I s0] h = evL 115 59 [l0, l1, l2, l3, l4, l5, l6, I s0, l8, l9, l10, l11, l12, l13] [] h := ev_go c115_57 rfl
set_option maxRecDepth 20000 in
theorem c115_59 : cd 115 59 = some (59, .iload_n 3, 1, 0, 0, 0) := rfl
theorem s115_59 {l0 l1 l2 l4 l5 l6 l7 l8 l9 l10 l11 l12 l13 : AV} {l3 : Int} {h : AH} : evL 115 59 [l0, l1, l2, I l3, l4, l5, l6, l7, l8, l9, l10, l11, l12, l13] [] h = evL 115 60 [l0, l1, l2, I l3, l4, l5, l6, l7, l8, l9, l10, l11, l12, l13] [I l3] h := ev_go c115_59 rfl
set_option maxRecDepth 20000 in
theorem c115_60 : cd 115 60 = some (60, .iconst 2, 1, 0, 0, 0) := rfl
theorem s115_60 {l0 l1 l2 l3 l4 l5 l6 l7 l8 l9 l10 l11 l12 l13 s0 : AV} {h : AH} : evL 115 60 [l0, l1, l2, l3, l4, l5, l6, l7, l8, l9, l10, l11, l12, l13] [s0] h = evL 115 61 [l0, l1, l2, l3, l4, l5, l6, l7, l8, l9, l10, l11, l12, l13] [I 2, s0] h := ev_go c115_60 rfl
set_option maxRecDepth 20000 in
theorem c115_61 : cd 115 61 = some (61, .if_icmp .ne 7, 3, 0, 0, 0) := rfl
theorem s115_61 {l0 l1 l2 l3 l4 l5 l6 l7 l8 l9 l10 l11 l12 l13 : AV} {s0 s1 : Int} {h : AH} : evL 115 61 [l0, l1, l2, l3, l4, l5, l6, l7, l8, l9, l10, l11, l12, l13] [I s0, I s1] h = if s1 = s0 then evL 115 64 [l0, l1, l2, l3, l4, l5, l6, l7, l8, l9, l10, l11, l12, l13] [] h else evL 115 68 [l0, l1, l2, l3, l4, l5, l6, l7, l8, l9, l10, l11, l12, l13] [] h := e_icmp_ne c115_61 rfl rfl
set_option maxRecDepth 20000 in
theorem c115_64 : cd 115 64 = some (64, .iconst 0, 1, 0, 0, 0) := rfl
theorem s115_64 {l0 l1 l2 l3 l4 l5 l6 l7 l8 l9 l10 l11 l12 l13 : AV} {h : AH} : evL 115 64 [l0, l1, l2, l3, l4, l5, l6, l7, l8, l9, l10, l11, l12, l13] [] h = evL 115 65 [l0, l1, l2, l3, l4, l5, l6, l7, l8, l9, l10, l11, l12, l13] [I 0] h := ev_go c115_64 rfl
set_option maxRecDepth 20000 in
theorem c115_65 : cd 115 65 = some (65, .goto 9, 3, 0, 0, 0) := rfl
theorem s115_65 {l0 l1 l2 l3 l4 l5 l6 l7 l8 l9 l10 l11 l12 l13 s0 : AV} {h : AH} : evL 115 65 [l0, l1, l2, l3, l4, l5, l6, l7, l8, l9, l10, l11, l12, l13] [s0] h = evL 115 74 [l0, l1, l2, l3, l4, l5, l6, l7, l8, l9, l10, l11, l12, l13] [s0] h := ev_go c115_65 rfl
set_option maxRecDepth 20000 in
theorem c115_68 : cd 115 68 = some (68, .aload_n 0, 1, 0, 0, 0) := rfl
theorem s115_68 {l1 l2 l3 l4 l5 l6 l7 l8 l9 l10 l11 l12 l13 : AV} {l0 : Option Nat} {h : AH} : evL 115 68 [.inr (.inl l0), l1, l2, l3, l4, l5, l6, l7, l8, l9, l10, l11, l12, l13] [] h = evL 115 69 [.inr (.inl l0), l1, l2, l3, l4, l5, l6, l7, l8, l9, l10, l11, l12, l13] [.inr (.inl l0)] h := ev_go c115_68 rfl
set_option maxRecDepth 20000 in
theorem c115_69 : cd 115 69 = some (69, .iload_n 2, 1, 0, 0, 0) := rfl
theorem s115_69 {l0 l1 l3 l4 l5 l6 l7 l8 l9 l10 l11 l12 l13 s0 : AV} {l2 : Int} {h : AH} : evL 115 69 [l0, l1, I l2, l3, l4, l5, l6, l7, l8, l9, l10, l11, l12, l13] [s0] h = evL 115 70 [l0, l1, I l2, l3, l4, l5, l6, l7, l8, l9, l10, l11, l12, l13] [I l2, s0] h := ev_go c115_69 rfl
set_option maxRecDepth 20000 in
theorem c115_70 : cd 115 70 = some (70, .iconst 0, 1, 0, 0, 0) := rfl
theorem s115_70 {l0 l1 l2 l3 l4 l5 l6 l7 l8 l9 l10 l11 l12 l13 s0 s1 : AV} {h : AH} : evL 115 70 [l0, l1, l2, l3, l4, l5, l6, l7, l8, l9, l10, l11, l12, l13] [s0, s1] h = evL 115 71 [l0, l1, l2, l3, l4, l5, l6, l7, l8, l9, l10, l11, l12, l13] [I 0, s0, s1] h := ev_go c115_70 rfl
set_option maxRecDepth 20000 in
theorem c115_71 : cd 115 71 = some (71, .invokevirtual 23, 3, 97, 0, 406) := rfl
theorem s115_71 {l0 l1 l2 l3 l4 l5 l6 l7 l8 l9 l10 l11 l12 l13 : AV} {s0 s1 : Int} {s2 : Nat} {M : Mem} {P : PMem} (hk : kd s2 = 7) : evL 115 71 [l0, l1, l2, l3, l4, l5, l6, l7, l8, l9, l10, l11, l12, l13] [I s0, I s1, Rf s2] (Hp M P) = cont (evM 97 [Rf s2, I s1, I s0] (Hp M P)) (fun r h => evL 115 74 [l0, l1, l2, l3, l4, l5, l6, l7, l8, l9, l10, l11, l12, l13] (rl r []) h) := e_callV (av' := [I s1, I s0]) (rest := []) (c := 7) c115_71 rfl rfl rfl rfl rfl rfl rfl hk rfl
set_option maxRecDepth 20000 in
theorem c115_74 : cd 115 74 = some (74, .istore 8, 2, 0, 0, 0) := rfl
theorem s115_74 {l0 l1 l2 l3 l4 l5 l6 l7 l8 l9 l10 l11 l12 l13 : AV} {s0 : Int} {h : AH} : evL 115 74 [l0, l1, l2, l3, l4, l5, l6, l7, l8, l9, l10, l11, l12, l13] [I s0] h = evL 115 76 [l0, l1, l2, l3, l4, l5, l6, l7, I s0, l9, l10, l11, l12, l13] [] h := ev_go c115_74 rfl
set_option maxRecDepth 20000 in
theorem c115_76 : cd 115 76 = some (76, .iload_n 3, 1, 0, 0, 0) := rfl
theorem s115_76 {l0 l1 l2 l4 l5 l6 l7 l8 l9 l10 l11 l12 l13 : AV} {l3 : Int} {h : AH} : evL 115 76 [l0, l1, l2, I l3, l4, l5, l6, l7, l8, l9, l10, l11, l12, l13] [] h = evL 115 77 [l0, l1, l2, I l3, l4, l5, l6, l7, l8, l9, l10, l11, l12, l13] [I l3] h := ev_go c115_76 rfl
set_option maxRecDepth 20000 in
theorem c115_77 : cd 115 77 = some (77, .iconst 2, 1, 0, 0, 0) := rfl
theorem s115_77 {l0 l1 l2 l3 l4 l5 l6 l7 l8 l9 l10 l11 l12 l13 s0 : AV} {h : AH} : evL 115 77 [l0, l1, l2, l3, l4, l5, l6, l7, l8, l9, l10, l11, l12, l13] [s0] h = evL 115 78 [l0, l1, l2, l3, l4, l5, l6, l7, l8, l9, l10, l11, l12, l13] [I 2, s0] h := ev_go c115_77 rfl
set_option maxRecDepth 20000 in
theorem c115_78 : cd 115 78 = some (78, .if_icmp .ne 7, 3, 0, 0, 0) := rfl
theorem s115_78 {l0 l1 l2 l3 l4 l5 l6 l7 l8 l9 l10 l11 l12 l13 : AV} {s0 s1 : Int} {h : AH} : evL 115 78 [l0, l1, l2, l3, l4, l5, l6, l7, l8, l9, l10, l11, l12, l13] [I s0, I s1] h = if s1 = s0 then evL 115 81 [l0, l1, l2, l3, l4, l5, l6, l7, l8, l9, l10, l11, l12, l13] [] h else evL 115 85 [l0, l1, l2, l3, l4, l5, l6, l7, l8, l9, l10, l11, l12, l13] [] h := e_icmp_ne c115_78 rfl rfl
set_option maxRecDepth 20000 in
theorem c115_81 : cd 115 81 = some (81, .iconst 0, 1, 0, 0, 0) := rfl
theorem s115_81 {l0 l1 l2 l3 l4 l5 l6 l7 l8 l9 l10 l11 l12 l13 : AV} {h : AH} : evL 115 81 [l0, l1, l2, l3, l4, l5, l6, l7, l8, l9, l10, l11, l12, l13] [] h = evL 115 82 [l0, l1, l2, l3, l4, l5, l6, l7, l8, l9, l10, l11, l12, l13] [I 0] h := ev_go c115_81 rfl
set_option maxRecDepth 20000 in
theorem c115_82 : cd 115 82 = some (82, .goto 9, 3, 0, 0, 0) := rfl
theorem s115_82 {l0 l1 l2 l3 l4 l5 l6 l7 l8 l9 l10 l11 l12 l13 s0 : AV} {h : AH} : evL 115 82 [l0, l1, l2, l3, l4, l5, l6, l7, l8, l9, l10, l11, l12, l13] [s0] h = evL 115 91 [l0, l1, l2, l3, l4, l5, l6, l7, l8, l9, l10, l11, l12, l13] [s0] h := ev_go c115_82 rfl
set_option maxRecDepth 20000 in
theorem c115_85 : cd 115 85 = some (85, .aload_n 0, 1, 0, 0, 0) := rfl
theorem s115_85 {l1 l2 l3 l4 l5 l6 l7 l8 l9 l10 l11 l12 l13 : AV} {l0 : Option Nat} {h : AH} : evL 115 85 [.inr (.inl l0), l1, l2, l3, l4, l5, l6, l7, l8, l9, l10, l11, l12, l13] [] h = evL 115 86 [.inr (.inl l0), l1, l2, l3, l4, l5, l6, l7, l8, l9, l10, l11, l12, l13] [.inr (.inl l0)] h := ev_go c115_85 rfl
set_option maxRecDepth 20000 in
theorem c115_86 : cd 115 86 = some (86, .iload_n 2, 1, 0, 0, 0) := rfl
theorem s115_86 {l0 l1 l3 l4 l5 l6 l7 l8 l9 l10 l11 l12 l13 s0 : AV} {l2 : Int} {h : AH} : evL 115 86 [l0, l1, I l2, l3, l4, l5, l6, l7, l8, l9, l10, l11, l12, l13] [s0] h = evL 115 87 [l0, l1, I l2, l3, l4, l5, l6, l7, l8, l9, l10, l11, l12, l13] [I l2, s0] h := ev_go c115_86 rfl
set_option maxRecDepth 20000 in
theorem c115_87 : cd 115 87 = some (87, .iconst 1, 1, 0, 0, 0) := rfl
theorem s115_87 {l0 l1 l2 l3 l4 l5 l6 l7 l8 l9 l10 l11 l12 l13 s0 s1 : AV} {h : AH} : evL 115 87 [l0, l1, l2, l3, l4, l5, l6, l7, l8, l9, l10, l11, l12, l13] [s0, s1] h = evL 115 88 [l0, l1, l2, l3, l4, l5, l6, l7, l8, l9, l10, l11, l12, l13] [I 1, s0, s1] h := ev_go c115_87 rfl
set_option maxRecDepth 20000 in
theorem c115_88 : cd 115 88 = some (88, .invokevirtual 23, 3, 97, 0, 406) := rfl
theorem s115_88 {l0 l1 l2 l3 l4 l5 l6 l7 l8 l9 l10 l11 l12 l13 : AV} {s0 s1 : Int} {s2 : Nat} {M : Mem} {P : PMem} (hk : kd s2 = 7) : evL 115 88 [l0, l1, l2, l3, l4, l5, l6, l7, l8, l9, l10, l11, l12, l13] [I s0, I s1, Rf s2] (Hp M P) = cont (evM 97 [Rf s2, I s1, I s0] (Hp M P)) (fun r h => evL 115 91 [l0, l1, l2, l3, l4, l5, l6, l7, l8, l9, l10, l11, l12, l13] (rl r []) h) := e_callV (av' := [I s1, I s0]) (rest := []) (c := 7) c115_88 rfl rfl rfl rfl rfl rfl rfl hk rfl
set_option maxRecDepth 20000 in
theorem c115_91 : cd 115 91 = some (91, .istore 9, 2, 0, 0, 0) := rfl
theorem s115_91 {l0 l1 l2 l3 l4 l5 l6 l7 l8 l9 l10 l11 l12 l13 : AV} {s0 : Int} {h : AH} : evL 115 91 [l0, l1, l2, l3, l4, l5, l6, l7, l8, l9, l10, l11, l12, l13] [I s0] h = evL 115 93 [l0, l1, l2, l3, l4, l5, l6, l7, l8, I s0, l10, l11, l12, l13] [] h := ev_go c115_91 rfl
set_option maxRecDepth 20000 in
theorem c115_93 : cd 115 93 = some (93, .iload_n 3, 1, 0, 0, 0) := rfl
theorem s115_93 {l0 l1 l2 l4 l5 l6 l7 l8 l9 l10 l11 l12 l13 : AV} {l3 : Int} {h : AH} : evL 115 93 [l0, l1, l2, I l3, l4, l5, l6, l7, l8, l9, l10, l11, l12, l13] [] h = evL 115 94 [l0, l1, l2, I l3, l4, l5, l6, l7, l8, l9, l10, l11, l12, l13] [I l3] h := ev_go c115_93 rfl
set_option maxRecDepth 20000 in
theorem c115_94 : cd 115 94 = some (94, .iconst 2, 1, 0, 0, 0) := rfl
theorem s115_94 {l0 l1 l2 l3 l4 l5 l6 l7 l8 l9 l10 l11 l12 l13 s0 : AV} {h : AH} : evL 115 94 [l0, l1, l2, l3, l4, l5, l6, l7, l8, l9, l10, l11, l12, l13] [s0] h = evL 115 95 [l0, l1, l2, l3, l4, l5, l6, l7, l8, l9, l10, l11, l12, l13] [I 2, s0] h := ev_go c115_94 rfl
set_option maxRecDepth 20000 in
theorem c115_95 : cd 115 95 = some (95, .if_icmp .ne 7, 3, 0, 0, 0) := rfl
theorem s115_95 {l0 l1 l2 l3 l4 l5 l6 l7 l8 l9 l10 l11 l12 l13 : AV} {s0 s1 : Int} {h : AH} : evL 115 95 [l0, l1, l2, l3, l4, l5, l6, l7, l8, l9, l10, l11, l12, l13] [I s0, I s1] h = if s1 = s0 then evL 115 98 [l0, l1, l2, l3, l4, l5, l6, l7, l8, l9, l10, l11, l12, l13] [] h else evL 115 102 [l0, l1, l2, l3, l4, l5, l6, l7, l8, l9, l10, l11, l12, l13] [] h := e_icmp_ne c115_95 rfl rfl
set_option maxRecDepth 20000 in
theorem c115_98 : cd 115 98 = some (98, .iconst 1, 1, 0, 0, 0) := rfl
theorem s115_98 {l0 l1 l2 l3 l4 l5 l6 l7 l8 l9 l10 l11 l12 l13 : AV} {h : AH} : evL 115 98 [l0, l1, l2, l3, l4, l5, l6, l7, l8, l9, l10, l11, l12, l13] [] h = evL 115 99 [l0, l1, l2, l3, l4, l5, l6, l7, l8, l9, l10, l11, l12, l13] [I 1] h := ev_go c115_98 rfl
set_option maxRecDepth 20000 in
theorem c115_99 : cd 115 99 = some (99, .goto 33, 3, 0, 0, 0) := rfl
theorem s115_99 {l0 l1 l2 l3 l4 l5 l6 l7 l8 l9 l10 l11 l12 l13 s0 : AV} {h : AH} : evL 115 99 [l0, l1, l2, l3, l4, l5, l6, l7, l8, l9, l10, l11, l12, l13] [s0] h = evL 115 132 [l0, l1, l2, l3, l4, l5, l6, l7, l8, l9, l10, l11, l12, l13] [s0] h := ev_go c115_99 rfl
set_option maxRecDepth 20000 in
theorem c115_102 : cd 115 102 = some (102, .iload_n 3, 1, 0, 0, 0) := rfl
theorem s115_102 {l0 l1 l2 l4 l5 l6 l7 l8 l9 l10 l11 l12 l13 : AV} {l3 : Int} {h : AH} : evL 115 102 [l0, l1, l2, I l3, l4, l5, l6, l7, l8, l9, l10, l11, l12, l13] [] h = evL 115 103 [l0, l1, l2, I l3, l4, l5, l6, l7, l8, l9, l10, l11, l12, l13] [I l3] h := ev_go c115_102 rfl
set_option maxRecDepth 20000 in
theorem c115_103 : cd 115 103 = some (103, .iconst 1, 1, 0, 0, 0) := rfl
theorem s115_103 {l0 l1 l2 l3 l4 l5 l6 l7 l8 l9 l10 l11 l12 l13 s0 : AV} {h : AH} : evL 115 103 [l0, l1, l2, l3, l4, l5, l6, l7, l8, l9, l10, l11, l12, l13] [s0] h = evL 115 104 [l0, l1, l2, l3, l4, l5, l6, l7, l8, l9, l10, l11, l12, l13] [I 1, s0] h := ev_go c115_103 rfl
set_option maxRecDepth 20000 in
theorem c115_104 : cd 115 104 = some (104, .if_icmp .ne 7, 3, 0, 0, 0) := rfl
theorem s115_104 {l0 l1 l2 l3 l4 l5 l6 l7 l8 l9 l10 l11 l12 l13 : AV} {s0 s1 : Int} {h : AH} : evL 115 104 [l0, l1, l2, l3, l4, l5, l6, l7, l8, l9, l10, l11, l12, l13] [I s0, I s1] h = if s1 = s0 then evL 115 107 [l0, l1, l2, l3, l4, l5, l6, l7, l8, l9, l10, l11, l12, l13] [] h else evL 115 111 [l0, l1, l2, l3, l4, l5, l6, l7, l8, l9, l10, l11, l12, l13] [] h := e_icmp_ne c115_104 rfl rfl
set_option maxRecDepth 20000 in
theorem c115_107 : cd 115 107 = some (107, .iconst 3, 1, 0, 0, 0) := rfl
theorem s115_107 {l0 l1 l2 l3 l4 l5 l6 l7 l8 l9 l10 l11 l12 l13 : AV} {h : AH} : evL 115 107 [l0, l1, l2, l3, l4, l5, l6, l7, l8, l9, l10, l11, l12, l13] [] h = evL 115 108 [l0, l1, l2, l3, l4, l5, l6, l7, l8, l9, l10, l11, l12, l13] [I 3] h := ev_go c115_107 rfl
set_option maxRecDepth 20000 in
theorem c115_108 : cd 115 108 = some (108, .goto 24, 3, 0, 0, 0) := rfl
theorem s115_108 {l0 l1 l2 l3 l4 l5 l6 l7 l8 l9 l10 l11 l12 l13 s0 : AV} {h : AH} : evL 115 108 [l0, l1, l2, l3, l4, l5, l6, l7, l8, l9, l10, l11, l12, l13] [s0] h = evL 115 132 [l0, l1, l2, l3, l4, l5, l6, l7, l8, l9, l10, l11, l12, l13] [s0] h := ev_go c115_108 rfl
set_option maxRecDepth 20000 in
theorem c115_111 : cd 115 111 = some (111, .iload 4, 2, 0, 0, 0) := rfl
theorem s115_111 {l0 l1 l2 l3 l5 l6 l7 l8 l9 l10 l11 l12 l13 : AV} {l4 : Int} {h : AH} : evL 115 111 [l0, l1, l2, l3, I l4, l5, l6, l7, l8, l9, l10, l11, l12, l13] [] h = evL 115 113 [l0, l1, l2, l3, I l4, l5, l6, l7, l8, l9, l10, l11, l12, l13] [I l4] h := ev_go c115_111 rfl
set_option maxRecDepth 20000 in
theorem c115_113 : cd 115 113 = some (113, .ifCond .eq 18, 3, 0, 0, 0) := rfl
theorem s115_113 {l0 l1 l2 l3 l4 l5 l6 l7 l8 l9 l10 l11 l12 l13 : AV} {s0 : Int} {h : AH} : evL 115 113 [l0, l1, l2, l3, l4, l5, l6, l7, l8, l9, l10, l11, l12, l13] [I s0] h = if s0 = 0 then evL 115 131 [l0, l1, l2, l3, l4, l5, l6, l7, l8, l9, l10, l11, l12, l13] [] h else evL 115 116 [l0, l1, l2, l3, l4, l5, l6, l7, l8, l9, l10, l11, l12, l13] [] h := e_if_eq c115_113 rfl rfl
set_option maxRecDepth 20000 in
theorem c115_116 : cd 115 116 = some (116, .iload 9, 2, 0, 0, 0) := rfl
theorem s115_116 {l0 l1 l2 l3 l4 l5 l6 l7 l8 l10 l11 l12 l13 : AV} {l9 : Int} {h : AH} : evL 115 116 [l0, l1, l2, l3, l4, l5, l6, l7, l8, I l9, l10, l11, l12, l13] [] h = evL 115 118 [l0, l1, l2, l3, l4, l5, l6, l7, l8, I l9, l10, l11, l12, l13] [I l9] h := ev_go c115_116 rfl
set_option maxRecDepth 20000 in
theorem c115_118 : cd 115 118 = some (118, .iconst 1, 1, 0, 0, 0) := rfl
theorem s115_118 {l0 l1 l2 l3 l4 l5 l6 l7 l8 l9 l10 l11 l12 l13 s0 : AV} {h : AH} : evL 115 118 [l0, l1, l2, l3, l4, l5, l6, l7, l8, l9, l10, l11, l12, l13] [s0] h = evL 115 119 [l0, l1, l2, l3, l4, l5, l6, l7, l8, l9, l10, l11, l12, l13] [I 1, s0] h := ev_go c115_118 rfl
set_option maxRecDepth 20000 in
theorem c115_119 : cd 115 119 = some (119, .if_icmp .eq 8, 3, 0, 0, 0) := rfl
theorem s115_119 {l0 l1 l2 l3 l4 l5 l6 l7 l8 l9 l10 l11 l12 l13 : AV} {s0 s1 : Int} {h : AH} : evL 115 119 [l0, l1, l2, l3, l4, l5, l6, l7, l8, l9, l10, l11, l12, l13] [I s0, I s1] h = if s1 = s0 then evL 115 127 [l0, l1, l2, l3, l4, l5, l6, l7, l8, l9, l10, l11, l12, l13] [] h else evL 115 122 [l0, l1, l2, l3, l4, l5, l6, l7, l8, l9, l10, l11, l12, l13] [] h := e_icmp_eq c115_119 rfl rfl
set_option maxRecDepth 20000 in
theorem c115_122 : cd 115 122 = some (122, .iload 8, 2, 0, 0, 0) := rfl
theorem s115_122 {l0 l1 l2 l3 l4 l5 l6 l7 l9 l10 l11 l12 l13 : AV} {l8 : Int} {h : AH} : evL 115 122 [l0, l1, l2, l3, l4, l5, l6, l7, I l8, l9, l10, l11, l12, l13] [] h = evL 115 124 [l0, l1, l2, l3, l4, l5, l6, l7, I l8, l9, l10, l11, l12, l13] [I l8] h := ev_go c115_122 rfl
set_option maxRecDepth 20000 in
theorem c115_124 : cd 115 124 = some (124, .ifCond .ne 7, 3, 0, 0, 0) := rfl
theorem s115_124 {l0 l1 l2 l3 l4 l5 l6 l7 l8 l9 l10 l11 l12 l13 : AV} {s0 : Int} {h : AH} : evL 115 124 [l0, l1, l2, l3, l4, l5, l6, l7, l8, l9, l10, l11, l12, l13] [I s0] h = if s0 = 0 then evL 115 127 [l0, l1, l2, l3, l4, l5, l6, l7, l8, l9, l10, l11, l12, l13] [] h else evL 115 131 [l0, l1, l2, l3, l4, l5, l6, l7, l8, l9, l10, l11, l12, l13] [] h := e_if_ne c115_124 rfl rfl
set_option maxRecDepth 20000 in
theorem c115_127 : cd 115 127 = some (127, .iconst 4, 1, 0, 0, 0) := rfl
theorem s115_127 {l0 l1 l2 l3 l4 l5 l6 l7 l8 l9 l10 l11 l12 l13 : AV} {h : AH} : evL 115 127 [l0, l1, l2, l3, l4, l5, l6, l7, l8, l9, l10, l11, l12, l13] [] h = evL 115 128 [l0, l1, l2, l3, l4, l5, l6, l7, l8, l9, l10, l11, l12, l13] [I 4] h := ev_go c115_127 rfl
set_option maxRecDepth 20000 in
theorem c115_128 : cd 115 128 = some (128, .goto 4, 3, 0, 0, 0) := rfl
theorem s115_128 {l0 l1 l2 l3 l4 l5 l6 l7 l8 l9 l10 l11 l12 l13 s0 : AV} {h : AH} : evL 115 128 [l0, l1, l2, l3, l4, l5, l6, l7, l8, l9, l10, l11, l12, l13] [s0] h = evL 115 132 [l0, l1, l2, l3, l4, l5, l6, l7, l8, l9, l10, l11, l12, l13] [s0] h := ev_go c115_128 rfl
set_option maxRecDepth 20000 in
theorem c115_131 : cd 115 131 = some (131, .iconst 0, 1, 0, 0, 0) := rfl
theorem s115_131 {l0 l1 l2 l3 l4 l5 l6 l7 l8 l9 l10 l11 l12 l13 : AV} {h : AH} : evL 115 131 [l0, l1, l2, l3, l4, l5, l6, l7, l8, l9, l10, l11, l12, l13] [] h = evL 115 132 [l0, l1, l2, l3, l4, l5, l6, l7, l8, l9, l10, l11, l12, l13] [I 0] h := ev_go c115_131 rfl
set_option maxRecDepth 20000 in
theorem c115_132 : cd 115 132 = some (132, .istore 10, 2, 0, 0, 0) := rfl
theorem s115_132 {l0 l1 l2 l3 l4 l5 l6 l7 l8 l9 l10 l11 l12 l13 : AV} {s0 : Int} {h : AH} : evL 115 132 [l0, l1, l2, l3, l4, l5, l6, l7, l8, l9, l10, l11, l12, l13] [I s0] h = evL 115 134 [l0, l1, l2, l3, l4, l5, l6, l7, l8, l9, I s0, l11, l12, l13] [] h := ev_go c115_132 rfl
set_option maxRecDepth 20000 in
theorem c115_134 : cd 115 134 = some (134, .aload_n 0, 1, 0, 0, 0) := rfl
theorem s115_134 {l1 l2 l3 l4 l5 l6 l7 l8 l9 l10 l11 l12 l13 : AV} {l0 : Option Nat} {h : AH} : evL 115 134 [.inr (.inl l0), l1, l2, l3, l4, l5, l6, l7, l8, l9, l10, l11, l12, l13] [] h = evL 115 135 [.inr (.inl l0), l1, l2, l3, l4, l5, l6, l7, l8, l9, l10, l11, l12, l13] [.inr (.inl l0)] h := ev_go c115_134 rfl
set_option maxRecDepth 20000 in
theorem c115_135 : cd 115 135 = some (135, .iload 4, 2, 0, 0, 0) := rfl
theorem s115_135 {l0 l1 l2 l3 l5 l6 l7 l8 l9 l10 l11 l12 l13 s0 : AV} {l4 : Int} {h : AH} : evL 115 135 [l0, l1, l2, l3, I l4, l5, l6, l7, l8, l9, l10, l11, l12, l13] [s0] h = evL 115 137 [l0, l1, l2, l3, I l4, l5, l6, l7, l8, l9, l10, l11, l12, l13] [I l4, s0] h := ev_go c115_135 rfl
set_option maxRecDepth 20000 in
theorem c115_137 : cd 115 137 = some (137, .invokevirtual 82, 3, 88, 0, 533) := rfl
theorem s115_137 {l0 l1 l2 l3 l4 l5 l6 l7 l8 l9 l10 l11 l12 l13 : AV} {s0 : Int} {s1 : Nat} {M : Mem} {P : PMem} (hk : kd s1 = 7) : evL 115 137 [l0, l1, l2, l3, l4, l5, l6, l7, l8, l9, l10, l11, l12, l13] [I s0, Rf s1] (Hp M P) = cont (evM 88 [Rf s1, I s0] (Hp M P)) (fun r h => evL 115 140 [l0, l1, l2, l3, l4, l5, l6, l7, l8, l9, l10, l11, l12, l13] (rl r []) h) := e_callV (av' := [I s0]) (rest := []) (c := 7) c115_137 rfl rfl rfl rfl rfl rfl rfl hk rfl
set_option maxRecDepth 20000 in
theorem c115_140 : cd 115 140 = some (140, .istore 11, 2, 0, 0, 0) := rfl
theorem s115_140 {l0 l1 l2 l3 l4 l5 l6 l7 l8 l9 l10 l11 l12 l13 : AV} {s0 : Int} {h : AH} : evL 115 140 [l0, l1, l2, l3, l4, l5, l6, l7, l8, l9, l10, l11, l12, l13] [I s0] h = evL 115 142 [l0, l1, l2, l3, l4, l5, l6, l7, l8, l9, l10, I s0, l12, l13] [] h := ev_go c115_140 rfl
set_option maxRecDepth 20000 in
theorem c115_142 : cd 115 142 = some (142, .iload 10, 2, 0, 0, 0) := rfl
theorem s115_142 {l0 l1 l2 l3 l4 l5 l6 l7 l8 l9 l11 l12 l13 : AV} {l10 : Int} {h : AH} : evL 115 142 [l0, l1, l2, l3, l4, l5, l6, l7, l8, l9, I l10, l11, l12, l13] [] h = evL 115 144 [l0, l1, l2, l3, l4, l5, l6, l7, l8, l9, I l10, l11, l12, l13] [I l10] h := ev_go c115_142 rfl
set_option maxRecDepth 20000 in
theorem c115_144 : cd 115 144 = some (144, .ifCond .le 48, 3, 0, 0, 0) := rfl
theorem s115_144 {l0 l1 l2 l3 l4 l5 l6 l7 l8 l9 l10 l11 l12 l13 : AV} {s0 : Int} {h : AH} : evL 115 144 [l0, l1, l2, l3, l4, l5, l6, l7, l8, l9, l10, l11, l12, l13] [I s0] h = if s0 ≤ 0 then evL 115 192 [l0, l1, l2, l3, l4, l5, l6, l7, l8, l9, l10, l11, l12, l13] [] h else evL 115 147 [l0, l1, l2, l3, l4, l5, l6, l7, l8, l9, l10, l11, l12, l13] [] h := e_if_le c115_144 rfl rfl
set_option maxRecDepth 20000 in
theorem c115_147 : cd 115 147 = some (147, .iload 11, 2, 0, 0, 0) := rfl
theorem s115_147 {l0 l1 l2 l3 l4 l5 l6 l7 l8 l9 l10 l12 l13 : AV} {l11 : Int} {h : AH} : evL 115 147 [l0, l1, l2, l3, l4, l5, l6, l7, l8, l9, l10, I l11, l12, l13] [] h = evL 115 149 [l0, l1, l2, l3, l4, l5, l6, l7, l8, l9, l10, I l11, l12, l13] [I l11] h := ev_go c115_147 rfl
set_option maxRecDepth 20000 in
theorem c115_149 : cd 115 149 = some (149, .iload 10, 2, 0, 0, 0) := rfl
theorem s115_149 {l0 l1 l2 l3 l4 l5 l6 l7 l8 l9 l11 l12 l13 s0 : AV} {l10 : Int} {h : AH} : evL 115 149 [l0, l1, l2, l3, l4, l5, l6, l7, l8, l9, I l10, l11, l12, l13] [s0] h = evL 115 151 [l0, l1, l2, l3, l4, l5, l6, l7, l8, l9, I l10, l11, l12, l13] [I l10, s0] h := ev_go c115_149 rfl
set_option maxRecDepth 20000 in
theorem c115_151 : cd 115 151 = some (151, .if_icmp .ne 39, 3, 0, 0, 0) := rfl
theorem s115_151 {l0 l1 l2 l3 l4 l5 l6 l7 l8 l9 l10 l11 l12 l13 : AV} {s0 s1 : Int} {h : AH} : evL 115 151 [l0, l1, l2, l3, l4, l5, l6, l7, l8, l9, l10, l11, l12, l13] [I s0, I s1] h = if s1 = s0 then evL 115 154 [l0, l1, l2, l3, l4, l5, l6, l7, l8, l9, l10, l11, l12, l13] [] h else evL 115 190 [l0, l1, l2, l3, l4, l5, l6, l7, l8, l9, l10, l11, l12, l13] [] h := e_icmp_ne c115_151 rfl rfl
set_option maxRecDepth 20000 in
theorem c115_154 : cd 115 154 = some (154, .aload_n 0, 1, 0, 0, 0) := rfl
theorem s115_154 {l1 l2 l3 l4 l5 l6 l7 l8 l9 l10 l11 l12 l13 : AV} {l0 : Option Nat} {h : AH} : evL 115 154 [.inr (.inl l0), l1, l2, l3, l4, l5, l6, l7, l8, l9, l10, l11, l12, l13] [] h = evL 115 155 [.inr (.inl l0), l1, l2, l3, l4, l5, l6, l7, l8, l9, l10, l11, l12, l13] [.inr (.inl l0)] h := ev_go c115_154 rfl
set_option maxRecDepth 20000 in
theorem c115_155 : cd 115 155 = some (155, .bipush 12, 2, 0, 0, 0) := rfl
theorem s115_155 {l0 l1 l2 l3 l4 l5 l6 l7 l8 l9 l10 l11 l12 l13 s0 : AV} {h : AH} : evL 115 155 [l0, l1, l2, l3, l4, l5, l6, l7, l8, l9, l10, l11, l12, l13] [s0] h = evL 115 157 [l0, l1, l2, l3, l4, l5, l6, l7, l8, l9, l10, l11, l12, l13] [I 12, s0] h := ev_go c115_155 rfl
set_option maxRecDepth 20000 in
theorem c115_157 : cd 115 157 = some (157, .invokevirtual 13, 3, 100, 0, 258) := rfl
theorem s115_157 {l0 l1 l2 l3 l4 l5 l6 l7 l8 l9 l10 l11 l12 l13 : AV} {s0 : Int} {s1 : Nat} {M : Mem} {P : PMem} (hk : kd s1 = 7) : evL 115 157 [l0, l1, l2, l3, l4, l5, l6, l7, l8, l9, l10, l11, l12, l13] [I s0, Rf s1] (Hp M P) = cont (evM 100 [Rf s1, I s0] (Hp M P)) (fun r h => evL 115 160 [l0, l1, l2, l3, l4, l5, l6, l7, l8, l9, l10, l11, l12, l13] (rl r []) h) := e_callV (av' := [I s0]) (rest := []) (c := 7) c115_157 rfl rfl rfl rfl rfl rfl rfl hk rfl
set_option maxRecDepth 20000 in
theorem c115_160 : cd 115 160 = some (160, .iload 5, 2, 0, 0, 0) := rfl
theorem s115_160 {l0 l1 l2 l3 l4 l6 l7 l8 l9 l10 l11 l12 l13 s0 : AV} {l5 : Int} {h : AH} : evL 115 160 [l0, l1, l2, l3, l4, I l5, l6, l7, l8, l9, l10, l11, l12, l13] [s0] h = evL 115 162 [l0, l1, l2, l3, l4, I l5, l6, l7, l8, l9, l10, l11, l12, l13] [I l5, s0] h := ev_go c115_160 rfl
set_option maxRecDepth 20000 in
theorem c115_162 : cd 115 162 = some (162, .iconst 1, 1, 0, 0, 0) := rfl
theorem s115_162 {l0 l1 l2 l3 l4 l5 l6 l7 l8 l9 l10 l11 l12 l13 s0 s1 : AV} {h : AH} : evL 115 162 [l0, l1, l2, l3, l4, l5, l6, l7, l8, l9, l10, l11, l12, l13] [s0, s1] h = evL 115 163 [l0, l1, l2, l3, l4, l5, l6, l7, l8, l9, l10, l11, l12, l13] [I 1, s0, s1] h := ev_go c115_162 rfl
set_option maxRecDepth 20000 in
theorem c115_163 : cd 115 163 = some (163, .iadd, 1, 0, 0, 0) := rfl
theorem s115_163 {l0 l1 l2 l3 l4 l5 l6 l7 l8 l9 l10 l11 l12 l13 s2 : AV} {s0 s1 : Int} {h : AH} : evL 115 163 [l0, l1, l2, l3, l4, l5, l6, l7, l8, l9, l10, l11, l12, l13] [I s0, I s1, s2] h = evL 115 164 [l0, l1, l2, l3, l4, l5, l6, l7, l8, l9, l10, l11, l12, l13] [I (ad s1 s0), s2] h := ev_go c115_163 rfl
set_option maxRecDepth 20000 in
theorem c115_164 : cd 115 164 = some (164, .if_icmp .ne 26, 3, 0, 0, 0) := rfl
theorem s115_164 {l0 l1 l2 l3 l4 l5 l6 l7 l8 l9 l10 l11 l12 l13 : AV} {s0 s1 : Int} {h : AH} : evL 115 164 [l0, l1, l2, l3, l4, l5, l6, l7, l8, l9, l10, l11, l12, l13] [I s0, I s1] h = if s1 = s0 then evL 115 167 [l0, l1, l2, l3, l4, l5, l6, l7, l8, l9, l10, l11, l12, l13] [] h else evL 115 190 [l0, l1, l2, l3, l4, l5, l6, l7, l8, l9, l10, l11, l12, l13] [] h := e_icmp_ne c115_164 rfl rfl
set_option maxRecDepth 20000 in
theorem c115_167 : cd 115 167 = some (167, .aload_n 0, 1, 0, 0, 0) := rfl
theorem s115_167 {l1 l2 l3 l4 l5 l6 l7 l8 l9 l10 l11 l12 l13 : AV} {l0 : Option Nat} {h : AH} : evL 115 167 [.inr (.inl l0), l1, l2, l3, l4, l5, l6, l7, l8, l9, l10, l11, l12, l13] [] h = evL 115 168 [.inr (.inl l0), l1, l2, l3, l4, l5, l6, l7, l8, l9, l10, l11, l12, l13] [.inr (.inl l0)] h := ev_go c115_167 rfl
set_option maxRecDepth 20000 in
theorem c115_168 : cd 115 168 = some (168, .iconst 4, 1, 0, 0, 0) := rfl
theorem s115_168 {l0 l1 l2 l3 l4 l5 l6 l7 l8 l9 l10 l11 l12 l13 s0 : AV} {h : AH} : evL 115 168 [l0, l1, l2, l3, l4, l5, l6, l7, l8, l9, l10, l11, l12, l13] [s0] h = evL 115 169 [l0, l1, l2, l3, l4, l5, l6, l7, l8, l9, l10, l11, l12, l13] [I 4, s0] h := ev_go c115_168 rfl
set_option maxRecDepth 20000 in
theorem c115_169 : cd 115 169 = some (169, .invokevirtual 13, 3, 100, 0, 258) := rfl
theorem s115_169 {l0 l1 l2 l3 l4 l5 l6 l7 l8 l9 l10 l11 l12 l13 : AV} {s0 : Int} {s1 : Nat} {M : Mem} {P : PMem} (hk : kd s1 = 7) : evL 115 169 [l0, l1, l2, l3, l4, l5, l6, l7, l8, l9, l10, l11, l12, l13] [I s0, Rf s1] (Hp M P) = cont (evM 100 [Rf s1, I s0] (Hp M P)) (fun r h => evL 115 172 [l0, l1, l2, l3, l4, l5, l6, l7, l8, l9, l10, l11, l12, l13] (rl r []) h) := e_callV (av' := [I s0]) (rest := []) (c := 7) c115_169 rfl rfl rfl rfl rfl rfl rfl hk rfl
set_option maxRecDepth 20000 in
theorem c115_172 : cd 115 172 = some (172, .iload_n 3, 1, 0, 0, 0) := rfl
theorem s115_172 {l0 l1 l2 l4 l5 l6 l7 l8 l9 l10 l11 l12 l13 s0 : AV} {l3 : Int} {h : AH} : evL 115 172 [l0, l1, l2, I l3, l4, l5, l6, l7, l8, l9, l10, l11, l12, l13] [s0] h = evL 115 173 [l0, l1, l2, I l3, l4, l5, l6, l7, l8, l9, l10, l11, l12, l13] [I l3, s0] h := ev_go c115_172 rfl
set_option maxRecDepth 20000 in
theorem c115_173 : cd 115 173 = some (173, .if_icmp .ne 17, 3, 0, 0, 0) := rfl
theorem s115_173 {l0 l1 l2 l3 l4 l5 l6 l7 l8 l9 l10 l11 l12 l13 : AV} {s0 s1 : Int} {h : AH} : evL 115 173 [l0, l1, l2, l3, l4, l5, l6, l7, l8, l9, l10, l11, l12, l13] [I s0, I s1] h = if s1 = s0 then evL 115 176 [l0, l1, l2, l3, l4, l5, l6, l7, l8, l9, l10, l11, l12, l13] [] h else evL 115 190 [l0, l1, l2, l3, l4, l5, l6, l7, l8, l9, l10, l11, l12, l13] [] h := e_icmp_ne c115_173 rfl rfl
set_option maxRecDepth 20000 in
theorem c115_176 : cd 115 176 = some (176, .aload_n 0, 1, 0, 0, 0) := rfl
theorem s115_176 {l1 l2 l3 l4 l5 l6 l7 l8 l9 l10 l11 l12 l13 : AV} {l0 : Option Nat} {h : AH} : evL 115 176 [.inr (.inl l0), l1, l2, l3, l4, l5, l6, l7, l8, l9, l10, l11, l12, l13] [] h = evL 115 177 [.inr (.inl l0), l1, l2, l3, l4, l5, l6, l7, l8, l9, l10, l11, l12, l13] [.inr (.inl l0)] h := ev_go c115_176 rfl
set_option maxRecDepth 20000 in
theorem c115_177 : cd 115 177 = some (177, .iconst 5, 1, 0, 0, 0) := rfl
theorem s115_177 {l0 l1 l2 l3 l4 l5 l6 l7 l8 l9 l10 l11 l12 l13 s0 : AV} {h : AH} : evL 115 177 [l0, l1, l2, l3, l4, l5, l6, l7, l8, l9, l10, l11, l12, l13] [s0] h = evL 115 178 [l0, l1, l2, l3, l4, l5, l6, l7, l8, l9, l10, l11, l12, l13] [I 5, s0] h := ev_go c115_177 rfl
set_option maxRecDepth 20000 in
theorem c115_178 : cd 115 178 = some (178, .invokevirtual 13, 3, 100, 0, 258) := rfl
theorem s115_178 {l0 l1 l2 l3 l4 l5 l6 l7 l8 l9 l10 l11 l12 l13 : AV} {s0 : Int} {s1 : Nat} {M : Mem} {P : PMem} (hk : kd s1 = 7) : evL 115 178 [l0, l1, l2, l3, l4, l5, l6, l7, l8, l9, l10, l11, l12, l13] [I s0, Rf s1] (Hp M P) = cont (evM 100 [Rf s1, I s0] (Hp M P)) (fun r h => evL 115 181 [l0, l1, l2, l3, l4, l5, l6, l7, l8, l9, l10, l11, l12, l13] (rl r []) h) := e_callV (av' := [I s0]) (rest := []) (c := 7) c115_178 rfl rfl rfl rfl rfl rfl rfl hk rfl
set_option maxRecDepth 20000 in
theorem c115_181 : cd 115 181 = some (181, .iload 6, 2, 0, 0, 0) := rfl
theorem s115_181 {l0 l1 l2 l3 l4 l5 l7 l8 l9 l10 l11 l12 l13 s0 : AV} {l6 : Int} {h : AH} : evL 115 181 [l0, l1, l2, l3, l4, l5, I l6, l7, l8, l9, l10, l11, l12, l13] [s0] h = evL 115 183 [l0, l1, l2, l3, l4, l5, I l6, l7, l8, l9, l10, l11, l12, l13] [I l6, s0] h := ev_go c115_181 rfl
set_option maxRecDepth 20000 in
theorem c115_183 : cd 115 183 = some (183, .if_icmp .ne 7, 3, 0, 0, 0) := rfl
theorem s115_183 {l0 l1 l2 l3 l4 l5 l6 l7 l8 l9 l10 l11 l12 l13 : AV} {s0 s1 : Int} {h : AH} : evL 115 183 [l0, l1, l2, l3, l4, l5, l6, l7, l8, l9, l10, l11, l12, l13] [I s0, I s1] h = if s1 = s0 then evL 115 186 [l0, l1, l2, l3, l4, l5, l6, l7, l8, l9, l10, l11, l12, l13] [] h else evL 115 190 [l0, l1, l2, l3, l4, l5, l6, l7, l8, l9, l10, l11, l12, l13] [] h := e_icmp_ne c115_183 rfl rfl
set_option maxRecDepth 20000 in
theorem c115_186 : cd 115 186 = some (186, .iconst 1, 1, 0, 0, 0) := rfl
theorem s115_186 {l0 l1 l2 l3 l4 l5 l6 l7 l8 l9 l10 l11 l12 l13 : AV} {h : AH} : evL 115 186 [l0, l1, l2, l3, l4, l5, l6, l7, l8, l9, l10, l11, l12, l13] [] h = evL 115 187 [l0, l1, l2, l3, l4, l5, l6, l7, l8, l9, l10, l11, l12, l13] [I 1] h := ev_go c115_186 rfl
set_option maxRecDepth 20000 in
theorem c115_187 : cd 115 187 = some (187, .goto 4, 3, 0, 0, 0) := rfl
theorem s115_187 {l0 l1 l2 l3 l4 l5 l6 l7 l8 l9 l10 l11 l12 l13 s0 : AV} {h : AH} : evL 115 187 [l0, l1, l2, l3, l4, l5, l6, l7, l8, l9, l10, l11, l12, l13] [s0] h = evL 115 191 [l0, l1, l2, l3, l4, l5, l6, l7, l8, l9, l10, l11, l12, l13] [s0] h := ev_go c115_187 rfl
set_option maxRecDepth 20000 in
theorem c115_190 : cd 115 190 = some (190, .iconst 0, 1, 0, 0, 0) := rfl
theorem s115_190 {l0 l1 l2 l3 l4 l5 l6 l7 l8 l9 l10 l11 l12 l13 : AV} {h : AH} : evL 115 190 [l0, l1, l2, l3, l4, l5, l6, l7, l8, l9, l10, l11, l12, l13] [] h = evL 115 191 [l0, l1, l2, l3, l4, l5, l6, l7, l8, l9, l10, l11, l12, l13] [I 0] h := ev_go c115_190 rfl
set_option maxRecDepth 20000 in
theorem c115_191 : cd 115 191 = some (191, .ireturn, 1, 0, 0, 0) := rfl
theorem s115_191 {l0 l1 l2 l3 l4 l5 l6 l7 l8 l9 l10 l11 l12 l13 : AV} {s0 : Int} {h : AH} (hz : s0 = 0 ∨ s0 = 1) : evL 115 191 [l0, l1, l2, l3, l4, l5, l6, l7, l8, l9, l10, l11, l12, l13] [I s0] h = some (some (I s0), h) := e_ret c115_191 (if_pos hz)
set_option maxRecDepth 20000 in
theorem c115_192 : cd 115 192 = some (192, .aload_n 0, 1, 0, 0, 0) := rfl
theorem s115_192 {l1 l2 l3 l4 l5 l6 l7 l8 l9 l10 l11 l12 l13 : AV} {l0 : Option Nat} {h : AH} : evL 115 192 [.inr (.inl l0), l1, l2, l3, l4, l5, l6, l7, l8, l9, l10, l11, l12, l13] [] h = evL 115 193 [.inr (.inl l0), l1, l2, l3, l4, l5, l6, l7, l8, l9, l10, l11, l12, l13] [.inr (.inl l0)] h := ev_go c115_192 rfl
set_option maxRecDepth 20000 in
theorem c115_193 : cd 115 193 = some (193, .iload_n 2, 1, 0, 0, 0) := rfl
theorem s115_193 {l0 l1 l3 l4 l5 l6 l7 l8 l9 l10 l11 l12 l13 s0 : AV} {l2 : Int} {h : AH} : evL 115 193 [l0, l1, I l2, l3, l4, l5, l6, l7, l8, l9, l10, l11, l12, l13] [s0] h = evL 115 194 [l0, l1, I l2, l3, l4, l5, l6, l7, l8, l9, l10, l11, l12, l13] [I l2, s0] h := ev_go c115_193 rfl
set_option maxRecDepth 20000 in
theorem c115_194 : cd 115 194 = some (194, .iconst 0, 1, 0, 0, 0) := rfl
theorem s115_194 {l0 l1 l2 l3 l4 l5 l6 l7 l8 l9 l10 l11 l12 l13 s0 s1 : AV} {h : AH} : evL 115 194 [l0, l1, l2, l3, l4, l5, l6, l7, l8, l9, l10, l11, l12, l13] [s0, s1] h = evL 115 195 [l0, l1, l2, l3, l4, l5, l6, l7, l8, l9, l10, l11, l12, l13] [I 0, s0, s1] h := ev_go c115_194 rfl
set_option maxRecDepth 20000 in
theorem c115_195 : cd 115 195 = some (195, .invokevirtual 23, 3, 97, 0, 406) := rfl
theorem s115_195 {l0 l1 l2 l3 l4 l5 l6 l7 l8 l9 l10 l11 l12 l13 : AV} {s0 s1 : Int} {s2 : Nat} {M : Mem} {P : PMem} (hk : kd s2 = 7) : evL 115 195 [l0, l1, l2, l3, l4, l5, l6, l7, l8, l9, l10, l11, l12, l13] [I s0, I s1, Rf s2] (Hp M P) = cont (evM 97 [Rf s2, I s1, I s0] (Hp M P)) (fun r h => evL 115 198 [l0, l1, l2, l3, l4, l5, l6, l7, l8, l9, l10, l11, l12, l13] (rl r []) h) := e_callV (av' := [I s1, I s0]) (rest := []) (c := 7) c115_195 rfl rfl rfl rfl rfl rfl rfl hk rfl
set_option maxRecDepth 20000 in
theorem c115_198 : cd 115 198 = some (198, .istore 12, 2, 0, 0, 0) := rfl
theorem s115_198 {l0 l1 l2 l3 l4 l5 l6 l7 l8 l9 l10 l11 l12 l13 : AV} {s0 : Int} {h : AH} : evL 115 198 [l0, l1, l2, l3, l4, l5, l6, l7, l8, l9, l10, l11, l12, l13] [I s0] h = evL 115 200 [l0, l1, l2, l3, l4, l5, l6, l7, l8, l9, l10, l11, I s0, l13] [] h := ev_go c115_198 rfl
set_option maxRecDepth 20000 in
theorem c115_200 : cd 115 200 = some (200, .iload 4, 2, 0, 0, 0) := rfl
theorem s115_200 {l0 l1 l2 l3 l5 l6 l7 l8 l9 l10 l11 l12 l13 : AV} {l4 : Int} {h : AH} : evL 115 200 [l0, l1, l2, l3, I l4, l5, l6, l7, l8, l9, l10, l11, l12, l13] [] h = evL 115 202 [l0, l1, l2, l3, I l4, l5, l6, l7, l8, l9, l10, l11, l12, l13] [I l4] h := ev_go c115_200 rfl
set_option maxRecDepth 20000 in
theorem c115_202 : cd 115 202 = some (202, .ifCond .ne 9, 3, 0, 0, 0) := rfl
theorem s115_202 {l0 l1 l2 l3 l4 l5 l6 l7 l8 l9 l10 l11 l12 l13 : AV} {s0 : Int} {h : AH} : evL 115 202 [l0, l1, l2, l3, l4, l5, l6, l7, l8, l9, l10, l11, l12, l13] [I s0] h = if s0 = 0 then evL 115 205 [l0, l1, l2, l3, l4, l5, l6, l7, l8, l9, l10, l11, l12, l13] [] h else evL 115 211 [l0, l1, l2, l3, l4, l5, l6, l7, l8, l9, l10, l11, l12, l13] [] h := e_if_ne c115_202 rfl rfl
set_option maxRecDepth 20000 in
theorem c115_205 : cd 115 205 = some (205, .iload 9, 2, 0, 0, 0) := rfl
theorem s115_205 {l0 l1 l2 l3 l4 l5 l6 l7 l8 l10 l11 l12 l13 : AV} {l9 : Int} {h : AH} : evL 115 205 [l0, l1, l2, l3, l4, l5, l6, l7, l8, I l9, l10, l11, l12, l13] [] h = evL 115 207 [l0, l1, l2, l3, l4, l5, l6, l7, l8, I l9, l10, l11, l12, l13] [I l9] h := ev_go c115_205 rfl
set_option maxRecDepth 20000 in
theorem c115_207 : cd 115 207 = some (207, .iconst 1, 1, 0, 0, 0) := rfl
theorem s115_207 {l0 l1 l2 l3 l4 l5 l6 l7 l8 l9 l10 l11 l12 l13 s0 : AV} {h : AH} : evL 115 207 [l0, l1, l2, l3, l4, l5, l6, l7, l8, l9, l10, l11, l12, l13] [s0] h = evL 115 208 [l0, l1, l2, l3, l4, l5, l6, l7, l8, l9, l10, l11, l12, l13] [I 1, s0] h := ev_go c115_207 rfl
set_option maxRecDepth 20000 in
theorem c115_208 : cd 115 208 = some (208, .if_icmp .ne 7, 3, 0, 0, 0) := rfl
theorem s115_208 {l0 l1 l2 l3 l4 l5 l6 l7 l8 l9 l10 l11 l12 l13 : AV} {s0 s1 : Int} {h : AH} : evL 115 208 [l0, l1, l2, l3, l4, l5, l6, l7, l8, l9, l10, l11, l12, l13] [I s0, I s1] h = if s1 = s0 then evL 115 211 [l0, l1, l2, l3, l4, l5, l6, l7, l8, l9, l10, l11, l12, l13] [] h else evL 115 215 [l0, l1, l2, l3, l4, l5, l6, l7, l8, l9, l10, l11, l12, l13] [] h := e_icmp_ne c115_208 rfl rfl
set_option maxRecDepth 20000 in
theorem c115_211 : cd 115 211 = some (211, .iconst 1, 1, 0, 0, 0) := rfl
theorem s115_211 {l0 l1 l2 l3 l4 l5 l6 l7 l8 l9 l10 l11 l12 l13 : AV} {h : AH} : evL 115 211 [l0, l1, l2, l3, l4, l5, l6, l7, l8, l9, l10, l11, l12, l13] [] h = evL 115 212 [l0, l1, l2, l3, l4, l5, l6, l7, l8, l9, l10, l11, l12, l13] [I 1] h := ev_go c115_211 rfl
set_option maxRecDepth 20000 in
theorem c115_212 : cd 115 212 = some (212, .goto 4, 3, 0, 0, 0) := rfl
theorem s115_212 {l0 l1 l2 l3 l4 l5 l6 l7 l8 l9 l10 l11 l12 l13 s0 : AV} {h : AH} : evL 115 212 [l0, l1, l2, l3, l4, l5, l6, l7, l8, l9, l10, l11, l12, l13] [s0] h = evL 115 216 [l0, l1, l2, l3, l4, l5, l6, l7, l8, l9, l10, l11, l12, l13] [s0] h := ev_go c115_212 rfl
set_option maxRecDepth 20000 in
theorem c115_215 : cd 115 215 = some (215, .iconst 0, 1, 0, 0, 0) := rfl
theorem s115_215 {l0 l1 l2 l3 l4 l5 l6 l7 l8 l9 l10 l11 l12 l13 : AV} {h : AH} : evL 115 215 [l0, l1, l2, l3, l4, l5, l6, l7, l8, l9, l10, l11, l12, l13] [] h = evL 115 216 [l0, l1, l2, l3, l4, l5, l6, l7, l8, l9, l10, l11, l12, l13] [I 0] h := ev_go c115_215 rfl
set_option maxRecDepth 20000 in
theorem c115_216 : cd 115 216 = some (216, .istore 13, 2, 0, 0, 0) := rfl
theorem s115_216 {l0 l1 l2 l3 l4 l5 l6 l7 l8 l9 l10 l11 l12 l13 : AV} {s0 : Int} {h : AH} : evL 115 216 [l0, l1, l2, l3, l4, l5, l6, l7, l8, l9, l10, l11, l12, l13] [I s0] h = evL 115 218 [l0, l1, l2, l3, l4, l5, l6, l7, l8, l9, l10, l11, l12, I s0] [] h := ev_go c115_216 rfl
set_option maxRecDepth 20000 in
theorem c115_218 : cd 115 218 = some (218, .iload 11, 2, 0, 0, 0) := rfl
theorem s115_218 {l0 l1 l2 l3 l4 l5 l6 l7 l8 l9 l10 l12 l13 : AV} {l11 : Int} {h : AH} : evL 115 218 [l0, l1, l2, l3, l4, l5, l6, l7, l8, l9, l10, I l11, l12, l13] [] h = evL 115 220 [l0, l1, l2, l3, l4, l5, l6, l7, l8, l9, l10, I l11, l12, l13] [I l11] h := ev_go c115_218 rfl
set_option maxRecDepth 20000 in
theorem c115_220 : cd 115 220 = some (220, .bipush 10, 2, 0, 0, 0) := rfl
theorem s115_220 {l0 l1 l2 l3 l4 l5 l6 l7 l8 l9 l10 l11 l12 l13 s0 : AV} {h : AH} : evL 115 220 [l0, l1, l2, l3, l4, l5, l6, l7, l8, l9, l10, l11, l12, l13] [s0] h = evL 115 222 [l0, l1, l2, l3, l4, l5, l6, l7, l8, l9, l10, l11, l12, l13] [I 10, s0] h := ev_go c115_220 rfl
set_option maxRecDepth 20000 in
theorem c115_222 : cd 115 222 = some (222, .iload 12, 2, 0, 0, 0) := rfl
theorem s115_222 {l0 l1 l2 l3 l4 l5 l6 l7 l8 l9 l10 l11 l13 s0 s1 : AV} {l12 : Int} {h : AH} : evL 115 222 [l0, l1, l2, l3, l4, l5, l6, l7, l8, l9, l10, l11, I l12, l13] [s0, s1] h = evL 115 224 [l0, l1, l2, l3, l4, l5, l6, l7, l8, l9, l10, l11, I l12, l13] [I l12, s0, s1] h := ev_go c115_222 rfl
set_option maxRecDepth 20000 in
theorem c115_224 : cd 115 224 = some (224, .iadd, 1, 0, 0, 0) := rfl
theorem s115_224 {l0 l1 l2 l3 l4 l5 l6 l7 l8 l9 l10 l11 l12 l13 s2 : AV} {s0 s1 : Int} {h : AH} : evL 115 224 [l0, l1, l2, l3, l4, l5, l6, l7, l8, l9, l10, l11, l12, l13] [I s0, I s1, s2] h = evL 115 225 [l0, l1, l2, l3, l4, l5, l6, l7, l8, l9, l10, l11, l12, l13] [I (ad s1 s0), s2] h := ev_go c115_224 rfl
set_option maxRecDepth 20000 in
theorem c115_225 : cd 115 225 = some (225, .if_icmp .ne 157, 3, 0, 0, 0) := rfl
theorem s115_225 {l0 l1 l2 l3 l4 l5 l6 l7 l8 l9 l10 l11 l12 l13 : AV} {s0 s1 : Int} {h : AH} : evL 115 225 [l0, l1, l2, l3, l4, l5, l6, l7, l8, l9, l10, l11, l12, l13] [I s0, I s1] h = if s1 = s0 then evL 115 228 [l0, l1, l2, l3, l4, l5, l6, l7, l8, l9, l10, l11, l12, l13] [] h else evL 115 382 [l0, l1, l2, l3, l4, l5, l6, l7, l8, l9, l10, l11, l12, l13] [] h := e_icmp_ne c115_225 rfl rfl
set_option maxRecDepth 20000 in
theorem c115_228 : cd 115 228 = some (228, .aload_n 0, 1, 0, 0, 0) := rfl
theorem s115_228 {l1 l2 l3 l4 l5 l6 l7 l8 l9 l10 l11 l12 l13 : AV} {l0 : Option Nat} {h : AH} : evL 115 228 [.inr (.inl l0), l1, l2, l3, l4, l5, l6, l7, l8, l9, l10, l11, l12, l13] [] h = evL 115 229 [.inr (.inl l0), l1, l2, l3, l4, l5, l6, l7, l8, l9, l10, l11, l12, l13] [.inr (.inl l0)] h := ev_go c115_228 rfl
set_option maxRecDepth 20000 in
theorem c115_229 : cd 115 229 = some (229, .iconst 4, 1, 0, 0, 0) := rfl
theorem s115_229 {l0 l1 l2 l3 l4 l5 l6 l7 l8 l9 l10 l11 l12 l13 s0 : AV} {h : AH} : evL 115 229 [l0, l1, l2, l3, l4, l5, l6, l7, l8, l9, l10, l11, l12, l13] [s0] h = evL 115 230 [l0, l1, l2, l3, l4, l5, l6, l7, l8, l9, l10, l11, l12, l13] [I 4, s0] h := ev_go c115_229 rfl
set_option maxRecDepth 20000 in
theorem c115_230 : cd 115 230 = some (230, .invokevirtual 13, 3, 100, 0, 258) := rfl
theorem s115_230 {l0 l1 l2 l3 l4 l5 l6 l7 l8 l9 l10 l11 l12 l13 : AV} {s0 : Int} {s1 : Nat} {M : Mem} {P : PMem} (hk : kd s1 = 7) : evL 115 230 [l0, l1, l2, l3, l4, l5, l6, l7, l8, l9, l10, l11, l12, l13] [I s0, Rf s1] (Hp M P) = cont (evM 100 [Rf s1, I s0] (Hp M P)) (fun r h => evL 115 233 [l0, l1, l2, l3, l4, l5, l6, l7, l8, l9, l10, l11, l12, l13] (rl r []) h) := e_callV (av' := [I s0]) (rest := []) (c := 7) c115_230 rfl rfl rfl rfl rfl rfl rfl hk rfl
set_option maxRecDepth 20000 in
theorem c115_233 : cd 115 233 = some (233, .iconst 1, 1, 0, 0, 0) := rfl
theorem s115_233 {l0 l1 l2 l3 l4 l5 l6 l7 l8 l9 l10 l11 l12 l13 s0 : AV} {h : AH} : evL 115 233 [l0, l1, l2, l3, l4, l5, l6, l7, l8, l9, l10, l11, l12, l13] [s0] h = evL 115 234 [l0, l1, l2, l3, l4, l5, l6, l7, l8, l9, l10, l11, l12, l13] [I 1, s0] h := ev_go c115_233 rfl
set_option maxRecDepth 20000 in
theorem c115_234 : cd 115 234 = some (234, .if_icmp .ne 148, 3, 0, 0, 0) := rfl
theorem s115_234 {l0 l1 l2 l3 l4 l5 l6 l7 l8 l9 l10 l11 l12 l13 : AV} {s0 s1 : Int} {h : AH} : evL 115 234 [l0, l1, l2, l3, l4, l5, l6, l7, l8, l9, l10, l11, l12, l13] [I s0, I s1] h = if s1 = s0 then evL 115 237 [l0, l1, l2, l3, l4, l5, l6, l7, l8, l9, l10, l11, l12, l13] [] h else evL 115 382 [l0, l1, l2, l3, l4, l5, l6, l7, l8, l9, l10, l11, l12, l13] [] h := e_icmp_ne c115_234 rfl rfl
set_option maxRecDepth 20000 in
theorem c115_237 : cd 115 237 = some (237, .aload_n 0, 1, 0, 0, 0) := rfl
theorem s115_237 {l1 l2 l3 l4 l5 l6 l7 l8 l9 l10 l11 l12 l13 : AV} {l0 : Option Nat} {h : AH} : evL 115 237 [.inr (.inl l0), l1, l2, l3, l4, l5, l6, l7, l8, l9, l10, l11, l12, l13] [] h = evL 115 238 [.inr (.inl l0), l1, l2, l3, l4, l5, l6, l7, l8, l9, l10, l11, l12, l13] [.inr (.inl l0)] h := ev_go c115_237 rfl
set_option maxRecDepth 20000 in
theorem c115_238 : cd 115 238 = some (238, .iconst 3, 1, 0, 0, 0) := rfl
theorem s115_238 {l0 l1 l2 l3 l4 l5 l6 l7 l8 l9 l10 l11 l12 l13 s0 : AV} {h : AH} : evL 115 238 [l0, l1, l2, l3, l4, l5, l6, l7, l8, l9, l10, l11, l12, l13] [s0] h = evL 115 239 [l0, l1, l2, l3, l4, l5, l6, l7, l8, l9, l10, l11, l12, l13] [I 3, s0] h := ev_go c115_238 rfl
set_option maxRecDepth 20000 in
theorem c115_239 : cd 115 239 = some (239, .invokevirtual 13, 3, 100, 0, 258) := rfl
theorem s115_239 {l0 l1 l2 l3 l4 l5 l6 l7 l8 l9 l10 l11 l12 l13 : AV} {s0 : Int} {s1 : Nat} {M : Mem} {P : PMem} (hk : kd s1 = 7) : evL 115 239 [l0, l1, l2, l3, l4, l5, l6, l7, l8, l9, l10, l11, l12, l13] [I s0, Rf s1] (Hp M P) = cont (evM 100 [Rf s1, I s0] (Hp M P)) (fun r h => evL 115 242 [l0, l1, l2, l3, l4, l5, l6, l7, l8, l9, l10, l11, l12, l13] (rl r []) h) := e_callV (av' := [I s0]) (rest := []) (c := 7) c115_239 rfl rfl rfl rfl rfl rfl rfl hk rfl
set_option maxRecDepth 20000 in
theorem c115_242 : cd 115 242 = some (242, .iload_n 2, 1, 0, 0, 0) := rfl
theorem s115_242 {l0 l1 l3 l4 l5 l6 l7 l8 l9 l10 l11 l12 l13 s0 : AV} {l2 : Int} {h : AH} : evL 115 242 [l0, l1, I l2, l3, l4, l5, l6, l7, l8, l9, l10, l11, l12, l13] [s0] h = evL 115 243 [l0, l1, I l2, l3, l4, l5, l6, l7, l8, l9, l10, l11, l12, l13] [I l2, s0] h := ev_go c115_242 rfl
set_option maxRecDepth 20000 in
theorem c115_243 : cd 115 243 = some (243, .if_icmp .ne 139, 3, 0, 0, 0) := rfl
theorem s115_243 {l0 l1 l2 l3 l4 l5 l6 l7 l8 l9 l10 l11 l12 l13 : AV} {s0 s1 : Int} {h : AH} : evL 115 243 [l0, l1, l2, l3, l4, l5, l6, l7, l8, l9, l10, l11, l12, l13] [I s0, I s1] h = if s1 = s0 then evL 115 246 [l0, l1, l2, l3, l4, l5, l6, l7, l8, l9, l10, l11, l12, l13] [] h else evL 115 382 [l0, l1, l2, l3, l4, l5, l6, l7, l8, l9, l10, l11, l12, l13] [] h := e_icmp_ne c115_243 rfl rfl
set_option maxRecDepth 20000 in
theorem c115_246 : cd 115 246 = some (246, .aload_n 0, 1, 0, 0, 0) := rfl
theorem s115_246 {l1 l2 l3 l4 l5 l6 l7 l8 l9 l10 l11 l12 l13 : AV} {l0 : Option Nat} {h : AH} : evL 115 246 [.inr (.inl l0), l1, l2, l3, l4, l5, l6, l7, l8, l9, l10, l11, l12, l13] [] h = evL 115 247 [.inr (.inl l0), l1, l2, l3, l4, l5, l6, l7, l8, l9, l10, l11, l12, l13] [.inr (.inl l0)] h := ev_go c115_246 rfl
set_option maxRecDepth 20000 in
theorem c115_247 : cd 115 247 = some (247, .bipush 12, 2, 0, 0, 0) := rfl
theorem s115_247 {l0 l1 l2 l3 l4 l5 l6 l7 l8 l9 l10 l11 l12 l13 s0 : AV} {h : AH} : evL 115 247 [l0, l1, l2, l3, l4, l5, l6, l7, l8, l9, l10, l11, l12, l13] [s0] h = evL 115 249 [l0, l1, l2, l3, l4, l5, l6, l7, l8, l9, l10, l11, l12, l13] [I 12, s0] h := ev_go c115_247 rfl
set_option maxRecDepth 20000 in
theorem c115_249 : cd 115 249 = some (249, .invokevirtual 13, 3, 100, 0, 258) := rfl
theorem s115_249 {l0 l1 l2 l3 l4 l5 l6 l7 l8 l9 l10 l11 l12 l13 : AV} {s0 : Int} {s1 : Nat} {M : Mem} {P : PMem} (hk : kd s1 = 7) : evL 115 249 [l0, l1, l2, l3, l4, l5, l6, l7, l8, l9, l10, l11, l12, l13] [I s0, Rf s1] (Hp M P) = cont (evM 100 [Rf s1, I s0] (Hp M P)) (fun r h => evL 115 252 [l0, l1, l2, l3, l4, l5, l6, l7, l8, l9, l10, l11, l12, l13] (rl r []) h) := e_callV (av' := [I s0]) (rest := []) (c := 7) c115_249 rfl rfl rfl rfl rfl rfl rfl hk rfl
set_option maxRecDepth 20000 in
theorem c115_252 : cd 115 252 = some (252, .iload 5, 2, 0, 0, 0) := rfl
theorem s115_252 {l0 l1 l2 l3 l4 l6 l7 l8 l9 l10 l11 l12 l13 s0 : AV} {l5 : Int} {h : AH} : evL 115 252 [l0, l1, l2, l3, l4, I l5, l6, l7, l8, l9, l10, l11, l12, l13] [s0] h = evL 115 254 [l0, l1, l2, l3, l4, I l5, l6, l7, l8, l9, l10, l11, l12, l13] [I l5, s0] h := ev_go c115_252 rfl
set_option maxRecDepth 20000 in
theorem c115_254 : cd 115 254 = some (254, .if_icmp .ne 128, 3, 0, 0, 0) := rfl
theorem s115_254 {l0 l1 l2 l3 l4 l5 l6 l7 l8 l9 l10 l11 l12 l13 : AV} {s0 s1 : Int} {h : AH} : evL 115 254 [l0, l1, l2, l3, l4, l5, l6, l7, l8, l9, l10, l11, l12, l13] [I s0, I s1] h = if s1 = s0 then evL 115 257 [l0, l1, l2, l3, l4, l5, l6, l7, l8, l9, l10, l11, l12, l13] [] h else evL 115 382 [l0, l1, l2, l3, l4, l5, l6, l7, l8, l9, l10, l11, l12, l13] [] h := e_icmp_ne c115_254 rfl rfl
set_option maxRecDepth 20000 in
theorem c115_257 : cd 115 257 = some (257, .aload_n 0, 1, 0, 0, 0) := rfl
theorem s115_257 {l1 l2 l3 l4 l5 l6 l7 l8 l9 l10 l11 l12 l13 : AV} {l0 : Option Nat} {h : AH} : evL 115 257 [.inr (.inl l0), l1, l2, l3, l4, l5, l6, l7, l8, l9, l10, l11, l12, l13] [] h = evL 115 258 [.inr (.inl l0), l1, l2, l3, l4, l5, l6, l7, l8, l9, l10, l11, l12, l13] [.inr (.inl l0)] h := ev_go c115_257 rfl
set_option maxRecDepth 20000 in
theorem c115_258 : cd 115 258 = some (258, .iconst 5, 1, 0, 0, 0) := rfl
theorem s115_258 {l0 l1 l2 l3 l4 l5 l6 l7 l8 l9 l10 l11 l12 l13 s0 : AV} {h : AH} : evL 115 258 [l0, l1, l2, l3, l4, l5, l6, l7, l8, l9, l10, l11, l12, l13] [s0] h = evL 115 259 [l0, l1, l2, l3, l4, l5, l6, l7, l8, l9, l10, l11, l12, l13] [I 5, s0] h := ev_go c115_258 rfl
set_option maxRecDepth 20000 in
theorem c115_259 : cd 115 259 = some (259, .invokevirtual 13, 3, 100, 0, 258) := rfl
theorem s115_259 {l0 l1 l2 l3 l4 l5 l6 l7 l8 l9 l10 l11 l12 l13 : AV} {s0 : Int} {s1 : Nat} {M : Mem} {P : PMem} (hk : kd s1 = 7) : evL 115 259 [l0, l1, l2, l3, l4, l5, l6, l7, l8, l9, l10, l11, l12, l13] [I s0, Rf s1] (Hp M P) = cont (evM 100 [Rf s1, I s0] (Hp M P)) (fun r h => evL 115 262 [l0, l1, l2, l3, l4, l5, l6, l7, l8, l9, l10, l11, l12, l13] (rl r []) h) := e_callV (av' := [I s0]) (rest := []) (c := 7) c115_259 rfl rfl rfl rfl rfl rfl rfl hk rfl
set_option maxRecDepth 20000 in
theorem c115_262 : cd 115 262 = some (262, .iload 6, 2, 0, 0, 0) := rfl
theorem s115_262 {l0 l1 l2 l3 l4 l5 l7 l8 l9 l10 l11 l12 l13 s0 : AV} {l6 : Int} {h : AH} : evL 115 262 [l0, l1, l2, l3, l4, l5, I l6, l7, l8, l9, l10, l11, l12, l13] [s0] h = evL 115 264 [l0, l1, l2, l3, l4, l5, I l6, l7, l8, l9, l10, l11, l12, l13] [I l6, s0] h := ev_go c115_262 rfl
set_option maxRecDepth 20000 in
theorem c115_264 : cd 115 264 = some (264, .iload 7, 2, 0, 0, 0) := rfl
theorem s115_264 {l0 l1 l2 l3 l4 l5 l6 l8 l9 l10 l11 l12 l13 s0 s1 : AV} {l7 : Int} {h : AH} : evL 115 264 [l0, l1, l2, l3, l4, l5, l6, I l7, l8, l9, l10, l11, l12, l13] [s0, s1] h = evL 115 266 [l0, l1, l2, l3, l4, l5, l6, I l7, l8, l9, l10, l11, l12, l13] [I l7, s0, s1] h := ev_go c115_264 rfl
set_option maxRecDepth 20000 in
theorem c115_266 : cd 115 266 = some (266, .if_icmp .le 11, 3, 0, 0, 0) := rfl
theorem s115_266 {l0 l1 l2 l3 l4 l5 l6 l7 l8 l9 l10 l11 l12 l13 s2 : AV} {s0 s1 : Int} {h : AH} : evL 115 266 [l0, l1, l2, l3, l4, l5, l6, l7, l8, l9, l10, l11, l12, l13] [I s0, I s1, s2] h = if s1 ≤ s0 then evL 115 277 [l0, l1, l2, l3, l4, l5, l6, l7, l8, l9, l10, l11, l12, l13] [s2] h else evL 115 269 [l0, l1, l2, l3, l4, l5, l6, l7, l8, l9, l10, l11, l12, l13] [s2] h := e_icmp_le c115_266 rfl rfl
set_option maxRecDepth 20000 in
theorem c115_269 : cd 115 269 = some (269, .iload 6, 2, 0, 0, 0) := rfl
theorem s115_269 {l0 l1 l2 l3 l4 l5 l7 l8 l9 l10 l11 l12 l13 s0 : AV} {l6 : Int} {h : AH} : evL 115 269 [l0, l1, l2, l3, l4, l5, I l6, l7, l8, l9, l10, l11, l12, l13] [s0] h = evL 115 271 [l0, l1, l2, l3, l4, l5, I l6, l7, l8, l9, l10, l11, l12, l13] [I l6, s0] h := ev_go c115_269 rfl
set_option maxRecDepth 20000 in
theorem c115_271 : cd 115 271 = some (271, .iload 7, 2, 0, 0, 0) := rfl
theorem s115_271 {l0 l1 l2 l3 l4 l5 l6 l8 l9 l10 l11 l12 l13 s0 s1 : AV} {l7 : Int} {h : AH} : evL 115 271 [l0, l1, l2, l3, l4, l5, l6, I l7, l8, l9, l10, l11, l12, l13] [s0, s1] h = evL 115 273 [l0, l1, l2, l3, l4, l5, l6, I l7, l8, l9, l10, l11, l12, l13] [I l7, s0, s1] h := ev_go c115_271 rfl
set_option maxRecDepth 20000 in
theorem c115_273 : cd 115 273 = some (273, .isub, 1, 0, 0, 0) := rfl
theorem s115_273 {l0 l1 l2 l3 l4 l5 l6 l7 l8 l9 l10 l11 l12 l13 s2 : AV} {s0 s1 : Int} {h : AH} : evL 115 273 [l0, l1, l2, l3, l4, l5, l6, l7, l8, l9, l10, l11, l12, l13] [I s0, I s1, s2] h = evL 115 274 [l0, l1, l2, l3, l4, l5, l6, l7, l8, l9, l10, l11, l12, l13] [I (sb s1 s0), s2] h := ev_go c115_273 rfl
set_option maxRecDepth 20000 in
theorem c115_274 : cd 115 274 = some (274, .goto 4, 3, 0, 0, 0) := rfl
theorem s115_274 {l0 l1 l2 l3 l4 l5 l6 l7 l8 l9 l10 l11 l12 l13 s0 s1 : AV} {h : AH} : evL 115 274 [l0, l1, l2, l3, l4, l5, l6, l7, l8, l9, l10, l11, l12, l13] [s0, s1] h = evL 115 278 [l0, l1, l2, l3, l4, l5, l6, l7, l8, l9, l10, l11, l12, l13] [s0, s1] h := ev_go c115_274 rfl
set_option maxRecDepth 20000 in
theorem c115_277 : cd 115 277 = some (277, .iconst 0, 1, 0, 0, 0) := rfl
theorem s115_277 {l0 l1 l2 l3 l4 l5 l6 l7 l8 l9 l10 l11 l12 l13 s0 : AV} {h : AH} : evL 115 277 [l0, l1, l2, l3, l4, l5, l6, l7, l8, l9, l10, l11, l12, l13] [s0] h = evL 115 278 [l0, l1, l2, l3, l4, l5, l6, l7, l8, l9, l10, l11, l12, l13] [I 0, s0] h := ev_go c115_277 rfl
set_option maxRecDepth 20000 in
theorem c115_278 : cd 115 278 = some (278, .if_icmp .ne 104, 3, 0, 0, 0) := rfl
theorem s115_278 {l0 l1 l2 l3 l4 l5 l6 l7 l8 l9 l10 l11 l12 l13 : AV} {s0 s1 : Int} {h : AH} : evL 115 278 [l0, l1, l2, l3, l4, l5, l6, l7, l8, l9, l10, l11, l12, l13] [I s0, I s1] h = if s1 = s0 then evL 115 281 [l0, l1, l2, l3, l4, l5, l6, l7, l8, l9, l10, l11, l12, l13] [] h else evL 115 382 [l0, l1, l2, l3, l4, l5, l6, l7, l8, l9, l10, l11, l12, l13] [] h := e_icmp_ne c115_278 rfl rfl
set_option maxRecDepth 20000 in
theorem c115_281 : cd 115 281 = some (281, .aload_n 0, 1, 0, 0, 0) := rfl
theorem s115_281 {l1 l2 l3 l4 l5 l6 l7 l8 l9 l10 l11 l12 l13 : AV} {l0 : Option Nat} {h : AH} : evL 115 281 [.inr (.inl l0), l1, l2, l3, l4, l5, l6, l7, l8, l9, l10, l11, l12, l13] [] h = evL 115 282 [.inr (.inl l0), l1, l2, l3, l4, l5, l6, l7, l8, l9, l10, l11, l12, l13] [.inr (.inl l0)] h := ev_go c115_281 rfl
set_option maxRecDepth 20000 in
theorem c115_282 : cd 115 282 = some (282, .bipush 11, 2, 0, 0, 0) := rfl
theorem s115_282 {l0 l1 l2 l3 l4 l5 l6 l7 l8 l9 l10 l11 l12 l13 s0 : AV} {h : AH} : evL 115 282 [l0, l1, l2, l3, l4, l5, l6, l7, l8, l9, l10, l11, l12, l13] [s0] h = evL 115 284 [l0, l1, l2, l3, l4, l5, l6, l7, l8, l9, l10, l11, l12, l13] [I 11, s0] h := ev_go c115_282 rfl
set_option maxRecDepth 20000 in
theorem c115_284 : cd 115 284 = some (284, .invokevirtual 13, 3, 100, 0, 258) := rfl
theorem s115_284 {l0 l1 l2 l3 l4 l5 l6 l7 l8 l9 l10 l11 l12 l13 : AV} {s0 : Int} {s1 : Nat} {M : Mem} {P : PMem} (hk : kd s1 = 7) : evL 115 284 [l0, l1, l2, l3, l4, l5, l6, l7, l8, l9, l10, l11, l12, l13] [I s0, Rf s1] (Hp M P) = cont (evM 100 [Rf s1, I s0] (Hp M P)) (fun r h => evL 115 287 [l0, l1, l2, l3, l4, l5, l6, l7, l8, l9, l10, l11, l12, l13] (rl r []) h) := e_callV (av' := [I s0]) (rest := []) (c := 7) c115_284 rfl rfl rfl rfl rfl rfl rfl hk rfl
set_option maxRecDepth 20000 in
theorem c115_287 : cd 115 287 = some (287, .iconst 2, 1, 0, 0, 0) := rfl
theorem s115_287 {l0 l1 l2 l3 l4 l5 l6 l7 l8 l9 l10 l11 l12 l13 s0 : AV} {h : AH} : evL 115 287 [l0, l1, l2, l3, l4, l5, l6, l7, l8, l9, l10, l11, l12, l13] [s0] h = evL 115 288 [l0, l1, l2, l3, l4, l5, l6, l7, l8, l9, l10, l11, l12, l13] [I 2, s0] h := ev_go c115_287 rfl
set_option maxRecDepth 20000 in
theorem c115_288 : cd 115 288 = some (288, .if_icmp .lt 94, 3, 0, 0, 0) := rfl
theorem s115_288 {l0 l1 l2 l3 l4 l5 l6 l7 l8 l9 l10 l11 l12 l13 : AV} {s0 s1 : Int} {h : AH} : evL 115 288 [l0, l1, l2, l3, l4, l5, l6, l7, l8, l9, l10, l11, l12, l13] [I s0, I s1] h = if s1 < s0 then evL 115 382 [l0, l1, l2, l3, l4, l5, l6, l7, l8, l9, l10, l11, l12, l13] [] h else evL 115 291 [l0, l1, l2, l3, l4, l5, l6, l7, l8, l9, l10, l11, l12, l13] [] h := e_icmp_lt c115_288 rfl rfl
set_option maxRecDepth 20000 in
theorem c115_291 : cd 115 291 = some (291, .aload_n 0, 1, 0, 0, 0) := rfl
theorem s115_291 {l1 l2 l3 l4 l5 l6 l7 l8 l9 l10 l11 l12 l13 : AV} {l0 : Option Nat} {h : AH} : evL 115 291 [.inr (.inl l0), l1, l2, l3, l4, l5, l6, l7, l8, l9, l10, l11, l12, l13] [] h = evL 115 292 [.inr (.inl l0), l1, l2, l3, l4, l5, l6, l7, l8, l9, l10, l11, l12, l13] [.inr (.inl l0)] h := ev_go c115_291 rfl
set_option maxRecDepth 20000 in
theorem c115_292 : cd 115 292 = some (292, .bipush 11, 2, 0, 0, 0) := rfl
theorem s115_292 {l0 l1 l2 l3 l4 l5 l6 l7 l8 l9 l10 l11 l12 l13 s0 : AV} {h : AH} : evL 115 292 [l0, l1, l2, l3, l4, l5, l6, l7, l8, l9, l10, l11, l12, l13] [s0] h = evL 115 294 [l0, l1, l2, l3, l4, l5, l6, l7, l8, l9, l10, l11, l12, l13] [I 11, s0] h := ev_go c115_292 rfl
set_option maxRecDepth 20000 in
theorem c115_294 : cd 115 294 = some (294, .invokevirtual 13, 3, 100, 0, 258) := rfl
theorem s115_294 {l0 l1 l2 l3 l4 l5 l6 l7 l8 l9 l10 l11 l12 l13 : AV} {s0 : Int} {s1 : Nat} {M : Mem} {P : PMem} (hk : kd s1 = 7) : evL 115 294 [l0, l1, l2, l3, l4, l5, l6, l7, l8, l9, l10, l11, l12, l13] [I s0, Rf s1] (Hp M P) = cont (evM 100 [Rf s1, I s0] (Hp M P)) (fun r h => evL 115 297 [l0, l1, l2, l3, l4, l5, l6, l7, l8, l9, l10, l11, l12, l13] (rl r []) h) := e_callV (av' := [I s0]) (rest := []) (c := 7) c115_294 rfl rfl rfl rfl rfl rfl rfl hk rfl
set_option maxRecDepth 20000 in
theorem c115_297 : cd 115 297 = some (297, .bipush 6, 2, 0, 0, 0) := rfl
theorem s115_297 {l0 l1 l2 l3 l4 l5 l6 l7 l8 l9 l10 l11 l12 l13 s0 : AV} {h : AH} : evL 115 297 [l0, l1, l2, l3, l4, l5, l6, l7, l8, l9, l10, l11, l12, l13] [s0] h = evL 115 299 [l0, l1, l2, l3, l4, l5, l6, l7, l8, l9, l10, l11, l12, l13] [I 6, s0] h := ev_go c115_297 rfl
set_option maxRecDepth 20000 in
theorem c115_299 : cd 115 299 = some (299, .if_icmp .gt 83, 3, 0, 0, 0) := rfl
theorem s115_299 {l0 l1 l2 l3 l4 l5 l6 l7 l8 l9 l10 l11 l12 l13 : AV} {s0 s1 : Int} {h : AH} : evL 115 299 [l0, l1, l2, l3, l4, l5, l6, l7, l8, l9, l10, l11, l12, l13] [I s0, I s1] h = if s0 < s1 then evL 115 382 [l0, l1, l2, l3, l4, l5, l6, l7, l8, l9, l10, l11, l12, l13] [] h else evL 115 302 [l0, l1, l2, l3, l4, l5, l6, l7, l8, l9, l10, l11, l12, l13] [] h := e_icmp_gt c115_299 rfl rfl
set_option maxRecDepth 20000 in
theorem c115_302 : cd 115 302 = some (302, .aload_n 0, 1, 0, 0, 0) := rfl
theorem s115_302 {l1 l2 l3 l4 l5 l6 l7 l8 l9 l10 l11 l12 l13 : AV} {l0 : Option Nat} {h : AH} : evL 115 302 [.inr (.inl l0), l1, l2, l3, l4, l5, l6, l7, l8, l9, l10, l11, l12, l13] [] h = evL 115 303 [.inr (.inl l0), l1, l2, l3, l4, l5, l6, l7, l8, l9, l10, l11, l12, l13] [.inr (.inl l0)] h := ev_go c115_302 rfl
set_option maxRecDepth 20000 in
theorem c115_303 : cd 115 303 = some (303, .iload_n 2, 1, 0, 0, 0) := rfl
theorem s115_303 {l0 l1 l3 l4 l5 l6 l7 l8 l9 l10 l11 l12 l13 s0 : AV} {l2 : Int} {h : AH} : evL 115 303 [l0, l1, I l2, l3, l4, l5, l6, l7, l8, l9, l10, l11, l12, l13] [s0] h = evL 115 304 [l0, l1, I l2, l3, l4, l5, l6, l7, l8, l9, l10, l11, l12, l13] [I l2, s0] h := ev_go c115_303 rfl
set_option maxRecDepth 20000 in
theorem c115_304 : cd 115 304 = some (304, .iconst 1, 1, 0, 0, 0) := rfl
theorem s115_304 {l0 l1 l2 l3 l4 l5 l6 l7 l8 l9 l10 l11 l12 l13 s0 s1 : AV} {h : AH} : evL 115 304 [l0, l1, l2, l3, l4, l5, l6, l7, l8, l9, l10, l11, l12, l13] [s0, s1] h = evL 115 305 [l0, l1, l2, l3, l4, l5, l6, l7, l8, l9, l10, l11, l12, l13] [I 1, s0, s1] h := ev_go c115_304 rfl
set_option maxRecDepth 20000 in
theorem c115_305 : cd 115 305 = some (305, .invokevirtual 23, 3, 97, 0, 406) := rfl
theorem s115_305 {l0 l1 l2 l3 l4 l5 l6 l7 l8 l9 l10 l11 l12 l13 : AV} {s0 s1 : Int} {s2 : Nat} {M : Mem} {P : PMem} (hk : kd s2 = 7) : evL 115 305 [l0, l1, l2, l3, l4, l5, l6, l7, l8, l9, l10, l11, l12, l13] [I s0, I s1, Rf s2] (Hp M P) = cont (evM 97 [Rf s2, I s1, I s0] (Hp M P)) (fun r h => evL 115 308 [l0, l1, l2, l3, l4, l5, l6, l7, l8, l9, l10, l11, l12, l13] (rl r []) h) := e_callV (av' := [I s1, I s0]) (rest := []) (c := 7) c115_305 rfl rfl rfl rfl rfl rfl rfl hk rfl
set_option maxRecDepth 20000 in
theorem c115_308 : cd 115 308 = some (308, .iload 13, 2, 0, 0, 0) := rfl
theorem s115_308 {l0 l1 l2 l3 l4 l5 l6 l7 l8 l9 l10 l11 l12 s0 : AV} {l13 : Int} {h : AH} : evL 115 308 [l0, l1, l2, l3, l4, l5, l6, l7, l8, l9, l10, l11, l12, I l13] [s0] h = evL 115 310 [l0, l1, l2, l3, l4, l5, l6, l7, l8, l9, l10, l11, l12, I l13] [I l13, s0] h := ev_go c115_308 rfl
set_option maxRecDepth 20000 in
theorem c115_310 : cd 115 310 = some (310, .ifCond .eq 7, 3, 0, 0, 0) := rfl
theorem s115_310 {l0 l1 l2 l3 l4 l5 l6 l7 l8 l9 l10 l11 l12 l13 s1 : AV} {s0 : Int} {h : AH} : evL 115 310 [l0, l1, l2, l3, l4, l5, l6, l7, l8, l9, l10, l11, l12, l13] [I s0, s1] h = if s0 = 0 then evL 115 317 [l0, l1, l2, l3, l4, l5, l6, l7, l8, l9, l10, l11, l12, l13] [s1] h else evL 115 313 [l0, l1, l2, l3, l4, l5, l6, l7, l8, l9, l10, l11, l12, l13] [s1] h := e_if_eq c115_310 rfl rfl
set_option maxRecDepth 20000 in
theorem c115_313 : cd 115 313 = some (313, .iconst 1, 1, 0, 0, 0) := rfl
theorem s115_313 {l0 l1 l2 l3 l4 l5 l6 l7 l8 l9 l10 l11 l12 l13 s0 : AV} {h : AH} : evL 115 313 [l0, l1, l2, l3, l4, l5, l6, l7, l8, l9, l10, l11, l12, l13] [s0] h = evL 115 314 [l0, l1, l2, l3, l4, l5, l6, l7, l8, l9, l10, l11, l12, l13] [I 1, s0] h := ev_go c115_313 rfl
set_option maxRecDepth 20000 in
theorem c115_314 : cd 115 314 = some (314, .goto 4, 3, 0, 0, 0) := rfl
theorem s115_314 {l0 l1 l2 l3 l4 l5 l6 l7 l8 l9 l10 l11 l12 l13 s0 s1 : AV} {h : AH} : evL 115 314 [l0, l1, l2, l3, l4, l5, l6, l7, l8, l9, l10, l11, l12, l13] [s0, s1] h = evL 115 318 [l0, l1, l2, l3, l4, l5, l6, l7, l8, l9, l10, l11, l12, l13] [s0, s1] h := ev_go c115_314 rfl
set_option maxRecDepth 20000 in
theorem c115_317 : cd 115 317 = some (317, .iconst 0, 1, 0, 0, 0) := rfl
theorem s115_317 {l0 l1 l2 l3 l4 l5 l6 l7 l8 l9 l10 l11 l12 l13 s0 : AV} {h : AH} : evL 115 317 [l0, l1, l2, l3, l4, l5, l6, l7, l8, l9, l10, l11, l12, l13] [s0] h = evL 115 318 [l0, l1, l2, l3, l4, l5, l6, l7, l8, l9, l10, l11, l12, l13] [I 0, s0] h := ev_go c115_317 rfl
set_option maxRecDepth 20000 in
theorem c115_318 : cd 115 318 = some (318, .if_icmp .ne 64, 3, 0, 0, 0) := rfl
theorem s115_318 {l0 l1 l2 l3 l4 l5 l6 l7 l8 l9 l10 l11 l12 l13 : AV} {s0 s1 : Int} {h : AH} : evL 115 318 [l0, l1, l2, l3, l4, l5, l6, l7, l8, l9, l10, l11, l12, l13] [I s0, I s1] h = if s1 = s0 then evL 115 321 [l0, l1, l2, l3, l4, l5, l6, l7, l8, l9, l10, l11, l12, l13] [] h else evL 115 382 [l0, l1, l2, l3, l4, l5, l6, l7, l8, l9, l10, l11, l12, l13] [] h := e_icmp_ne c115_318 rfl rfl
set_option maxRecDepth 20000 in
theorem c115_321 : cd 115 321 = some (321, .iload 13, 2, 0, 0, 0) := rfl
theorem s115_321 {l0 l1 l2 l3 l4 l5 l6 l7 l8 l9 l10 l11 l12 : AV} {l13 : Int} {h : AH} : evL 115 321 [l0, l1, l2, l3, l4, l5, l6, l7, l8, l9, l10, l11, l12, I l13] [] h = evL 115 323 [l0, l1, l2, l3, l4, l5, l6, l7, l8, l9, l10, l11, l12, I l13] [I l13] h := ev_go c115_321 rfl
set_option maxRecDepth 20000 in
theorem c115_323 : cd 115 323 = some (323, .ifCond .eq 13, 3, 0, 0, 0) := rfl
theorem s115_323 {l0 l1 l2 l3 l4 l5 l6 l7 l8 l9 l10 l11 l12 l13 : AV} {s0 : Int} {h : AH} : evL 115 323 [l0, l1, l2, l3, l4, l5, l6, l7, l8, l9, l10, l11, l12, l13] [I s0] h = if s0 = 0 then evL 115 336 [l0, l1, l2, l3, l4, l5, l6, l7, l8, l9, l10, l11, l12, l13] [] h else evL 115 326 [l0, l1, l2, l3, l4, l5, l6, l7, l8, l9, l10, l11, l12, l13] [] h := e_if_eq c115_323 rfl rfl
set_option maxRecDepth 20000 in
theorem c115_326 : cd 115 326 = some (326, .iload 12, 2, 0, 0, 0) := rfl
theorem s115_326 {l0 l1 l2 l3 l4 l5 l6 l7 l8 l9 l10 l11 l13 : AV} {l12 : Int} {h : AH} : evL 115 326 [l0, l1, l2, l3, l4, l5, l6, l7, l8, l9, l10, l11, I l12, l13] [] h = evL 115 328 [l0, l1, l2, l3, l4, l5, l6, l7, l8, l9, l10, l11, I l12, l13] [I l12] h := ev_go c115_326 rfl
set_option maxRecDepth 20000 in
theorem c115_328 : cd 115 328 = some (328, .iload 8, 2, 0, 0, 0) := rfl
theorem s115_328 {l0 l1 l2 l3 l4 l5 l6 l7 l9 l10 l11 l12 l13 s0 : AV} {l8 : Int} {h : AH} : evL 115 328 [l0, l1, l2, l3, l4, l5, l6, l7, I l8, l9, l10, l11, l12, l13] [s0] h = evL 115 330 [l0, l1, l2, l3, l4, l5, l6, l7, I l8, l9, l10, l11, l12, l13] [I l8, s0] h := ev_go c115_328 rfl
set_option maxRecDepth 20000 in
theorem c115_330 : cd 115 330 = some (330, .if_icmp .gt 52, 3, 0, 0, 0) := rfl
theorem s115_330 {l0 l1 l2 l3 l4 l5 l6 l7 l8 l9 l10 l11 l12 l13 : AV} {s0 s1 : Int} {h : AH} : evL 115 330 [l0, l1, l2, l3, l4, l5, l6, l7, l8, l9, l10, l11, l12, l13] [I s0, I s1] h = if s0 < s1 then evL 115 382 [l0, l1, l2, l3, l4, l5, l6, l7, l8, l9, l10, l11, l12, l13] [] h else evL 115 333 [l0, l1, l2, l3, l4, l5, l6, l7, l8, l9, l10, l11, l12, l13] [] h := e_icmp_gt c115_330 rfl rfl
set_option maxRecDepth 20000 in
theorem c115_333 : cd 115 333 = some (333, .goto 10, 3, 0, 0, 0) := rfl
theorem s115_333 {l0 l1 l2 l3 l4 l5 l6 l7 l8 l9 l10 l11 l12 l13 : AV} {h : AH} : evL 115 333 [l0, l1, l2, l3, l4, l5, l6, l7, l8, l9, l10, l11, l12, l13] [] h = evL 115 343 [l0, l1, l2, l3, l4, l5, l6, l7, l8, l9, l10, l11, l12, l13] [] h := ev_go c115_333 rfl
set_option maxRecDepth 20000 in
theorem c115_336 : cd 115 336 = some (336, .iload 12, 2, 0, 0, 0) := rfl
theorem s115_336 {l0 l1 l2 l3 l4 l5 l6 l7 l8 l9 l10 l11 l13 : AV} {l12 : Int} {h : AH} : evL 115 336 [l0, l1, l2, l3, l4, l5, l6, l7, l8, l9, l10, l11, I l12, l13] [] h = evL 115 338 [l0, l1, l2, l3, l4, l5, l6, l7, l8, l9, l10, l11, I l12, l13] [I l12] h := ev_go c115_336 rfl
set_option maxRecDepth 20000 in
theorem c115_338 : cd 115 338 = some (338, .iload 8, 2, 0, 0, 0) := rfl
theorem s115_338 {l0 l1 l2 l3 l4 l5 l6 l7 l9 l10 l11 l12 l13 s0 : AV} {l8 : Int} {h : AH} : evL 115 338 [l0, l1, l2, l3, l4, l5, l6, l7, I l8, l9, l10, l11, l12, l13] [s0] h = evL 115 340 [l0, l1, l2, l3, l4, l5, l6, l7, I l8, l9, l10, l11, l12, l13] [I l8, s0] h := ev_go c115_338 rfl
set_option maxRecDepth 20000 in
theorem c115_340 : cd 115 340 = some (340, .if_icmp .lt 42, 3, 0, 0, 0) := rfl
theorem s115_340 {l0 l1 l2 l3 l4 l5 l6 l7 l8 l9 l10 l11 l12 l13 : AV} {s0 s1 : Int} {h : AH} : evL 115 340 [l0, l1, l2, l3, l4, l5, l6, l7, l8, l9, l10, l11, l12, l13] [I s0, I s1] h = if s1 < s0 then evL 115 382 [l0, l1, l2, l3, l4, l5, l6, l7, l8, l9, l10, l11, l12, l13] [] h else evL 115 343 [l0, l1, l2, l3, l4, l5, l6, l7, l8, l9, l10, l11, l12, l13] [] h := e_icmp_lt c115_340 rfl rfl
set_option maxRecDepth 20000 in
theorem c115_343 : cd 115 343 = some (343, .aload_n 0, 1, 0, 0, 0) := rfl
theorem s115_343 {l1 l2 l3 l4 l5 l6 l7 l8 l9 l10 l11 l12 l13 : AV} {l0 : Option Nat} {h : AH} : evL 115 343 [.inr (.inl l0), l1, l2, l3, l4, l5, l6, l7, l8, l9, l10, l11, l12, l13] [] h = evL 115 344 [.inr (.inl l0), l1, l2, l3, l4, l5, l6, l7, l8, l9, l10, l11, l12, l13] [.inr (.inl l0)] h := ev_go c115_343 rfl
set_option maxRecDepth 20000 in
theorem c115_344 : cd 115 344 = some (344, .iload_n 2, 1, 0, 0, 0) := rfl
theorem s115_344 {l0 l1 l3 l4 l5 l6 l7 l8 l9 l10 l11 l12 l13 s0 : AV} {l2 : Int} {h : AH} : evL 115 344 [l0, l1, I l2, l3, l4, l5, l6, l7, l8, l9, l10, l11, l12, l13] [s0] h = evL 115 345 [l0, l1, I l2, l3, l4, l5, l6, l7, l8, l9, l10, l11, l12, l13] [I l2, s0] h := ev_go c115_344 rfl
set_option maxRecDepth 20000 in
theorem c115_345 : cd 115 345 = some (345, .iconst 2, 1, 0, 0, 0) := rfl
theorem s115_345 {l0 l1 l2 l3 l4 l5 l6 l7 l8 l9 l10 l11 l12 l13 s0 s1 : AV} {h : AH} : evL 115 345 [l0, l1, l2, l3, l4, l5, l6, l7, l8, l9, l10, l11, l12, l13] [s0, s1] h = evL 115 346 [l0, l1, l2, l3, l4, l5, l6, l7, l8, l9, l10, l11, l12, l13] [I 2, s0, s1] h := ev_go c115_345 rfl
set_option maxRecDepth 20000 in
theorem c115_346 : cd 115 346 = some (346, .invokevirtual 23, 3, 97, 0, 406) := rfl
theorem s115_346 {l0 l1 l2 l3 l4 l5 l6 l7 l8 l9 l10 l11 l12 l13 : AV} {s0 s1 : Int} {s2 : Nat} {M : Mem} {P : PMem} (hk : kd s2 = 7) : evL 115 346 [l0, l1, l2, l3, l4, l5, l6, l7, l8, l9, l10, l11, l12, l13] [I s0, I s1, Rf s2] (Hp M P) = cont (evM 97 [Rf s2, I s1, I s0] (Hp M P)) (fun r h => evL 115 349 [l0, l1, l2, l3, l4, l5, l6, l7, l8, l9, l10, l11, l12, l13] (rl r []) h) := e_callV (av' := [I s1, I s0]) (rest := []) (c := 7) c115_346 rfl rfl rfl rfl rfl rfl rfl hk rfl
set_option maxRecDepth 20000 in
theorem c115_349 : cd 115 349 = some (349, .iload 13, 2, 0, 0, 0) := rfl
theorem s115_349 {l0 l1 l2 l3 l4 l5 l6 l7 l8 l9 l10 l11 l12 s0 : AV} {l13 : Int} {h : AH} : evL 115 349 [l0, l1, l2, l3, l4, l5, l6, l7, l8, l9, l10, l11, l12, I l13] [s0] h = evL 115 351 [l0, l1, l2, l3, l4, l5, l6, l7, l8, l9, l10, l11, l12, I l13] [I l13, s0] h := ev_go c115_349 rfl
set_option maxRecDepth 20000 in
theorem c115_351 : cd 115 351 = some (351, .ifCond .eq 12, 3, 0, 0, 0) := rfl
theorem s115_351 {l0 l1 l2 l3 l4 l5 l6 l7 l8 l9 l10 l11 l12 l13 s1 : AV} {s0 : Int} {h : AH} : evL 115 351 [l0, l1, l2, l3, l4, l5, l6, l7, l8, l9, l10, l11, l12, l13] [I s0, s1] h = if s0 = 0 then evL 115 363 [l0, l1, l2, l3, l4, l5, l6, l7, l8, l9, l10, l11, l12, l13] [s1] h else evL 115 354 [l0, l1, l2, l3, l4, l5, l6, l7, l8, l9, l10, l11, l12, l13] [s1] h := e_if_eq c115_351 rfl rfl
set_option maxRecDepth 20000 in
theorem c115_354 : cd 115 354 = some (354, .iload 12, 2, 0, 0, 0) := rfl
theorem s115_354 {l0 l1 l2 l3 l4 l5 l6 l7 l8 l9 l10 l11 l13 s0 : AV} {l12 : Int} {h : AH} : evL 115 354 [l0, l1, l2, l3, l4, l5, l6, l7, l8, l9, l10, l11, I l12, l13] [s0] h = evL 115 356 [l0, l1, l2, l3, l4, l5, l6, l7, l8, l9, l10, l11, I l12, l13] [I l12, s0] h := ev_go c115_354 rfl
set_option maxRecDepth 20000 in
theorem c115_356 : cd 115 356 = some (356, .ifCond .ne 7, 3, 0, 0, 0) := rfl
theorem s115_356 {l0 l1 l2 l3 l4 l5 l6 l7 l8 l9 l10 l11 l12 l13 s1 : AV} {s0 : Int} {h : AH} : evL 115 356 [l0, l1, l2, l3, l4, l5, l6, l7, l8, l9, l10, l11, l12, l13] [I s0, s1] h = if s0 = 0 then evL 115 359 [l0, l1, l2, l3, l4, l5, l6, l7, l8, l9, l10, l11, l12, l13] [s1] h else evL 115 363 [l0, l1, l2, l3, l4, l5, l6, l7, l8, l9, l10, l11, l12, l13] [s1] h := e_if_ne c115_356 rfl rfl
set_option maxRecDepth 20000 in
theorem c115_359 : cd 115 359 = some (359, .iconst 1, 1, 0, 0, 0) := rfl
theorem s115_359 {l0 l1 l2 l3 l4 l5 l6 l7 l8 l9 l10 l11 l12 l13 s0 : AV} {h : AH} : evL 115 359 [l0, l1, l2, l3, l4, l5, l6, l7, l8, l9, l10, l11, l12, l13] [s0] h = evL 115 360 [l0, l1, l2, l3, l4, l5, l6, l7, l8, l9, l10, l11, l12, l13] [I 1, s0] h := ev_go c115_359 rfl
set_option maxRecDepth 20000 in
theorem c115_360 : cd 115 360 = some (360, .goto 4, 3, 0, 0, 0) := rfl
theorem s115_360 {l0 l1 l2 l3 l4 l5 l6 l7 l8 l9 l10 l11 l12 l13 s0 s1 : AV} {h : AH} : evL 115 360 [l0, l1, l2, l3, l4, l5, l6, l7, l8, l9, l10, l11, l12, l13] [s0, s1] h = evL 115 364 [l0, l1, l2, l3, l4, l5, l6, l7, l8, l9, l10, l11, l12, l13] [s0, s1] h := ev_go c115_360 rfl
set_option maxRecDepth 20000 in
theorem c115_363 : cd 115 363 = some (363, .iconst 0, 1, 0, 0, 0) := rfl
theorem s115_363 {l0 l1 l2 l3 l4 l5 l6 l7 l8 l9 l10 l11 l12 l13 s0 : AV} {h : AH} : evL 115 363 [l0, l1, l2, l3, l4, l5, l6, l7, l8, l9, l10, l11, l12, l13] [s0] h = evL 115 364 [l0, l1, l2, l3, l4, l5, l6, l7, l8, l9, l10, l11, l12, l13] [I 0, s0] h := ev_go c115_363 rfl
set_option maxRecDepth 20000 in
theorem c115_364 : cd 115 364 = some (364, .if_icmp .ne 18, 3, 0, 0, 0) := rfl
theorem s115_364 {l0 l1 l2 l3 l4 l5 l6 l7 l8 l9 l10 l11 l12 l13 : AV} {s0 s1 : Int} {h : AH} : evL 115 364 [l0, l1, l2, l3, l4, l5, l6, l7, l8, l9, l10, l11, l12, l13] [I s0, I s1] h = if s1 = s0 then evL 115 367 [l0, l1, l2, l3, l4, l5, l6, l7, l8, l9, l10, l11, l12, l13] [] h else evL 115 382 [l0, l1, l2, l3, l4, l5, l6, l7, l8, l9, l10, l11, l12, l13] [] h := e_icmp_ne c115_364 rfl rfl
set_option maxRecDepth 20000 in
theorem c115_367 : cd 115 367 = some (367, .aload_n 0, 1, 0, 0, 0) := rfl
theorem s115_367 {l1 l2 l3 l4 l5 l6 l7 l8 l9 l10 l11 l12 l13 : AV} {l0 : Option Nat} {h : AH} : evL 115 367 [.inr (.inl l0), l1, l2, l3, l4, l5, l6, l7, l8, l9, l10, l11, l12, l13] [] h = evL 115 368 [.inr (.inl l0), l1, l2, l3, l4, l5, l6, l7, l8, l9, l10, l11, l12, l13] [.inr (.inl l0)] h := ev_go c115_367 rfl
set_option maxRecDepth 20000 in
theorem c115_368 : cd 115 368 = some (368, .iload_n 2, 1, 0, 0, 0) := rfl
theorem s115_368 {l0 l1 l3 l4 l5 l6 l7 l8 l9 l10 l11 l12 l13 s0 : AV} {l2 : Int} {h : AH} : evL 115 368 [l0, l1, I l2, l3, l4, l5, l6, l7, l8, l9, l10, l11, l12, l13] [s0] h = evL 115 369 [l0, l1, I l2, l3, l4, l5, l6, l7, l8, l9, l10, l11, l12, l13] [I l2, s0] h := ev_go c115_368 rfl
set_option maxRecDepth 20000 in
theorem c115_369 : cd 115 369 = some (369, .iconst 3, 1, 0, 0, 0) := rfl
theorem s115_369 {l0 l1 l2 l3 l4 l5 l6 l7 l8 l9 l10 l11 l12 l13 s0 s1 : AV} {h : AH} : evL 115 369 [l0, l1, l2, l3, l4, l5, l6, l7, l8, l9, l10, l11, l12, l13] [s0, s1] h = evL 115 370 [l0, l1, l2, l3, l4, l5, l6, l7, l8, l9, l10, l11, l12, l13] [I 3, s0, s1] h := ev_go c115_369 rfl
set_option maxRecDepth 20000 in
theorem c115_370 : cd 115 370 = some (370, .invokevirtual 23, 3, 97, 0, 406) := rfl
theorem s115_370 {l0 l1 l2 l3 l4 l5 l6 l7 l8 l9 l10 l11 l12 l13 : AV} {s0 s1 : Int} {s2 : Nat} {M : Mem} {P : PMem} (hk : kd s2 = 7) : evL 115 370 [l0, l1, l2, l3, l4, l5, l6, l7, l8, l9, l10, l11, l12, l13] [I s0, I s1, Rf s2] (Hp M P) = cont (evM 97 [Rf s2, I s1, I s0] (Hp M P)) (fun r h => evL 115 373 [l0, l1, l2, l3, l4, l5, l6, l7, l8, l9, l10, l11, l12, l13] (rl r []) h) := e_callV (av' := [I s1, I s0]) (rest := []) (c := 7) c115_370 rfl rfl rfl rfl rfl rfl rfl hk rfl
set_option maxRecDepth 20000 in
theorem c115_373 : cd 115 373 = some (373, .iload 7, 2, 0, 0, 0) := rfl
theorem s115_373 {l0 l1 l2 l3 l4 l5 l6 l8 l9 l10 l11 l12 l13 s0 : AV} {l7 : Int} {h : AH} : evL 115 373 [l0, l1, l2, l3, l4, l5, l6, I l7, l8, l9, l10, l11, l12, l13] [s0] h = evL 115 375 [l0, l1, l2, l3, l4, l5, l6, I l7, l8, l9, l10, l11, l12, l13] [I l7, s0] h := ev_go c115_373 rfl
set_option maxRecDepth 20000 in
theorem c115_375 : cd 115 375 = some (375, .if_icmp .ne 7, 3, 0, 0, 0) := rfl
theorem s115_375 {l0 l1 l2 l3 l4 l5 l6 l7 l8 l9 l10 l11 l12 l13 : AV} {s0 s1 : Int} {h : AH} : evL 115 375 [l0, l1, l2, l3, l4, l5, l6, l7, l8, l9, l10, l11, l12, l13] [I s0, I s1] h = if s1 = s0 then evL 115 378 [l0, l1, l2, l3, l4, l5, l6, l7, l8, l9, l10, l11, l12, l13] [] h else evL 115 382 [l0, l1, l2, l3, l4, l5, l6, l7, l8, l9, l10, l11, l12, l13] [] h := e_icmp_ne c115_375 rfl rfl
set_option maxRecDepth 20000 in
theorem c115_378 : cd 115 378 = some (378, .iconst 1, 1, 0, 0, 0) := rfl
theorem s115_378 {l0 l1 l2 l3 l4 l5 l6 l7 l8 l9 l10 l11 l12 l13 : AV} {h : AH} : evL 115 378 [l0, l1, l2, l3, l4, l5, l6, l7, l8, l9, l10, l11, l12, l13] [] h = evL 115 379 [l0, l1, l2, l3, l4, l5, l6, l7, l8, l9, l10, l11, l12, l13] [I 1] h := ev_go c115_378 rfl
set_option maxRecDepth 20000 in
theorem c115_379 : cd 115 379 = some (379, .goto 4, 3, 0, 0, 0) := rfl
theorem s115_379 {l0 l1 l2 l3 l4 l5 l6 l7 l8 l9 l10 l11 l12 l13 s0 : AV} {h : AH} : evL 115 379 [l0, l1, l2, l3, l4, l5, l6, l7, l8, l9, l10, l11, l12, l13] [s0] h = evL 115 383 [l0, l1, l2, l3, l4, l5, l6, l7, l8, l9, l10, l11, l12, l13] [s0] h := ev_go c115_379 rfl
set_option maxRecDepth 20000 in
theorem c115_382 : cd 115 382 = some (382, .iconst 0, 1, 0, 0, 0) := rfl
theorem s115_382 {l0 l1 l2 l3 l4 l5 l6 l7 l8 l9 l10 l11 l12 l13 : AV} {h : AH} : evL 115 382 [l0, l1, l2, l3, l4, l5, l6, l7, l8, l9, l10, l11, l12, l13] [] h = evL 115 383 [l0, l1, l2, l3, l4, l5, l6, l7, l8, l9, l10, l11, l12, l13] [I 0] h := ev_go c115_382 rfl
set_option maxRecDepth 20000 in
theorem c115_383 : cd 115 383 = some (383, .ireturn, 1, 0, 0, 0) := rfl
theorem s115_383 {l0 l1 l2 l3 l4 l5 l6 l7 l8 l9 l10 l11 l12 l13 : AV} {s0 : Int} {h : AH} (hz : s0 = 0 ∨ s0 = 1) : evL 115 383 [l0, l1, l2, l3, l4, l5, l6, l7, l8, l9, l10, l11, l12, l13] [I s0] h = some (some (I s0), h) := e_ret c115_383 (if_pos hz)
/-! 116: TankDiversLaw.acts(LTankDivers;II)Z -/
theorem en116 {l0 l1 l2 : AV} {h : AH} : evM 116 [l0, l1, l2] h = evL 116 0 [l0, l1, l2, Db 0, Db 0, Db 0, Db 0, Db 0, Db 0] [] h := rfl
theorem c116_0 : cd 116 0 = some (0, .iload_n 1, 1, 0, 0, 0) := rfl
theorem s116_0 {l0 l2 l3 l4 l5 l6 l7 l8 : AV} {l1 : Int} {h : AH} : evL 116 0 [l0, I l1, l2, l3, l4, l5, l6, l7, l8] [] h = evL 116 1 [l0, I l1, l2, l3, l4, l5, l6, l7, l8] [I l1] h := ev_go c116_0 rfl
theorem c116_1 : cd 116 1 = some (1, .bipush 24, 2, 0, 0, 0) := rfl
theorem s116_1 {l0 l1 l2 l3 l4 l5 l6 l7 l8 s0 : AV} {h : AH} : evL 116 1 [l0, l1, l2, l3, l4, l5, l6, l7, l8] [s0] h = evL 116 3 [l0, l1, l2, l3, l4, l5, l6, l7, l8] [I 24, s0] h := ev_go c116_1 rfl
theorem c116_3 : cd 116 3 = some (3, .invokestatic 39, 3, 105, 0, 383) := rfl
theorem s116_3 {l0 l1 l2 l3 l4 l5 l6 l7 l8 : AV} {s0 s1 : Int} {M : Mem} {P : PMem} : evL 116 3 [l0, l1, l2, l3, l4, l5, l6, l7, l8] [I s0, I s1] (Hp M P) = cont (evM 105 [I s1, I s0] (Hp M P)) (fun r h => evL 116 6 [l0, l1, l2, l3, l4, l5, l6, l7, l8] (rl r []) h) := e_callS (av := [I s1, I s0]) (rest := []) c116_3 rfl rfl rfl rfl rfl rfl
theorem c116_6 : cd 116 6 = some (6, .istore_n 3, 1, 0, 0, 0) := rfl
theorem s116_6 {l0 l1 l2 l3 l4 l5 l6 l7 l8 : AV} {s0 : Int} {h : AH} : evL 116 6 [l0, l1, l2, l3, l4, l5, l6, l7, l8] [I s0] h = evL 116 7 [l0, l1, l2, I s0, l4, l5, l6, l7, l8] [] h := ev_go c116_6 rfl
theorem c116_7 : cd 116 7 = some (7, .iload_n 3, 1, 0, 0, 0) := rfl
theorem s116_7 {l0 l1 l2 l4 l5 l6 l7 l8 : AV} {l3 : Int} {h : AH} : evL 116 7 [l0, l1, l2, I l3, l4, l5, l6, l7, l8] [] h = evL 116 8 [l0, l1, l2, I l3, l4, l5, l6, l7, l8] [I l3] h := ev_go c116_7 rfl
theorem c116_8 : cd 116 8 = some (8, .bipush 9, 2, 0, 0, 0) := rfl
theorem s116_8 {l0 l1 l2 l3 l4 l5 l6 l7 l8 s0 : AV} {h : AH} : evL 116 8 [l0, l1, l2, l3, l4, l5, l6, l7, l8] [s0] h = evL 116 10 [l0, l1, l2, l3, l4, l5, l6, l7, l8] [I 9, s0] h := ev_go c116_8 rfl
theorem c116_10 : cd 116 10 = some (10, .if_icmp .ge 9, 3, 0, 0, 0) := rfl
theorem s116_10 {l0 l1 l2 l3 l4 l5 l6 l7 l8 : AV} {s0 s1 : Int} {h : AH} : evL 116 10 [l0, l1, l2, l3, l4, l5, l6, l7, l8] [I s0, I s1] h = if s0 ≤ s1 then evL 116 19 [l0, l1, l2, l3, l4, l5, l6, l7, l8] [] h else evL 116 13 [l0, l1, l2, l3, l4, l5, l6, l7, l8] [] h := e_icmp_ge c116_10 rfl rfl
theorem c116_13 : cd 116 13 = some (13, .aload_n 0, 1, 0, 0, 0) := rfl
theorem s116_13 {l1 l2 l3 l4 l5 l6 l7 l8 : AV} {l0 : Option Nat} {h : AH} : evL 116 13 [.inr (.inl l0), l1, l2, l3, l4, l5, l6, l7, l8] [] h = evL 116 14 [.inr (.inl l0), l1, l2, l3, l4, l5, l6, l7, l8] [.inr (.inl l0)] h := ev_go c116_13 rfl
theorem c116_14 : cd 116 14 = some (14, .iload_n 2, 1, 0, 0, 0) := rfl
theorem s116_14 {l0 l1 l3 l4 l5 l6 l7 l8 s0 : AV} {l2 : Int} {h : AH} : evL 116 14 [l0, l1, I l2, l3, l4, l5, l6, l7, l8] [s0] h = evL 116 15 [l0, l1, I l2, l3, l4, l5, l6, l7, l8] [I l2, s0] h := ev_go c116_14 rfl
theorem c116_15 : cd 116 15 = some (15, .invokestatic 86, 3, 115, 0, 530) := rfl
theorem s116_15 {l0 l1 l2 l3 l4 l5 l6 l7 l8 : AV} {s0 : Int} {s1 : Nat} {M : Mem} {P : PMem} : evL 116 15 [l0, l1, l2, l3, l4, l5, l6, l7, l8] [I s0, Rf s1] (Hp M P) = cont (evM 115 [Rf s1, I s0] (Hp M P)) (fun r h => evL 116 18 [l0, l1, l2, l3, l4, l5, l6, l7, l8] (rl r []) h) := e_callS (av := [Rf s1, I s0]) (rest := []) c116_15 rfl rfl rfl rfl rfl rfl
theorem c116_18 : cd 116 18 = some (18, .ireturn, 1, 0, 0, 0) := rfl
theorem s116_18 {l0 l1 l2 l3 l4 l5 l6 l7 l8 : AV} {s0 : Int} {h : AH} (hz : s0 = 0 ∨ s0 = 1) : evL 116 18 [l0, l1, l2, l3, l4, l5, l6, l7, l8] [I s0] h = some (some (I s0), h) := e_ret c116_18 (if_pos hz)
theorem c116_19 : cd 116 19 = some (19, .iload_n 3, 1, 0, 0, 0) := rfl
theorem s116_19 {l0 l1 l2 l4 l5 l6 l7 l8 : AV} {l3 : Int} {h : AH} : evL 116 19 [l0, l1, l2, I l3, l4, l5, l6, l7, l8] [] h = evL 116 20 [l0, l1, l2, I l3, l4, l5, l6, l7, l8] [I l3] h := ev_go c116_19 rfl
theorem c116_20 : cd 116 20 = some (20, .bipush 18, 2, 0, 0, 0) := rfl
theorem s116_20 {l0 l1 l2 l3 l4 l5 l6 l7 l8 s0 : AV} {h : AH} : evL 116 20 [l0, l1, l2, l3, l4, l5, l6, l7, l8] [s0] h = evL 116 22 [l0, l1, l2, l3, l4, l5, l6, l7, l8] [I 18, s0] h := ev_go c116_20 rfl
theorem c116_22 : cd 116 22 = some (22, .if_icmp .ge 30, 3, 0, 0, 0) := rfl
theorem s116_22 {l0 l1 l2 l3 l4 l5 l6 l7 l8 : AV} {s0 s1 : Int} {h : AH} : evL 116 22 [l0, l1, l2, l3, l4, l5, l6, l7, l8] [I s0, I s1] h = if s0 ≤ s1 then evL 116 52 [l0, l1, l2, l3, l4, l5, l6, l7, l8] [] h else evL 116 25 [l0, l1, l2, l3, l4, l5, l6, l7, l8] [] h := e_icmp_ge c116_22 rfl rfl
theorem c116_25 : cd 116 25 = some (25, .aload_n 0, 1, 0, 0, 0) := rfl
theorem s116_25 {l1 l2 l3 l4 l5 l6 l7 l8 : AV} {l0 : Option Nat} {h : AH} : evL 116 25 [.inr (.inl l0), l1, l2, l3, l4, l5, l6, l7, l8] [] h = evL 116 26 [.inr (.inl l0), l1, l2, l3, l4, l5, l6, l7, l8] [.inr (.inl l0)] h := ev_go c116_25 rfl
theorem c116_26 : cd 116 26 = some (26, .iload_n 3, 1, 0, 0, 0) := rfl
theorem s116_26 {l0 l1 l2 l4 l5 l6 l7 l8 s0 : AV} {l3 : Int} {h : AH} : evL 116 26 [l0, l1, l2, I l3, l4, l5, l6, l7, l8] [s0] h = evL 116 27 [l0, l1, l2, I l3, l4, l5, l6, l7, l8] [I l3, s0] h := ev_go c116_26 rfl
theorem c116_27 : cd 116 27 = some (27, .bipush 13, 2, 0, 0, 0) := rfl
theorem s116_27 {l0 l1 l2 l3 l4 l5 l6 l7 l8 s0 s1 : AV} {h : AH} : evL 116 27 [l0, l1, l2, l3, l4, l5, l6, l7, l8] [s0, s1] h = evL 116 29 [l0, l1, l2, l3, l4, l5, l6, l7, l8] [I 13, s0, s1] h := ev_go c116_27 rfl
theorem c116_29 : cd 116 29 = some (29, .if_icmp .ge 7, 3, 0, 0, 0) := rfl
theorem s116_29 {l0 l1 l2 l3 l4 l5 l6 l7 l8 s2 : AV} {s0 s1 : Int} {h : AH} : evL 116 29 [l0, l1, l2, l3, l4, l5, l6, l7, l8] [I s0, I s1, s2] h = if s0 ≤ s1 then evL 116 36 [l0, l1, l2, l3, l4, l5, l6, l7, l8] [s2] h else evL 116 32 [l0, l1, l2, l3, l4, l5, l6, l7, l8] [s2] h := e_icmp_ge c116_29 rfl rfl
theorem c116_32 : cd 116 32 = some (32, .iconst 0, 1, 0, 0, 0) := rfl
theorem s116_32 {l0 l1 l2 l3 l4 l5 l6 l7 l8 s0 : AV} {h : AH} : evL 116 32 [l0, l1, l2, l3, l4, l5, l6, l7, l8] [s0] h = evL 116 33 [l0, l1, l2, l3, l4, l5, l6, l7, l8] [I 0, s0] h := ev_go c116_32 rfl
theorem c116_33 : cd 116 33 = some (33, .goto 14, 3, 0, 0, 0) := rfl
theorem s116_33 {l0 l1 l2 l3 l4 l5 l6 l7 l8 s0 s1 : AV} {h : AH} : evL 116 33 [l0, l1, l2, l3, l4, l5, l6, l7, l8] [s0, s1] h = evL 116 47 [l0, l1, l2, l3, l4, l5, l6, l7, l8] [s0, s1] h := ev_go c116_33 rfl
theorem c116_36 : cd 116 36 = some (36, .iload_n 3, 1, 0, 0, 0) := rfl
theorem s116_36 {l0 l1 l2 l4 l5 l6 l7 l8 s0 : AV} {l3 : Int} {h : AH} : evL 116 36 [l0, l1, l2, I l3, l4, l5, l6, l7, l8] [s0] h = evL 116 37 [l0, l1, l2, I l3, l4, l5, l6, l7, l8] [I l3, s0] h := ev_go c116_36 rfl
theorem c116_37 : cd 116 37 = some (37, .bipush 15, 2, 0, 0, 0) := rfl
theorem s116_37 {l0 l1 l2 l3 l4 l5 l6 l7 l8 s0 s1 : AV} {h : AH} : evL 116 37 [l0, l1, l2, l3, l4, l5, l6, l7, l8] [s0, s1] h = evL 116 39 [l0, l1, l2, l3, l4, l5, l6, l7, l8] [I 15, s0, s1] h := ev_go c116_37 rfl
theorem c116_39 : cd 116 39 = some (39, .if_icmp .ge 7, 3, 0, 0, 0) := rfl
theorem s116_39 {l0 l1 l2 l3 l4 l5 l6 l7 l8 s2 : AV} {s0 s1 : Int} {h : AH} : evL 116 39 [l0, l1, l2, l3, l4, l5, l6, l7, l8] [I s0, I s1, s2] h = if s0 ≤ s1 then evL 116 46 [l0, l1, l2, l3, l4, l5, l6, l7, l8] [s2] h else evL 116 42 [l0, l1, l2, l3, l4, l5, l6, l7, l8] [s2] h := e_icmp_ge c116_39 rfl rfl
theorem c116_42 : cd 116 42 = some (42, .iconst 1, 1, 0, 0, 0) := rfl
theorem s116_42 {l0 l1 l2 l3 l4 l5 l6 l7 l8 s0 : AV} {h : AH} : evL 116 42 [l0, l1, l2, l3, l4, l5, l6, l7, l8] [s0] h = evL 116 43 [l0, l1, l2, l3, l4, l5, l6, l7, l8] [I 1, s0] h := ev_go c116_42 rfl
theorem c116_43 : cd 116 43 = some (43, .goto 4, 3, 0, 0, 0) := rfl
theorem s116_43 {l0 l1 l2 l3 l4 l5 l6 l7 l8 s0 s1 : AV} {h : AH} : evL 116 43 [l0, l1, l2, l3, l4, l5, l6, l7, l8] [s0, s1] h = evL 116 47 [l0, l1, l2, l3, l4, l5, l6, l7, l8] [s0, s1] h := ev_go c116_43 rfl
theorem c116_46 : cd 116 46 = some (46, .iconst 2, 1, 0, 0, 0) := rfl
theorem s116_46 {l0 l1 l2 l3 l4 l5 l6 l7 l8 s0 : AV} {h : AH} : evL 116 46 [l0, l1, l2, l3, l4, l5, l6, l7, l8] [s0] h = evL 116 47 [l0, l1, l2, l3, l4, l5, l6, l7, l8] [I 2, s0] h := ev_go c116_46 rfl
theorem c116_47 : cd 116 47 = some (47, .iload_n 2, 1, 0, 0, 0) := rfl
theorem s116_47 {l0 l1 l3 l4 l5 l6 l7 l8 s0 s1 : AV} {l2 : Int} {h : AH} : evL 116 47 [l0, l1, I l2, l3, l4, l5, l6, l7, l8] [s0, s1] h = evL 116 48 [l0, l1, I l2, l3, l4, l5, l6, l7, l8] [I l2, s0, s1] h := ev_go c116_47 rfl
theorem c116_48 : cd 116 48 = some (48, .invokestatic 89, 3, 114, 0, 551) := rfl
theorem s116_48 {l0 l1 l2 l3 l4 l5 l6 l7 l8 : AV} {s0 s1 : Int} {s2 : Nat} {M : Mem} {P : PMem} : evL 116 48 [l0, l1, l2, l3, l4, l5, l6, l7, l8] [I s0, I s1, Rf s2] (Hp M P) = cont (evM 114 [Rf s2, I s1, I s0] (Hp M P)) (fun r h => evL 116 51 [l0, l1, l2, l3, l4, l5, l6, l7, l8] (rl r []) h) := e_callS (av := [Rf s2, I s1, I s0]) (rest := []) c116_48 rfl rfl rfl rfl rfl rfl
theorem c116_51 : cd 116 51 = some (51, .ireturn, 1, 0, 0, 0) := rfl
theorem s116_51 {l0 l1 l2 l3 l4 l5 l6 l7 l8 : AV} {s0 : Int} {h : AH} (hz : s0 = 0 ∨ s0 = 1) : evL 116 51 [l0, l1, l2, l3, l4, l5, l6, l7, l8] [I s0] h = some (some (I s0), h) := e_ret c116_51 (if_pos hz)
theorem c116_52 : cd 116 52 = some (52, .iload_n 3, 1, 0, 0, 0) := rfl
theorem s116_52 {l0 l1 l2 l4 l5 l6 l7 l8 : AV} {l3 : Int} {h : AH} : evL 116 52 [l0, l1, l2, I l3, l4, l5, l6, l7, l8] [] h = evL 116 53 [l0, l1, l2, I l3, l4, l5, l6, l7, l8] [I l3] h := ev_go c116_52 rfl
theorem c116_53 : cd 116 53 = some (53, .bipush 23, 2, 0, 0, 0) := rfl
theorem s116_53 {l0 l1 l2 l3 l4 l5 l6 l7 l8 s0 : AV} {h : AH} : evL 116 53 [l0, l1, l2, l3, l4, l5, l6, l7, l8] [s0] h = evL 116 55 [l0, l1, l2, l3, l4, l5, l6, l7, l8] [I 23, s0] h := ev_go c116_53 rfl
theorem c116_55 : cd 116 55 = some (55, .if_icmp .ge 9, 3, 0, 0, 0) := rfl
theorem s116_55 {l0 l1 l2 l3 l4 l5 l6 l7 l8 : AV} {s0 s1 : Int} {h : AH} : evL 116 55 [l0, l1, l2, l3, l4, l5, l6, l7, l8] [I s0, I s1] h = if s0 ≤ s1 then evL 116 64 [l0, l1, l2, l3, l4, l5, l6, l7, l8] [] h else evL 116 58 [l0, l1, l2, l3, l4, l5, l6, l7, l8] [] h := e_icmp_ge c116_55 rfl rfl
theorem c116_58 : cd 116 58 = some (58, .aload_n 0, 1, 0, 0, 0) := rfl
theorem s116_58 {l1 l2 l3 l4 l5 l6 l7 l8 : AV} {l0 : Option Nat} {h : AH} : evL 116 58 [.inr (.inl l0), l1, l2, l3, l4, l5, l6, l7, l8] [] h = evL 116 59 [.inr (.inl l0), l1, l2, l3, l4, l5, l6, l7, l8] [.inr (.inl l0)] h := ev_go c116_58 rfl
theorem c116_59 : cd 116 59 = some (59, .iload_n 2, 1, 0, 0, 0) := rfl
theorem s116_59 {l0 l1 l3 l4 l5 l6 l7 l8 s0 : AV} {l2 : Int} {h : AH} : evL 116 59 [l0, l1, I l2, l3, l4, l5, l6, l7, l8] [s0] h = evL 116 60 [l0, l1, I l2, l3, l4, l5, l6, l7, l8] [I l2, s0] h := ev_go c116_59 rfl
theorem c116_60 : cd 116 60 = some (60, .invokestatic 93, 3, 113, 0, 638) := rfl
theorem s116_60 {l0 l1 l2 l3 l4 l5 l6 l7 l8 : AV} {s0 : Int} {s1 : Nat} {M : Mem} {P : PMem} : evL 116 60 [l0, l1, l2, l3, l4, l5, l6, l7, l8] [I s0, Rf s1] (Hp M P) = cont (evM 113 [Rf s1, I s0] (Hp M P)) (fun r h => evL 116 63 [l0, l1, l2, l3, l4, l5, l6, l7, l8] (rl r []) h) := e_callS (av := [Rf s1, I s0]) (rest := []) c116_60 rfl rfl rfl rfl rfl rfl
theorem c116_63 : cd 116 63 = some (63, .ireturn, 1, 0, 0, 0) := rfl
theorem s116_63 {l0 l1 l2 l3 l4 l5 l6 l7 l8 : AV} {s0 : Int} {h : AH} (hz : s0 = 0 ∨ s0 = 1) : evL 116 63 [l0, l1, l2, l3, l4, l5, l6, l7, l8] [I s0] h = some (some (I s0), h) := e_ret c116_63 (if_pos hz)
theorem c116_64 : cd 116 64 = some (64, .iconst 1, 1, 0, 0, 0) := rfl
theorem s116_64 {l0 l1 l2 l3 l4 l5 l6 l7 l8 : AV} {h : AH} : evL 116 64 [l0, l1, l2, l3, l4, l5, l6, l7, l8] [] h = evL 116 65 [l0, l1, l2, l3, l4, l5, l6, l7, l8] [I 1] h := ev_go c116_64 rfl
theorem c116_65 : cd 116 65 = some (65, .iload_n 2, 1, 0, 0, 0) := rfl
theorem s116_65 {l0 l1 l3 l4 l5 l6 l7 l8 s0 : AV} {l2 : Int} {h : AH} : evL 116 65 [l0, l1, I l2, l3, l4, l5, l6, l7, l8] [s0] h = evL 116 66 [l0, l1, I l2, l3, l4, l5, l6, l7, l8] [I l2, s0] h := ev_go c116_65 rfl
theorem c116_66 : cd 116 66 = some (66, .iconst 5, 1, 0, 0, 0) := rfl
theorem s116_66 {l0 l1 l2 l3 l4 l5 l6 l7 l8 s0 s1 : AV} {h : AH} : evL 116 66 [l0, l1, l2, l3, l4, l5, l6, l7, l8] [s0, s1] h = evL 116 67 [l0, l1, l2, l3, l4, l5, l6, l7, l8] [I 5, s0, s1] h := ev_go c116_66 rfl
theorem c116_67 : cd 116 67 = some (67, .invokestatic 39, 3, 105, 0, 383) := rfl
theorem s116_67 {l0 l1 l2 l3 l4 l5 l6 l7 l8 s2 : AV} {s0 s1 : Int} {M : Mem} {P : PMem} : evL 116 67 [l0, l1, l2, l3, l4, l5, l6, l7, l8] [I s0, I s1, s2] (Hp M P) = cont (evM 105 [I s1, I s0] (Hp M P)) (fun r h => evL 116 70 [l0, l1, l2, l3, l4, l5, l6, l7, l8] (rl r [s2]) h) := e_callS (av := [I s1, I s0]) (rest := [s2]) c116_67 rfl rfl rfl rfl rfl rfl
theorem c116_70 : cd 116 70 = some (70, .iadd, 1, 0, 0, 0) := rfl
theorem s116_70 {l0 l1 l2 l3 l4 l5 l6 l7 l8 : AV} {s0 s1 : Int} {h : AH} : evL 116 70 [l0, l1, l2, l3, l4, l5, l6, l7, l8] [I s0, I s1] h = evL 116 71 [l0, l1, l2, l3, l4, l5, l6, l7, l8] [I (ad s1 s0)] h := ev_go c116_70 rfl
theorem c116_71 : cd 116 71 = some (71, .istore 4, 2, 0, 0, 0) := rfl
theorem s116_71 {l0 l1 l2 l3 l4 l5 l6 l7 l8 : AV} {s0 : Int} {h : AH} : evL 116 71 [l0, l1, l2, l3, l4, l5, l6, l7, l8] [I s0] h = evL 116 73 [l0, l1, l2, l3, I s0, l5, l6, l7, l8] [] h := ev_go c116_71 rfl
theorem c116_73 : cd 116 73 = some (73, .iload_n 2, 1, 0, 0, 0) := rfl
theorem s116_73 {l0 l1 l3 l4 l5 l6 l7 l8 : AV} {l2 : Int} {h : AH} : evL 116 73 [l0, l1, I l2, l3, l4, l5, l6, l7, l8] [] h = evL 116 74 [l0, l1, I l2, l3, l4, l5, l6, l7, l8] [I l2] h := ev_go c116_73 rfl
theorem c116_74 : cd 116 74 = some (74, .iconst 3, 1, 0, 0, 0) := rfl
theorem s116_74 {l0 l1 l2 l3 l4 l5 l6 l7 l8 s0 : AV} {h : AH} : evL 116 74 [l0, l1, l2, l3, l4, l5, l6, l7, l8] [s0] h = evL 116 75 [l0, l1, l2, l3, l4, l5, l6, l7, l8] [I 3, s0] h := ev_go c116_74 rfl
theorem c116_75 : cd 116 75 = some (75, .ishr, 1, 0, 0, 0) := rfl
theorem s116_75 {l0 l1 l2 l3 l4 l5 l6 l7 l8 : AV} {s0 s1 : Int} {h : AH} : evL 116 75 [l0, l1, l2, l3, l4, l5, l6, l7, l8] [I s0, I s1] h = evL 116 76 [l0, l1, l2, l3, l4, l5, l6, l7, l8] [I (shr s1 s0)] h := ev_go c116_75 rfl
theorem c116_76 : cd 116 76 = some (76, .sipush 10002, 3, 0, 0, 0) := rfl
theorem s116_76 {l0 l1 l2 l3 l4 l5 l6 l7 l8 s0 : AV} {h : AH} : evL 116 76 [l0, l1, l2, l3, l4, l5, l6, l7, l8] [s0] h = evL 116 79 [l0, l1, l2, l3, l4, l5, l6, l7, l8] [I 10002, s0] h := ev_go c116_76 rfl
theorem c116_79 : cd 116 79 = some (79, .invokestatic 39, 3, 105, 0, 383) := rfl
theorem s116_79 {l0 l1 l2 l3 l4 l5 l6 l7 l8 : AV} {s0 s1 : Int} {M : Mem} {P : PMem} : evL 116 79 [l0, l1, l2, l3, l4, l5, l6, l7, l8] [I s0, I s1] (Hp M P) = cont (evM 105 [I s1, I s0] (Hp M P)) (fun r h => evL 116 82 [l0, l1, l2, l3, l4, l5, l6, l7, l8] (rl r []) h) := e_callS (av := [I s1, I s0]) (rest := []) c116_79 rfl rfl rfl rfl rfl rfl
theorem c116_82 : cd 116 82 = some (82, .iconst 1, 1, 0, 0, 0) := rfl
theorem s116_82 {l0 l1 l2 l3 l4 l5 l6 l7 l8 s0 : AV} {h : AH} : evL 116 82 [l0, l1, l2, l3, l4, l5, l6, l7, l8] [s0] h = evL 116 83 [l0, l1, l2, l3, l4, l5, l6, l7, l8] [I 1, s0] h := ev_go c116_82 rfl
theorem c116_83 : cd 116 83 = some (83, .isub, 1, 0, 0, 0) := rfl
theorem s116_83 {l0 l1 l2 l3 l4 l5 l6 l7 l8 : AV} {s0 s1 : Int} {h : AH} : evL 116 83 [l0, l1, l2, l3, l4, l5, l6, l7, l8] [I s0, I s1] h = evL 116 84 [l0, l1, l2, l3, l4, l5, l6, l7, l8] [I (sb s1 s0)] h := ev_go c116_83 rfl
theorem c116_84 : cd 116 84 = some (84, .istore 5, 2, 0, 0, 0) := rfl
theorem s116_84 {l0 l1 l2 l3 l4 l5 l6 l7 l8 : AV} {s0 : Int} {h : AH} : evL 116 84 [l0, l1, l2, l3, l4, l5, l6, l7, l8] [I s0] h = evL 116 86 [l0, l1, l2, l3, l4, I s0, l6, l7, l8] [] h := ev_go c116_84 rfl
theorem c116_86 : cd 116 86 = some (86, .iload 4, 2, 0, 0, 0) := rfl
theorem s116_86 {l0 l1 l2 l3 l5 l6 l7 l8 : AV} {l4 : Int} {h : AH} : evL 116 86 [l0, l1, l2, l3, I l4, l5, l6, l7, l8] [] h = evL 116 88 [l0, l1, l2, l3, I l4, l5, l6, l7, l8] [I l4] h := ev_go c116_86 rfl
theorem c116_88 : cd 116 88 = some (88, .iconst 1, 1, 0, 0, 0) := rfl
theorem s116_88 {l0 l1 l2 l3 l4 l5 l6 l7 l8 s0 : AV} {h : AH} : evL 116 88 [l0, l1, l2, l3, l4, l5, l6, l7, l8] [s0] h = evL 116 89 [l0, l1, l2, l3, l4, l5, l6, l7, l8] [I 1, s0] h := ev_go c116_88 rfl
theorem c116_89 : cd 116 89 = some (89, .if_icmp .eq 22, 3, 0, 0, 0) := rfl
theorem s116_89 {l0 l1 l2 l3 l4 l5 l6 l7 l8 : AV} {s0 s1 : Int} {h : AH} : evL 116 89 [l0, l1, l2, l3, l4, l5, l6, l7, l8] [I s0, I s1] h = if s1 = s0 then evL 116 111 [l0, l1, l2, l3, l4, l5, l6, l7, l8] [] h else evL 116 92 [l0, l1, l2, l3, l4, l5, l6, l7, l8] [] h := e_icmp_eq c116_89 rfl rfl
theorem c116_92 : cd 116 92 = some (92, .iload 4, 2, 0, 0, 0) := rfl
theorem s116_92 {l0 l1 l2 l3 l5 l6 l7 l8 : AV} {l4 : Int} {h : AH} : evL 116 92 [l0, l1, l2, l3, I l4, l5, l6, l7, l8] [] h = evL 116 94 [l0, l1, l2, l3, I l4, l5, l6, l7, l8] [I l4] h := ev_go c116_92 rfl
theorem c116_94 : cd 116 94 = some (94, .iconst 5, 1, 0, 0, 0) := rfl
theorem s116_94 {l0 l1 l2 l3 l4 l5 l6 l7 l8 s0 : AV} {h : AH} : evL 116 94 [l0, l1, l2, l3, l4, l5, l6, l7, l8] [s0] h = evL 116 95 [l0, l1, l2, l3, l4, l5, l6, l7, l8] [I 5, s0] h := ev_go c116_94 rfl
theorem c116_95 : cd 116 95 = some (95, .if_icmp .eq 16, 3, 0, 0, 0) := rfl
theorem s116_95 {l0 l1 l2 l3 l4 l5 l6 l7 l8 : AV} {s0 s1 : Int} {h : AH} : evL 116 95 [l0, l1, l2, l3, l4, l5, l6, l7, l8] [I s0, I s1] h = if s1 = s0 then evL 116 111 [l0, l1, l2, l3, l4, l5, l6, l7, l8] [] h else evL 116 98 [l0, l1, l2, l3, l4, l5, l6, l7, l8] [] h := e_icmp_eq c116_95 rfl rfl
theorem c116_98 : cd 116 98 = some (98, .iload 5, 2, 0, 0, 0) := rfl
theorem s116_98 {l0 l1 l2 l3 l4 l6 l7 l8 : AV} {l5 : Int} {h : AH} : evL 116 98 [l0, l1, l2, l3, l4, I l5, l6, l7, l8] [] h = evL 116 100 [l0, l1, l2, l3, l4, I l5, l6, l7, l8] [I l5] h := ev_go c116_98 rfl
theorem c116_100 : cd 116 100 = some (100, .ifCond .lt 11, 3, 0, 0, 0) := rfl
theorem s116_100 {l0 l1 l2 l3 l4 l5 l6 l7 l8 : AV} {s0 : Int} {h : AH} : evL 116 100 [l0, l1, l2, l3, l4, l5, l6, l7, l8] [I s0] h = if s0 < 0 then evL 116 111 [l0, l1, l2, l3, l4, l5, l6, l7, l8] [] h else evL 116 103 [l0, l1, l2, l3, l4, l5, l6, l7, l8] [] h := e_if_lt c116_100 rfl rfl
theorem c116_103 : cd 116 103 = some (103, .iload 5, 2, 0, 0, 0) := rfl
theorem s116_103 {l0 l1 l2 l3 l4 l6 l7 l8 : AV} {l5 : Int} {h : AH} : evL 116 103 [l0, l1, l2, l3, l4, I l5, l6, l7, l8] [] h = evL 116 105 [l0, l1, l2, l3, l4, I l5, l6, l7, l8] [I l5] h := ev_go c116_103 rfl
theorem c116_105 : cd 116 105 = some (105, .sipush 10000, 3, 0, 0, 0) := rfl
theorem s116_105 {l0 l1 l2 l3 l4 l5 l6 l7 l8 s0 : AV} {h : AH} : evL 116 105 [l0, l1, l2, l3, l4, l5, l6, l7, l8] [s0] h = evL 116 108 [l0, l1, l2, l3, l4, l5, l6, l7, l8] [I 10000, s0] h := ev_go c116_105 rfl
theorem c116_108 : cd 116 108 = some (108, .if_icmp .ne 7, 3, 0, 0, 0) := rfl
theorem s116_108 {l0 l1 l2 l3 l4 l5 l6 l7 l8 : AV} {s0 s1 : Int} {h : AH} : evL 116 108 [l0, l1, l2, l3, l4, l5, l6, l7, l8] [I s0, I s1] h = if s1 = s0 then evL 116 111 [l0, l1, l2, l3, l4, l5, l6, l7, l8] [] h else evL 116 115 [l0, l1, l2, l3, l4, l5, l6, l7, l8] [] h := e_icmp_ne c116_108 rfl rfl
theorem c116_111 : cd 116 111 = some (111, .iconst 1, 1, 0, 0, 0) := rfl
theorem s116_111 {l0 l1 l2 l3 l4 l5 l6 l7 l8 : AV} {h : AH} : evL 116 111 [l0, l1, l2, l3, l4, l5, l6, l7, l8] [] h = evL 116 112 [l0, l1, l2, l3, l4, l5, l6, l7, l8] [I 1] h := ev_go c116_111 rfl
theorem c116_112 : cd 116 112 = some (112, .goto 4, 3, 0, 0, 0) := rfl
theorem s116_112 {l0 l1 l2 l3 l4 l5 l6 l7 l8 s0 : AV} {h : AH} : evL 116 112 [l0, l1, l2, l3, l4, l5, l6, l7, l8] [s0] h = evL 116 116 [l0, l1, l2, l3, l4, l5, l6, l7, l8] [s0] h := ev_go c116_112 rfl
theorem c116_115 : cd 116 115 = some (115, .iconst 0, 1, 0, 0, 0) := rfl
theorem s116_115 {l0 l1 l2 l3 l4 l5 l6 l7 l8 : AV} {h : AH} : evL 116 115 [l0, l1, l2, l3, l4, l5, l6, l7, l8] [] h = evL 116 116 [l0, l1, l2, l3, l4, l5, l6, l7, l8] [I 0] h := ev_go c116_115 rfl
theorem c116_116 : cd 116 116 = some (116, .istore 6, 2, 0, 0, 0) := rfl
theorem s116_116 {l0 l1 l2 l3 l4 l5 l6 l7 l8 : AV} {s0 : Int} {h : AH} : evL 116 116 [l0, l1, l2, l3, l4, l5, l6, l7, l8] [I s0] h = evL 116 118 [l0, l1, l2, l3, l4, l5, I s0, l7, l8] [] h := ev_go c116_116 rfl
theorem c116_118 : cd 116 118 = some (118, .aload_n 0, 1, 0, 0, 0) := rfl
theorem s116_118 {l1 l2 l3 l4 l5 l6 l7 l8 : AV} {l0 : Option Nat} {h : AH} : evL 116 118 [.inr (.inl l0), l1, l2, l3, l4, l5, l6, l7, l8] [] h = evL 116 119 [.inr (.inl l0), l1, l2, l3, l4, l5, l6, l7, l8] [.inr (.inl l0)] h := ev_go c116_118 rfl
theorem c116_119 : cd 116 119 = some (119, .bipush 12, 2, 0, 0, 0) := rfl
theorem s116_119 {l0 l1 l2 l3 l4 l5 l6 l7 l8 s0 : AV} {h : AH} : evL 116 119 [l0, l1, l2, l3, l4, l5, l6, l7, l8] [s0] h = evL 116 121 [l0, l1, l2, l3, l4, l5, l6, l7, l8] [I 12, s0] h := ev_go c116_119 rfl
theorem c116_121 : cd 116 121 = some (121, .invokevirtual 13, 3, 100, 0, 258) := rfl
theorem s116_121 {l0 l1 l2 l3 l4 l5 l6 l7 l8 : AV} {s0 : Int} {s1 : Nat} {M : Mem} {P : PMem} (hk : kd s1 = 7) : evL 116 121 [l0, l1, l2, l3, l4, l5, l6, l7, l8] [I s0, Rf s1] (Hp M P) = cont (evM 100 [Rf s1, I s0] (Hp M P)) (fun r h => evL 116 124 [l0, l1, l2, l3, l4, l5, l6, l7, l8] (rl r []) h) := e_callV (av' := [I s0]) (rest := []) (c := 7) c116_121 rfl rfl rfl rfl rfl rfl rfl hk rfl
theorem c116_124 : cd 116 124 = some (124, .istore 7, 2, 0, 0, 0) := rfl
theorem s116_124 {l0 l1 l2 l3 l4 l5 l6 l7 l8 : AV} {s0 : Int} {h : AH} : evL 116 124 [l0, l1, l2, l3, l4, l5, l6, l7, l8] [I s0] h = evL 116 126 [l0, l1, l2, l3, l4, l5, l6, I s0, l8] [] h := ev_go c116_124 rfl
theorem c116_126 : cd 116 126 = some (126, .aload_n 0, 1, 0, 0, 0) := rfl
theorem s116_126 {l1 l2 l3 l4 l5 l6 l7 l8 : AV} {l0 : Option Nat} {h : AH} : evL 116 126 [.inr (.inl l0), l1, l2, l3, l4, l5, l6, l7, l8] [] h = evL 116 127 [.inr (.inl l0), l1, l2, l3, l4, l5, l6, l7, l8] [.inr (.inl l0)] h := ev_go c116_126 rfl
theorem c116_127 : cd 116 127 = some (127, .iload 4, 2, 0, 0, 0) := rfl
theorem s116_127 {l0 l1 l2 l3 l5 l6 l7 l8 s0 : AV} {l4 : Int} {h : AH} : evL 116 127 [l0, l1, l2, l3, I l4, l5, l6, l7, l8] [s0] h = evL 116 129 [l0, l1, l2, l3, I l4, l5, l6, l7, l8] [I l4, s0] h := ev_go c116_127 rfl
theorem c116_129 : cd 116 129 = some (129, .iload 5, 2, 0, 0, 0) := rfl
theorem s116_129 {l0 l1 l2 l3 l4 l6 l7 l8 s0 s1 : AV} {l5 : Int} {h : AH} : evL 116 129 [l0, l1, l2, l3, l4, I l5, l6, l7, l8] [s0, s1] h = evL 116 131 [l0, l1, l2, l3, l4, I l5, l6, l7, l8] [I l5, s0, s1] h := ev_go c116_129 rfl
theorem c116_131 : cd 116 131 = some (131, .invokevirtual 96, 3, 87, 0, 685) := rfl
theorem s116_131 {l0 l1 l2 l3 l4 l5 l6 l7 l8 : AV} {s0 s1 : Int} {s2 : Nat} {M : Mem} {P : PMem} (hk : kd s2 = 7) : evL 116 131 [l0, l1, l2, l3, l4, l5, l6, l7, l8] [I s0, I s1, Rf s2] (Hp M P) = cont (evM 87 [Rf s2, I s1, I s0] (Hp M P)) (fun r h => evL 116 134 [l0, l1, l2, l3, l4, l5, l6, l7, l8] (rl r []) h) := e_callV (av' := [I s1, I s0]) (rest := []) (c := 7) c116_131 rfl rfl rfl rfl rfl rfl rfl hk rfl
theorem c116_134 : cd 116 134 = some (134, .istore 8, 2, 0, 0, 0) := rfl
theorem s116_134 {l0 l1 l2 l3 l4 l5 l6 l7 l8 : AV} {s0 : Int} {h : AH} : evL 116 134 [l0, l1, l2, l3, l4, l5, l6, l7, l8] [I s0] h = evL 116 136 [l0, l1, l2, l3, l4, l5, l6, l7, I s0] [] h := ev_go c116_134 rfl
theorem c116_136 : cd 116 136 = some (136, .iload 6, 2, 0, 0, 0) := rfl
theorem s116_136 {l0 l1 l2 l3 l4 l5 l7 l8 : AV} {l6 : Int} {h : AH} : evL 116 136 [l0, l1, l2, l3, l4, l5, I l6, l7, l8] [] h = evL 116 138 [l0, l1, l2, l3, l4, l5, I l6, l7, l8] [I l6] h := ev_go c116_136 rfl
theorem c116_138 : cd 116 138 = some (138, .ifCond .eq 17, 3, 0, 0, 0) := rfl
theorem s116_138 {l0 l1 l2 l3 l4 l5 l6 l7 l8 : AV} {s0 : Int} {h : AH} : evL 116 138 [l0, l1, l2, l3, l4, l5, l6, l7, l8] [I s0] h = if s0 = 0 then evL 116 155 [l0, l1, l2, l3, l4, l5, l6, l7, l8] [] h else evL 116 141 [l0, l1, l2, l3, l4, l5, l6, l7, l8] [] h := e_if_eq c116_138 rfl rfl
theorem c116_141 : cd 116 141 = some (141, .iload 8, 2, 0, 0, 0) := rfl
theorem s116_141 {l0 l1 l2 l3 l4 l5 l6 l7 : AV} {l8 : Int} {h : AH} : evL 116 141 [l0, l1, l2, l3, l4, l5, l6, l7, I l8] [] h = evL 116 143 [l0, l1, l2, l3, l4, l5, l6, l7, I l8] [I l8] h := ev_go c116_141 rfl
theorem c116_143 : cd 116 143 = some (143, .iconst (-1), 1, 0, 0, 0) := rfl
theorem s116_143 {l0 l1 l2 l3 l4 l5 l6 l7 l8 s0 : AV} {h : AH} : evL 116 143 [l0, l1, l2, l3, l4, l5, l6, l7, l8] [s0] h = evL 116 144 [l0, l1, l2, l3, l4, l5, l6, l7, l8] [I (-1), s0] h := ev_go c116_143 rfl
theorem c116_144 : cd 116 144 = some (144, .if_icmp .ne 7, 3, 0, 0, 0) := rfl
theorem s116_144 {l0 l1 l2 l3 l4 l5 l6 l7 l8 : AV} {s0 s1 : Int} {h : AH} : evL 116 144 [l0, l1, l2, l3, l4, l5, l6, l7, l8] [I s0, I s1] h = if s1 = s0 then evL 116 147 [l0, l1, l2, l3, l4, l5, l6, l7, l8] [] h else evL 116 151 [l0, l1, l2, l3, l4, l5, l6, l7, l8] [] h := e_icmp_ne c116_144 rfl rfl
theorem c116_147 : cd 116 147 = some (147, .iconst 1, 1, 0, 0, 0) := rfl
theorem s116_147 {l0 l1 l2 l3 l4 l5 l6 l7 l8 : AV} {h : AH} : evL 116 147 [l0, l1, l2, l3, l4, l5, l6, l7, l8] [] h = evL 116 148 [l0, l1, l2, l3, l4, l5, l6, l7, l8] [I 1] h := ev_go c116_147 rfl
theorem c116_148 : cd 116 148 = some (148, .goto 105, 3, 0, 0, 0) := rfl
theorem s116_148 {l0 l1 l2 l3 l4 l5 l6 l7 l8 s0 : AV} {h : AH} : evL 116 148 [l0, l1, l2, l3, l4, l5, l6, l7, l8] [s0] h = evL 116 253 [l0, l1, l2, l3, l4, l5, l6, l7, l8] [s0] h := ev_go c116_148 rfl
theorem c116_151 : cd 116 151 = some (151, .iconst 0, 1, 0, 0, 0) := rfl
theorem s116_151 {l0 l1 l2 l3 l4 l5 l6 l7 l8 : AV} {h : AH} : evL 116 151 [l0, l1, l2, l3, l4, l5, l6, l7, l8] [] h = evL 116 152 [l0, l1, l2, l3, l4, l5, l6, l7, l8] [I 0] h := ev_go c116_151 rfl
theorem c116_152 : cd 116 152 = some (152, .goto 101, 3, 0, 0, 0) := rfl
theorem s116_152 {l0 l1 l2 l3 l4 l5 l6 l7 l8 s0 : AV} {h : AH} : evL 116 152 [l0, l1, l2, l3, l4, l5, l6, l7, l8] [s0] h = evL 116 253 [l0, l1, l2, l3, l4, l5, l6, l7, l8] [s0] h := ev_go c116_152 rfl
theorem c116_155 : cd 116 155 = some (155, .iload 8, 2, 0, 0, 0) := rfl
theorem s116_155 {l0 l1 l2 l3 l4 l5 l6 l7 : AV} {l8 : Int} {h : AH} : evL 116 155 [l0, l1, l2, l3, l4, l5, l6, l7, I l8] [] h = evL 116 157 [l0, l1, l2, l3, l4, l5, l6, l7, I l8] [I l8] h := ev_go c116_155 rfl
theorem c116_157 : cd 116 157 = some (157, .aload_n 0, 1, 0, 0, 0) := rfl
theorem s116_157 {l1 l2 l3 l4 l5 l6 l7 l8 s0 : AV} {l0 : Option Nat} {h : AH} : evL 116 157 [.inr (.inl l0), l1, l2, l3, l4, l5, l6, l7, l8] [s0] h = evL 116 158 [.inr (.inl l0), l1, l2, l3, l4, l5, l6, l7, l8] [.inr (.inl l0), s0] h := ev_go c116_157 rfl
theorem c116_158 : cd 116 158 = some (158, .bipush 7, 2, 0, 0, 0) := rfl
theorem s116_158 {l0 l1 l2 l3 l4 l5 l6 l7 l8 s0 s1 : AV} {h : AH} : evL 116 158 [l0, l1, l2, l3, l4, l5, l6, l7, l8] [s0, s1] h = evL 116 160 [l0, l1, l2, l3, l4, l5, l6, l7, l8] [I 7, s0, s1] h := ev_go c116_158 rfl
theorem c116_160 : cd 116 160 = some (160, .invokevirtual 13, 3, 100, 0, 258) := rfl
theorem s116_160 {l0 l1 l2 l3 l4 l5 l6 l7 l8 s2 : AV} {s0 : Int} {s1 : Nat} {M : Mem} {P : PMem} (hk : kd s1 = 7) : evL 116 160 [l0, l1, l2, l3, l4, l5, l6, l7, l8] [I s0, Rf s1, s2] (Hp M P) = cont (evM 100 [Rf s1, I s0] (Hp M P)) (fun r h => evL 116 163 [l0, l1, l2, l3, l4, l5, l6, l7, l8] (rl r [s2]) h) := e_callV (av' := [I s0]) (rest := [s2]) (c := 7) c116_160 rfl rfl rfl rfl rfl rfl rfl hk rfl
theorem c116_163 : cd 116 163 = some (163, .if_icmp .ne 89, 3, 0, 0, 0) := rfl
theorem s116_163 {l0 l1 l2 l3 l4 l5 l6 l7 l8 : AV} {s0 s1 : Int} {h : AH} : evL 116 163 [l0, l1, l2, l3, l4, l5, l6, l7, l8] [I s0, I s1] h = if s1 = s0 then evL 116 166 [l0, l1, l2, l3, l4, l5, l6, l7, l8] [] h else evL 116 252 [l0, l1, l2, l3, l4, l5, l6, l7, l8] [] h := e_icmp_ne c116_163 rfl rfl
theorem c116_166 : cd 116 166 = some (166, .aload_n 0, 1, 0, 0, 0) := rfl
theorem s116_166 {l1 l2 l3 l4 l5 l6 l7 l8 : AV} {l0 : Option Nat} {h : AH} : evL 116 166 [.inr (.inl l0), l1, l2, l3, l4, l5, l6, l7, l8] [] h = evL 116 167 [.inr (.inl l0), l1, l2, l3, l4, l5, l6, l7, l8] [.inr (.inl l0)] h := ev_go c116_166 rfl
theorem c116_167 : cd 116 167 = some (167, .iconst 0, 1, 0, 0, 0) := rfl
theorem s116_167 {l0 l1 l2 l3 l4 l5 l6 l7 l8 s0 : AV} {h : AH} : evL 116 167 [l0, l1, l2, l3, l4, l5, l6, l7, l8] [s0] h = evL 116 168 [l0, l1, l2, l3, l4, l5, l6, l7, l8] [I 0, s0] h := ev_go c116_167 rfl
theorem c116_168 : cd 116 168 = some (168, .invokevirtual 13, 3, 100, 0, 258) := rfl
theorem s116_168 {l0 l1 l2 l3 l4 l5 l6 l7 l8 : AV} {s0 : Int} {s1 : Nat} {M : Mem} {P : PMem} (hk : kd s1 = 7) : evL 116 168 [l0, l1, l2, l3, l4, l5, l6, l7, l8] [I s0, Rf s1] (Hp M P) = cont (evM 100 [Rf s1, I s0] (Hp M P)) (fun r h => evL 116 171 [l0, l1, l2, l3, l4, l5, l6, l7, l8] (rl r []) h) := e_callV (av' := [I s0]) (rest := []) (c := 7) c116_168 rfl rfl rfl rfl rfl rfl rfl hk rfl
theorem c116_171 : cd 116 171 = some (171, .iload 4, 2, 0, 0, 0) := rfl
theorem s116_171 {l0 l1 l2 l3 l5 l6 l7 l8 s0 : AV} {l4 : Int} {h : AH} : evL 116 171 [l0, l1, l2, l3, I l4, l5, l6, l7, l8] [s0] h = evL 116 173 [l0, l1, l2, l3, I l4, l5, l6, l7, l8] [I l4, s0] h := ev_go c116_171 rfl
theorem c116_173 : cd 116 173 = some (173, .if_icmp .ne 79, 3, 0, 0, 0) := rfl
theorem s116_173 {l0 l1 l2 l3 l4 l5 l6 l7 l8 : AV} {s0 s1 : Int} {h : AH} : evL 116 173 [l0, l1, l2, l3, l4, l5, l6, l7, l8] [I s0, I s1] h = if s1 = s0 then evL 116 176 [l0, l1, l2, l3, l4, l5, l6, l7, l8] [] h else evL 116 252 [l0, l1, l2, l3, l4, l5, l6, l7, l8] [] h := e_icmp_ne c116_173 rfl rfl
theorem c116_176 : cd 116 176 = some (176, .aload_n 0, 1, 0, 0, 0) := rfl
theorem s116_176 {l1 l2 l3 l4 l5 l6 l7 l8 : AV} {l0 : Option Nat} {h : AH} : evL 116 176 [.inr (.inl l0), l1, l2, l3, l4, l5, l6, l7, l8] [] h = evL 116 177 [.inr (.inl l0), l1, l2, l3, l4, l5, l6, l7, l8] [.inr (.inl l0)] h := ev_go c116_176 rfl
theorem c116_177 : cd 116 177 = some (177, .bipush 8, 2, 0, 0, 0) := rfl
theorem s116_177 {l0 l1 l2 l3 l4 l5 l6 l7 l8 s0 : AV} {h : AH} : evL 116 177 [l0, l1, l2, l3, l4, l5, l6, l7, l8] [s0] h = evL 116 179 [l0, l1, l2, l3, l4, l5, l6, l7, l8] [I 8, s0] h := ev_go c116_177 rfl
theorem c116_179 : cd 116 179 = some (179, .invokevirtual 13, 3, 100, 0, 258) := rfl
theorem s116_179 {l0 l1 l2 l3 l4 l5 l6 l7 l8 : AV} {s0 : Int} {s1 : Nat} {M : Mem} {P : PMem} (hk : kd s1 = 7) : evL 116 179 [l0, l1, l2, l3, l4, l5, l6, l7, l8] [I s0, Rf s1] (Hp M P) = cont (evM 100 [Rf s1, I s0] (Hp M P)) (fun r h => evL 116 182 [l0, l1, l2, l3, l4, l5, l6, l7, l8] (rl r []) h) := e_callV (av' := [I s0]) (rest := []) (c := 7) c116_179 rfl rfl rfl rfl rfl rfl rfl hk rfl
theorem c116_182 : cd 116 182 = some (182, .aload_n 0, 1, 0, 0, 0) := rfl
theorem s116_182 {l1 l2 l3 l4 l5 l6 l7 l8 s0 : AV} {l0 : Option Nat} {h : AH} : evL 116 182 [.inr (.inl l0), l1, l2, l3, l4, l5, l6, l7, l8] [s0] h = evL 116 183 [.inr (.inl l0), l1, l2, l3, l4, l5, l6, l7, l8] [.inr (.inl l0), s0] h := ev_go c116_182 rfl
theorem c116_183 : cd 116 183 = some (183, .bipush 9, 2, 0, 0, 0) := rfl
theorem s116_183 {l0 l1 l2 l3 l4 l5 l6 l7 l8 s0 s1 : AV} {h : AH} : evL 116 183 [l0, l1, l2, l3, l4, l5, l6, l7, l8] [s0, s1] h = evL 116 185 [l0, l1, l2, l3, l4, l5, l6, l7, l8] [I 9, s0, s1] h := ev_go c116_183 rfl
theorem c116_185 : cd 116 185 = some (185, .invokevirtual 13, 3, 100, 0, 258) := rfl
theorem s116_185 {l0 l1 l2 l3 l4 l5 l6 l7 l8 s2 : AV} {s0 : Int} {s1 : Nat} {M : Mem} {P : PMem} (hk : kd s1 = 7) : evL 116 185 [l0, l1, l2, l3, l4, l5, l6, l7, l8] [I s0, Rf s1, s2] (Hp M P) = cont (evM 100 [Rf s1, I s0] (Hp M P)) (fun r h => evL 116 188 [l0, l1, l2, l3, l4, l5, l6, l7, l8] (rl r [s2]) h) := e_callV (av' := [I s0]) (rest := [s2]) (c := 7) c116_185 rfl rfl rfl rfl rfl rfl rfl hk rfl
theorem c116_188 : cd 116 188 = some (188, .iadd, 1, 0, 0, 0) := rfl
theorem s116_188 {l0 l1 l2 l3 l4 l5 l6 l7 l8 : AV} {s0 s1 : Int} {h : AH} : evL 116 188 [l0, l1, l2, l3, l4, l5, l6, l7, l8] [I s0, I s1] h = evL 116 189 [l0, l1, l2, l3, l4, l5, l6, l7, l8] [I (ad s1 s0)] h := ev_go c116_188 rfl
theorem c116_189 : cd 116 189 = some (189, .aload_n 0, 1, 0, 0, 0) := rfl
theorem s116_189 {l1 l2 l3 l4 l5 l6 l7 l8 s0 : AV} {l0 : Option Nat} {h : AH} : evL 116 189 [.inr (.inl l0), l1, l2, l3, l4, l5, l6, l7, l8] [s0] h = evL 116 190 [.inr (.inl l0), l1, l2, l3, l4, l5, l6, l7, l8] [.inr (.inl l0), s0] h := ev_go c116_189 rfl
theorem c116_190 : cd 116 190 = some (190, .iconst 2, 1, 0, 0, 0) := rfl
theorem s116_190 {l0 l1 l2 l3 l4 l5 l6 l7 l8 s0 s1 : AV} {h : AH} : evL 116 190 [l0, l1, l2, l3, l4, l5, l6, l7, l8] [s0, s1] h = evL 116 191 [l0, l1, l2, l3, l4, l5, l6, l7, l8] [I 2, s0, s1] h := ev_go c116_190 rfl
theorem c116_191 : cd 116 191 = some (191, .invokevirtual 13, 3, 100, 0, 258) := rfl
theorem s116_191 {l0 l1 l2 l3 l4 l5 l6 l7 l8 s2 : AV} {s0 : Int} {s1 : Nat} {M : Mem} {P : PMem} (hk : kd s1 = 7) : evL 116 191 [l0, l1, l2, l3, l4, l5, l6, l7, l8] [I s0, Rf s1, s2] (Hp M P) = cont (evM 100 [Rf s1, I s0] (Hp M P)) (fun r h => evL 116 194 [l0, l1, l2, l3, l4, l5, l6, l7, l8] (rl r [s2]) h) := e_callV (av' := [I s0]) (rest := [s2]) (c := 7) c116_191 rfl rfl rfl rfl rfl rfl rfl hk rfl
theorem c116_194 : cd 116 194 = some (194, .iadd, 1, 0, 0, 0) := rfl
theorem s116_194 {l0 l1 l2 l3 l4 l5 l6 l7 l8 : AV} {s0 s1 : Int} {h : AH} : evL 116 194 [l0, l1, l2, l3, l4, l5, l6, l7, l8] [I s0, I s1] h = evL 116 195 [l0, l1, l2, l3, l4, l5, l6, l7, l8] [I (ad s1 s0)] h := ev_go c116_194 rfl
theorem c116_195 : cd 116 195 = some (195, .aload_n 0, 1, 0, 0, 0) := rfl
theorem s116_195 {l1 l2 l3 l4 l5 l6 l7 l8 s0 : AV} {l0 : Option Nat} {h : AH} : evL 116 195 [.inr (.inl l0), l1, l2, l3, l4, l5, l6, l7, l8] [s0] h = evL 116 196 [.inr (.inl l0), l1, l2, l3, l4, l5, l6, l7, l8] [.inr (.inl l0), s0] h := ev_go c116_195 rfl
theorem c116_196 : cd 116 196 = some (196, .iconst 3, 1, 0, 0, 0) := rfl
theorem s116_196 {l0 l1 l2 l3 l4 l5 l6 l7 l8 s0 s1 : AV} {h : AH} : evL 116 196 [l0, l1, l2, l3, l4, l5, l6, l7, l8] [s0, s1] h = evL 116 197 [l0, l1, l2, l3, l4, l5, l6, l7, l8] [I 3, s0, s1] h := ev_go c116_196 rfl
theorem c116_197 : cd 116 197 = some (197, .invokevirtual 13, 3, 100, 0, 258) := rfl
theorem s116_197 {l0 l1 l2 l3 l4 l5 l6 l7 l8 s2 : AV} {s0 : Int} {s1 : Nat} {M : Mem} {P : PMem} (hk : kd s1 = 7) : evL 116 197 [l0, l1, l2, l3, l4, l5, l6, l7, l8] [I s0, Rf s1, s2] (Hp M P) = cont (evM 100 [Rf s1, I s0] (Hp M P)) (fun r h => evL 116 200 [l0, l1, l2, l3, l4, l5, l6, l7, l8] (rl r [s2]) h) := e_callV (av' := [I s0]) (rest := [s2]) (c := 7) c116_197 rfl rfl rfl rfl rfl rfl rfl hk rfl
theorem c116_200 : cd 116 200 = some (200, .iadd, 1, 0, 0, 0) := rfl
theorem s116_200 {l0 l1 l2 l3 l4 l5 l6 l7 l8 : AV} {s0 s1 : Int} {h : AH} : evL 116 200 [l0, l1, l2, l3, l4, l5, l6, l7, l8] [I s0, I s1] h = evL 116 201 [l0, l1, l2, l3, l4, l5, l6, l7, l8] [I (ad s1 s0)] h := ev_go c116_200 rfl
theorem c116_201 : cd 116 201 = some (201, .aload_n 0, 1, 0, 0, 0) := rfl
theorem s116_201 {l1 l2 l3 l4 l5 l6 l7 l8 s0 : AV} {l0 : Option Nat} {h : AH} : evL 116 201 [.inr (.inl l0), l1, l2, l3, l4, l5, l6, l7, l8] [s0] h = evL 116 202 [.inr (.inl l0), l1, l2, l3, l4, l5, l6, l7, l8] [.inr (.inl l0), s0] h := ev_go c116_201 rfl
theorem c116_202 : cd 116 202 = some (202, .iconst 4, 1, 0, 0, 0) := rfl
theorem s116_202 {l0 l1 l2 l3 l4 l5 l6 l7 l8 s0 s1 : AV} {h : AH} : evL 116 202 [l0, l1, l2, l3, l4, l5, l6, l7, l8] [s0, s1] h = evL 116 203 [l0, l1, l2, l3, l4, l5, l6, l7, l8] [I 4, s0, s1] h := ev_go c116_202 rfl
theorem c116_203 : cd 116 203 = some (203, .invokevirtual 13, 3, 100, 0, 258) := rfl
theorem s116_203 {l0 l1 l2 l3 l4 l5 l6 l7 l8 s2 : AV} {s0 : Int} {s1 : Nat} {M : Mem} {P : PMem} (hk : kd s1 = 7) : evL 116 203 [l0, l1, l2, l3, l4, l5, l6, l7, l8] [I s0, Rf s1, s2] (Hp M P) = cont (evM 100 [Rf s1, I s0] (Hp M P)) (fun r h => evL 116 206 [l0, l1, l2, l3, l4, l5, l6, l7, l8] (rl r [s2]) h) := e_callV (av' := [I s0]) (rest := [s2]) (c := 7) c116_203 rfl rfl rfl rfl rfl rfl rfl hk rfl
theorem c116_206 : cd 116 206 = some (206, .iadd, 1, 0, 0, 0) := rfl
theorem s116_206 {l0 l1 l2 l3 l4 l5 l6 l7 l8 : AV} {s0 s1 : Int} {h : AH} : evL 116 206 [l0, l1, l2, l3, l4, l5, l6, l7, l8] [I s0, I s1] h = evL 116 207 [l0, l1, l2, l3, l4, l5, l6, l7, l8] [I (ad s1 s0)] h := ev_go c116_206 rfl
theorem c116_207 : cd 116 207 = some (207, .aload_n 0, 1, 0, 0, 0) := rfl
theorem s116_207 {l1 l2 l3 l4 l5 l6 l7 l8 s0 : AV} {l0 : Option Nat} {h : AH} : evL 116 207 [.inr (.inl l0), l1, l2, l3, l4, l5, l6, l7, l8] [s0] h = evL 116 208 [.inr (.inl l0), l1, l2, l3, l4, l5, l6, l7, l8] [.inr (.inl l0), s0] h := ev_go c116_207 rfl
theorem c116_208 : cd 116 208 = some (208, .bipush 11, 2, 0, 0, 0) := rfl
theorem s116_208 {l0 l1 l2 l3 l4 l5 l6 l7 l8 s0 s1 : AV} {h : AH} : evL 116 208 [l0, l1, l2, l3, l4, l5, l6, l7, l8] [s0, s1] h = evL 116 210 [l0, l1, l2, l3, l4, l5, l6, l7, l8] [I 11, s0, s1] h := ev_go c116_208 rfl
theorem c116_210 : cd 116 210 = some (210, .invokevirtual 13, 3, 100, 0, 258) := rfl
theorem s116_210 {l0 l1 l2 l3 l4 l5 l6 l7 l8 s2 : AV} {s0 : Int} {s1 : Nat} {M : Mem} {P : PMem} (hk : kd s1 = 7) : evL 116 210 [l0, l1, l2, l3, l4, l5, l6, l7, l8] [I s0, Rf s1, s2] (Hp M P) = cont (evM 100 [Rf s1, I s0] (Hp M P)) (fun r h => evL 116 213 [l0, l1, l2, l3, l4, l5, l6, l7, l8] (rl r [s2]) h) := e_callV (av' := [I s0]) (rest := [s2]) (c := 7) c116_210 rfl rfl rfl rfl rfl rfl rfl hk rfl
theorem c116_213 : cd 116 213 = some (213, .iadd, 1, 0, 0, 0) := rfl
theorem s116_213 {l0 l1 l2 l3 l4 l5 l6 l7 l8 : AV} {s0 s1 : Int} {h : AH} : evL 116 213 [l0, l1, l2, l3, l4, l5, l6, l7, l8] [I s0, I s1] h = evL 116 214 [l0, l1, l2, l3, l4, l5, l6, l7, l8] [I (ad s1 s0)] h := ev_go c116_213 rfl
theorem c116_214 : cd 116 214 = some (214, .ifCond .ne 38, 3, 0, 0, 0) := rfl
theorem s116_214 {l0 l1 l2 l3 l4 l5 l6 l7 l8 : AV} {s0 : Int} {h : AH} : evL 116 214 [l0, l1, l2, l3, l4, l5, l6, l7, l8] [I s0] h = if s0 = 0 then evL 116 217 [l0, l1, l2, l3, l4, l5, l6, l7, l8] [] h else evL 116 252 [l0, l1, l2, l3, l4, l5, l6, l7, l8] [] h := e_if_ne c116_214 rfl rfl
theorem c116_217 : cd 116 217 = some (217, .aload_n 0, 1, 0, 0, 0) := rfl
theorem s116_217 {l1 l2 l3 l4 l5 l6 l7 l8 : AV} {l0 : Option Nat} {h : AH} : evL 116 217 [.inr (.inl l0), l1, l2, l3, l4, l5, l6, l7, l8] [] h = evL 116 218 [.inr (.inl l0), l1, l2, l3, l4, l5, l6, l7, l8] [.inr (.inl l0)] h := ev_go c116_217 rfl
theorem c116_218 : cd 116 218 = some (218, .iconst 1, 1, 0, 0, 0) := rfl
theorem s116_218 {l0 l1 l2 l3 l4 l5 l6 l7 l8 s0 : AV} {h : AH} : evL 116 218 [l0, l1, l2, l3, l4, l5, l6, l7, l8] [s0] h = evL 116 219 [l0, l1, l2, l3, l4, l5, l6, l7, l8] [I 1, s0] h := ev_go c116_218 rfl
theorem c116_219 : cd 116 219 = some (219, .invokevirtual 13, 3, 100, 0, 258) := rfl
theorem s116_219 {l0 l1 l2 l3 l4 l5 l6 l7 l8 : AV} {s0 : Int} {s1 : Nat} {M : Mem} {P : PMem} (hk : kd s1 = 7) : evL 116 219 [l0, l1, l2, l3, l4, l5, l6, l7, l8] [I s0, Rf s1] (Hp M P) = cont (evM 100 [Rf s1, I s0] (Hp M P)) (fun r h => evL 116 222 [l0, l1, l2, l3, l4, l5, l6, l7, l8] (rl r []) h) := e_callV (av' := [I s0]) (rest := []) (c := 7) c116_219 rfl rfl rfl rfl rfl rfl rfl hk rfl
theorem c116_222 : cd 116 222 = some (222, .bipush 16, 2, 0, 0, 0) := rfl
theorem s116_222 {l0 l1 l2 l3 l4 l5 l6 l7 l8 s0 : AV} {h : AH} : evL 116 222 [l0, l1, l2, l3, l4, l5, l6, l7, l8] [s0] h = evL 116 224 [l0, l1, l2, l3, l4, l5, l6, l7, l8] [I 16, s0] h := ev_go c116_222 rfl
theorem c116_224 : cd 116 224 = some (224, .if_icmp .ne 28, 3, 0, 0, 0) := rfl
theorem s116_224 {l0 l1 l2 l3 l4 l5 l6 l7 l8 : AV} {s0 s1 : Int} {h : AH} : evL 116 224 [l0, l1, l2, l3, l4, l5, l6, l7, l8] [I s0, I s1] h = if s1 = s0 then evL 116 227 [l0, l1, l2, l3, l4, l5, l6, l7, l8] [] h else evL 116 252 [l0, l1, l2, l3, l4, l5, l6, l7, l8] [] h := e_icmp_ne c116_224 rfl rfl
theorem c116_227 : cd 116 227 = some (227, .aload_n 0, 1, 0, 0, 0) := rfl
theorem s116_227 {l1 l2 l3 l4 l5 l6 l7 l8 : AV} {l0 : Option Nat} {h : AH} : evL 116 227 [.inr (.inl l0), l1, l2, l3, l4, l5, l6, l7, l8] [] h = evL 116 228 [.inr (.inl l0), l1, l2, l3, l4, l5, l6, l7, l8] [.inr (.inl l0)] h := ev_go c116_227 rfl
theorem c116_228 : cd 116 228 = some (228, .iconst 5, 1, 0, 0, 0) := rfl
theorem s116_228 {l0 l1 l2 l3 l4 l5 l6 l7 l8 s0 : AV} {h : AH} : evL 116 228 [l0, l1, l2, l3, l4, l5, l6, l7, l8] [s0] h = evL 116 229 [l0, l1, l2, l3, l4, l5, l6, l7, l8] [I 5, s0] h := ev_go c116_228 rfl
theorem c116_229 : cd 116 229 = some (229, .invokevirtual 13, 3, 100, 0, 258) := rfl
theorem s116_229 {l0 l1 l2 l3 l4 l5 l6 l7 l8 : AV} {s0 : Int} {s1 : Nat} {M : Mem} {P : PMem} (hk : kd s1 = 7) : evL 116 229 [l0, l1, l2, l3, l4, l5, l6, l7, l8] [I s0, Rf s1] (Hp M P) = cont (evM 100 [Rf s1, I s0] (Hp M P)) (fun r h => evL 116 232 [l0, l1, l2, l3, l4, l5, l6, l7, l8] (rl r []) h) := e_callV (av' := [I s0]) (rest := []) (c := 7) c116_229 rfl rfl rfl rfl rfl rfl rfl hk rfl
theorem c116_232 : cd 116 232 = some (232, .bipush 25, 2, 0, 0, 0) := rfl
theorem s116_232 {l0 l1 l2 l3 l4 l5 l6 l7 l8 s0 : AV} {h : AH} : evL 116 232 [l0, l1, l2, l3, l4, l5, l6, l7, l8] [s0] h = evL 116 234 [l0, l1, l2, l3, l4, l5, l6, l7, l8] [I 25, s0] h := ev_go c116_232 rfl
theorem c116_234 : cd 116 234 = some (234, .if_icmp .ne 18, 3, 0, 0, 0) := rfl
theorem s116_234 {l0 l1 l2 l3 l4 l5 l6 l7 l8 : AV} {s0 s1 : Int} {h : AH} : evL 116 234 [l0, l1, l2, l3, l4, l5, l6, l7, l8] [I s0, I s1] h = if s1 = s0 then evL 116 237 [l0, l1, l2, l3, l4, l5, l6, l7, l8] [] h else evL 116 252 [l0, l1, l2, l3, l4, l5, l6, l7, l8] [] h := e_icmp_ne c116_234 rfl rfl
theorem c116_237 : cd 116 237 = some (237, .aload_n 0, 1, 0, 0, 0) := rfl
theorem s116_237 {l1 l2 l3 l4 l5 l6 l7 l8 : AV} {l0 : Option Nat} {h : AH} : evL 116 237 [.inr (.inl l0), l1, l2, l3, l4, l5, l6, l7, l8] [] h = evL 116 238 [.inr (.inl l0), l1, l2, l3, l4, l5, l6, l7, l8] [.inr (.inl l0)] h := ev_go c116_237 rfl
theorem c116_238 : cd 116 238 = some (238, .bipush 12, 2, 0, 0, 0) := rfl
theorem s116_238 {l0 l1 l2 l3 l4 l5 l6 l7 l8 s0 : AV} {h : AH} : evL 116 238 [l0, l1, l2, l3, l4, l5, l6, l7, l8] [s0] h = evL 116 240 [l0, l1, l2, l3, l4, l5, l6, l7, l8] [I 12, s0] h := ev_go c116_238 rfl
theorem c116_240 : cd 116 240 = some (240, .invokevirtual 13, 3, 100, 0, 258) := rfl
theorem s116_240 {l0 l1 l2 l3 l4 l5 l6 l7 l8 : AV} {s0 : Int} {s1 : Nat} {M : Mem} {P : PMem} (hk : kd s1 = 7) : evL 116 240 [l0, l1, l2, l3, l4, l5, l6, l7, l8] [I s0, Rf s1] (Hp M P) = cont (evM 100 [Rf s1, I s0] (Hp M P)) (fun r h => evL 116 243 [l0, l1, l2, l3, l4, l5, l6, l7, l8] (rl r []) h) := e_callV (av' := [I s0]) (rest := []) (c := 7) c116_240 rfl rfl rfl rfl rfl rfl rfl hk rfl
theorem c116_243 : cd 116 243 = some (243, .iload 7, 2, 0, 0, 0) := rfl
theorem s116_243 {l0 l1 l2 l3 l4 l5 l6 l8 s0 : AV} {l7 : Int} {h : AH} : evL 116 243 [l0, l1, l2, l3, l4, l5, l6, I l7, l8] [s0] h = evL 116 245 [l0, l1, l2, l3, l4, l5, l6, I l7, l8] [I l7, s0] h := ev_go c116_243 rfl
theorem c116_245 : cd 116 245 = some (245, .if_icmp .ne 7, 3, 0, 0, 0) := rfl
theorem s116_245 {l0 l1 l2 l3 l4 l5 l6 l7 l8 : AV} {s0 s1 : Int} {h : AH} : evL 116 245 [l0, l1, l2, l3, l4, l5, l6, l7, l8] [I s0, I s1] h = if s1 = s0 then evL 116 248 [l0, l1, l2, l3, l4, l5, l6, l7, l8] [] h else evL 116 252 [l0, l1, l2, l3, l4, l5, l6, l7, l8] [] h := e_icmp_ne c116_245 rfl rfl
theorem c116_248 : cd 116 248 = some (248, .iconst 1, 1, 0, 0, 0) := rfl
theorem s116_248 {l0 l1 l2 l3 l4 l5 l6 l7 l8 : AV} {h : AH} : evL 116 248 [l0, l1, l2, l3, l4, l5, l6, l7, l8] [] h = evL 116 249 [l0, l1, l2, l3, l4, l5, l6, l7, l8] [I 1] h := ev_go c116_248 rfl
theorem c116_249 : cd 116 249 = some (249, .goto 4, 3, 0, 0, 0) := rfl
theorem s116_249 {l0 l1 l2 l3 l4 l5 l6 l7 l8 s0 : AV} {h : AH} : evL 116 249 [l0, l1, l2, l3, l4, l5, l6, l7, l8] [s0] h = evL 116 253 [l0, l1, l2, l3, l4, l5, l6, l7, l8] [s0] h := ev_go c116_249 rfl
theorem c116_252 : cd 116 252 = some (252, .iconst 0, 1, 0, 0, 0) := rfl
theorem s116_252 {l0 l1 l2 l3 l4 l5 l6 l7 l8 : AV} {h : AH} : evL 116 252 [l0, l1, l2, l3, l4, l5, l6, l7, l8] [] h = evL 116 253 [l0, l1, l2, l3, l4, l5, l6, l7, l8] [I 0] h := ev_go c116_252 rfl
theorem c116_253 : cd 116 253 = some (253, .ireturn, 1, 0, 0, 0) := rfl
theorem s116_253 {l0 l1 l2 l3 l4 l5 l6 l7 l8 : AV} {s0 : Int} {h : AH} (hz : s0 = 0 ∨ s0 = 1) : evL 116 253 [l0, l1, l2, l3, l4, l5, l6, l7, l8] [I s0] h = some (some (I s0), h) := e_ret c116_253 (if_pos hz)
