/-! ===== the equations of each step of each method (made by wip/p25/gen13.py) ===== -/
section Br
variable {k pc t a b p : Nat} {ls st : List AV} {h : AH} {x y : Int} {off : Int}
theorem e_if_eq (hc : cd k pc = some (pc, .ifCond .eq off, 3, a, b, p)) (hb : tgB pc off = true) (ht : tgN pc off = t) : evL k pc ls (I x :: st) h = if x = 0 then evL k t ls st h else evL k (pc + 3) ls st h := by
  subst ht
  have e : evL k pc ls (I x :: st) h = evL k (if cmpB .eq x 0 = true then tgN pc off else pc + 3) ls st h := ev_go hc (if_pos hb)
  rw [e]
  by_cases q : x = 0
  · rw [if_pos q, if_pos (by simp [cmpB, q])]
  · rw [if_neg q, if_neg (by simp [cmpB]; omega)]
theorem e_if_ne (hc : cd k pc = some (pc, .ifCond .ne off, 3, a, b, p)) (hb : tgB pc off = true) (ht : tgN pc off = t) : evL k pc ls (I x :: st) h = if x = 0 then evL k (pc + 3) ls st h else evL k t ls st h := by
  subst ht
  have e : evL k pc ls (I x :: st) h = evL k (if cmpB .ne x 0 = true then tgN pc off else pc + 3) ls st h := ev_go hc (if_pos hb)
  rw [e]
  by_cases q : x = 0
  · rw [if_pos q, if_neg (by simp [cmpB, q])]
  · rw [if_neg q, if_pos (by simp [cmpB]; omega)]
theorem e_if_lt (hc : cd k pc = some (pc, .ifCond .lt off, 3, a, b, p)) (hb : tgB pc off = true) (ht : tgN pc off = t) : evL k pc ls (I x :: st) h = if x < 0 then evL k t ls st h else evL k (pc + 3) ls st h := by
  subst ht
  have e : evL k pc ls (I x :: st) h = evL k (if cmpB .lt x 0 = true then tgN pc off else pc + 3) ls st h := ev_go hc (if_pos hb)
  rw [e]
  by_cases q : x < 0
  · rw [if_pos q, if_pos (by simp [cmpB, q])]
  · rw [if_neg q, if_neg (by simp [cmpB]; omega)]
theorem e_if_ge (hc : cd k pc = some (pc, .ifCond .ge off, 3, a, b, p)) (hb : tgB pc off = true) (ht : tgN pc off = t) : evL k pc ls (I x :: st) h = if 0 ≤ x then evL k t ls st h else evL k (pc + 3) ls st h := by
  subst ht
  have e : evL k pc ls (I x :: st) h = evL k (if cmpB .ge x 0 = true then tgN pc off else pc + 3) ls st h := ev_go hc (if_pos hb)
  rw [e]
  by_cases q : 0 ≤ x
  · rw [if_pos q, if_pos (by simp [cmpB, q])]
  · rw [if_neg q, if_neg (by simp [cmpB]; omega)]
theorem e_if_gt (hc : cd k pc = some (pc, .ifCond .gt off, 3, a, b, p)) (hb : tgB pc off = true) (ht : tgN pc off = t) : evL k pc ls (I x :: st) h = if 0 < x then evL k t ls st h else evL k (pc + 3) ls st h := by
  subst ht
  have e : evL k pc ls (I x :: st) h = evL k (if cmpB .gt x 0 = true then tgN pc off else pc + 3) ls st h := ev_go hc (if_pos hb)
  rw [e]
  by_cases q : 0 < x
  · rw [if_pos q, if_pos (by simp [cmpB, q])]
  · rw [if_neg q, if_neg (by simp [cmpB]; omega)]
theorem e_if_le (hc : cd k pc = some (pc, .ifCond .le off, 3, a, b, p)) (hb : tgB pc off = true) (ht : tgN pc off = t) : evL k pc ls (I x :: st) h = if x ≤ 0 then evL k t ls st h else evL k (pc + 3) ls st h := by
  subst ht
  have e : evL k pc ls (I x :: st) h = evL k (if cmpB .le x 0 = true then tgN pc off else pc + 3) ls st h := ev_go hc (if_pos hb)
  rw [e]
  by_cases q : x ≤ 0
  · rw [if_pos q, if_pos (by simp [cmpB, q])]
  · rw [if_neg q, if_neg (by simp [cmpB]; omega)]
theorem e_icmp_eq (hc : cd k pc = some (pc, .if_icmp .eq off, 3, a, b, p)) (hb : tgB pc off = true) (ht : tgN pc off = t) : evL k pc ls (I y :: I x :: st) h = if x = y then evL k t ls st h else evL k (pc + 3) ls st h := by
  subst ht
  have e : evL k pc ls (I y :: I x :: st) h = evL k (if cmpB .eq x y = true then tgN pc off else pc + 3) ls st h := ev_go hc (if_pos hb)
  rw [e]
  by_cases q : x = y
  · rw [if_pos q, if_pos (by simp [cmpB, q])]
  · rw [if_neg q, if_neg (by simp [cmpB]; omega)]
theorem e_icmp_ne (hc : cd k pc = some (pc, .if_icmp .ne off, 3, a, b, p)) (hb : tgB pc off = true) (ht : tgN pc off = t) : evL k pc ls (I y :: I x :: st) h = if x = y then evL k (pc + 3) ls st h else evL k t ls st h := by
  subst ht
  have e : evL k pc ls (I y :: I x :: st) h = evL k (if cmpB .ne x y = true then tgN pc off else pc + 3) ls st h := ev_go hc (if_pos hb)
  rw [e]
  by_cases q : x = y
  · rw [if_pos q, if_neg (by simp [cmpB, q])]
  · rw [if_neg q, if_pos (by simp [cmpB]; omega)]
theorem e_icmp_lt (hc : cd k pc = some (pc, .if_icmp .lt off, 3, a, b, p)) (hb : tgB pc off = true) (ht : tgN pc off = t) : evL k pc ls (I y :: I x :: st) h = if x < y then evL k t ls st h else evL k (pc + 3) ls st h := by
  subst ht
  have e : evL k pc ls (I y :: I x :: st) h = evL k (if cmpB .lt x y = true then tgN pc off else pc + 3) ls st h := ev_go hc (if_pos hb)
  rw [e]
  by_cases q : x < y
  · rw [if_pos q, if_pos (by simp [cmpB, q])]
  · rw [if_neg q, if_neg (by simp [cmpB]; omega)]
theorem e_icmp_ge (hc : cd k pc = some (pc, .if_icmp .ge off, 3, a, b, p)) (hb : tgB pc off = true) (ht : tgN pc off = t) : evL k pc ls (I y :: I x :: st) h = if y ≤ x then evL k t ls st h else evL k (pc + 3) ls st h := by
  subst ht
  have e : evL k pc ls (I y :: I x :: st) h = evL k (if cmpB .ge x y = true then tgN pc off else pc + 3) ls st h := ev_go hc (if_pos hb)
  rw [e]
  by_cases q : y ≤ x
  · rw [if_pos q, if_pos (by simp [cmpB, q])]
  · rw [if_neg q, if_neg (by simp [cmpB]; omega)]
theorem e_icmp_gt (hc : cd k pc = some (pc, .if_icmp .gt off, 3, a, b, p)) (hb : tgB pc off = true) (ht : tgN pc off = t) : evL k pc ls (I y :: I x :: st) h = if y < x then evL k t ls st h else evL k (pc + 3) ls st h := by
  subst ht
  have e : evL k pc ls (I y :: I x :: st) h = evL k (if cmpB .gt x y = true then tgN pc off else pc + 3) ls st h := ev_go hc (if_pos hb)
  rw [e]
  by_cases q : y < x
  · rw [if_pos q, if_pos (by simp [cmpB, q])]
  · rw [if_neg q, if_neg (by simp [cmpB]; omega)]
theorem e_icmp_le (hc : cd k pc = some (pc, .if_icmp .le off, 3, a, b, p)) (hb : tgB pc off = true) (ht : tgN pc off = t) : evL k pc ls (I y :: I x :: st) h = if x ≤ y then evL k t ls st h else evL k (pc + 3) ls st h := by
  subst ht
  have e : evL k pc ls (I y :: I x :: st) h = evL k (if cmpB .le x y = true then tgN pc off else pc + 3) ls st h := ev_go hc (if_pos hb)
  rw [e]
  by_cases q : x ≤ y
  · rw [if_pos q, if_pos (by simp [cmpB, q])]
  · rw [if_neg q, if_neg (by simp [cmpB]; omega)]
end Br

/-! 47: TankDivers$History.size()I -/
theorem en47 {l0 : AV} {h : AH} : evM 47 [l0] h = evL 47 0 [l0] [] h := rfl
theorem c47_0 : cd 47 0 = some (0, .aload_n 0, 1, 0, 0, 0) := rfl
theorem s47_0 {l0 : Option Nat} {h : AH} : evL 47 0 [.inr (.inl l0)] [] h = evL 47 1 [.inr (.inl l0)] [.inr (.inl l0)] h := ev_go c47_0 rfl
theorem c47_1 : cd 47 1 = some (1, .getfield 18, 3, 2, 1, 163) := rfl
theorem s47_1 {l0 : AV} {s0 : Nat} {M : Mem} {P : PMem} (hk : kd s0 = 2) : evL 47 1 [l0] [Rf s0] (Hp M P) = evL 47 4 [l0] [I (M s0 1)] (Hp M P) := e_getI c47_1 rfl hk
theorem c47_4 : cd 47 4 = some (4, .ireturn, 1, 0, 0, 0) := rfl
theorem s47_4 {l0 : AV} {s0 : Int} {h : AH} : evL 47 4 [l0] [I s0] h = some (some (I s0), h) := e_ret c47_4 rfl
/-! 48: TankDivers$History.record(LTankDivers$Game;)V -/
theorem en48 {l0 l1 : AV} {h : AH} : evM 48 [l0, l1] h = evL 48 0 [l0, l1, Db 0] [] h := rfl
theorem c48_0 : cd 48 0 = some (0, .aload_n 0, 1, 0, 0, 0) := rfl
theorem s48_0 {l1 l2 : AV} {l0 : Option Nat} {h : AH} : evL 48 0 [.inr (.inl l0), l1, l2] [] h = evL 48 1 [.inr (.inl l0), l1, l2] [.inr (.inl l0)] h := ev_go c48_0 rfl
theorem c48_1 : cd 48 1 = some (1, .getfield 18, 3, 2, 1, 163) := rfl
theorem s48_1 {l0 l1 l2 : AV} {s0 : Nat} {M : Mem} {P : PMem} (hk : kd s0 = 2) : evL 48 1 [l0, l1, l2] [Rf s0] (Hp M P) = evL 48 4 [l0, l1, l2] [I (M s0 1)] (Hp M P) := e_getI c48_1 rfl hk
theorem c48_4 : cd 48 4 = some (4, .aload_n 0, 1, 0, 0, 0) := rfl
theorem s48_4 {l1 l2 s0 : AV} {l0 : Option Nat} {h : AH} : evL 48 4 [.inr (.inl l0), l1, l2] [s0] h = evL 48 5 [.inr (.inl l0), l1, l2] [.inr (.inl l0), s0] h := ev_go c48_4 rfl
theorem c48_5 : cd 48 5 = some (5, .getfield 11, 3, 2, 0, 162) := rfl
theorem s48_5 {l0 l1 l2 s1 : AV} {s0 : Nat} {M : Mem} {P : PMem} (hk : kd s0 = 2) : evL 48 5 [l0, l1, l2] [Rf s0, s1] (Hp M P) = evL 48 8 [l0, l1, l2] [Rf (rfd s0 0), s1] (Hp M P) := e_getR c48_5 rfl hk
theorem c48_8 : cd 48 8 = some (8, .arraylength, 1, 0, 0, 0) := rfl
theorem s48_8 {l0 l1 l2 s1 : AV} {s0 : Nat} {M : Mem} {P : PMem} (hk : kd s0 = 100 ∨ kd s0 = 101) (hl : ln s0 ≤ 1000000) : evL 48 8 [l0, l1, l2] [Rf s0, s1] (Hp M P) = evL 48 9 [l0, l1, l2] [I (ln s0 : Int), s1] (Hp M P) := e_alen c48_8 hk hl
theorem c48_9 : cd 48 9 = some (9, .if_icmp .lt 7, 3, 0, 0, 0) := rfl
theorem s48_9 {l0 l1 l2 : AV} {s0 s1 : Int} {h : AH} : evL 48 9 [l0, l1, l2] [I s0, I s1] h = if s1 < s0 then evL 48 16 [l0, l1, l2] [] h else evL 48 12 [l0, l1, l2] [] h := e_icmp_lt c48_9 rfl rfl
theorem c48_12 : cd 48 12 = some (12, .aload_n 0, 1, 0, 0, 0) := rfl
theorem s48_12 {l1 l2 : AV} {l0 : Option Nat} {h : AH} : evL 48 12 [.inr (.inl l0), l1, l2] [] h = evL 48 13 [.inr (.inl l0), l1, l2] [.inr (.inl l0)] h := ev_go c48_12 rfl
theorem c48_13 : cd 48 13 = some (13, .invokevirtual 22, 3, 49, 0, 375) := rfl
theorem s48_13 {l0 l1 l2 : AV} {s0 : Nat} {M : Mem} {P : PMem} (hk : kd s0 = 2) : evL 48 13 [l0, l1, l2] [Rf s0] (Hp M P) = cont (evM 49 [Rf s0] (Hp M P)) (fun r h => evL 48 16 [l0, l1, l2] (rl r []) h) := e_callV (av' := []) (rest := []) (c := 2) c48_13 rfl rfl rfl rfl rfl rfl rfl hk rfl
theorem c48_16 : cd 48 16 = some (16, .aload_n 0, 1, 0, 0, 0) := rfl
theorem s48_16 {l1 l2 : AV} {l0 : Option Nat} {h : AH} : evL 48 16 [.inr (.inl l0), l1, l2] [] h = evL 48 17 [.inr (.inl l0), l1, l2] [.inr (.inl l0)] h := ev_go c48_16 rfl
theorem c48_17 : cd 48 17 = some (17, .aload_n 0, 1, 0, 0, 0) := rfl
theorem s48_17 {l1 l2 s0 : AV} {l0 : Option Nat} {h : AH} : evL 48 17 [.inr (.inl l0), l1, l2] [s0] h = evL 48 18 [.inr (.inl l0), l1, l2] [.inr (.inl l0), s0] h := ev_go c48_17 rfl
theorem c48_18 : cd 48 18 = some (18, .getfield 18, 3, 2, 1, 163) := rfl
theorem s48_18 {l0 l1 l2 s1 : AV} {s0 : Nat} {M : Mem} {P : PMem} (hk : kd s0 = 2) : evL 48 18 [l0, l1, l2] [Rf s0, s1] (Hp M P) = evL 48 21 [l0, l1, l2] [I (M s0 1), s1] (Hp M P) := e_getI c48_18 rfl hk
theorem c48_21 : cd 48 21 = some (21, .invokevirtual 25, 3, 51, 0, 340) := rfl
theorem s48_21 {l0 l1 l2 : AV} {s0 : Int} {s1 : Nat} {M : Mem} {P : PMem} (hk : kd s1 = 2) : evL 48 21 [l0, l1, l2] [I s0, Rf s1] (Hp M P) = cont (evM 51 [Rf s1, I s0] (Hp M P)) (fun r h => evL 48 24 [l0, l1, l2] (rl r []) h) := e_callV (av' := [I s0]) (rest := []) (c := 2) c48_21 rfl rfl rfl rfl rfl rfl rfl hk rfl
theorem c48_24 : cd 48 24 = some (24, .astore_n 2, 1, 0, 0, 0) := rfl
theorem s48_24 {l0 l1 l2 : AV} {s0 : Option Nat} {h : AH} : evL 48 24 [l0, l1, l2] [.inr (.inl s0)] h = evL 48 25 [l0, l1, .inr (.inl s0)] [] h := ev_go c48_24 rfl
theorem c48_25 : cd 48 25 = some (25, .aload_n 2, 1, 0, 0, 0) := rfl
theorem s48_25 {l0 l1 : AV} {l2 : Option Nat} {h : AH} : evL 48 25 [l0, l1, .inr (.inl l2)] [] h = evL 48 26 [l0, l1, .inr (.inl l2)] [.inr (.inl l2)] h := ev_go c48_25 rfl
theorem c48_26 : cd 48 26 = some (26, .ifnull 18, 3, 0, 0, 0) := rfl
theorem s48_26n {l0 l1 l2 : AV} {h : AH} : evL 48 26 [l0, l1, l2] [Nu] h = evL 48 44 [l0, l1, l2] [] h := ev_go c48_26 rfl
theorem s48_26s {l0 l1 l2 : AV} {h : AH} {s0 : Nat} : evL 48 26 [l0, l1, l2] [Rf s0] h = evL 48 29 [l0, l1, l2] [] h := ev_go c48_26 rfl
theorem c48_29 : cd 48 29 = some (29, .aload_n 2, 1, 0, 0, 0) := rfl
theorem s48_29 {l0 l1 : AV} {l2 : Option Nat} {h : AH} : evL 48 29 [l0, l1, .inr (.inl l2)] [] h = evL 48 30 [l0, l1, .inr (.inl l2)] [.inr (.inl l2)] h := ev_go c48_29 rfl
theorem c48_30 : cd 48 30 = some (30, .aload_n 1, 1, 0, 0, 0) := rfl
theorem s48_30 {l0 l2 s0 : AV} {l1 : Option Nat} {h : AH} : evL 48 30 [l0, .inr (.inl l1), l2] [s0] h = evL 48 31 [l0, .inr (.inl l1), l2] [.inr (.inl l1), s0] h := ev_go c48_30 rfl
theorem c48_31 : cd 48 31 = some (31, .invokevirtual 29, 3, 45, 0, 344) := rfl
theorem s48_31 {l0 l1 l2 : AV} {s0 s1 : Nat} {M : Mem} {P : PMem} (hk : kd s1 = 1) : evL 48 31 [l0, l1, l2] [Rf s0, Rf s1] (Hp M P) = cont (evM 45 [Rf s1, Rf s0] (Hp M P)) (fun r h => evL 48 34 [l0, l1, l2] (rl r []) h) := e_callV (av' := [Rf s0]) (rest := []) (c := 1) c48_31 rfl rfl rfl rfl rfl rfl rfl hk rfl
theorem c48_34 : cd 48 34 = some (34, .aload_n 0, 1, 0, 0, 0) := rfl
theorem s48_34 {l1 l2 : AV} {l0 : Option Nat} {h : AH} : evL 48 34 [.inr (.inl l0), l1, l2] [] h = evL 48 35 [.inr (.inl l0), l1, l2] [.inr (.inl l0)] h := ev_go c48_34 rfl
theorem c48_35 : cd 48 35 = some (35, .dup, 1, 0, 0, 0) := rfl
theorem s48_35 {l0 l1 l2 : AV} {s0 : Option Nat} {h : AH} : evL 48 35 [l0, l1, l2] [.inr (.inl s0)] h = evL 48 36 [l0, l1, l2] [.inr (.inl s0), .inr (.inl s0)] h := ev_go c48_35 rfl
theorem c48_36 : cd 48 36 = some (36, .getfield 18, 3, 2, 1, 163) := rfl
theorem s48_36 {l0 l1 l2 s1 : AV} {s0 : Nat} {M : Mem} {P : PMem} (hk : kd s0 = 2) : evL 48 36 [l0, l1, l2] [Rf s0, s1] (Hp M P) = evL 48 39 [l0, l1, l2] [I (M s0 1), s1] (Hp M P) := e_getI c48_36 rfl hk
theorem c48_39 : cd 48 39 = some (39, .iconst 1, 1, 0, 0, 0) := rfl
theorem s48_39 {l0 l1 l2 s0 s1 : AV} {h : AH} : evL 48 39 [l0, l1, l2] [s0, s1] h = evL 48 40 [l0, l1, l2] [I 1, s0, s1] h := ev_go c48_39 rfl
theorem c48_40 : cd 48 40 = some (40, .iadd, 1, 0, 0, 0) := rfl
theorem s48_40 {l0 l1 l2 s2 : AV} {s0 s1 : Int} {h : AH} : evL 48 40 [l0, l1, l2] [I s0, I s1, s2] h = evL 48 41 [l0, l1, l2] [I (ad s1 s0), s2] h := ev_go c48_40 rfl
theorem c48_41 : cd 48 41 = some (41, .putfield 18, 3, 2, 1, 163) := rfl
theorem s48_41 {l0 l1 l2 : AV} {s0 : Int} {s1 : Nat} {M : Mem} {P : PMem} (hk : kd s1 = 2) : evL 48 41 [l0, l1, l2] [I s0, Rf s1] (Hp M P) = evL 48 44 [l0, l1, l2] [] (Hp (wr M s1 1 s0) P) := e_putI c48_41 rfl hk
theorem c48_44 : cd 48 44 = some (44, .return_, 1, 0, 0, 0) := rfl
theorem s48_44 {l0 l1 l2 : AV} {h : AH} : evL 48 44 [l0, l1, l2] [] h = some (none, h) := e_ret c48_44 rfl
/-! 49: TankDivers$History.dropOldest()V -/
theorem en49 {l0 : AV} {h : AH} : evM 49 [l0] h = evL 49 0 [l0, Db 0, Db 0] [] h := rfl
theorem c49_0 : cd 49 0 = some (0, .aload_n 0, 1, 0, 0, 0) := rfl
theorem s49_0 {l1 l2 : AV} {l0 : Option Nat} {h : AH} : evL 49 0 [.inr (.inl l0), l1, l2] [] h = evL 49 1 [.inr (.inl l0), l1, l2] [.inr (.inl l0)] h := ev_go c49_0 rfl
theorem c49_1 : cd 49 1 = some (1, .iconst 0, 1, 0, 0, 0) := rfl
theorem s49_1 {l0 l1 l2 s0 : AV} {h : AH} : evL 49 1 [l0, l1, l2] [s0] h = evL 49 2 [l0, l1, l2] [I 0, s0] h := ev_go c49_1 rfl
theorem c49_2 : cd 49 2 = some (2, .invokevirtual 25, 3, 51, 0, 340) := rfl
theorem s49_2 {l0 l1 l2 : AV} {s0 : Int} {s1 : Nat} {M : Mem} {P : PMem} (hk : kd s1 = 2) : evL 49 2 [l0, l1, l2] [I s0, Rf s1] (Hp M P) = cont (evM 51 [Rf s1, I s0] (Hp M P)) (fun r h => evL 49 5 [l0, l1, l2] (rl r []) h) := e_callV (av' := [I s0]) (rest := []) (c := 2) c49_2 rfl rfl rfl rfl rfl rfl rfl hk rfl
theorem c49_5 : cd 49 5 = some (5, .astore_n 1, 1, 0, 0, 0) := rfl
theorem s49_5 {l0 l1 l2 : AV} {s0 : Option Nat} {h : AH} : evL 49 5 [l0, l1, l2] [.inr (.inl s0)] h = evL 49 6 [l0, .inr (.inl s0), l2] [] h := ev_go c49_5 rfl
theorem c49_6 : cd 49 6 = some (6, .iconst 1, 1, 0, 0, 0) := rfl
theorem s49_6 {l0 l1 l2 : AV} {h : AH} : evL 49 6 [l0, l1, l2] [] h = evL 49 7 [l0, l1, l2] [I 1] h := ev_go c49_6 rfl
theorem c49_7 : cd 49 7 = some (7, .istore_n 2, 1, 0, 0, 0) := rfl
theorem s49_7 {l0 l1 l2 : AV} {s0 : Int} {h : AH} : evL 49 7 [l0, l1, l2] [I s0] h = evL 49 8 [l0, l1, I s0] [] h := ev_go c49_7 rfl
theorem c49_8 : cd 49 8 = some (8, .iload_n 2, 1, 0, 0, 0) := rfl
theorem s49_8 {l0 l1 : AV} {l2 : Int} {h : AH} : evL 49 8 [l0, l1, I l2] [] h = evL 49 9 [l0, l1, I l2] [I l2] h := ev_go c49_8 rfl
theorem c49_9 : cd 49 9 = some (9, .aload_n 0, 1, 0, 0, 0) := rfl
theorem s49_9 {l1 l2 s0 : AV} {l0 : Option Nat} {h : AH} : evL 49 9 [.inr (.inl l0), l1, l2] [s0] h = evL 49 10 [.inr (.inl l0), l1, l2] [.inr (.inl l0), s0] h := ev_go c49_9 rfl
theorem c49_10 : cd 49 10 = some (10, .getfield 11, 3, 2, 0, 162) := rfl
theorem s49_10 {l0 l1 l2 s1 : AV} {s0 : Nat} {M : Mem} {P : PMem} (hk : kd s0 = 2) : evL 49 10 [l0, l1, l2] [Rf s0, s1] (Hp M P) = evL 49 13 [l0, l1, l2] [Rf (rfd s0 0), s1] (Hp M P) := e_getR c49_10 rfl hk
theorem c49_13 : cd 49 13 = some (13, .arraylength, 1, 0, 0, 0) := rfl
theorem s49_13 {l0 l1 l2 s1 : AV} {s0 : Nat} {M : Mem} {P : PMem} (hk : kd s0 = 100 ∨ kd s0 = 101) (hl : ln s0 ≤ 1000000) : evL 49 13 [l0, l1, l2] [Rf s0, s1] (Hp M P) = evL 49 14 [l0, l1, l2] [I (ln s0 : Int), s1] (Hp M P) := e_alen c49_13 hk hl
theorem c49_14 : cd 49 14 = some (14, .if_icmp .ge 23, 3, 0, 0, 0) := rfl
theorem s49_14 {l0 l1 l2 : AV} {s0 s1 : Int} {h : AH} : evL 49 14 [l0, l1, l2] [I s0, I s1] h = if s0 ≤ s1 then evL 49 37 [l0, l1, l2] [] h else evL 49 17 [l0, l1, l2] [] h := e_icmp_ge c49_14 rfl rfl
theorem c49_17 : cd 49 17 = some (17, .aload_n 0, 1, 0, 0, 0) := rfl
theorem s49_17 {l1 l2 : AV} {l0 : Option Nat} {h : AH} : evL 49 17 [.inr (.inl l0), l1, l2] [] h = evL 49 18 [.inr (.inl l0), l1, l2] [.inr (.inl l0)] h := ev_go c49_17 rfl
theorem c49_18 : cd 49 18 = some (18, .getfield 11, 3, 2, 0, 162) := rfl
theorem s49_18 {l0 l1 l2 : AV} {s0 : Nat} {M : Mem} {P : PMem} (hk : kd s0 = 2) : evL 49 18 [l0, l1, l2] [Rf s0] (Hp M P) = evL 49 21 [l0, l1, l2] [Rf (rfd s0 0)] (Hp M P) := e_getR c49_18 rfl hk
theorem c49_21 : cd 49 21 = some (21, .iload_n 2, 1, 0, 0, 0) := rfl
theorem s49_21 {l0 l1 s0 : AV} {l2 : Int} {h : AH} : evL 49 21 [l0, l1, I l2] [s0] h = evL 49 22 [l0, l1, I l2] [I l2, s0] h := ev_go c49_21 rfl
theorem c49_22 : cd 49 22 = some (22, .iconst 1, 1, 0, 0, 0) := rfl
theorem s49_22 {l0 l1 l2 s0 s1 : AV} {h : AH} : evL 49 22 [l0, l1, l2] [s0, s1] h = evL 49 23 [l0, l1, l2] [I 1, s0, s1] h := ev_go c49_22 rfl
theorem c49_23 : cd 49 23 = some (23, .isub, 1, 0, 0, 0) := rfl
theorem s49_23 {l0 l1 l2 s2 : AV} {s0 s1 : Int} {h : AH} : evL 49 23 [l0, l1, l2] [I s0, I s1, s2] h = evL 49 24 [l0, l1, l2] [I (sb s1 s0), s2] h := ev_go c49_23 rfl
theorem c49_24 : cd 49 24 = some (24, .aload_n 0, 1, 0, 0, 0) := rfl
theorem s49_24 {l1 l2 s0 s1 : AV} {l0 : Option Nat} {h : AH} : evL 49 24 [.inr (.inl l0), l1, l2] [s0, s1] h = evL 49 25 [.inr (.inl l0), l1, l2] [.inr (.inl l0), s0, s1] h := ev_go c49_24 rfl
theorem c49_25 : cd 49 25 = some (25, .getfield 11, 3, 2, 0, 162) := rfl
theorem s49_25 {l0 l1 l2 s1 s2 : AV} {s0 : Nat} {M : Mem} {P : PMem} (hk : kd s0 = 2) : evL 49 25 [l0, l1, l2] [Rf s0, s1, s2] (Hp M P) = evL 49 28 [l0, l1, l2] [Rf (rfd s0 0), s1, s2] (Hp M P) := e_getR c49_25 rfl hk
theorem c49_28 : cd 49 28 = some (28, .iload_n 2, 1, 0, 0, 0) := rfl
theorem s49_28 {l0 l1 s0 s1 s2 : AV} {l2 : Int} {h : AH} : evL 49 28 [l0, l1, I l2] [s0, s1, s2] h = evL 49 29 [l0, l1, I l2] [I l2, s0, s1, s2] h := ev_go c49_28 rfl
theorem c49_29 : cd 49 29 = some (29, .aaload, 1, 0, 0, 0) := rfl
theorem s49_29 {l0 l1 l2 s2 s3 : AV} {s0 : Int} {M : Mem} {P : PMem} (h0 : 0 ≤ s0) (hn : s0 < 4) : evL 49 29 [l0, l1, l2] [I s0, Rf 48, s2, s3] (Hp M P) = evL 49 30 [l0, l1, l2] [Rf (P s0.toNat), s2, s3] (Hp M P) := e_aald c49_29 h0 hn
theorem c49_30 : cd 49 30 = some (30, .aastore, 1, 0, 0, 0) := rfl
theorem s49_30 {l0 l1 l2 : AV} {s1 : Int} {s0 : Nat} {M : Mem} {P : PMem} (hv : kd s0 = 1) (h0 : 0 ≤ s1) (hn : s1 < 4) : evL 49 30 [l0, l1, l2] [Rf s0, I s1, Rf 48] (Hp M P) = evL 49 31 [l0, l1, l2] [] (Hp M (upP P s1.toNat s0)) := e_aast c49_30 hv h0 hn
theorem c49_31 : cd 49 31 = some (31, .iinc 2 1, 3, 0, 0, 0) := rfl
theorem s49_31 {l0 l1 : AV} {l2 : Int} {h : AH} : evL 49 31 [l0, l1, I l2] [] h = evL 49 34 [l0, l1, I (ad l2 1)] [] h := ev_go c49_31 rfl
theorem c49_34 : cd 49 34 = some (34, .goto (-26), 3, 0, 0, 0) := rfl
theorem s49_34 {l0 l1 l2 : AV} {h : AH} : evL 49 34 [l0, l1, l2] [] h = evL 49 8 [l0, l1, l2] [] h := ev_go c49_34 rfl
theorem c49_37 : cd 49 37 = some (37, .aload_n 0, 1, 0, 0, 0) := rfl
theorem s49_37 {l1 l2 : AV} {l0 : Option Nat} {h : AH} : evL 49 37 [.inr (.inl l0), l1, l2] [] h = evL 49 38 [.inr (.inl l0), l1, l2] [.inr (.inl l0)] h := ev_go c49_37 rfl
theorem c49_38 : cd 49 38 = some (38, .getfield 11, 3, 2, 0, 162) := rfl
theorem s49_38 {l0 l1 l2 : AV} {s0 : Nat} {M : Mem} {P : PMem} (hk : kd s0 = 2) : evL 49 38 [l0, l1, l2] [Rf s0] (Hp M P) = evL 49 41 [l0, l1, l2] [Rf (rfd s0 0)] (Hp M P) := e_getR c49_38 rfl hk
theorem c49_41 : cd 49 41 = some (41, .arraylength, 1, 0, 0, 0) := rfl
theorem s49_41 {l0 l1 l2 : AV} {s0 : Nat} {M : Mem} {P : PMem} (hk : kd s0 = 100 ∨ kd s0 = 101) (hl : ln s0 ≤ 1000000) : evL 49 41 [l0, l1, l2] [Rf s0] (Hp M P) = evL 49 42 [l0, l1, l2] [I (ln s0 : Int)] (Hp M P) := e_alen c49_41 hk hl
theorem c49_42 : cd 49 42 = some (42, .ifCond .le 16, 3, 0, 0, 0) := rfl
theorem s49_42 {l0 l1 l2 : AV} {s0 : Int} {h : AH} : evL 49 42 [l0, l1, l2] [I s0] h = if s0 ≤ 0 then evL 49 58 [l0, l1, l2] [] h else evL 49 45 [l0, l1, l2] [] h := e_if_le c49_42 rfl rfl
theorem c49_45 : cd 49 45 = some (45, .aload_n 0, 1, 0, 0, 0) := rfl
theorem s49_45 {l1 l2 : AV} {l0 : Option Nat} {h : AH} : evL 49 45 [.inr (.inl l0), l1, l2] [] h = evL 49 46 [.inr (.inl l0), l1, l2] [.inr (.inl l0)] h := ev_go c49_45 rfl
theorem c49_46 : cd 49 46 = some (46, .getfield 11, 3, 2, 0, 162) := rfl
theorem s49_46 {l0 l1 l2 : AV} {s0 : Nat} {M : Mem} {P : PMem} (hk : kd s0 = 2) : evL 49 46 [l0, l1, l2] [Rf s0] (Hp M P) = evL 49 49 [l0, l1, l2] [Rf (rfd s0 0)] (Hp M P) := e_getR c49_46 rfl hk
theorem c49_49 : cd 49 49 = some (49, .aload_n 0, 1, 0, 0, 0) := rfl
theorem s49_49 {l1 l2 s0 : AV} {l0 : Option Nat} {h : AH} : evL 49 49 [.inr (.inl l0), l1, l2] [s0] h = evL 49 50 [.inr (.inl l0), l1, l2] [.inr (.inl l0), s0] h := ev_go c49_49 rfl
theorem c49_50 : cd 49 50 = some (50, .getfield 11, 3, 2, 0, 162) := rfl
theorem s49_50 {l0 l1 l2 s1 : AV} {s0 : Nat} {M : Mem} {P : PMem} (hk : kd s0 = 2) : evL 49 50 [l0, l1, l2] [Rf s0, s1] (Hp M P) = evL 49 53 [l0, l1, l2] [Rf (rfd s0 0), s1] (Hp M P) := e_getR c49_50 rfl hk
theorem c49_53 : cd 49 53 = some (53, .arraylength, 1, 0, 0, 0) := rfl
theorem s49_53 {l0 l1 l2 s1 : AV} {s0 : Nat} {M : Mem} {P : PMem} (hk : kd s0 = 100 ∨ kd s0 = 101) (hl : ln s0 ≤ 1000000) : evL 49 53 [l0, l1, l2] [Rf s0, s1] (Hp M P) = evL 49 54 [l0, l1, l2] [I (ln s0 : Int), s1] (Hp M P) := e_alen c49_53 hk hl
theorem c49_54 : cd 49 54 = some (54, .iconst 1, 1, 0, 0, 0) := rfl
theorem s49_54 {l0 l1 l2 s0 s1 : AV} {h : AH} : evL 49 54 [l0, l1, l2] [s0, s1] h = evL 49 55 [l0, l1, l2] [I 1, s0, s1] h := ev_go c49_54 rfl
theorem c49_55 : cd 49 55 = some (55, .isub, 1, 0, 0, 0) := rfl
theorem s49_55 {l0 l1 l2 s2 : AV} {s0 s1 : Int} {h : AH} : evL 49 55 [l0, l1, l2] [I s0, I s1, s2] h = evL 49 56 [l0, l1, l2] [I (sb s1 s0), s2] h := ev_go c49_55 rfl
theorem c49_56 : cd 49 56 = some (56, .aload_n 1, 1, 0, 0, 0) := rfl
theorem s49_56 {l0 l2 s0 s1 : AV} {l1 : Option Nat} {h : AH} : evL 49 56 [l0, .inr (.inl l1), l2] [s0, s1] h = evL 49 57 [l0, .inr (.inl l1), l2] [.inr (.inl l1), s0, s1] h := ev_go c49_56 rfl
theorem c49_57 : cd 49 57 = some (57, .aastore, 1, 0, 0, 0) := rfl
theorem s49_57 {l0 l1 l2 : AV} {s1 : Int} {s0 : Nat} {M : Mem} {P : PMem} (hv : kd s0 = 1) (h0 : 0 ≤ s1) (hn : s1 < 4) : evL 49 57 [l0, l1, l2] [Rf s0, I s1, Rf 48] (Hp M P) = evL 49 58 [l0, l1, l2] [] (Hp M (upP P s1.toNat s0)) := e_aast c49_57 hv h0 hn
theorem c49_58 : cd 49 58 = some (58, .aload_n 0, 1, 0, 0, 0) := rfl
theorem s49_58 {l1 l2 : AV} {l0 : Option Nat} {h : AH} : evL 49 58 [.inr (.inl l0), l1, l2] [] h = evL 49 59 [.inr (.inl l0), l1, l2] [.inr (.inl l0)] h := ev_go c49_58 rfl
theorem c49_59 : cd 49 59 = some (59, .aload_n 0, 1, 0, 0, 0) := rfl
theorem s49_59 {l1 l2 s0 : AV} {l0 : Option Nat} {h : AH} : evL 49 59 [.inr (.inl l0), l1, l2] [s0] h = evL 49 60 [.inr (.inl l0), l1, l2] [.inr (.inl l0), s0] h := ev_go c49_59 rfl
theorem c49_60 : cd 49 60 = some (60, .getfield 11, 3, 2, 0, 162) := rfl
theorem s49_60 {l0 l1 l2 s1 : AV} {s0 : Nat} {M : Mem} {P : PMem} (hk : kd s0 = 2) : evL 49 60 [l0, l1, l2] [Rf s0, s1] (Hp M P) = evL 49 63 [l0, l1, l2] [Rf (rfd s0 0), s1] (Hp M P) := e_getR c49_60 rfl hk
theorem c49_63 : cd 49 63 = some (63, .arraylength, 1, 0, 0, 0) := rfl
theorem s49_63 {l0 l1 l2 s1 : AV} {s0 : Nat} {M : Mem} {P : PMem} (hk : kd s0 = 100 ∨ kd s0 = 101) (hl : ln s0 ≤ 1000000) : evL 49 63 [l0, l1, l2] [Rf s0, s1] (Hp M P) = evL 49 64 [l0, l1, l2] [I (ln s0 : Int), s1] (Hp M P) := e_alen c49_63 hk hl
theorem c49_64 : cd 49 64 = some (64, .iconst 1, 1, 0, 0, 0) := rfl
theorem s49_64 {l0 l1 l2 s0 s1 : AV} {h : AH} : evL 49 64 [l0, l1, l2] [s0, s1] h = evL 49 65 [l0, l1, l2] [I 1, s0, s1] h := ev_go c49_64 rfl
theorem c49_65 : cd 49 65 = some (65, .isub, 1, 0, 0, 0) := rfl
theorem s49_65 {l0 l1 l2 s2 : AV} {s0 s1 : Int} {h : AH} : evL 49 65 [l0, l1, l2] [I s0, I s1, s2] h = evL 49 66 [l0, l1, l2] [I (sb s1 s0), s2] h := ev_go c49_65 rfl
theorem c49_66 : cd 49 66 = some (66, .putfield 18, 3, 2, 1, 163) := rfl
theorem s49_66 {l0 l1 l2 : AV} {s0 : Int} {s1 : Nat} {M : Mem} {P : PMem} (hk : kd s1 = 2) : evL 49 66 [l0, l1, l2] [I s0, Rf s1] (Hp M P) = evL 49 69 [l0, l1, l2] [] (Hp (wr M s1 1 s0) P) := e_putI c49_66 rfl hk
theorem c49_69 : cd 49 69 = some (69, .return_, 1, 0, 0, 0) := rfl
theorem s49_69 {l0 l1 l2 : AV} {h : AH} : evL 49 69 [l0, l1, l2] [] h = some (none, h) := e_ret c49_69 rfl
/-! 50: TankDivers$History.takeBack(LTankDivers$Game;)I -/
theorem en50 {l0 l1 : AV} {h : AH} : evM 50 [l0, l1] h = evL 50 0 [l0, l1, Db 0] [] h := rfl
theorem c50_0 : cd 50 0 = some (0, .aload_n 0, 1, 0, 0, 0) := rfl
theorem s50_0 {l1 l2 : AV} {l0 : Option Nat} {h : AH} : evL 50 0 [.inr (.inl l0), l1, l2] [] h = evL 50 1 [.inr (.inl l0), l1, l2] [.inr (.inl l0)] h := ev_go c50_0 rfl
theorem c50_1 : cd 50 1 = some (1, .aload_n 0, 1, 0, 0, 0) := rfl
theorem s50_1 {l1 l2 s0 : AV} {l0 : Option Nat} {h : AH} : evL 50 1 [.inr (.inl l0), l1, l2] [s0] h = evL 50 2 [.inr (.inl l0), l1, l2] [.inr (.inl l0), s0] h := ev_go c50_1 rfl
theorem c50_2 : cd 50 2 = some (2, .getfield 18, 3, 2, 1, 163) := rfl
theorem s50_2 {l0 l1 l2 s1 : AV} {s0 : Nat} {M : Mem} {P : PMem} (hk : kd s0 = 2) : evL 50 2 [l0, l1, l2] [Rf s0, s1] (Hp M P) = evL 50 5 [l0, l1, l2] [I (M s0 1), s1] (Hp M P) := e_getI c50_2 rfl hk
theorem c50_5 : cd 50 5 = some (5, .iconst 1, 1, 0, 0, 0) := rfl
theorem s50_5 {l0 l1 l2 s0 s1 : AV} {h : AH} : evL 50 5 [l0, l1, l2] [s0, s1] h = evL 50 6 [l0, l1, l2] [I 1, s0, s1] h := ev_go c50_5 rfl
theorem c50_6 : cd 50 6 = some (6, .isub, 1, 0, 0, 0) := rfl
theorem s50_6 {l0 l1 l2 s2 : AV} {s0 s1 : Int} {h : AH} : evL 50 6 [l0, l1, l2] [I s0, I s1, s2] h = evL 50 7 [l0, l1, l2] [I (sb s1 s0), s2] h := ev_go c50_6 rfl
theorem c50_7 : cd 50 7 = some (7, .invokevirtual 25, 3, 51, 0, 340) := rfl
theorem s50_7 {l0 l1 l2 : AV} {s0 : Int} {s1 : Nat} {M : Mem} {P : PMem} (hk : kd s1 = 2) : evL 50 7 [l0, l1, l2] [I s0, Rf s1] (Hp M P) = cont (evM 51 [Rf s1, I s0] (Hp M P)) (fun r h => evL 50 10 [l0, l1, l2] (rl r []) h) := e_callV (av' := [I s0]) (rest := []) (c := 2) c50_7 rfl rfl rfl rfl rfl rfl rfl hk rfl
theorem c50_10 : cd 50 10 = some (10, .astore_n 2, 1, 0, 0, 0) := rfl
theorem s50_10 {l0 l1 l2 : AV} {s0 : Option Nat} {h : AH} : evL 50 10 [l0, l1, l2] [.inr (.inl s0)] h = evL 50 11 [l0, l1, .inr (.inl s0)] [] h := ev_go c50_10 rfl
theorem c50_11 : cd 50 11 = some (11, .aload_n 2, 1, 0, 0, 0) := rfl
theorem s50_11 {l0 l1 : AV} {l2 : Option Nat} {h : AH} : evL 50 11 [l0, l1, .inr (.inl l2)] [] h = evL 50 12 [l0, l1, .inr (.inl l2)] [.inr (.inl l2)] h := ev_go c50_11 rfl
theorem c50_12 : cd 50 12 = some (12, .ifnonnull 6, 3, 0, 0, 0) := rfl
theorem s50_12n {l0 l1 l2 : AV} {h : AH} : evL 50 12 [l0, l1, l2] [Nu] h = evL 50 15 [l0, l1, l2] [] h := ev_go c50_12 rfl
theorem s50_12s {l0 l1 l2 : AV} {h : AH} {s0 : Nat} : evL 50 12 [l0, l1, l2] [Rf s0] h = evL 50 18 [l0, l1, l2] [] h := ev_go c50_12 rfl
theorem c50_15 : cd 50 15 = some (15, .bipush (-2), 2, 0, 0, 0) := rfl
theorem s50_15 {l0 l1 l2 : AV} {h : AH} : evL 50 15 [l0, l1, l2] [] h = evL 50 17 [l0, l1, l2] [I (-2)] h := ev_go c50_15 rfl
theorem c50_17 : cd 50 17 = some (17, .ireturn, 1, 0, 0, 0) := rfl
theorem s50_17 {l0 l1 l2 : AV} {s0 : Int} {h : AH} : evL 50 17 [l0, l1, l2] [I s0] h = some (some (I s0), h) := e_ret c50_17 rfl
theorem c50_18 : cd 50 18 = some (18, .aload_n 1, 1, 0, 0, 0) := rfl
theorem s50_18 {l0 l2 : AV} {l1 : Option Nat} {h : AH} : evL 50 18 [l0, .inr (.inl l1), l2] [] h = evL 50 19 [l0, .inr (.inl l1), l2] [.inr (.inl l1)] h := ev_go c50_18 rfl
theorem c50_19 : cd 50 19 = some (19, .aload_n 2, 1, 0, 0, 0) := rfl
theorem s50_19 {l0 l1 s0 : AV} {l2 : Option Nat} {h : AH} : evL 50 19 [l0, l1, .inr (.inl l2)] [s0] h = evL 50 20 [l0, l1, .inr (.inl l2)] [.inr (.inl l2), s0] h := ev_go c50_19 rfl
theorem c50_20 : cd 50 20 = some (20, .invokevirtual 29, 3, 45, 0, 344) := rfl
theorem s50_20 {l0 l1 l2 : AV} {s0 s1 : Nat} {M : Mem} {P : PMem} (hk : kd s1 = 1) : evL 50 20 [l0, l1, l2] [Rf s0, Rf s1] (Hp M P) = cont (evM 45 [Rf s1, Rf s0] (Hp M P)) (fun r h => evL 50 23 [l0, l1, l2] (rl r []) h) := e_callV (av' := [Rf s0]) (rest := []) (c := 1) c50_20 rfl rfl rfl rfl rfl rfl rfl hk rfl
theorem c50_23 : cd 50 23 = some (23, .aload_n 0, 1, 0, 0, 0) := rfl
theorem s50_23 {l1 l2 : AV} {l0 : Option Nat} {h : AH} : evL 50 23 [.inr (.inl l0), l1, l2] [] h = evL 50 24 [.inr (.inl l0), l1, l2] [.inr (.inl l0)] h := ev_go c50_23 rfl
theorem c50_24 : cd 50 24 = some (24, .dup, 1, 0, 0, 0) := rfl
theorem s50_24 {l0 l1 l2 : AV} {s0 : Option Nat} {h : AH} : evL 50 24 [l0, l1, l2] [.inr (.inl s0)] h = evL 50 25 [l0, l1, l2] [.inr (.inl s0), .inr (.inl s0)] h := ev_go c50_24 rfl
theorem c50_25 : cd 50 25 = some (25, .getfield 18, 3, 2, 1, 163) := rfl
theorem s50_25 {l0 l1 l2 s1 : AV} {s0 : Nat} {M : Mem} {P : PMem} (hk : kd s0 = 2) : evL 50 25 [l0, l1, l2] [Rf s0, s1] (Hp M P) = evL 50 28 [l0, l1, l2] [I (M s0 1), s1] (Hp M P) := e_getI c50_25 rfl hk
theorem c50_28 : cd 50 28 = some (28, .iconst 1, 1, 0, 0, 0) := rfl
theorem s50_28 {l0 l1 l2 s0 s1 : AV} {h : AH} : evL 50 28 [l0, l1, l2] [s0, s1] h = evL 50 29 [l0, l1, l2] [I 1, s0, s1] h := ev_go c50_28 rfl
theorem c50_29 : cd 50 29 = some (29, .isub, 1, 0, 0, 0) := rfl
theorem s50_29 {l0 l1 l2 s2 : AV} {s0 s1 : Int} {h : AH} : evL 50 29 [l0, l1, l2] [I s0, I s1, s2] h = evL 50 30 [l0, l1, l2] [I (sb s1 s0), s2] h := ev_go c50_29 rfl
theorem c50_30 : cd 50 30 = some (30, .putfield 18, 3, 2, 1, 163) := rfl
theorem s50_30 {l0 l1 l2 : AV} {s0 : Int} {s1 : Nat} {M : Mem} {P : PMem} (hk : kd s1 = 2) : evL 50 30 [l0, l1, l2] [I s0, Rf s1] (Hp M P) = evL 50 33 [l0, l1, l2] [] (Hp (wr M s1 1 s0) P) := e_putI c50_30 rfl hk
theorem c50_33 : cd 50 33 = some (33, .aload_n 0, 1, 0, 0, 0) := rfl
theorem s50_33 {l1 l2 : AV} {l0 : Option Nat} {h : AH} : evL 50 33 [.inr (.inl l0), l1, l2] [] h = evL 50 34 [.inr (.inl l0), l1, l2] [.inr (.inl l0)] h := ev_go c50_33 rfl
theorem c50_34 : cd 50 34 = some (34, .getfield 18, 3, 2, 1, 163) := rfl
theorem s50_34 {l0 l1 l2 : AV} {s0 : Nat} {M : Mem} {P : PMem} (hk : kd s0 = 2) : evL 50 34 [l0, l1, l2] [Rf s0] (Hp M P) = evL 50 37 [l0, l1, l2] [I (M s0 1)] (Hp M P) := e_getI c50_34 rfl hk
theorem c50_37 : cd 50 37 = some (37, .ireturn, 1, 0, 0, 0) := rfl
theorem s50_37 {l0 l1 l2 : AV} {s0 : Int} {h : AH} : evL 50 37 [l0, l1, l2] [I s0] h = some (some (I s0), h) := e_ret c50_37 rfl
/-! 51: TankDivers$History.stateAt(I)LTankDivers$Game; -/
theorem en51 {l0 l1 : AV} {h : AH} : evM 51 [l0, l1] h = evL 51 0 [l0, l1] [] h := rfl
theorem c51_0 : cd 51 0 = some (0, .iload_n 1, 1, 0, 0, 0) := rfl
theorem s51_0 {l0 : AV} {l1 : Int} {h : AH} : evL 51 0 [l0, I l1] [] h = evL 51 1 [l0, I l1] [I l1] h := ev_go c51_0 rfl
theorem c51_1 : cd 51 1 = some (1, .ifCond .lt 21, 3, 0, 0, 0) := rfl
theorem s51_1 {l0 l1 : AV} {s0 : Int} {h : AH} : evL 51 1 [l0, l1] [I s0] h = if s0 < 0 then evL 51 22 [l0, l1] [] h else evL 51 4 [l0, l1] [] h := e_if_lt c51_1 rfl rfl
theorem c51_4 : cd 51 4 = some (4, .iload_n 1, 1, 0, 0, 0) := rfl
theorem s51_4 {l0 : AV} {l1 : Int} {h : AH} : evL 51 4 [l0, I l1] [] h = evL 51 5 [l0, I l1] [I l1] h := ev_go c51_4 rfl
theorem c51_5 : cd 51 5 = some (5, .aload_n 0, 1, 0, 0, 0) := rfl
theorem s51_5 {l1 s0 : AV} {l0 : Option Nat} {h : AH} : evL 51 5 [.inr (.inl l0), l1] [s0] h = evL 51 6 [.inr (.inl l0), l1] [.inr (.inl l0), s0] h := ev_go c51_5 rfl
theorem c51_6 : cd 51 6 = some (6, .getfield 11, 3, 2, 0, 162) := rfl
theorem s51_6 {l0 l1 s1 : AV} {s0 : Nat} {M : Mem} {P : PMem} (hk : kd s0 = 2) : evL 51 6 [l0, l1] [Rf s0, s1] (Hp M P) = evL 51 9 [l0, l1] [Rf (rfd s0 0), s1] (Hp M P) := e_getR c51_6 rfl hk
theorem c51_9 : cd 51 9 = some (9, .arraylength, 1, 0, 0, 0) := rfl
theorem s51_9 {l0 l1 s1 : AV} {s0 : Nat} {M : Mem} {P : PMem} (hk : kd s0 = 100 ∨ kd s0 = 101) (hl : ln s0 ≤ 1000000) : evL 51 9 [l0, l1] [Rf s0, s1] (Hp M P) = evL 51 10 [l0, l1] [I (ln s0 : Int), s1] (Hp M P) := e_alen c51_9 hk hl
theorem c51_10 : cd 51 10 = some (10, .if_icmp .ge 12, 3, 0, 0, 0) := rfl
theorem s51_10 {l0 l1 : AV} {s0 s1 : Int} {h : AH} : evL 51 10 [l0, l1] [I s0, I s1] h = if s0 ≤ s1 then evL 51 22 [l0, l1] [] h else evL 51 13 [l0, l1] [] h := e_icmp_ge c51_10 rfl rfl
theorem c51_13 : cd 51 13 = some (13, .aload_n 0, 1, 0, 0, 0) := rfl
theorem s51_13 {l1 : AV} {l0 : Option Nat} {h : AH} : evL 51 13 [.inr (.inl l0), l1] [] h = evL 51 14 [.inr (.inl l0), l1] [.inr (.inl l0)] h := ev_go c51_13 rfl
theorem c51_14 : cd 51 14 = some (14, .getfield 11, 3, 2, 0, 162) := rfl
theorem s51_14 {l0 l1 : AV} {s0 : Nat} {M : Mem} {P : PMem} (hk : kd s0 = 2) : evL 51 14 [l0, l1] [Rf s0] (Hp M P) = evL 51 17 [l0, l1] [Rf (rfd s0 0)] (Hp M P) := e_getR c51_14 rfl hk
theorem c51_17 : cd 51 17 = some (17, .iload_n 1, 1, 0, 0, 0) := rfl
theorem s51_17 {l0 s0 : AV} {l1 : Int} {h : AH} : evL 51 17 [l0, I l1] [s0] h = evL 51 18 [l0, I l1] [I l1, s0] h := ev_go c51_17 rfl
theorem c51_18 : cd 51 18 = some (18, .aaload, 1, 0, 0, 0) := rfl
theorem s51_18 {l0 l1 : AV} {s0 : Int} {M : Mem} {P : PMem} (h0 : 0 ≤ s0) (hn : s0 < 4) : evL 51 18 [l0, l1] [I s0, Rf 48] (Hp M P) = evL 51 19 [l0, l1] [Rf (P s0.toNat)] (Hp M P) := e_aald c51_18 h0 hn
theorem c51_19 : cd 51 19 = some (19, .goto 4, 3, 0, 0, 0) := rfl
theorem s51_19 {l0 l1 s0 : AV} {h : AH} : evL 51 19 [l0, l1] [s0] h = evL 51 23 [l0, l1] [s0] h := ev_go c51_19 rfl
theorem c51_22 : cd 51 22 = some (22, .aconst_null, 1, 0, 0, 0) := rfl
theorem s51_22 {l0 l1 : AV} {h : AH} : evL 51 22 [l0, l1] [] h = evL 51 23 [l0, l1] [Nu] h := ev_go c51_22 rfl
theorem c51_23 : cd 51 23 = some (23, .areturn, 1, 0, 0, 0) := rfl
theorem s51_23 {l0 l1 : AV} {s0 : Option Nat} {h : AH} : evL 51 23 [l0, l1] [.inr (.inl s0)] h = some (some (.inr (.inl s0)), h) := e_ret c51_23 rfl
/-! 53: TankDivers$Odds.byThrows(LTankDivers$Game;IZ)I -/
theorem en53 {l0 l1 l2 l3 : AV} {h : AH} : evM 53 [l0, l1, l2, l3] h = evL 53 0 [l0, l1, l2, l3, Db 0, Db 0, Db 0, Db 0] [] h := rfl
theorem c53_0 : cd 53 0 = some (0, .iload_n 3, 1, 0, 0, 0) := rfl
theorem s53_0 {l0 l1 l2 l4 l5 l6 l7 : AV} {l3 : Int} {h : AH} : evL 53 0 [l0, l1, l2, I l3, l4, l5, l6, l7] [] h = evL 53 1 [l0, l1, l2, I l3, l4, l5, l6, l7] [I l3] h := ev_go c53_0 rfl
theorem c53_1 : cd 53 1 = some (1, .ifCond .ne 10, 3, 0, 0, 0) := rfl
theorem s53_1 {l0 l1 l2 l3 l4 l5 l6 l7 : AV} {s0 : Int} {h : AH} : evL 53 1 [l0, l1, l2, l3, l4, l5, l6, l7] [I s0] h = if s0 = 0 then evL 53 4 [l0, l1, l2, l3, l4, l5, l6, l7] [] h else evL 53 11 [l0, l1, l2, l3, l4, l5, l6, l7] [] h := e_if_ne c53_1 rfl rfl
theorem c53_4 : cd 53 4 = some (4, .aload_n 1, 1, 0, 0, 0) := rfl
theorem s53_4 {l0 l2 l3 l4 l5 l6 l7 : AV} {l1 : Option Nat} {h : AH} : evL 53 4 [l0, .inr (.inl l1), l2, l3, l4, l5, l6, l7] [] h = evL 53 5 [l0, .inr (.inl l1), l2, l3, l4, l5, l6, l7] [.inr (.inl l1)] h := ev_go c53_4 rfl
theorem c53_5 : cd 53 5 = some (5, .invokevirtual 23, 3, 35, 0, 476) := rfl
theorem s53_5 {l0 l1 l2 l3 l4 l5 l6 l7 : AV} {s0 : Nat} {M : Mem} {P : PMem} (hk : kd s0 = 1) : evL 53 5 [l0, l1, l2, l3, l4, l5, l6, l7] [Rf s0] (Hp M P) = cont (evM 35 [Rf s0] (Hp M P)) (fun r h => evL 53 8 [l0, l1, l2, l3, l4, l5, l6, l7] (rl r []) h) := e_callV (av' := []) (rest := []) (c := 1) c53_5 rfl rfl rfl rfl rfl rfl rfl hk rfl
theorem c53_8 : cd 53 8 = some (8, .ifCond .eq 7, 3, 0, 0, 0) := rfl
theorem s53_8 {l0 l1 l2 l3 l4 l5 l6 l7 : AV} {s0 : Int} {h : AH} : evL 53 8 [l0, l1, l2, l3, l4, l5, l6, l7] [I s0] h = if s0 = 0 then evL 53 15 [l0, l1, l2, l3, l4, l5, l6, l7] [] h else evL 53 11 [l0, l1, l2, l3, l4, l5, l6, l7] [] h := e_if_eq c53_8 rfl rfl
theorem c53_11 : cd 53 11 = some (11, .iconst 1, 1, 0, 0, 0) := rfl
theorem s53_11 {l0 l1 l2 l3 l4 l5 l6 l7 : AV} {h : AH} : evL 53 11 [l0, l1, l2, l3, l4, l5, l6, l7] [] h = evL 53 12 [l0, l1, l2, l3, l4, l5, l6, l7] [I 1] h := ev_go c53_11 rfl
theorem c53_12 : cd 53 12 = some (12, .goto 4, 3, 0, 0, 0) := rfl
theorem s53_12 {l0 l1 l2 l3 l4 l5 l6 l7 s0 : AV} {h : AH} : evL 53 12 [l0, l1, l2, l3, l4, l5, l6, l7] [s0] h = evL 53 16 [l0, l1, l2, l3, l4, l5, l6, l7] [s0] h := ev_go c53_12 rfl
theorem c53_15 : cd 53 15 = some (15, .iconst 0, 1, 0, 0, 0) := rfl
theorem s53_15 {l0 l1 l2 l3 l4 l5 l6 l7 : AV} {h : AH} : evL 53 15 [l0, l1, l2, l3, l4, l5, l6, l7] [] h = evL 53 16 [l0, l1, l2, l3, l4, l5, l6, l7] [I 0] h := ev_go c53_15 rfl
theorem c53_16 : cd 53 16 = some (16, .istore 4, 2, 0, 0, 0) := rfl
theorem s53_16 {l0 l1 l2 l3 l4 l5 l6 l7 : AV} {s0 : Int} {h : AH} : evL 53 16 [l0, l1, l2, l3, l4, l5, l6, l7] [I s0] h = evL 53 18 [l0, l1, l2, l3, I s0, l5, l6, l7] [] h := ev_go c53_16 rfl
theorem c53_18 : cd 53 18 = some (18, .iconst 0, 1, 0, 0, 0) := rfl
theorem s53_18 {l0 l1 l2 l3 l4 l5 l6 l7 : AV} {h : AH} : evL 53 18 [l0, l1, l2, l3, l4, l5, l6, l7] [] h = evL 53 19 [l0, l1, l2, l3, l4, l5, l6, l7] [I 0] h := ev_go c53_18 rfl
theorem c53_19 : cd 53 19 = some (19, .istore 5, 2, 0, 0, 0) := rfl
theorem s53_19 {l0 l1 l2 l3 l4 l5 l6 l7 : AV} {s0 : Int} {h : AH} : evL 53 19 [l0, l1, l2, l3, l4, l5, l6, l7] [I s0] h = evL 53 21 [l0, l1, l2, l3, l4, I s0, l6, l7] [] h := ev_go c53_19 rfl
theorem c53_21 : cd 53 21 = some (21, .iconst 1, 1, 0, 0, 0) := rfl
theorem s53_21 {l0 l1 l2 l3 l4 l5 l6 l7 : AV} {h : AH} : evL 53 21 [l0, l1, l2, l3, l4, l5, l6, l7] [] h = evL 53 22 [l0, l1, l2, l3, l4, l5, l6, l7] [I 1] h := ev_go c53_21 rfl
theorem c53_22 : cd 53 22 = some (22, .istore 6, 2, 0, 0, 0) := rfl
theorem s53_22 {l0 l1 l2 l3 l4 l5 l6 l7 : AV} {s0 : Int} {h : AH} : evL 53 22 [l0, l1, l2, l3, l4, l5, l6, l7] [I s0] h = evL 53 24 [l0, l1, l2, l3, l4, l5, I s0, l7] [] h := ev_go c53_22 rfl
theorem c53_24 : cd 53 24 = some (24, .iload 6, 2, 0, 0, 0) := rfl
theorem s53_24 {l0 l1 l2 l3 l4 l5 l7 : AV} {l6 : Int} {h : AH} : evL 53 24 [l0, l1, l2, l3, l4, l5, I l6, l7] [] h = evL 53 26 [l0, l1, l2, l3, l4, l5, I l6, l7] [I l6] h := ev_go c53_24 rfl
theorem c53_26 : cd 53 26 = some (26, .iconst 3, 1, 0, 0, 0) := rfl
theorem s53_26 {l0 l1 l2 l3 l4 l5 l6 l7 s0 : AV} {h : AH} : evL 53 26 [l0, l1, l2, l3, l4, l5, l6, l7] [s0] h = evL 53 27 [l0, l1, l2, l3, l4, l5, l6, l7] [I 3, s0] h := ev_go c53_26 rfl
theorem c53_27 : cd 53 27 = some (27, .if_icmp .gt 46, 3, 0, 0, 0) := rfl
theorem s53_27 {l0 l1 l2 l3 l4 l5 l6 l7 : AV} {s0 s1 : Int} {h : AH} : evL 53 27 [l0, l1, l2, l3, l4, l5, l6, l7] [I s0, I s1] h = if s0 < s1 then evL 53 73 [l0, l1, l2, l3, l4, l5, l6, l7] [] h else evL 53 30 [l0, l1, l2, l3, l4, l5, l6, l7] [] h := e_icmp_gt c53_27 rfl rfl
theorem c53_30 : cd 53 30 = some (30, .iconst 1, 1, 0, 0, 0) := rfl
theorem s53_30 {l0 l1 l2 l3 l4 l5 l6 l7 : AV} {h : AH} : evL 53 30 [l0, l1, l2, l3, l4, l5, l6, l7] [] h = evL 53 31 [l0, l1, l2, l3, l4, l5, l6, l7] [I 1] h := ev_go c53_30 rfl
theorem c53_31 : cd 53 31 = some (31, .istore 7, 2, 0, 0, 0) := rfl
theorem s53_31 {l0 l1 l2 l3 l4 l5 l6 l7 : AV} {s0 : Int} {h : AH} : evL 53 31 [l0, l1, l2, l3, l4, l5, l6, l7] [I s0] h = evL 53 33 [l0, l1, l2, l3, l4, l5, l6, I s0] [] h := ev_go c53_31 rfl
theorem c53_33 : cd 53 33 = some (33, .iload 7, 2, 0, 0, 0) := rfl
theorem s53_33 {l0 l1 l2 l3 l4 l5 l6 : AV} {l7 : Int} {h : AH} : evL 53 33 [l0, l1, l2, l3, l4, l5, l6, I l7] [] h = evL 53 35 [l0, l1, l2, l3, l4, l5, l6, I l7] [I l7] h := ev_go c53_33 rfl
theorem c53_35 : cd 53 35 = some (35, .iconst 3, 1, 0, 0, 0) := rfl
theorem s53_35 {l0 l1 l2 l3 l4 l5 l6 l7 s0 : AV} {h : AH} : evL 53 35 [l0, l1, l2, l3, l4, l5, l6, l7] [s0] h = evL 53 36 [l0, l1, l2, l3, l4, l5, l6, l7] [I 3, s0] h := ev_go c53_35 rfl
theorem c53_36 : cd 53 36 = some (36, .if_icmp .gt 31, 3, 0, 0, 0) := rfl
theorem s53_36 {l0 l1 l2 l3 l4 l5 l6 l7 : AV} {s0 s1 : Int} {h : AH} : evL 53 36 [l0, l1, l2, l3, l4, l5, l6, l7] [I s0, I s1] h = if s0 < s1 then evL 53 67 [l0, l1, l2, l3, l4, l5, l6, l7] [] h else evL 53 39 [l0, l1, l2, l3, l4, l5, l6, l7] [] h := e_icmp_gt c53_36 rfl rfl
theorem c53_39 : cd 53 39 = some (39, .aload_n 1, 1, 0, 0, 0) := rfl
theorem s53_39 {l0 l2 l3 l4 l5 l6 l7 : AV} {l1 : Option Nat} {h : AH} : evL 53 39 [l0, .inr (.inl l1), l2, l3, l4, l5, l6, l7] [] h = evL 53 40 [l0, .inr (.inl l1), l2, l3, l4, l5, l6, l7] [.inr (.inl l1)] h := ev_go c53_39 rfl
theorem c53_40 : cd 53 40 = some (40, .aload_n 1, 1, 0, 0, 0) := rfl
theorem s53_40 {l0 l2 l3 l4 l5 l6 l7 s0 : AV} {l1 : Option Nat} {h : AH} : evL 53 40 [l0, .inr (.inl l1), l2, l3, l4, l5, l6, l7] [s0] h = evL 53 41 [l0, .inr (.inl l1), l2, l3, l4, l5, l6, l7] [.inr (.inl l1), s0] h := ev_go c53_40 rfl
theorem c53_41 : cd 53 41 = some (41, .invokevirtual 29, 3, 31, 0, 477) := rfl
theorem s53_41 {l0 l1 l2 l3 l4 l5 l6 l7 s1 : AV} {s0 : Nat} {M : Mem} {P : PMem} (hk : kd s0 = 1) : evL 53 41 [l0, l1, l2, l3, l4, l5, l6, l7] [Rf s0, s1] (Hp M P) = cont (evM 31 [Rf s0] (Hp M P)) (fun r h => evL 53 44 [l0, l1, l2, l3, l4, l5, l6, l7] (rl r [s1]) h) := e_callV (av' := []) (rest := [s1]) (c := 1) c53_41 rfl rfl rfl rfl rfl rfl rfl hk rfl
theorem c53_44 : cd 53 44 = some (44, .iload 4, 2, 0, 0, 0) := rfl
theorem s53_44 {l0 l1 l2 l3 l5 l6 l7 s0 s1 : AV} {l4 : Int} {h : AH} : evL 53 44 [l0, l1, l2, l3, I l4, l5, l6, l7] [s0, s1] h = evL 53 46 [l0, l1, l2, l3, I l4, l5, l6, l7] [I l4, s0, s1] h := ev_go c53_44 rfl
theorem c53_46 : cd 53 46 = some (46, .iload 6, 2, 0, 0, 0) := rfl
theorem s53_46 {l0 l1 l2 l3 l4 l5 l7 s0 s1 s2 : AV} {l6 : Int} {h : AH} : evL 53 46 [l0, l1, l2, l3, l4, l5, I l6, l7] [s0, s1, s2] h = evL 53 48 [l0, l1, l2, l3, l4, l5, I l6, l7] [I l6, s0, s1, s2] h := ev_go c53_46 rfl
theorem c53_48 : cd 53 48 = some (48, .iload 7, 2, 0, 0, 0) := rfl
theorem s53_48 {l0 l1 l2 l3 l4 l5 l6 s0 s1 s2 s3 : AV} {l7 : Int} {h : AH} : evL 53 48 [l0, l1, l2, l3, l4, l5, l6, I l7] [s0, s1, s2, s3] h = evL 53 50 [l0, l1, l2, l3, l4, l5, l6, I l7] [I l7, s0, s1, s2, s3] h := ev_go c53_48 rfl
theorem c53_50 : cd 53 50 = some (50, .iadd, 1, 0, 0, 0) := rfl
theorem s53_50 {l0 l1 l2 l3 l4 l5 l6 l7 s2 s3 s4 : AV} {s0 s1 : Int} {h : AH} : evL 53 50 [l0, l1, l2, l3, l4, l5, l6, l7] [I s0, I s1, s2, s3, s4] h = evL 53 51 [l0, l1, l2, l3, l4, l5, l6, l7] [I (ad s1 s0), s2, s3, s4] h := ev_go c53_50 rfl
theorem c53_51 : cd 53 51 = some (51, .invokevirtual 33, 3, 37, 0, 478) := rfl
theorem s53_51 {l0 l1 l2 l3 l4 l5 l6 l7 : AV} {s0 s1 s2 : Int} {s3 : Nat} {M : Mem} {P : PMem} (hk : kd s3 = 1) : evL 53 51 [l0, l1, l2, l3, l4, l5, l6, l7] [I s0, I s1, I s2, Rf s3] (Hp M P) = cont (evM 37 [Rf s3, I s2, I s1, I s0] (Hp M P)) (fun r h => evL 53 54 [l0, l1, l2, l3, l4, l5, l6, l7] (rl r []) h) := e_callV (av' := [I s2, I s1, I s0]) (rest := []) (c := 1) c53_51 rfl rfl rfl rfl rfl rfl rfl hk rfl
theorem c53_54 : cd 53 54 = some (54, .iload_n 2, 1, 0, 0, 0) := rfl
theorem s53_54 {l0 l1 l3 l4 l5 l6 l7 s0 : AV} {l2 : Int} {h : AH} : evL 53 54 [l0, l1, I l2, l3, l4, l5, l6, l7] [s0] h = evL 53 55 [l0, l1, I l2, l3, l4, l5, l6, l7] [I l2, s0] h := ev_go c53_54 rfl
theorem c53_55 : cd 53 55 = some (55, .if_icmp .ne 6, 3, 0, 0, 0) := rfl
theorem s53_55 {l0 l1 l2 l3 l4 l5 l6 l7 : AV} {s0 s1 : Int} {h : AH} : evL 53 55 [l0, l1, l2, l3, l4, l5, l6, l7] [I s0, I s1] h = if s1 = s0 then evL 53 58 [l0, l1, l2, l3, l4, l5, l6, l7] [] h else evL 53 61 [l0, l1, l2, l3, l4, l5, l6, l7] [] h := e_icmp_ne c53_55 rfl rfl
theorem c53_58 : cd 53 58 = some (58, .iinc 5 1, 3, 0, 0, 0) := rfl
theorem s53_58 {l0 l1 l2 l3 l4 l6 l7 : AV} {l5 : Int} {h : AH} : evL 53 58 [l0, l1, l2, l3, l4, I l5, l6, l7] [] h = evL 53 61 [l0, l1, l2, l3, l4, I (ad l5 1), l6, l7] [] h := ev_go c53_58 rfl
theorem c53_61 : cd 53 61 = some (61, .iinc 7 1, 3, 0, 0, 0) := rfl
theorem s53_61 {l0 l1 l2 l3 l4 l5 l6 : AV} {l7 : Int} {h : AH} : evL 53 61 [l0, l1, l2, l3, l4, l5, l6, I l7] [] h = evL 53 64 [l0, l1, l2, l3, l4, l5, l6, I (ad l7 1)] [] h := ev_go c53_61 rfl
theorem c53_64 : cd 53 64 = some (64, .goto (-31), 3, 0, 0, 0) := rfl
theorem s53_64 {l0 l1 l2 l3 l4 l5 l6 l7 : AV} {h : AH} : evL 53 64 [l0, l1, l2, l3, l4, l5, l6, l7] [] h = evL 53 33 [l0, l1, l2, l3, l4, l5, l6, l7] [] h := ev_go c53_64 rfl
theorem c53_67 : cd 53 67 = some (67, .iinc 6 1, 3, 0, 0, 0) := rfl
theorem s53_67 {l0 l1 l2 l3 l4 l5 l7 : AV} {l6 : Int} {h : AH} : evL 53 67 [l0, l1, l2, l3, l4, l5, I l6, l7] [] h = evL 53 70 [l0, l1, l2, l3, l4, l5, I (ad l6 1), l7] [] h := ev_go c53_67 rfl
theorem c53_70 : cd 53 70 = some (70, .goto (-46), 3, 0, 0, 0) := rfl
theorem s53_70 {l0 l1 l2 l3 l4 l5 l6 l7 : AV} {h : AH} : evL 53 70 [l0, l1, l2, l3, l4, l5, l6, l7] [] h = evL 53 24 [l0, l1, l2, l3, l4, l5, l6, l7] [] h := ev_go c53_70 rfl
theorem c53_73 : cd 53 73 = some (73, .iload 5, 2, 0, 0, 0) := rfl
theorem s53_73 {l0 l1 l2 l3 l4 l6 l7 : AV} {l5 : Int} {h : AH} : evL 53 73 [l0, l1, l2, l3, l4, I l5, l6, l7] [] h = evL 53 75 [l0, l1, l2, l3, l4, I l5, l6, l7] [I l5] h := ev_go c53_73 rfl
theorem c53_75 : cd 53 75 = some (75, .ireturn, 1, 0, 0, 0) := rfl
theorem s53_75 {l0 l1 l2 l3 l4 l5 l6 l7 : AV} {s0 : Int} {h : AH} : evL 53 75 [l0, l1, l2, l3, l4, l5, l6, l7] [I s0] h = some (some (I s0), h) := e_ret c53_75 rfl
/-! 54: TankDivers$Odds.bySums(LTankDivers$Game;IZ)I -/
theorem en54 {l0 l1 l2 l3 : AV} {h : AH} : evM 54 [l0, l1, l2, l3] h = evL 54 0 [l0, l1, l2, l3, Db 0, Db 0, Db 0] [] h := rfl
theorem c54_0 : cd 54 0 = some (0, .iload_n 3, 1, 0, 0, 0) := rfl
theorem s54_0 {l0 l1 l2 l4 l5 l6 : AV} {l3 : Int} {h : AH} : evL 54 0 [l0, l1, l2, I l3, l4, l5, l6] [] h = evL 54 1 [l0, l1, l2, I l3, l4, l5, l6] [I l3] h := ev_go c54_0 rfl
theorem c54_1 : cd 54 1 = some (1, .ifCond .ne 10, 3, 0, 0, 0) := rfl
theorem s54_1 {l0 l1 l2 l3 l4 l5 l6 : AV} {s0 : Int} {h : AH} : evL 54 1 [l0, l1, l2, l3, l4, l5, l6] [I s0] h = if s0 = 0 then evL 54 4 [l0, l1, l2, l3, l4, l5, l6] [] h else evL 54 11 [l0, l1, l2, l3, l4, l5, l6] [] h := e_if_ne c54_1 rfl rfl
theorem c54_4 : cd 54 4 = some (4, .aload_n 1, 1, 0, 0, 0) := rfl
theorem s54_4 {l0 l2 l3 l4 l5 l6 : AV} {l1 : Option Nat} {h : AH} : evL 54 4 [l0, .inr (.inl l1), l2, l3, l4, l5, l6] [] h = evL 54 5 [l0, .inr (.inl l1), l2, l3, l4, l5, l6] [.inr (.inl l1)] h := ev_go c54_4 rfl
theorem c54_5 : cd 54 5 = some (5, .invokevirtual 23, 3, 35, 0, 476) := rfl
theorem s54_5 {l0 l1 l2 l3 l4 l5 l6 : AV} {s0 : Nat} {M : Mem} {P : PMem} (hk : kd s0 = 1) : evL 54 5 [l0, l1, l2, l3, l4, l5, l6] [Rf s0] (Hp M P) = cont (evM 35 [Rf s0] (Hp M P)) (fun r h => evL 54 8 [l0, l1, l2, l3, l4, l5, l6] (rl r []) h) := e_callV (av' := []) (rest := []) (c := 1) c54_5 rfl rfl rfl rfl rfl rfl rfl hk rfl
theorem c54_8 : cd 54 8 = some (8, .ifCond .eq 7, 3, 0, 0, 0) := rfl
theorem s54_8 {l0 l1 l2 l3 l4 l5 l6 : AV} {s0 : Int} {h : AH} : evL 54 8 [l0, l1, l2, l3, l4, l5, l6] [I s0] h = if s0 = 0 then evL 54 15 [l0, l1, l2, l3, l4, l5, l6] [] h else evL 54 11 [l0, l1, l2, l3, l4, l5, l6] [] h := e_if_eq c54_8 rfl rfl
theorem c54_11 : cd 54 11 = some (11, .iconst 1, 1, 0, 0, 0) := rfl
theorem s54_11 {l0 l1 l2 l3 l4 l5 l6 : AV} {h : AH} : evL 54 11 [l0, l1, l2, l3, l4, l5, l6] [] h = evL 54 12 [l0, l1, l2, l3, l4, l5, l6] [I 1] h := ev_go c54_11 rfl
theorem c54_12 : cd 54 12 = some (12, .goto 4, 3, 0, 0, 0) := rfl
theorem s54_12 {l0 l1 l2 l3 l4 l5 l6 s0 : AV} {h : AH} : evL 54 12 [l0, l1, l2, l3, l4, l5, l6] [s0] h = evL 54 16 [l0, l1, l2, l3, l4, l5, l6] [s0] h := ev_go c54_12 rfl
theorem c54_15 : cd 54 15 = some (15, .iconst 0, 1, 0, 0, 0) := rfl
theorem s54_15 {l0 l1 l2 l3 l4 l5 l6 : AV} {h : AH} : evL 54 15 [l0, l1, l2, l3, l4, l5, l6] [] h = evL 54 16 [l0, l1, l2, l3, l4, l5, l6] [I 0] h := ev_go c54_15 rfl
theorem c54_16 : cd 54 16 = some (16, .istore 4, 2, 0, 0, 0) := rfl
theorem s54_16 {l0 l1 l2 l3 l4 l5 l6 : AV} {s0 : Int} {h : AH} : evL 54 16 [l0, l1, l2, l3, l4, l5, l6] [I s0] h = evL 54 18 [l0, l1, l2, l3, I s0, l5, l6] [] h := ev_go c54_16 rfl
theorem c54_18 : cd 54 18 = some (18, .iconst 0, 1, 0, 0, 0) := rfl
theorem s54_18 {l0 l1 l2 l3 l4 l5 l6 : AV} {h : AH} : evL 54 18 [l0, l1, l2, l3, l4, l5, l6] [] h = evL 54 19 [l0, l1, l2, l3, l4, l5, l6] [I 0] h := ev_go c54_18 rfl
theorem c54_19 : cd 54 19 = some (19, .istore 5, 2, 0, 0, 0) := rfl
theorem s54_19 {l0 l1 l2 l3 l4 l5 l6 : AV} {s0 : Int} {h : AH} : evL 54 19 [l0, l1, l2, l3, l4, l5, l6] [I s0] h = evL 54 21 [l0, l1, l2, l3, l4, I s0, l6] [] h := ev_go c54_19 rfl
theorem c54_21 : cd 54 21 = some (21, .iconst 2, 1, 0, 0, 0) := rfl
theorem s54_21 {l0 l1 l2 l3 l4 l5 l6 : AV} {h : AH} : evL 54 21 [l0, l1, l2, l3, l4, l5, l6] [] h = evL 54 22 [l0, l1, l2, l3, l4, l5, l6] [I 2] h := ev_go c54_21 rfl
theorem c54_22 : cd 54 22 = some (22, .istore 6, 2, 0, 0, 0) := rfl
theorem s54_22 {l0 l1 l2 l3 l4 l5 l6 : AV} {s0 : Int} {h : AH} : evL 54 22 [l0, l1, l2, l3, l4, l5, l6] [I s0] h = evL 54 24 [l0, l1, l2, l3, l4, l5, I s0] [] h := ev_go c54_22 rfl
theorem c54_24 : cd 54 24 = some (24, .iload 6, 2, 0, 0, 0) := rfl
theorem s54_24 {l0 l1 l2 l3 l4 l5 : AV} {l6 : Int} {h : AH} : evL 54 24 [l0, l1, l2, l3, l4, l5, I l6] [] h = evL 54 26 [l0, l1, l2, l3, l4, l5, I l6] [I l6] h := ev_go c54_24 rfl
theorem c54_26 : cd 54 26 = some (26, .bipush 6, 2, 0, 0, 0) := rfl
theorem s54_26 {l0 l1 l2 l3 l4 l5 l6 s0 : AV} {h : AH} : evL 54 26 [l0, l1, l2, l3, l4, l5, l6] [s0] h = evL 54 28 [l0, l1, l2, l3, l4, l5, l6] [I 6, s0] h := ev_go c54_26 rfl
theorem c54_28 : cd 54 28 = some (28, .if_icmp .gt 35, 3, 0, 0, 0) := rfl
theorem s54_28 {l0 l1 l2 l3 l4 l5 l6 : AV} {s0 s1 : Int} {h : AH} : evL 54 28 [l0, l1, l2, l3, l4, l5, l6] [I s0, I s1] h = if s0 < s1 then evL 54 63 [l0, l1, l2, l3, l4, l5, l6] [] h else evL 54 31 [l0, l1, l2, l3, l4, l5, l6] [] h := e_icmp_gt c54_28 rfl rfl
theorem c54_31 : cd 54 31 = some (31, .aload_n 1, 1, 0, 0, 0) := rfl
theorem s54_31 {l0 l2 l3 l4 l5 l6 : AV} {l1 : Option Nat} {h : AH} : evL 54 31 [l0, .inr (.inl l1), l2, l3, l4, l5, l6] [] h = evL 54 32 [l0, .inr (.inl l1), l2, l3, l4, l5, l6] [.inr (.inl l1)] h := ev_go c54_31 rfl
theorem c54_32 : cd 54 32 = some (32, .aload_n 1, 1, 0, 0, 0) := rfl
theorem s54_32 {l0 l2 l3 l4 l5 l6 s0 : AV} {l1 : Option Nat} {h : AH} : evL 54 32 [l0, .inr (.inl l1), l2, l3, l4, l5, l6] [s0] h = evL 54 33 [l0, .inr (.inl l1), l2, l3, l4, l5, l6] [.inr (.inl l1), s0] h := ev_go c54_32 rfl
theorem c54_33 : cd 54 33 = some (33, .invokevirtual 29, 3, 31, 0, 477) := rfl
theorem s54_33 {l0 l1 l2 l3 l4 l5 l6 s1 : AV} {s0 : Nat} {M : Mem} {P : PMem} (hk : kd s0 = 1) : evL 54 33 [l0, l1, l2, l3, l4, l5, l6] [Rf s0, s1] (Hp M P) = cont (evM 31 [Rf s0] (Hp M P)) (fun r h => evL 54 36 [l0, l1, l2, l3, l4, l5, l6] (rl r [s1]) h) := e_callV (av' := []) (rest := [s1]) (c := 1) c54_33 rfl rfl rfl rfl rfl rfl rfl hk rfl
theorem c54_36 : cd 54 36 = some (36, .iload 4, 2, 0, 0, 0) := rfl
theorem s54_36 {l0 l1 l2 l3 l5 l6 s0 s1 : AV} {l4 : Int} {h : AH} : evL 54 36 [l0, l1, l2, l3, I l4, l5, l6] [s0, s1] h = evL 54 38 [l0, l1, l2, l3, I l4, l5, l6] [I l4, s0, s1] h := ev_go c54_36 rfl
theorem c54_38 : cd 54 38 = some (38, .iload 6, 2, 0, 0, 0) := rfl
theorem s54_38 {l0 l1 l2 l3 l4 l5 s0 s1 s2 : AV} {l6 : Int} {h : AH} : evL 54 38 [l0, l1, l2, l3, l4, l5, I l6] [s0, s1, s2] h = evL 54 40 [l0, l1, l2, l3, l4, l5, I l6] [I l6, s0, s1, s2] h := ev_go c54_38 rfl
theorem c54_40 : cd 54 40 = some (40, .invokevirtual 33, 3, 37, 0, 478) := rfl
theorem s54_40 {l0 l1 l2 l3 l4 l5 l6 : AV} {s0 s1 s2 : Int} {s3 : Nat} {M : Mem} {P : PMem} (hk : kd s3 = 1) : evL 54 40 [l0, l1, l2, l3, l4, l5, l6] [I s0, I s1, I s2, Rf s3] (Hp M P) = cont (evM 37 [Rf s3, I s2, I s1, I s0] (Hp M P)) (fun r h => evL 54 43 [l0, l1, l2, l3, l4, l5, l6] (rl r []) h) := e_callV (av' := [I s2, I s1, I s0]) (rest := []) (c := 1) c54_40 rfl rfl rfl rfl rfl rfl rfl hk rfl
theorem c54_43 : cd 54 43 = some (43, .iload_n 2, 1, 0, 0, 0) := rfl
theorem s54_43 {l0 l1 l3 l4 l5 l6 s0 : AV} {l2 : Int} {h : AH} : evL 54 43 [l0, l1, I l2, l3, l4, l5, l6] [s0] h = evL 54 44 [l0, l1, I l2, l3, l4, l5, l6] [I l2, s0] h := ev_go c54_43 rfl
theorem c54_44 : cd 54 44 = some (44, .if_icmp .ne 13, 3, 0, 0, 0) := rfl
theorem s54_44 {l0 l1 l2 l3 l4 l5 l6 : AV} {s0 s1 : Int} {h : AH} : evL 54 44 [l0, l1, l2, l3, l4, l5, l6] [I s0, I s1] h = if s1 = s0 then evL 54 47 [l0, l1, l2, l3, l4, l5, l6] [] h else evL 54 57 [l0, l1, l2, l3, l4, l5, l6] [] h := e_icmp_ne c54_44 rfl rfl
theorem c54_47 : cd 54 47 = some (47, .iload 5, 2, 0, 0, 0) := rfl
theorem s54_47 {l0 l1 l2 l3 l4 l6 : AV} {l5 : Int} {h : AH} : evL 54 47 [l0, l1, l2, l3, l4, I l5, l6] [] h = evL 54 49 [l0, l1, l2, l3, l4, I l5, l6] [I l5] h := ev_go c54_47 rfl
theorem c54_49 : cd 54 49 = some (49, .iload 6, 2, 0, 0, 0) := rfl
theorem s54_49 {l0 l1 l2 l3 l4 l5 s0 : AV} {l6 : Int} {h : AH} : evL 54 49 [l0, l1, l2, l3, l4, l5, I l6] [s0] h = evL 54 51 [l0, l1, l2, l3, l4, l5, I l6] [I l6, s0] h := ev_go c54_49 rfl
theorem c54_51 : cd 54 51 = some (51, .invokestatic 37, 3, 55, 0, 498) := rfl
theorem s54_51 {l0 l1 l2 l3 l4 l5 l6 s1 : AV} {s0 : Int} {M : Mem} {P : PMem} : evL 54 51 [l0, l1, l2, l3, l4, l5, l6] [I s0, s1] (Hp M P) = cont (evM 55 [I s0] (Hp M P)) (fun r h => evL 54 54 [l0, l1, l2, l3, l4, l5, l6] (rl r [s1]) h) := e_callS (av := [I s0]) (rest := [s1]) c54_51 rfl rfl rfl rfl rfl rfl
theorem c54_54 : cd 54 54 = some (54, .iadd, 1, 0, 0, 0) := rfl
theorem s54_54 {l0 l1 l2 l3 l4 l5 l6 : AV} {s0 s1 : Int} {h : AH} : evL 54 54 [l0, l1, l2, l3, l4, l5, l6] [I s0, I s1] h = evL 54 55 [l0, l1, l2, l3, l4, l5, l6] [I (ad s1 s0)] h := ev_go c54_54 rfl
theorem c54_55 : cd 54 55 = some (55, .istore 5, 2, 0, 0, 0) := rfl
theorem s54_55 {l0 l1 l2 l3 l4 l5 l6 : AV} {s0 : Int} {h : AH} : evL 54 55 [l0, l1, l2, l3, l4, l5, l6] [I s0] h = evL 54 57 [l0, l1, l2, l3, l4, I s0, l6] [] h := ev_go c54_55 rfl
theorem c54_57 : cd 54 57 = some (57, .iinc 6 1, 3, 0, 0, 0) := rfl
theorem s54_57 {l0 l1 l2 l3 l4 l5 : AV} {l6 : Int} {h : AH} : evL 54 57 [l0, l1, l2, l3, l4, l5, I l6] [] h = evL 54 60 [l0, l1, l2, l3, l4, l5, I (ad l6 1)] [] h := ev_go c54_57 rfl
theorem c54_60 : cd 54 60 = some (60, .goto (-36), 3, 0, 0, 0) := rfl
theorem s54_60 {l0 l1 l2 l3 l4 l5 l6 : AV} {h : AH} : evL 54 60 [l0, l1, l2, l3, l4, l5, l6] [] h = evL 54 24 [l0, l1, l2, l3, l4, l5, l6] [] h := ev_go c54_60 rfl
theorem c54_63 : cd 54 63 = some (63, .iload 5, 2, 0, 0, 0) := rfl
theorem s54_63 {l0 l1 l2 l3 l4 l6 : AV} {l5 : Int} {h : AH} : evL 54 63 [l0, l1, l2, l3, l4, I l5, l6] [] h = evL 54 65 [l0, l1, l2, l3, l4, I l5, l6] [I l5] h := ev_go c54_63 rfl
theorem c54_65 : cd 54 65 = some (65, .ireturn, 1, 0, 0, 0) := rfl
theorem s54_65 {l0 l1 l2 l3 l4 l5 l6 : AV} {s0 : Int} {h : AH} : evL 54 65 [l0, l1, l2, l3, l4, l5, l6] [I s0] h = some (some (I s0), h) := e_ret c54_65 rfl
/-! 55: TankDivers$Odds.throwsShowing(I)I -/
theorem en55 {l0 : AV} {h : AH} : evM 55 [l0] h = evL 55 0 [l0] [] h := rfl
theorem c55_0 : cd 55 0 = some (0, .iconst 3, 1, 0, 0, 0) := rfl
theorem s55_0 {l0 : AV} {h : AH} : evL 55 0 [l0] [] h = evL 55 1 [l0] [I 3] h := ev_go c55_0 rfl
theorem c55_1 : cd 55 1 = some (1, .iload_n 0, 1, 0, 0, 0) := rfl
theorem s55_1 {s0 : AV} {l0 : Int} {h : AH} : evL 55 1 [I l0] [s0] h = evL 55 2 [I l0] [I l0, s0] h := ev_go c55_1 rfl
theorem c55_2 : cd 55 2 = some (2, .iconst 3, 1, 0, 0, 0) := rfl
theorem s55_2 {l0 s0 s1 : AV} {h : AH} : evL 55 2 [l0] [s0, s1] h = evL 55 3 [l0] [I 3, s0, s1] h := ev_go c55_2 rfl
theorem c55_3 : cd 55 3 = some (3, .isub, 1, 0, 0, 0) := rfl
theorem s55_3 {l0 s2 : AV} {s0 s1 : Int} {h : AH} : evL 55 3 [l0] [I s0, I s1, s2] h = evL 55 4 [l0] [I (sb s1 s0), s2] h := ev_go c55_3 rfl
theorem c55_4 : cd 55 4 = some (4, .iconst 1, 1, 0, 0, 0) := rfl
theorem s55_4 {l0 s0 s1 : AV} {h : AH} : evL 55 4 [l0] [s0, s1] h = evL 55 5 [l0] [I 1, s0, s1] h := ev_go c55_4 rfl
theorem c55_5 : cd 55 5 = some (5, .isub, 1, 0, 0, 0) := rfl
theorem s55_5 {l0 s2 : AV} {s0 s1 : Int} {h : AH} : evL 55 5 [l0] [I s0, I s1, s2] h = evL 55 6 [l0] [I (sb s1 s0), s2] h := ev_go c55_5 rfl
theorem c55_6 : cd 55 6 = some (6, .invokestatic 41, 3, 900, 0, 501) := rfl
theorem s55_6 {l0 s1 : AV} {s0 : Int} {h : AH} : evL 55 6 [l0] [I s0, s1] h = evL 55 9 [l0] [I (if 0 ≤ s0 then s0 else sb 0 s0), s1] h := e_math c55_6 (Nat.le_of_ble_eq_true rfl) rfl (Nat.le_of_ble_eq_true rfl) ⟨Nat.le_of_ble_eq_true rfl, Nat.le_of_ble_eq_true rfl⟩
theorem c55_9 : cd 55 9 = some (9, .isub, 1, 0, 0, 0) := rfl
theorem s55_9 {l0 : AV} {s0 s1 : Int} {h : AH} : evL 55 9 [l0] [I s0, I s1] h = evL 55 10 [l0] [I (sb s1 s0)] h := ev_go c55_9 rfl
theorem c55_10 : cd 55 10 = some (10, .ireturn, 1, 0, 0, 0) := rfl
theorem s55_10 {l0 : AV} {s0 : Int} {h : AH} : evL 55 10 [l0] [I s0] h = some (some (I s0), h) := e_ret c55_10 rfl
/-! 56: TankDivers$Odds.home(LTankDivers$Game;I)I -/
theorem en56 {l0 l1 l2 : AV} {h : AH} : evM 56 [l0, l1, l2] h = evL 56 0 [l0, l1, l2, Db 0] [] h := rfl
theorem c56_0 : cd 56 0 = some (0, .aload_n 0, 1, 0, 0, 0) := rfl
theorem s56_0 {l1 l2 l3 : AV} {l0 : Option Nat} {h : AH} : evL 56 0 [.inr (.inl l0), l1, l2, l3] [] h = evL 56 1 [.inr (.inl l0), l1, l2, l3] [.inr (.inl l0)] h := ev_go c56_0 rfl
theorem c56_1 : cd 56 1 = some (1, .getfield 14, 3, 3, 0, 192) := rfl
theorem s56_1 {l0 l1 l2 l3 : AV} {s0 : Nat} {M : Mem} {P : PMem} (hk : kd s0 = 3) : evL 56 1 [l0, l1, l2, l3] [Rf s0] (Hp M P) = evL 56 4 [l0, l1, l2, l3] [Rf (rfd s0 0)] (Hp M P) := e_getR c56_1 rfl hk
theorem c56_4 : cd 56 4 = some (4, .invokevirtual 46, 3, 84, 0, 513) := rfl
theorem s56_4 {l0 l1 l2 l3 : AV} {s0 : Nat} {M : Mem} {P : PMem} (hk : kd s0 = 6) : evL 56 4 [l0, l1, l2, l3] [Rf s0] (Hp M P) = cont (evM 84 [Rf s0] (Hp M P)) (fun r h => evL 56 7 [l0, l1, l2, l3] (rl r []) h) := e_callV (av' := []) (rest := []) (c := 6) c56_4 rfl rfl rfl rfl rfl rfl rfl hk rfl
theorem c56_7 : cd 56 7 = some (7, .aload_n 0, 1, 0, 0, 0) := rfl
theorem s56_7 {l1 l2 l3 : AV} {l0 : Option Nat} {h : AH} : evL 56 7 [.inr (.inl l0), l1, l2, l3] [] h = evL 56 8 [.inr (.inl l0), l1, l2, l3] [.inr (.inl l0)] h := ev_go c56_7 rfl
theorem c56_8 : cd 56 8 = some (8, .getfield 14, 3, 3, 0, 192) := rfl
theorem s56_8 {l0 l1 l2 l3 : AV} {s0 : Nat} {M : Mem} {P : PMem} (hk : kd s0 = 3) : evL 56 8 [l0, l1, l2, l3] [Rf s0] (Hp M P) = evL 56 11 [l0, l1, l2, l3] [Rf (rfd s0 0)] (Hp M P) := e_getR c56_8 rfl hk
theorem c56_11 : cd 56 11 = some (11, .aload_n 1, 1, 0, 0, 0) := rfl
theorem s56_11 {l0 l2 l3 s0 : AV} {l1 : Option Nat} {h : AH} : evL 56 11 [l0, .inr (.inl l1), l2, l3] [s0] h = evL 56 12 [l0, .inr (.inl l1), l2, l3] [.inr (.inl l1), s0] h := ev_go c56_11 rfl
theorem c56_12 : cd 56 12 = some (12, .invokevirtual 29, 3, 31, 0, 477) := rfl
theorem s56_12 {l0 l1 l2 l3 s1 : AV} {s0 : Nat} {M : Mem} {P : PMem} (hk : kd s0 = 1) : evL 56 12 [l0, l1, l2, l3] [Rf s0, s1] (Hp M P) = cont (evM 31 [Rf s0] (Hp M P)) (fun r h => evL 56 15 [l0, l1, l2, l3] (rl r [s1]) h) := e_callV (av' := []) (rest := [s1]) (c := 1) c56_12 rfl rfl rfl rfl rfl rfl rfl hk rfl
theorem c56_15 : cd 56 15 = some (15, .iconst 1, 1, 0, 0, 0) := rfl
theorem s56_15 {l0 l1 l2 l3 s0 s1 : AV} {h : AH} : evL 56 15 [l0, l1, l2, l3] [s0, s1] h = evL 56 16 [l0, l1, l2, l3] [I 1, s0, s1] h := ev_go c56_15 rfl
theorem c56_16 : cd 56 16 = some (16, .invokevirtual 49, 3, 81, 0, 514) := rfl
theorem s56_16 {l0 l1 l2 l3 : AV} {s0 s1 : Int} {s2 : Nat} {M : Mem} {P : PMem} (hk : kd s2 = 6) : evL 56 16 [l0, l1, l2, l3] [I s0, I s1, Rf s2] (Hp M P) = cont (evM 81 [Rf s2, I s1, I s0] (Hp M P)) (fun r h => evL 56 19 [l0, l1, l2, l3] (rl r []) h) := e_callV (av' := [I s1, I s0]) (rest := []) (c := 6) c56_16 rfl rfl rfl rfl rfl rfl rfl hk rfl
theorem c56_19 : cd 56 19 = some (19, .iconst 0, 1, 0, 0, 0) := rfl
theorem s56_19 {l0 l1 l2 l3 : AV} {h : AH} : evL 56 19 [l0, l1, l2, l3] [] h = evL 56 20 [l0, l1, l2, l3] [I 0] h := ev_go c56_19 rfl
theorem c56_20 : cd 56 20 = some (20, .istore_n 3, 1, 0, 0, 0) := rfl
theorem s56_20 {l0 l1 l2 l3 : AV} {s0 : Int} {h : AH} : evL 56 20 [l0, l1, l2, l3] [I s0] h = evL 56 21 [l0, l1, l2, I s0] [] h := ev_go c56_20 rfl
theorem c56_21 : cd 56 21 = some (21, .iload_n 3, 1, 0, 0, 0) := rfl
theorem s56_21 {l0 l1 l2 : AV} {l3 : Int} {h : AH} : evL 56 21 [l0, l1, l2, I l3] [] h = evL 56 22 [l0, l1, l2, I l3] [I l3] h := ev_go c56_21 rfl
theorem c56_22 : cd 56 22 = some (22, .iload_n 2, 1, 0, 0, 0) := rfl
theorem s56_22 {l0 l1 l3 s0 : AV} {l2 : Int} {h : AH} : evL 56 22 [l0, l1, I l2, l3] [s0] h = evL 56 23 [l0, l1, I l2, l3] [I l2, s0] h := ev_go c56_22 rfl
theorem c56_23 : cd 56 23 = some (23, .if_icmp .ge 14, 3, 0, 0, 0) := rfl
theorem s56_23 {l0 l1 l2 l3 : AV} {s0 s1 : Int} {h : AH} : evL 56 23 [l0, l1, l2, l3] [I s0, I s1] h = if s0 ≤ s1 then evL 56 37 [l0, l1, l2, l3] [] h else evL 56 26 [l0, l1, l2, l3] [] h := e_icmp_ge c56_23 rfl rfl
theorem c56_26 : cd 56 26 = some (26, .aload_n 0, 1, 0, 0, 0) := rfl
theorem s56_26 {l1 l2 l3 : AV} {l0 : Option Nat} {h : AH} : evL 56 26 [.inr (.inl l0), l1, l2, l3] [] h = evL 56 27 [.inr (.inl l0), l1, l2, l3] [.inr (.inl l0)] h := ev_go c56_26 rfl
theorem c56_27 : cd 56 27 = some (27, .aload_n 1, 1, 0, 0, 0) := rfl
theorem s56_27 {l0 l2 l3 s0 : AV} {l1 : Option Nat} {h : AH} : evL 56 27 [l0, .inr (.inl l1), l2, l3] [s0] h = evL 56 28 [l0, .inr (.inl l1), l2, l3] [.inr (.inl l1), s0] h := ev_go c56_27 rfl
theorem c56_28 : cd 56 28 = some (28, .invokevirtual 53, 3, 57, 0, 515) := rfl
theorem s56_28 {l0 l1 l2 l3 : AV} {s0 s1 : Nat} {M : Mem} {P : PMem} (hk : kd s1 = 3) : evL 56 28 [l0, l1, l2, l3] [Rf s0, Rf s1] (Hp M P) = cont (evM 57 [Rf s1, Rf s0] (Hp M P)) (fun r h => evL 56 31 [l0, l1, l2, l3] (rl r []) h) := e_callV (av' := [Rf s0]) (rest := []) (c := 3) c56_28 rfl rfl rfl rfl rfl rfl rfl hk rfl
theorem c56_31 : cd 56 31 = some (31, .iinc 3 1, 3, 0, 0, 0) := rfl
theorem s56_31 {l0 l1 l2 : AV} {l3 : Int} {h : AH} : evL 56 31 [l0, l1, l2, I l3] [] h = evL 56 34 [l0, l1, l2, I (ad l3 1)] [] h := ev_go c56_31 rfl
theorem c56_34 : cd 56 34 = some (34, .goto (-13), 3, 0, 0, 0) := rfl
theorem s56_34 {l0 l1 l2 l3 : AV} {h : AH} : evL 56 34 [l0, l1, l2, l3] [] h = evL 56 21 [l0, l1, l2, l3] [] h := ev_go c56_34 rfl
theorem c56_37 : cd 56 37 = some (37, .aload_n 0, 1, 0, 0, 0) := rfl
theorem s56_37 {l1 l2 l3 : AV} {l0 : Option Nat} {h : AH} : evL 56 37 [.inr (.inl l0), l1, l2, l3] [] h = evL 56 38 [.inr (.inl l0), l1, l2, l3] [.inr (.inl l0)] h := ev_go c56_37 rfl
theorem c56_38 : cd 56 38 = some (38, .getfield 14, 3, 3, 0, 192) := rfl
theorem s56_38 {l0 l1 l2 l3 : AV} {s0 : Nat} {M : Mem} {P : PMem} (hk : kd s0 = 3) : evL 56 38 [l0, l1, l2, l3] [Rf s0] (Hp M P) = evL 56 41 [l0, l1, l2, l3] [Rf (rfd s0 0)] (Hp M P) := e_getR c56_38 rfl hk
theorem c56_41 : cd 56 41 = some (41, .iconst 0, 1, 0, 0, 0) := rfl
theorem s56_41 {l0 l1 l2 l3 s0 : AV} {h : AH} : evL 56 41 [l0, l1, l2, l3] [s0] h = evL 56 42 [l0, l1, l2, l3] [I 0, s0] h := ev_go c56_41 rfl
theorem c56_42 : cd 56 42 = some (42, .invokevirtual 57, 3, 80, 0, 519) := rfl
theorem s56_42 {l0 l1 l2 l3 : AV} {s0 : Int} {s1 : Nat} {M : Mem} {P : PMem} (hk : kd s1 = 6) : evL 56 42 [l0, l1, l2, l3] [I s0, Rf s1] (Hp M P) = cont (evM 80 [Rf s1, I s0] (Hp M P)) (fun r h => evL 56 45 [l0, l1, l2, l3] (rl r []) h) := e_callV (av' := [I s0]) (rest := []) (c := 6) c56_42 rfl rfl rfl rfl rfl rfl rfl hk rfl
theorem c56_45 : cd 56 45 = some (45, .ireturn, 1, 0, 0, 0) := rfl
theorem s56_45 {l0 l1 l2 l3 : AV} {s0 : Int} {h : AH} : evL 56 45 [l0, l1, l2, l3] [I s0] h = some (some (I s0), h) := e_ret c56_45 rfl
/-! 57: TankDivers$Odds.moveUp(LTankDivers$Game;)V -/
theorem en57 {l0 l1 : AV} {h : AH} : evM 57 [l0, l1] h = evL 57 0 [l0, l1, Db 0, Db 0, Db 0] [] h := rfl
theorem c57_0 : cd 57 0 = some (0, .aload_n 0, 1, 0, 0, 0) := rfl
theorem s57_0 {l1 l2 l3 l4 : AV} {l0 : Option Nat} {h : AH} : evL 57 0 [.inr (.inl l0), l1, l2, l3, l4] [] h = evL 57 1 [.inr (.inl l0), l1, l2, l3, l4] [.inr (.inl l0)] h := ev_go c57_0 rfl
theorem c57_1 : cd 57 1 = some (1, .getfield 20, 3, 3, 1, 193) := rfl
theorem s57_1 {l0 l1 l2 l3 l4 : AV} {s0 : Nat} {M : Mem} {P : PMem} (hk : kd s0 = 3) : evL 57 1 [l0, l1, l2, l3, l4] [Rf s0] (Hp M P) = evL 57 4 [l0, l1, l2, l3, l4] [Rf (rfd s0 1)] (Hp M P) := e_getR c57_1 rfl hk
theorem c57_4 : cd 57 4 = some (4, .invokevirtual 46, 3, 84, 0, 513) := rfl
theorem s57_4 {l0 l1 l2 l3 l4 : AV} {s0 : Nat} {M : Mem} {P : PMem} (hk : kd s0 = 6) : evL 57 4 [l0, l1, l2, l3, l4] [Rf s0] (Hp M P) = cont (evM 84 [Rf s0] (Hp M P)) (fun r h => evL 57 7 [l0, l1, l2, l3, l4] (rl r []) h) := e_callV (av' := []) (rest := []) (c := 6) c57_4 rfl rfl rfl rfl rfl rfl rfl hk rfl
theorem c57_7 : cd 57 7 = some (7, .aload_n 0, 1, 0, 0, 0) := rfl
theorem s57_7 {l1 l2 l3 l4 : AV} {l0 : Option Nat} {h : AH} : evL 57 7 [.inr (.inl l0), l1, l2, l3, l4] [] h = evL 57 8 [.inr (.inl l0), l1, l2, l3, l4] [.inr (.inl l0)] h := ev_go c57_7 rfl
theorem c57_8 : cd 57 8 = some (8, .getfield 20, 3, 3, 1, 193) := rfl
theorem s57_8 {l0 l1 l2 l3 l4 : AV} {s0 : Nat} {M : Mem} {P : PMem} (hk : kd s0 = 3) : evL 57 8 [l0, l1, l2, l3, l4] [Rf s0] (Hp M P) = evL 57 11 [l0, l1, l2, l3, l4] [Rf (rfd s0 1)] (Hp M P) := e_getR c57_8 rfl hk
theorem c57_11 : cd 57 11 = some (11, .iconst 0, 1, 0, 0, 0) := rfl
theorem s57_11 {l0 l1 l2 l3 l4 s0 : AV} {h : AH} : evL 57 11 [l0, l1, l2, l3, l4] [s0] h = evL 57 12 [l0, l1, l2, l3, l4] [I 0, s0] h := ev_go c57_11 rfl
theorem c57_12 : cd 57 12 = some (12, .aload_n 0, 1, 0, 0, 0) := rfl
theorem s57_12 {l1 l2 l3 l4 s0 s1 : AV} {l0 : Option Nat} {h : AH} : evL 57 12 [.inr (.inl l0), l1, l2, l3, l4] [s0, s1] h = evL 57 13 [.inr (.inl l0), l1, l2, l3, l4] [.inr (.inl l0), s0, s1] h := ev_go c57_12 rfl
theorem c57_13 : cd 57 13 = some (13, .getfield 14, 3, 3, 0, 192) := rfl
theorem s57_13 {l0 l1 l2 l3 l4 s1 s2 : AV} {s0 : Nat} {M : Mem} {P : PMem} (hk : kd s0 = 3) : evL 57 13 [l0, l1, l2, l3, l4] [Rf s0, s1, s2] (Hp M P) = evL 57 16 [l0, l1, l2, l3, l4] [Rf (rfd s0 0), s1, s2] (Hp M P) := e_getR c57_13 rfl hk
theorem c57_16 : cd 57 16 = some (16, .iconst 0, 1, 0, 0, 0) := rfl
theorem s57_16 {l0 l1 l2 l3 l4 s0 s1 s2 : AV} {h : AH} : evL 57 16 [l0, l1, l2, l3, l4] [s0, s1, s2] h = evL 57 17 [l0, l1, l2, l3, l4] [I 0, s0, s1, s2] h := ev_go c57_16 rfl
theorem c57_17 : cd 57 17 = some (17, .invokevirtual 57, 3, 80, 0, 519) := rfl
theorem s57_17 {l0 l1 l2 l3 l4 s2 s3 : AV} {s0 : Int} {s1 : Nat} {M : Mem} {P : PMem} (hk : kd s1 = 6) : evL 57 17 [l0, l1, l2, l3, l4] [I s0, Rf s1, s2, s3] (Hp M P) = cont (evM 80 [Rf s1, I s0] (Hp M P)) (fun r h => evL 57 20 [l0, l1, l2, l3, l4] (rl r [s2, s3]) h) := e_callV (av' := [I s0]) (rest := [s2, s3]) (c := 6) c57_17 rfl rfl rfl rfl rfl rfl rfl hk rfl
theorem c57_20 : cd 57 20 = some (20, .bipush 9, 2, 0, 0, 0) := rfl
theorem s57_20 {l0 l1 l2 l3 l4 s0 s1 s2 : AV} {h : AH} : evL 57 20 [l0, l1, l2, l3, l4] [s0, s1, s2] h = evL 57 22 [l0, l1, l2, l3, l4] [I 9, s0, s1, s2] h := ev_go c57_20 rfl
theorem c57_22 : cd 57 22 = some (22, .imul, 1, 0, 0, 0) := rfl
theorem s57_22 {l0 l1 l2 l3 l4 s2 s3 : AV} {s0 s1 : Int} {h : AH} : evL 57 22 [l0, l1, l2, l3, l4] [I s0, I s1, s2, s3] h = evL 57 23 [l0, l1, l2, l3, l4] [I (ml s1 s0), s2, s3] h := ev_go c57_22 rfl
theorem c57_23 : cd 57 23 = some (23, .invokevirtual 49, 3, 81, 0, 514) := rfl
theorem s57_23 {l0 l1 l2 l3 l4 : AV} {s0 s1 : Int} {s2 : Nat} {M : Mem} {P : PMem} (hk : kd s2 = 6) : evL 57 23 [l0, l1, l2, l3, l4] [I s0, I s1, Rf s2] (Hp M P) = cont (evM 81 [Rf s2, I s1, I s0] (Hp M P)) (fun r h => evL 57 26 [l0, l1, l2, l3, l4] (rl r []) h) := e_callV (av' := [I s1, I s0]) (rest := []) (c := 6) c57_23 rfl rfl rfl rfl rfl rfl rfl hk rfl
theorem c57_26 : cd 57 26 = some (26, .iconst 1, 1, 0, 0, 0) := rfl
theorem s57_26 {l0 l1 l2 l3 l4 : AV} {h : AH} : evL 57 26 [l0, l1, l2, l3, l4] [] h = evL 57 27 [l0, l1, l2, l3, l4] [I 1] h := ev_go c57_26 rfl
theorem c57_27 : cd 57 27 = some (27, .istore_n 2, 1, 0, 0, 0) := rfl
theorem s57_27 {l0 l1 l2 l3 l4 : AV} {s0 : Int} {h : AH} : evL 57 27 [l0, l1, l2, l3, l4] [I s0] h = evL 57 28 [l0, l1, I s0, l3, l4] [] h := ev_go c57_27 rfl
theorem c57_28 : cd 57 28 = some (28, .iload_n 2, 1, 0, 0, 0) := rfl
theorem s57_28 {l0 l1 l3 l4 : AV} {l2 : Int} {h : AH} : evL 57 28 [l0, l1, I l2, l3, l4] [] h = evL 57 29 [l0, l1, I l2, l3, l4] [I l2] h := ev_go c57_28 rfl
theorem c57_29 : cd 57 29 = some (29, .aload_n 1, 1, 0, 0, 0) := rfl
theorem s57_29 {l0 l2 l3 l4 s0 : AV} {l1 : Option Nat} {h : AH} : evL 57 29 [l0, .inr (.inl l1), l2, l3, l4] [s0] h = evL 57 30 [l0, .inr (.inl l1), l2, l3, l4] [.inr (.inl l1), s0] h := ev_go c57_29 rfl
theorem c57_30 : cd 57 30 = some (30, .getfield 60, 3, 1, 0, 113) := rfl
theorem s57_30 {l0 l1 l2 l3 l4 s1 : AV} {s0 : Nat} {M : Mem} {P : PMem} (hk : kd s0 = 1) : evL 57 30 [l0, l1, l2, l3, l4] [Rf s0, s1] (Hp M P) = evL 57 33 [l0, l1, l2, l3, l4] [Rf (rfd s0 0), s1] (Hp M P) := e_getR c57_30 rfl hk
theorem c57_33 : cd 57 33 = some (33, .getfield 64, 3, 5, 1, 60) := rfl
theorem s57_33 {l0 l1 l2 l3 l4 s1 : AV} {s0 : Nat} {M : Mem} {P : PMem} (hk : kd s0 = 5) : evL 57 33 [l0, l1, l2, l3, l4] [Rf s0, s1] (Hp M P) = evL 57 36 [l0, l1, l2, l3, l4] [I (M s0 1), s1] (Hp M P) := e_getI c57_33 rfl hk
theorem c57_36 : cd 57 36 = some (36, .if_icmp .gt 60, 3, 0, 0, 0) := rfl
theorem s57_36 {l0 l1 l2 l3 l4 : AV} {s0 s1 : Int} {h : AH} : evL 57 36 [l0, l1, l2, l3, l4] [I s0, I s1] h = if s0 < s1 then evL 57 96 [l0, l1, l2, l3, l4] [] h else evL 57 39 [l0, l1, l2, l3, l4] [] h := e_icmp_gt c57_36 rfl rfl
theorem c57_39 : cd 57 39 = some (39, .aload_n 0, 1, 0, 0, 0) := rfl
theorem s57_39 {l1 l2 l3 l4 : AV} {l0 : Option Nat} {h : AH} : evL 57 39 [.inr (.inl l0), l1, l2, l3, l4] [] h = evL 57 40 [.inr (.inl l0), l1, l2, l3, l4] [.inr (.inl l0)] h := ev_go c57_39 rfl
theorem c57_40 : cd 57 40 = some (40, .getfield 14, 3, 3, 0, 192) := rfl
theorem s57_40 {l0 l1 l2 l3 l4 : AV} {s0 : Nat} {M : Mem} {P : PMem} (hk : kd s0 = 3) : evL 57 40 [l0, l1, l2, l3, l4] [Rf s0] (Hp M P) = evL 57 43 [l0, l1, l2, l3, l4] [Rf (rfd s0 0)] (Hp M P) := e_getR c57_40 rfl hk
theorem c57_43 : cd 57 43 = some (43, .iload_n 2, 1, 0, 0, 0) := rfl
theorem s57_43 {l0 l1 l3 l4 s0 : AV} {l2 : Int} {h : AH} : evL 57 43 [l0, l1, I l2, l3, l4] [s0] h = evL 57 44 [l0, l1, I l2, l3, l4] [I l2, s0] h := ev_go c57_43 rfl
theorem c57_44 : cd 57 44 = some (44, .invokevirtual 57, 3, 80, 0, 519) := rfl
theorem s57_44 {l0 l1 l2 l3 l4 : AV} {s0 : Int} {s1 : Nat} {M : Mem} {P : PMem} (hk : kd s1 = 6) : evL 57 44 [l0, l1, l2, l3, l4] [I s0, Rf s1] (Hp M P) = cont (evM 80 [Rf s1, I s0] (Hp M P)) (fun r h => evL 57 47 [l0, l1, l2, l3, l4] (rl r []) h) := e_callV (av' := [I s0]) (rest := []) (c := 6) c57_44 rfl rfl rfl rfl rfl rfl rfl hk rfl
theorem c57_47 : cd 57 47 = some (47, .istore_n 3, 1, 0, 0, 0) := rfl
theorem s57_47 {l0 l1 l2 l3 l4 : AV} {s0 : Int} {h : AH} : evL 57 47 [l0, l1, l2, l3, l4] [I s0] h = evL 57 48 [l0, l1, l2, I s0, l4] [] h := ev_go c57_47 rfl
theorem c57_48 : cd 57 48 = some (48, .iconst 2, 1, 0, 0, 0) := rfl
theorem s57_48 {l0 l1 l2 l3 l4 : AV} {h : AH} : evL 57 48 [l0, l1, l2, l3, l4] [] h = evL 57 49 [l0, l1, l2, l3, l4] [I 2] h := ev_go c57_48 rfl
theorem c57_49 : cd 57 49 = some (49, .istore 4, 2, 0, 0, 0) := rfl
theorem s57_49 {l0 l1 l2 l3 l4 : AV} {s0 : Int} {h : AH} : evL 57 49 [l0, l1, l2, l3, l4] [I s0] h = evL 57 51 [l0, l1, l2, l3, I s0] [] h := ev_go c57_49 rfl
theorem c57_51 : cd 57 51 = some (51, .iload 4, 2, 0, 0, 0) := rfl
theorem s57_51 {l0 l1 l2 l3 : AV} {l4 : Int} {h : AH} : evL 57 51 [l0, l1, l2, l3, I l4] [] h = evL 57 53 [l0, l1, l2, l3, I l4] [I l4] h := ev_go c57_51 rfl
theorem c57_53 : cd 57 53 = some (53, .bipush 6, 2, 0, 0, 0) := rfl
theorem s57_53 {l0 l1 l2 l3 l4 s0 : AV} {h : AH} : evL 57 53 [l0, l1, l2, l3, l4] [s0] h = evL 57 55 [l0, l1, l2, l3, l4] [I 6, s0] h := ev_go c57_53 rfl
theorem c57_55 : cd 57 55 = some (55, .if_icmp .gt 35, 3, 0, 0, 0) := rfl
theorem s57_55 {l0 l1 l2 l3 l4 : AV} {s0 s1 : Int} {h : AH} : evL 57 55 [l0, l1, l2, l3, l4] [I s0, I s1] h = if s0 < s1 then evL 57 90 [l0, l1, l2, l3, l4] [] h else evL 57 58 [l0, l1, l2, l3, l4] [] h := e_icmp_gt c57_55 rfl rfl
theorem c57_58 : cd 57 58 = some (58, .iload_n 3, 1, 0, 0, 0) := rfl
theorem s57_58 {l0 l1 l2 l4 : AV} {l3 : Int} {h : AH} : evL 57 58 [l0, l1, l2, I l3, l4] [] h = evL 57 59 [l0, l1, l2, I l3, l4] [I l3] h := ev_go c57_58 rfl
theorem c57_59 : cd 57 59 = some (59, .ifCond .le 31, 3, 0, 0, 0) := rfl
theorem s57_59 {l0 l1 l2 l3 l4 : AV} {s0 : Int} {h : AH} : evL 57 59 [l0, l1, l2, l3, l4] [I s0] h = if s0 ≤ 0 then evL 57 90 [l0, l1, l2, l3, l4] [] h else evL 57 62 [l0, l1, l2, l3, l4] [] h := e_if_le c57_59 rfl rfl
theorem c57_62 : cd 57 62 = some (62, .aload_n 0, 1, 0, 0, 0) := rfl
theorem s57_62 {l1 l2 l3 l4 : AV} {l0 : Option Nat} {h : AH} : evL 57 62 [.inr (.inl l0), l1, l2, l3, l4] [] h = evL 57 63 [.inr (.inl l0), l1, l2, l3, l4] [.inr (.inl l0)] h := ev_go c57_62 rfl
theorem c57_63 : cd 57 63 = some (63, .getfield 20, 3, 3, 1, 193) := rfl
theorem s57_63 {l0 l1 l2 l3 l4 : AV} {s0 : Nat} {M : Mem} {P : PMem} (hk : kd s0 = 3) : evL 57 63 [l0, l1, l2, l3, l4] [Rf s0] (Hp M P) = evL 57 66 [l0, l1, l2, l3, l4] [Rf (rfd s0 1)] (Hp M P) := e_getR c57_63 rfl hk
theorem c57_66 : cd 57 66 = some (66, .aload_n 1, 1, 0, 0, 0) := rfl
theorem s57_66 {l0 l2 l3 l4 s0 : AV} {l1 : Option Nat} {h : AH} : evL 57 66 [l0, .inr (.inl l1), l2, l3, l4] [s0] h = evL 57 67 [l0, .inr (.inl l1), l2, l3, l4] [.inr (.inl l1), s0] h := ev_go c57_66 rfl
theorem c57_67 : cd 57 67 = some (67, .iload_n 2, 1, 0, 0, 0) := rfl
theorem s57_67 {l0 l1 l3 l4 s0 s1 : AV} {l2 : Int} {h : AH} : evL 57 67 [l0, l1, I l2, l3, l4] [s0, s1] h = evL 57 68 [l0, l1, I l2, l3, l4] [I l2, s0, s1] h := ev_go c57_67 rfl
theorem c57_68 : cd 57 68 = some (68, .iconst 1, 1, 0, 0, 0) := rfl
theorem s57_68 {l0 l1 l2 l3 l4 s0 s1 s2 : AV} {h : AH} : evL 57 68 [l0, l1, l2, l3, l4] [s0, s1, s2] h = evL 57 69 [l0, l1, l2, l3, l4] [I 1, s0, s1, s2] h := ev_go c57_68 rfl
theorem c57_69 : cd 57 69 = some (69, .iload 4, 2, 0, 0, 0) := rfl
theorem s57_69 {l0 l1 l2 l3 s0 s1 s2 s3 : AV} {l4 : Int} {h : AH} : evL 57 69 [l0, l1, l2, l3, I l4] [s0, s1, s2, s3] h = evL 57 71 [l0, l1, l2, l3, I l4] [I l4, s0, s1, s2, s3] h := ev_go c57_69 rfl
theorem c57_71 : cd 57 71 = some (71, .invokevirtual 33, 3, 37, 0, 478) := rfl
theorem s57_71 {l0 l1 l2 l3 l4 s4 : AV} {s0 s1 s2 : Int} {s3 : Nat} {M : Mem} {P : PMem} (hk : kd s3 = 1) : evL 57 71 [l0, l1, l2, l3, l4] [I s0, I s1, I s2, Rf s3, s4] (Hp M P) = cont (evM 37 [Rf s3, I s2, I s1, I s0] (Hp M P)) (fun r h => evL 57 74 [l0, l1, l2, l3, l4] (rl r [s4]) h) := e_callV (av' := [I s2, I s1, I s0]) (rest := [s4]) (c := 1) c57_71 rfl rfl rfl rfl rfl rfl rfl hk rfl
theorem c57_74 : cd 57 74 = some (74, .iload_n 3, 1, 0, 0, 0) := rfl
theorem s57_74 {l0 l1 l2 l4 s0 s1 : AV} {l3 : Int} {h : AH} : evL 57 74 [l0, l1, l2, I l3, l4] [s0, s1] h = evL 57 75 [l0, l1, l2, I l3, l4] [I l3, s0, s1] h := ev_go c57_74 rfl
theorem c57_75 : cd 57 75 = some (75, .iload 4, 2, 0, 0, 0) := rfl
theorem s57_75 {l0 l1 l2 l3 s0 s1 s2 : AV} {l4 : Int} {h : AH} : evL 57 75 [l0, l1, l2, l3, I l4] [s0, s1, s2] h = evL 57 77 [l0, l1, l2, l3, I l4] [I l4, s0, s1, s2] h := ev_go c57_75 rfl
theorem c57_77 : cd 57 77 = some (77, .invokestatic 37, 3, 55, 0, 498) := rfl
theorem s57_77 {l0 l1 l2 l3 l4 s1 s2 s3 : AV} {s0 : Int} {M : Mem} {P : PMem} : evL 57 77 [l0, l1, l2, l3, l4] [I s0, s1, s2, s3] (Hp M P) = cont (evM 55 [I s0] (Hp M P)) (fun r h => evL 57 80 [l0, l1, l2, l3, l4] (rl r [s1, s2, s3]) h) := e_callS (av := [I s0]) (rest := [s1, s2, s3]) c57_77 rfl rfl rfl rfl rfl rfl
theorem c57_80 : cd 57 80 = some (80, .imul, 1, 0, 0, 0) := rfl
theorem s57_80 {l0 l1 l2 l3 l4 s2 s3 : AV} {s0 s1 : Int} {h : AH} : evL 57 80 [l0, l1, l2, l3, l4] [I s0, I s1, s2, s3] h = evL 57 81 [l0, l1, l2, l3, l4] [I (ml s1 s0), s2, s3] h := ev_go c57_80 rfl
theorem c57_81 : cd 57 81 = some (81, .invokevirtual 70, 3, 82, 0, 520) := rfl
theorem s57_81 {l0 l1 l2 l3 l4 : AV} {s0 s1 : Int} {s2 : Nat} {M : Mem} {P : PMem} (hk : kd s2 = 6) : evL 57 81 [l0, l1, l2, l3, l4] [I s0, I s1, Rf s2] (Hp M P) = cont (evM 82 [Rf s2, I s1, I s0] (Hp M P)) (fun r h => evL 57 84 [l0, l1, l2, l3, l4] (rl r []) h) := e_callV (av' := [I s1, I s0]) (rest := []) (c := 6) c57_81 rfl rfl rfl rfl rfl rfl rfl hk rfl
theorem c57_84 : cd 57 84 = some (84, .iinc 4 1, 3, 0, 0, 0) := rfl
theorem s57_84 {l0 l1 l2 l3 : AV} {l4 : Int} {h : AH} : evL 57 84 [l0, l1, l2, l3, I l4] [] h = evL 57 87 [l0, l1, l2, l3, I (ad l4 1)] [] h := ev_go c57_84 rfl
theorem c57_87 : cd 57 87 = some (87, .goto (-36), 3, 0, 0, 0) := rfl
theorem s57_87 {l0 l1 l2 l3 l4 : AV} {h : AH} : evL 57 87 [l0, l1, l2, l3, l4] [] h = evL 57 51 [l0, l1, l2, l3, l4] [] h := ev_go c57_87 rfl
theorem c57_90 : cd 57 90 = some (90, .iinc 2 1, 3, 0, 0, 0) := rfl
theorem s57_90 {l0 l1 l3 l4 : AV} {l2 : Int} {h : AH} : evL 57 90 [l0, l1, I l2, l3, l4] [] h = evL 57 93 [l0, l1, I (ad l2 1), l3, l4] [] h := ev_go c57_90 rfl
theorem c57_93 : cd 57 93 = some (93, .goto (-65), 3, 0, 0, 0) := rfl
theorem s57_93 {l0 l1 l2 l3 l4 : AV} {h : AH} : evL 57 93 [l0, l1, l2, l3, l4] [] h = evL 57 28 [l0, l1, l2, l3, l4] [] h := ev_go c57_93 rfl
theorem c57_96 : cd 57 96 = some (96, .aload_n 0, 1, 0, 0, 0) := rfl
theorem s57_96 {l1 l2 l3 l4 : AV} {l0 : Option Nat} {h : AH} : evL 57 96 [.inr (.inl l0), l1, l2, l3, l4] [] h = evL 57 97 [.inr (.inl l0), l1, l2, l3, l4] [.inr (.inl l0)] h := ev_go c57_96 rfl
theorem c57_97 : cd 57 97 = some (97, .getfield 14, 3, 3, 0, 192) := rfl
theorem s57_97 {l0 l1 l2 l3 l4 : AV} {s0 : Nat} {M : Mem} {P : PMem} (hk : kd s0 = 3) : evL 57 97 [l0, l1, l2, l3, l4] [Rf s0] (Hp M P) = evL 57 100 [l0, l1, l2, l3, l4] [Rf (rfd s0 0)] (Hp M P) := e_getR c57_97 rfl hk
theorem c57_100 : cd 57 100 = some (100, .aload_n 0, 1, 0, 0, 0) := rfl
theorem s57_100 {l1 l2 l3 l4 s0 : AV} {l0 : Option Nat} {h : AH} : evL 57 100 [.inr (.inl l0), l1, l2, l3, l4] [s0] h = evL 57 101 [.inr (.inl l0), l1, l2, l3, l4] [.inr (.inl l0), s0] h := ev_go c57_100 rfl
theorem c57_101 : cd 57 101 = some (101, .getfield 20, 3, 3, 1, 193) := rfl
theorem s57_101 {l0 l1 l2 l3 l4 s1 : AV} {s0 : Nat} {M : Mem} {P : PMem} (hk : kd s0 = 3) : evL 57 101 [l0, l1, l2, l3, l4] [Rf s0, s1] (Hp M P) = evL 57 104 [l0, l1, l2, l3, l4] [Rf (rfd s0 1), s1] (Hp M P) := e_getR c57_101 rfl hk
theorem c57_104 : cd 57 104 = some (104, .invokevirtual 73, 3, 85, 0, 525) := rfl
theorem s57_104 {l0 l1 l2 l3 l4 : AV} {s0 s1 : Nat} {M : Mem} {P : PMem} (hk : kd s1 = 6) : evL 57 104 [l0, l1, l2, l3, l4] [Rf s0, Rf s1] (Hp M P) = cont (evM 85 [Rf s1, Rf s0] (Hp M P)) (fun r h => evL 57 107 [l0, l1, l2, l3, l4] (rl r []) h) := e_callV (av' := [Rf s0]) (rest := []) (c := 6) c57_104 rfl rfl rfl rfl rfl rfl rfl hk rfl
theorem c57_107 : cd 57 107 = some (107, .return_, 1, 0, 0, 0) := rfl
theorem s57_107 {l0 l1 l2 l3 l4 : AV} {h : AH} : evL 57 107 [l0, l1, l2, l3, l4] [] h = some (none, h) := e_ret c57_107 rfl
/-! 59: TankDivers$Pad.length()I -/
theorem en59 {l0 : AV} {h : AH} : evM 59 [l0] h = evL 59 0 [l0] [] h := rfl
theorem c59_0 : cd 59 0 = some (0, .aload_n 0, 1, 0, 0, 0) := rfl
theorem s59_0 {l0 : Option Nat} {h : AH} : evL 59 0 [.inr (.inl l0)] [] h = evL 59 1 [.inr (.inl l0)] [.inr (.inl l0)] h := ev_go c59_0 rfl
theorem c59_1 : cd 59 1 = some (1, .getfield 20, 3, 4, 1, 178) := rfl
theorem s59_1 {l0 : AV} {s0 : Nat} {M : Mem} {P : PMem} (hk : kd s0 = 4) : evL 59 1 [l0] [Rf s0] (Hp M P) = evL 59 4 [l0] [I (M s0 1)] (Hp M P) := e_getI c59_1 rfl hk
theorem c59_4 : cd 59 4 = some (4, .ireturn, 1, 0, 0, 0) := rfl
theorem s59_4 {l0 : AV} {s0 : Int} {h : AH} : evL 59 4 [l0] [I s0] h = some (some (I s0), h) := e_ret c59_4 rfl
/-! 60: TankDivers$Pad.letterAt(I)I -/
theorem en60 {l0 l1 : AV} {h : AH} : evM 60 [l0, l1] h = evL 60 0 [l0, l1] [] h := rfl
theorem c60_0 : cd 60 0 = some (0, .aload_n 0, 1, 0, 0, 0) := rfl
theorem s60_0 {l1 : AV} {l0 : Option Nat} {h : AH} : evL 60 0 [.inr (.inl l0), l1] [] h = evL 60 1 [.inr (.inl l0), l1] [.inr (.inl l0)] h := ev_go c60_0 rfl
theorem c60_1 : cd 60 1 = some (1, .getfield 14, 3, 4, 0, 177) := rfl
theorem s60_1 {l0 l1 : AV} {s0 : Nat} {M : Mem} {P : PMem} (hk : kd s0 = 4) : evL 60 1 [l0, l1] [Rf s0] (Hp M P) = evL 60 4 [l0, l1] [Rf (rfd s0 0)] (Hp M P) := e_getR c60_1 rfl hk
theorem c60_4 : cd 60 4 = some (4, .iload_n 1, 1, 0, 0, 0) := rfl
theorem s60_4 {l0 s0 : AV} {l1 : Int} {h : AH} : evL 60 4 [l0, I l1] [s0] h = evL 60 5 [l0, I l1] [I l1, s0] h := ev_go c60_4 rfl
theorem c60_5 : cd 60 5 = some (5, .invokevirtual 24, 3, 80, 0, 673) := rfl
theorem s60_5 {l0 l1 : AV} {s0 : Int} {s1 : Nat} {M : Mem} {P : PMem} (hk : kd s1 = 6) : evL 60 5 [l0, l1] [I s0, Rf s1] (Hp M P) = cont (evM 80 [Rf s1, I s0] (Hp M P)) (fun r h => evL 60 8 [l0, l1] (rl r []) h) := e_callV (av' := [I s0]) (rest := []) (c := 6) c60_5 rfl rfl rfl rfl rfl rfl rfl hk rfl
theorem c60_8 : cd 60 8 = some (8, .ireturn, 1, 0, 0, 0) := rfl
theorem s60_8 {l0 l1 : AV} {s0 : Int} {h : AH} : evL 60 8 [l0, l1] [I s0] h = some (some (I s0), h) := e_ret c60_8 rfl
/-! 61: TankDivers$Pad.write(I)I -/
theorem en61 {l0 l1 : AV} {h : AH} : evM 61 [l0, l1] h = evL 61 0 [l0, l1] [] h := rfl
theorem c61_0 : cd 61 0 = some (0, .aload_n 0, 1, 0, 0, 0) := rfl
theorem s61_0 {l1 : AV} {l0 : Option Nat} {h : AH} : evL 61 0 [.inr (.inl l0), l1] [] h = evL 61 1 [.inr (.inl l0), l1] [.inr (.inl l0)] h := ev_go c61_0 rfl
theorem c61_1 : cd 61 1 = some (1, .getfield 20, 3, 4, 1, 178) := rfl
theorem s61_1 {l0 l1 : AV} {s0 : Nat} {M : Mem} {P : PMem} (hk : kd s0 = 4) : evL 61 1 [l0, l1] [Rf s0] (Hp M P) = evL 61 4 [l0, l1] [I (M s0 1)] (Hp M P) := e_getI c61_1 rfl hk
theorem c61_4 : cd 61 4 = some (4, .bipush 60, 2, 0, 0, 0) := rfl
theorem s61_4 {l0 l1 s0 : AV} {h : AH} : evL 61 4 [l0, l1] [s0] h = evL 61 6 [l0, l1] [I 60, s0] h := ev_go c61_4 rfl
theorem c61_6 : cd 61 6 = some (6, .if_icmp .lt 6, 3, 0, 0, 0) := rfl
theorem s61_6 {l0 l1 : AV} {s0 s1 : Int} {h : AH} : evL 61 6 [l0, l1] [I s0, I s1] h = if s1 < s0 then evL 61 12 [l0, l1] [] h else evL 61 9 [l0, l1] [] h := e_icmp_lt c61_6 rfl rfl
theorem c61_9 : cd 61 9 = some (9, .bipush (-3), 2, 0, 0, 0) := rfl
theorem s61_9 {l0 l1 : AV} {h : AH} : evL 61 9 [l0, l1] [] h = evL 61 11 [l0, l1] [I (-3)] h := ev_go c61_9 rfl
theorem c61_11 : cd 61 11 = some (11, .ireturn, 1, 0, 0, 0) := rfl
theorem s61_11 {l0 l1 : AV} {s0 : Int} {h : AH} : evL 61 11 [l0, l1] [I s0] h = some (some (I s0), h) := e_ret c61_11 rfl
theorem c61_12 : cd 61 12 = some (12, .aload_n 0, 1, 0, 0, 0) := rfl
theorem s61_12 {l1 : AV} {l0 : Option Nat} {h : AH} : evL 61 12 [.inr (.inl l0), l1] [] h = evL 61 13 [.inr (.inl l0), l1] [.inr (.inl l0)] h := ev_go c61_12 rfl
theorem c61_13 : cd 61 13 = some (13, .getfield 14, 3, 4, 0, 177) := rfl
theorem s61_13 {l0 l1 : AV} {s0 : Nat} {M : Mem} {P : PMem} (hk : kd s0 = 4) : evL 61 13 [l0, l1] [Rf s0] (Hp M P) = evL 61 16 [l0, l1] [Rf (rfd s0 0)] (Hp M P) := e_getR c61_13 rfl hk
theorem c61_16 : cd 61 16 = some (16, .aload_n 0, 1, 0, 0, 0) := rfl
theorem s61_16 {l1 s0 : AV} {l0 : Option Nat} {h : AH} : evL 61 16 [.inr (.inl l0), l1] [s0] h = evL 61 17 [.inr (.inl l0), l1] [.inr (.inl l0), s0] h := ev_go c61_16 rfl
theorem c61_17 : cd 61 17 = some (17, .getfield 20, 3, 4, 1, 178) := rfl
theorem s61_17 {l0 l1 s1 : AV} {s0 : Nat} {M : Mem} {P : PMem} (hk : kd s0 = 4) : evL 61 17 [l0, l1] [Rf s0, s1] (Hp M P) = evL 61 20 [l0, l1] [I (M s0 1), s1] (Hp M P) := e_getI c61_17 rfl hk
theorem c61_20 : cd 61 20 = some (20, .iload_n 1, 1, 0, 0, 0) := rfl
theorem s61_20 {l0 s0 s1 : AV} {l1 : Int} {h : AH} : evL 61 20 [l0, I l1] [s0, s1] h = evL 61 21 [l0, I l1] [I l1, s0, s1] h := ev_go c61_20 rfl
theorem c61_21 : cd 61 21 = some (21, .invokevirtual 28, 3, 81, 0, 664) := rfl
theorem s61_21 {l0 l1 : AV} {s0 s1 : Int} {s2 : Nat} {M : Mem} {P : PMem} (hk : kd s2 = 6) : evL 61 21 [l0, l1] [I s0, I s1, Rf s2] (Hp M P) = cont (evM 81 [Rf s2, I s1, I s0] (Hp M P)) (fun r h => evL 61 24 [l0, l1] (rl r []) h) := e_callV (av' := [I s1, I s0]) (rest := []) (c := 6) c61_21 rfl rfl rfl rfl rfl rfl rfl hk rfl
theorem c61_24 : cd 61 24 = some (24, .aload_n 0, 1, 0, 0, 0) := rfl
theorem s61_24 {l1 : AV} {l0 : Option Nat} {h : AH} : evL 61 24 [.inr (.inl l0), l1] [] h = evL 61 25 [.inr (.inl l0), l1] [.inr (.inl l0)] h := ev_go c61_24 rfl
theorem c61_25 : cd 61 25 = some (25, .dup, 1, 0, 0, 0) := rfl
theorem s61_25 {l0 l1 : AV} {s0 : Option Nat} {h : AH} : evL 61 25 [l0, l1] [.inr (.inl s0)] h = evL 61 26 [l0, l1] [.inr (.inl s0), .inr (.inl s0)] h := ev_go c61_25 rfl
theorem c61_26 : cd 61 26 = some (26, .getfield 20, 3, 4, 1, 178) := rfl
theorem s61_26 {l0 l1 s1 : AV} {s0 : Nat} {M : Mem} {P : PMem} (hk : kd s0 = 4) : evL 61 26 [l0, l1] [Rf s0, s1] (Hp M P) = evL 61 29 [l0, l1] [I (M s0 1), s1] (Hp M P) := e_getI c61_26 rfl hk
theorem c61_29 : cd 61 29 = some (29, .iconst 1, 1, 0, 0, 0) := rfl
theorem s61_29 {l0 l1 s0 s1 : AV} {h : AH} : evL 61 29 [l0, l1] [s0, s1] h = evL 61 30 [l0, l1] [I 1, s0, s1] h := ev_go c61_29 rfl
theorem c61_30 : cd 61 30 = some (30, .iadd, 1, 0, 0, 0) := rfl
theorem s61_30 {l0 l1 s2 : AV} {s0 s1 : Int} {h : AH} : evL 61 30 [l0, l1] [I s0, I s1, s2] h = evL 61 31 [l0, l1] [I (ad s1 s0), s2] h := ev_go c61_30 rfl
theorem c61_31 : cd 61 31 = some (31, .putfield 20, 3, 4, 1, 178) := rfl
theorem s61_31 {l0 l1 : AV} {s0 : Int} {s1 : Nat} {M : Mem} {P : PMem} (hk : kd s1 = 4) : evL 61 31 [l0, l1] [I s0, Rf s1] (Hp M P) = evL 61 34 [l0, l1] [] (Hp (wr M s1 1 s0) P) := e_putI c61_31 rfl hk
theorem c61_34 : cd 61 34 = some (34, .aload_n 0, 1, 0, 0, 0) := rfl
theorem s61_34 {l1 : AV} {l0 : Option Nat} {h : AH} : evL 61 34 [.inr (.inl l0), l1] [] h = evL 61 35 [.inr (.inl l0), l1] [.inr (.inl l0)] h := ev_go c61_34 rfl
theorem c61_35 : cd 61 35 = some (35, .getfield 20, 3, 4, 1, 178) := rfl
theorem s61_35 {l0 l1 : AV} {s0 : Nat} {M : Mem} {P : PMem} (hk : kd s0 = 4) : evL 61 35 [l0, l1] [Rf s0] (Hp M P) = evL 61 38 [l0, l1] [I (M s0 1)] (Hp M P) := e_getI c61_35 rfl hk
theorem c61_38 : cd 61 38 = some (38, .ireturn, 1, 0, 0, 0) := rfl
theorem s61_38 {l0 l1 : AV} {s0 : Int} {h : AH} : evL 61 38 [l0, l1] [I s0] h = some (some (I s0), h) := e_ret c61_38 rfl
/-! 62: TankDivers$Pad.wipe()I -/
theorem en62 {l0 : AV} {h : AH} : evM 62 [l0] h = evL 62 0 [l0, Db 0] [] h := rfl
theorem c62_0 : cd 62 0 = some (0, .aload_n 0, 1, 0, 0, 0) := rfl
theorem s62_0 {l1 : AV} {l0 : Option Nat} {h : AH} : evL 62 0 [.inr (.inl l0), l1] [] h = evL 62 1 [.inr (.inl l0), l1] [.inr (.inl l0)] h := ev_go c62_0 rfl
theorem c62_1 : cd 62 1 = some (1, .getfield 20, 3, 4, 1, 178) := rfl
theorem s62_1 {l0 l1 : AV} {s0 : Nat} {M : Mem} {P : PMem} (hk : kd s0 = 4) : evL 62 1 [l0, l1] [Rf s0] (Hp M P) = evL 62 4 [l0, l1] [I (M s0 1)] (Hp M P) := e_getI c62_1 rfl hk
theorem c62_4 : cd 62 4 = some (4, .istore_n 1, 1, 0, 0, 0) := rfl
theorem s62_4 {l0 l1 : AV} {s0 : Int} {h : AH} : evL 62 4 [l0, l1] [I s0] h = evL 62 5 [l0, I s0] [] h := ev_go c62_4 rfl
theorem c62_5 : cd 62 5 = some (5, .aload_n 0, 1, 0, 0, 0) := rfl
theorem s62_5 {l1 : AV} {l0 : Option Nat} {h : AH} : evL 62 5 [.inr (.inl l0), l1] [] h = evL 62 6 [.inr (.inl l0), l1] [.inr (.inl l0)] h := ev_go c62_5 rfl
theorem c62_6 : cd 62 6 = some (6, .iconst 0, 1, 0, 0, 0) := rfl
theorem s62_6 {l0 l1 s0 : AV} {h : AH} : evL 62 6 [l0, l1] [s0] h = evL 62 7 [l0, l1] [I 0, s0] h := ev_go c62_6 rfl
theorem c62_7 : cd 62 7 = some (7, .putfield 20, 3, 4, 1, 178) := rfl
theorem s62_7 {l0 l1 : AV} {s0 : Int} {s1 : Nat} {M : Mem} {P : PMem} (hk : kd s1 = 4) : evL 62 7 [l0, l1] [I s0, Rf s1] (Hp M P) = evL 62 10 [l0, l1] [] (Hp (wr M s1 1 s0) P) := e_putI c62_7 rfl hk
theorem c62_10 : cd 62 10 = some (10, .iload_n 1, 1, 0, 0, 0) := rfl
theorem s62_10 {l0 : AV} {l1 : Int} {h : AH} : evL 62 10 [l0, I l1] [] h = evL 62 11 [l0, I l1] [I l1] h := ev_go c62_10 rfl
theorem c62_11 : cd 62 11 = some (11, .ireturn, 1, 0, 0, 0) := rfl
theorem s62_11 {l0 l1 : AV} {s0 : Int} {h : AH} : evL 62 11 [l0, l1] [I s0] h = some (some (I s0), h) := e_ret c62_11 rfl
/-! 63: TankDivers$Pad.firstFault()I -/
theorem en63 {l0 : AV} {h : AH} : evM 63 [l0] h = evL 63 0 [l0, Db 0, Db 0] [] h := rfl
theorem c63_0 : cd 63 0 = some (0, .iconst 1, 1, 0, 0, 0) := rfl
theorem s63_0 {l0 l1 l2 : AV} {h : AH} : evL 63 0 [l0, l1, l2] [] h = evL 63 1 [l0, l1, l2] [I 1] h := ev_go c63_0 rfl
theorem c63_1 : cd 63 1 = some (1, .istore_n 1, 1, 0, 0, 0) := rfl
theorem s63_1 {l0 l1 l2 : AV} {s0 : Int} {h : AH} : evL 63 1 [l0, l1, l2] [I s0] h = evL 63 2 [l0, I s0, l2] [] h := ev_go c63_1 rfl
theorem c63_2 : cd 63 2 = some (2, .iconst 0, 1, 0, 0, 0) := rfl
theorem s63_2 {l0 l1 l2 : AV} {h : AH} : evL 63 2 [l0, l1, l2] [] h = evL 63 3 [l0, l1, l2] [I 0] h := ev_go c63_2 rfl
theorem c63_3 : cd 63 3 = some (3, .istore_n 2, 1, 0, 0, 0) := rfl
theorem s63_3 {l0 l1 l2 : AV} {s0 : Int} {h : AH} : evL 63 3 [l0, l1, l2] [I s0] h = evL 63 4 [l0, l1, I s0] [] h := ev_go c63_3 rfl
theorem c63_4 : cd 63 4 = some (4, .iload_n 2, 1, 0, 0, 0) := rfl
theorem s63_4 {l0 l1 : AV} {l2 : Int} {h : AH} : evL 63 4 [l0, l1, I l2] [] h = evL 63 5 [l0, l1, I l2] [I l2] h := ev_go c63_4 rfl
theorem c63_5 : cd 63 5 = some (5, .aload_n 0, 1, 0, 0, 0) := rfl
theorem s63_5 {l1 l2 s0 : AV} {l0 : Option Nat} {h : AH} : evL 63 5 [.inr (.inl l0), l1, l2] [s0] h = evL 63 6 [.inr (.inl l0), l1, l2] [.inr (.inl l0), s0] h := ev_go c63_5 rfl
theorem c63_6 : cd 63 6 = some (6, .getfield 20, 3, 4, 1, 178) := rfl
theorem s63_6 {l0 l1 l2 s1 : AV} {s0 : Nat} {M : Mem} {P : PMem} (hk : kd s0 = 4) : evL 63 6 [l0, l1, l2] [Rf s0, s1] (Hp M P) = evL 63 9 [l0, l1, l2] [I (M s0 1), s1] (Hp M P) := e_getI c63_6 rfl hk
theorem c63_9 : cd 63 9 = some (9, .if_icmp .ge 28, 3, 0, 0, 0) := rfl
theorem s63_9 {l0 l1 l2 : AV} {s0 s1 : Int} {h : AH} : evL 63 9 [l0, l1, l2] [I s0, I s1] h = if s0 ≤ s1 then evL 63 37 [l0, l1, l2] [] h else evL 63 12 [l0, l1, l2] [] h := e_icmp_ge c63_9 rfl rfl
theorem c63_12 : cd 63 12 = some (12, .iload_n 1, 1, 0, 0, 0) := rfl
theorem s63_12 {l0 l2 : AV} {l1 : Int} {h : AH} : evL 63 12 [l0, I l1, l2] [] h = evL 63 13 [l0, I l1, l2] [I l1] h := ev_go c63_12 rfl
theorem c63_13 : cd 63 13 = some (13, .aload_n 0, 1, 0, 0, 0) := rfl
theorem s63_13 {l1 l2 s0 : AV} {l0 : Option Nat} {h : AH} : evL 63 13 [.inr (.inl l0), l1, l2] [s0] h = evL 63 14 [.inr (.inl l0), l1, l2] [.inr (.inl l0), s0] h := ev_go c63_13 rfl
theorem c63_14 : cd 63 14 = some (14, .getfield 14, 3, 4, 0, 177) := rfl
theorem s63_14 {l0 l1 l2 s1 : AV} {s0 : Nat} {M : Mem} {P : PMem} (hk : kd s0 = 4) : evL 63 14 [l0, l1, l2] [Rf s0, s1] (Hp M P) = evL 63 17 [l0, l1, l2] [Rf (rfd s0 0), s1] (Hp M P) := e_getR c63_14 rfl hk
theorem c63_17 : cd 63 17 = some (17, .iload_n 2, 1, 0, 0, 0) := rfl
theorem s63_17 {l0 l1 s0 s1 : AV} {l2 : Int} {h : AH} : evL 63 17 [l0, l1, I l2] [s0, s1] h = evL 63 18 [l0, l1, I l2] [I l2, s0, s1] h := ev_go c63_17 rfl
theorem c63_18 : cd 63 18 = some (18, .invokevirtual 24, 3, 80, 0, 673) := rfl
theorem s63_18 {l0 l1 l2 s2 : AV} {s0 : Int} {s1 : Nat} {M : Mem} {P : PMem} (hk : kd s1 = 6) : evL 63 18 [l0, l1, l2] [I s0, Rf s1, s2] (Hp M P) = cont (evM 80 [Rf s1, I s0] (Hp M P)) (fun r h => evL 63 21 [l0, l1, l2] (rl r [s2]) h) := e_callV (av' := [I s0]) (rest := [s2]) (c := 6) c63_18 rfl rfl rfl rfl rfl rfl rfl hk rfl
theorem c63_21 : cd 63 21 = some (21, .invokestatic 32, 3, 64, 0, 674) := rfl
theorem s63_21 {l0 l1 l2 : AV} {s0 s1 : Int} {M : Mem} {P : PMem} : evL 63 21 [l0, l1, l2] [I s0, I s1] (Hp M P) = cont (evM 64 [I s1, I s0] (Hp M P)) (fun r h => evL 63 24 [l0, l1, l2] (rl r []) h) := e_callS (av := [I s1, I s0]) (rest := []) c63_21 rfl rfl rfl rfl rfl rfl
theorem c63_24 : cd 63 24 = some (24, .istore_n 1, 1, 0, 0, 0) := rfl
theorem s63_24 {l0 l1 l2 : AV} {s0 : Int} {h : AH} : evL 63 24 [l0, l1, l2] [I s0] h = evL 63 25 [l0, I s0, l2] [] h := ev_go c63_24 rfl
theorem c63_25 : cd 63 25 = some (25, .iload_n 1, 1, 0, 0, 0) := rfl
theorem s63_25 {l0 l2 : AV} {l1 : Int} {h : AH} : evL 63 25 [l0, I l1, l2] [] h = evL 63 26 [l0, I l1, l2] [I l1] h := ev_go c63_25 rfl
theorem c63_26 : cd 63 26 = some (26, .ifCond .ne 5, 3, 0, 0, 0) := rfl
theorem s63_26 {l0 l1 l2 : AV} {s0 : Int} {h : AH} : evL 63 26 [l0, l1, l2] [I s0] h = if s0 = 0 then evL 63 29 [l0, l1, l2] [] h else evL 63 31 [l0, l1, l2] [] h := e_if_ne c63_26 rfl rfl
theorem c63_29 : cd 63 29 = some (29, .iload_n 2, 1, 0, 0, 0) := rfl
theorem s63_29 {l0 l1 : AV} {l2 : Int} {h : AH} : evL 63 29 [l0, l1, I l2] [] h = evL 63 30 [l0, l1, I l2] [I l2] h := ev_go c63_29 rfl
theorem c63_30 : cd 63 30 = some (30, .ireturn, 1, 0, 0, 0) := rfl
theorem s63_30 {l0 l1 l2 : AV} {s0 : Int} {h : AH} : evL 63 30 [l0, l1, l2] [I s0] h = some (some (I s0), h) := e_ret c63_30 rfl
theorem c63_31 : cd 63 31 = some (31, .iinc 2 1, 3, 0, 0, 0) := rfl
theorem s63_31 {l0 l1 : AV} {l2 : Int} {h : AH} : evL 63 31 [l0, l1, I l2] [] h = evL 63 34 [l0, l1, I (ad l2 1)] [] h := ev_go c63_31 rfl
theorem c63_34 : cd 63 34 = some (34, .goto (-30), 3, 0, 0, 0) := rfl
theorem s63_34 {l0 l1 l2 : AV} {h : AH} : evL 63 34 [l0, l1, l2] [] h = evL 63 4 [l0, l1, l2] [] h := ev_go c63_34 rfl
theorem c63_37 : cd 63 37 = some (37, .aload_n 0, 1, 0, 0, 0) := rfl
theorem s63_37 {l1 l2 : AV} {l0 : Option Nat} {h : AH} : evL 63 37 [.inr (.inl l0), l1, l2] [] h = evL 63 38 [.inr (.inl l0), l1, l2] [.inr (.inl l0)] h := ev_go c63_37 rfl
theorem c63_38 : cd 63 38 = some (38, .getfield 20, 3, 4, 1, 178) := rfl
theorem s63_38 {l0 l1 l2 : AV} {s0 : Nat} {M : Mem} {P : PMem} (hk : kd s0 = 4) : evL 63 38 [l0, l1, l2] [Rf s0] (Hp M P) = evL 63 41 [l0, l1, l2] [I (M s0 1)] (Hp M P) := e_getI c63_38 rfl hk
theorem c63_41 : cd 63 41 = some (41, .ifCond .le 13, 3, 0, 0, 0) := rfl
theorem s63_41 {l0 l1 l2 : AV} {s0 : Int} {h : AH} : evL 63 41 [l0, l1, l2] [I s0] h = if s0 ≤ 0 then evL 63 54 [l0, l1, l2] [] h else evL 63 44 [l0, l1, l2] [] h := e_if_le c63_41 rfl rfl
theorem c63_44 : cd 63 44 = some (44, .iload_n 1, 1, 0, 0, 0) := rfl
theorem s63_44 {l0 l2 : AV} {l1 : Int} {h : AH} : evL 63 44 [l0, I l1, l2] [] h = evL 63 45 [l0, I l1, l2] [I l1] h := ev_go c63_44 rfl
theorem c63_45 : cd 63 45 = some (45, .iconst 1, 1, 0, 0, 0) := rfl
theorem s63_45 {l0 l1 l2 s0 : AV} {h : AH} : evL 63 45 [l0, l1, l2] [s0] h = evL 63 46 [l0, l1, l2] [I 1, s0] h := ev_go c63_45 rfl
theorem c63_46 : cd 63 46 = some (46, .if_icmp .ne 8, 3, 0, 0, 0) := rfl
theorem s63_46 {l0 l1 l2 : AV} {s0 s1 : Int} {h : AH} : evL 63 46 [l0, l1, l2] [I s0, I s1] h = if s1 = s0 then evL 63 49 [l0, l1, l2] [] h else evL 63 54 [l0, l1, l2] [] h := e_icmp_ne c63_46 rfl rfl
theorem c63_49 : cd 63 49 = some (49, .bipush (-4), 2, 0, 0, 0) := rfl
theorem s63_49 {l0 l1 l2 : AV} {h : AH} : evL 63 49 [l0, l1, l2] [] h = evL 63 51 [l0, l1, l2] [I (-4)] h := ev_go c63_49 rfl
theorem c63_51 : cd 63 51 = some (51, .goto 7, 3, 0, 0, 0) := rfl
theorem s63_51 {l0 l1 l2 s0 : AV} {h : AH} : evL 63 51 [l0, l1, l2] [s0] h = evL 63 58 [l0, l1, l2] [s0] h := ev_go c63_51 rfl
theorem c63_54 : cd 63 54 = some (54, .aload_n 0, 1, 0, 0, 0) := rfl
theorem s63_54 {l1 l2 : AV} {l0 : Option Nat} {h : AH} : evL 63 54 [.inr (.inl l0), l1, l2] [] h = evL 63 55 [.inr (.inl l0), l1, l2] [.inr (.inl l0)] h := ev_go c63_54 rfl
theorem c63_55 : cd 63 55 = some (55, .getfield 20, 3, 4, 1, 178) := rfl
theorem s63_55 {l0 l1 l2 : AV} {s0 : Nat} {M : Mem} {P : PMem} (hk : kd s0 = 4) : evL 63 55 [l0, l1, l2] [Rf s0] (Hp M P) = evL 63 58 [l0, l1, l2] [I (M s0 1)] (Hp M P) := e_getI c63_55 rfl hk
theorem c63_58 : cd 63 58 = some (58, .ireturn, 1, 0, 0, 0) := rfl
theorem s63_58 {l0 l1 l2 : AV} {s0 : Int} {h : AH} : evL 63 58 [l0, l1, l2] [I s0] h = some (some (I s0), h) := e_ret c63_58 rfl
/-! 64: TankDivers$Pad.dueBehind(II)I -/
theorem en64 {l0 l1 : AV} {h : AH} : evM 64 [l0, l1] h = evL 64 0 [l0, l1] [] h := rfl
theorem c64_0 : cd 64 0 = some (0, .iload_n 0, 1, 0, 0, 0) := rfl
theorem s64_0 {l1 : AV} {l0 : Int} {h : AH} : evL 64 0 [I l0, l1] [] h = evL 64 1 [I l0, l1] [I l0] h := ev_go c64_0 rfl
theorem c64_1 : cd 64 1 = some (1, .iconst 1, 1, 0, 0, 0) := rfl
theorem s64_1 {l0 l1 s0 : AV} {h : AH} : evL 64 1 [l0, l1] [s0] h = evL 64 2 [l0, l1] [I 1, s0] h := ev_go c64_1 rfl
theorem c64_2 : cd 64 2 = some (2, .if_icmp .ne 21, 3, 0, 0, 0) := rfl
theorem s64_2 {l0 l1 : AV} {s0 s1 : Int} {h : AH} : evL 64 2 [l0, l1] [I s0, I s1] h = if s1 = s0 then evL 64 5 [l0, l1] [] h else evL 64 23 [l0, l1] [] h := e_icmp_ne c64_2 rfl rfl
theorem c64_5 : cd 64 5 = some (5, .iload_n 1, 1, 0, 0, 0) := rfl
theorem s64_5 {l0 : AV} {l1 : Int} {h : AH} : evL 64 5 [l0, I l1] [] h = evL 64 6 [l0, I l1] [I l1] h := ev_go c64_5 rfl
theorem c64_6 : cd 64 6 = some (6, .bipush 100, 2, 0, 0, 0) := rfl
theorem s64_6 {l0 l1 s0 : AV} {h : AH} : evL 64 6 [l0, l1] [s0] h = evL 64 8 [l0, l1] [I 100, s0] h := ev_go c64_6 rfl
theorem c64_8 : cd 64 8 = some (8, .if_icmp .eq 9, 3, 0, 0, 0) := rfl
theorem s64_8 {l0 l1 : AV} {s0 s1 : Int} {h : AH} : evL 64 8 [l0, l1] [I s0, I s1] h = if s1 = s0 then evL 64 17 [l0, l1] [] h else evL 64 11 [l0, l1] [] h := e_icmp_eq c64_8 rfl rfl
theorem c64_11 : cd 64 11 = some (11, .iload_n 1, 1, 0, 0, 0) := rfl
theorem s64_11 {l0 : AV} {l1 : Int} {h : AH} : evL 64 11 [l0, I l1] [] h = evL 64 12 [l0, I l1] [I l1] h := ev_go c64_11 rfl
theorem c64_12 : cd 64 12 = some (12, .bipush 117, 2, 0, 0, 0) := rfl
theorem s64_12 {l0 l1 s0 : AV} {h : AH} : evL 64 12 [l0, l1] [s0] h = evL 64 14 [l0, l1] [I 117, s0] h := ev_go c64_12 rfl
theorem c64_14 : cd 64 14 = some (14, .if_icmp .ne 7, 3, 0, 0, 0) := rfl
theorem s64_14 {l0 l1 : AV} {s0 s1 : Int} {h : AH} : evL 64 14 [l0, l1] [I s0, I s1] h = if s1 = s0 then evL 64 17 [l0, l1] [] h else evL 64 21 [l0, l1] [] h := e_icmp_ne c64_14 rfl rfl
theorem c64_17 : cd 64 17 = some (17, .iconst 2, 1, 0, 0, 0) := rfl
theorem s64_17 {l0 l1 : AV} {h : AH} : evL 64 17 [l0, l1] [] h = evL 64 18 [l0, l1] [I 2] h := ev_go c64_17 rfl
theorem c64_18 : cd 64 18 = some (18, .goto 4, 3, 0, 0, 0) := rfl
theorem s64_18 {l0 l1 s0 : AV} {h : AH} : evL 64 18 [l0, l1] [s0] h = evL 64 22 [l0, l1] [s0] h := ev_go c64_18 rfl
theorem c64_21 : cd 64 21 = some (21, .iconst 0, 1, 0, 0, 0) := rfl
theorem s64_21 {l0 l1 : AV} {h : AH} : evL 64 21 [l0, l1] [] h = evL 64 22 [l0, l1] [I 0] h := ev_go c64_21 rfl
theorem c64_22 : cd 64 22 = some (22, .ireturn, 1, 0, 0, 0) := rfl
theorem s64_22 {l0 l1 : AV} {s0 : Int} {h : AH} : evL 64 22 [l0, l1] [I s0] h = some (some (I s0), h) := e_ret c64_22 rfl
theorem c64_23 : cd 64 23 = some (23, .iload_n 0, 1, 0, 0, 0) := rfl
theorem s64_23 {l1 : AV} {l0 : Int} {h : AH} : evL 64 23 [I l0, l1] [] h = evL 64 24 [I l0, l1] [I l0] h := ev_go c64_23 rfl
theorem c64_24 : cd 64 24 = some (24, .iconst 3, 1, 0, 0, 0) := rfl
theorem s64_24 {l0 l1 s0 : AV} {h : AH} : evL 64 24 [l0, l1] [s0] h = evL 64 25 [l0, l1] [I 3, s0] h := ev_go c64_24 rfl
theorem c64_25 : cd 64 25 = some (25, .if_icmp .ne 21, 3, 0, 0, 0) := rfl
theorem s64_25 {l0 l1 : AV} {s0 s1 : Int} {h : AH} : evL 64 25 [l0, l1] [I s0, I s1] h = if s1 = s0 then evL 64 28 [l0, l1] [] h else evL 64 46 [l0, l1] [] h := e_icmp_ne c64_25 rfl rfl
theorem c64_28 : cd 64 28 = some (28, .iload_n 1, 1, 0, 0, 0) := rfl
theorem s64_28 {l0 : AV} {l1 : Int} {h : AH} : evL 64 28 [l0, I l1] [] h = evL 64 29 [l0, I l1] [I l1] h := ev_go c64_28 rfl
theorem c64_29 : cd 64 29 = some (29, .bipush 48, 2, 0, 0, 0) := rfl
theorem s64_29 {l0 l1 s0 : AV} {h : AH} : evL 64 29 [l0, l1] [s0] h = evL 64 31 [l0, l1] [I 48, s0] h := ev_go c64_29 rfl
theorem c64_31 : cd 64 31 = some (31, .if_icmp .lt 13, 3, 0, 0, 0) := rfl
theorem s64_31 {l0 l1 : AV} {s0 s1 : Int} {h : AH} : evL 64 31 [l0, l1] [I s0, I s1] h = if s1 < s0 then evL 64 44 [l0, l1] [] h else evL 64 34 [l0, l1] [] h := e_icmp_lt c64_31 rfl rfl
theorem c64_34 : cd 64 34 = some (34, .iload_n 1, 1, 0, 0, 0) := rfl
theorem s64_34 {l0 : AV} {l1 : Int} {h : AH} : evL 64 34 [l0, I l1] [] h = evL 64 35 [l0, I l1] [I l1] h := ev_go c64_34 rfl
theorem c64_35 : cd 64 35 = some (35, .bipush 53, 2, 0, 0, 0) := rfl
theorem s64_35 {l0 l1 s0 : AV} {h : AH} : evL 64 35 [l0, l1] [s0] h = evL 64 37 [l0, l1] [I 53, s0] h := ev_go c64_35 rfl
theorem c64_37 : cd 64 37 = some (37, .if_icmp .gt 7, 3, 0, 0, 0) := rfl
theorem s64_37 {l0 l1 : AV} {s0 s1 : Int} {h : AH} : evL 64 37 [l0, l1] [I s0, I s1] h = if s0 < s1 then evL 64 44 [l0, l1] [] h else evL 64 40 [l0, l1] [] h := e_icmp_gt c64_37 rfl rfl
theorem c64_40 : cd 64 40 = some (40, .iconst 1, 1, 0, 0, 0) := rfl
theorem s64_40 {l0 l1 : AV} {h : AH} : evL 64 40 [l0, l1] [] h = evL 64 41 [l0, l1] [I 1] h := ev_go c64_40 rfl
theorem c64_41 : cd 64 41 = some (41, .goto 4, 3, 0, 0, 0) := rfl
theorem s64_41 {l0 l1 s0 : AV} {h : AH} : evL 64 41 [l0, l1] [s0] h = evL 64 45 [l0, l1] [s0] h := ev_go c64_41 rfl
theorem c64_44 : cd 64 44 = some (44, .iconst 0, 1, 0, 0, 0) := rfl
theorem s64_44 {l0 l1 : AV} {h : AH} : evL 64 44 [l0, l1] [] h = evL 64 45 [l0, l1] [I 0] h := ev_go c64_44 rfl
theorem c64_45 : cd 64 45 = some (45, .ireturn, 1, 0, 0, 0) := rfl
theorem s64_45 {l0 l1 : AV} {s0 : Int} {h : AH} : evL 64 45 [l0, l1] [I s0] h = some (some (I s0), h) := e_ret c64_45 rfl
theorem c64_46 : cd 64 46 = some (46, .iload_n 1, 1, 0, 0, 0) := rfl
theorem s64_46 {l0 : AV} {l1 : Int} {h : AH} : evL 64 46 [l0, I l1] [] h = evL 64 47 [l0, I l1] [I l1] h := ev_go c64_46 rfl
theorem c64_47 : cd 64 47 = some (47, .bipush 108, 2, 0, 0, 0) := rfl
theorem s64_47 {l0 l1 s0 : AV} {h : AH} : evL 64 47 [l0, l1] [s0] h = evL 64 49 [l0, l1] [I 108, s0] h := ev_go c64_47 rfl
theorem c64_49 : cd 64 49 = some (49, .if_icmp .ne 5, 3, 0, 0, 0) := rfl
theorem s64_49 {l0 l1 : AV} {s0 s1 : Int} {h : AH} : evL 64 49 [l0, l1] [I s0, I s1] h = if s1 = s0 then evL 64 52 [l0, l1] [] h else evL 64 54 [l0, l1] [] h := e_icmp_ne c64_49 rfl rfl
theorem c64_52 : cd 64 52 = some (52, .iconst 3, 1, 0, 0, 0) := rfl
theorem s64_52 {l0 l1 : AV} {h : AH} : evL 64 52 [l0, l1] [] h = evL 64 53 [l0, l1] [I 3] h := ev_go c64_52 rfl
theorem c64_53 : cd 64 53 = some (53, .ireturn, 1, 0, 0, 0) := rfl
theorem s64_53 {l0 l1 : AV} {s0 : Int} {h : AH} : evL 64 53 [l0, l1] [I s0] h = some (some (I s0), h) := e_ret c64_53 rfl
theorem c64_54 : cd 64 54 = some (54, .iload_n 1, 1, 0, 0, 0) := rfl
theorem s64_54 {l0 : AV} {l1 : Int} {h : AH} : evL 64 54 [l0, I l1] [] h = evL 64 55 [l0, I l1] [I l1] h := ev_go c64_54 rfl
theorem c64_55 : cd 64 55 = some (55, .bipush 116, 2, 0, 0, 0) := rfl
theorem s64_55 {l0 l1 s0 : AV} {h : AH} : evL 64 55 [l0, l1] [s0] h = evL 64 57 [l0, l1] [I 116, s0] h := ev_go c64_55 rfl
theorem c64_57 : cd 64 57 = some (57, .if_icmp .eq 9, 3, 0, 0, 0) := rfl
theorem s64_57 {l0 l1 : AV} {s0 s1 : Int} {h : AH} : evL 64 57 [l0, l1] [I s0, I s1] h = if s1 = s0 then evL 64 66 [l0, l1] [] h else evL 64 60 [l0, l1] [] h := e_icmp_eq c64_57 rfl rfl
theorem c64_60 : cd 64 60 = some (60, .iload_n 1, 1, 0, 0, 0) := rfl
theorem s64_60 {l0 : AV} {l1 : Int} {h : AH} : evL 64 60 [l0, I l1] [] h = evL 64 61 [l0, I l1] [I l1] h := ev_go c64_60 rfl
theorem c64_61 : cd 64 61 = some (61, .bipush 110, 2, 0, 0, 0) := rfl
theorem s64_61 {l0 l1 s0 : AV} {h : AH} : evL 64 61 [l0, l1] [s0] h = evL 64 63 [l0, l1] [I 110, s0] h := ev_go c64_61 rfl
theorem c64_63 : cd 64 63 = some (63, .if_icmp .ne 7, 3, 0, 0, 0) := rfl
theorem s64_63 {l0 l1 : AV} {s0 s1 : Int} {h : AH} : evL 64 63 [l0, l1] [I s0, I s1] h = if s1 = s0 then evL 64 66 [l0, l1] [] h else evL 64 70 [l0, l1] [] h := e_icmp_ne c64_63 rfl rfl
theorem c64_66 : cd 64 66 = some (66, .iconst 1, 1, 0, 0, 0) := rfl
theorem s64_66 {l0 l1 : AV} {h : AH} : evL 64 66 [l0, l1] [] h = evL 64 67 [l0, l1] [I 1] h := ev_go c64_66 rfl
theorem c64_67 : cd 64 67 = some (67, .goto 4, 3, 0, 0, 0) := rfl
theorem s64_67 {l0 l1 s0 : AV} {h : AH} : evL 64 67 [l0, l1] [s0] h = evL 64 71 [l0, l1] [s0] h := ev_go c64_67 rfl
theorem c64_70 : cd 64 70 = some (70, .iconst 0, 1, 0, 0, 0) := rfl
theorem s64_70 {l0 l1 : AV} {h : AH} : evL 64 70 [l0, l1] [] h = evL 64 71 [l0, l1] [I 0] h := ev_go c64_70 rfl
theorem c64_71 : cd 64 71 = some (71, .ireturn, 1, 0, 0, 0) := rfl
theorem s64_71 {l0 l1 : AV} {s0 : Int} {h : AH} : evL 64 71 [l0, l1] [I s0] h = some (some (I s0), h) := e_ret c64_71 rfl
/-! 66: TankDivers$Path.pileAt(I)I -/
theorem en66 {l0 l1 : AV} {h : AH} : evM 66 [l0, l1] h = evL 66 0 [l0, l1] [] h := rfl
theorem c66_0 : cd 66 0 = some (0, .aload_n 0, 1, 0, 0, 0) := rfl
theorem s66_0 {l1 : AV} {l0 : Option Nat} {h : AH} : evL 66 0 [.inr (.inl l0), l1] [] h = evL 66 1 [.inr (.inl l0), l1] [.inr (.inl l0)] h := ev_go c66_0 rfl
theorem c66_1 : cd 66 1 = some (1, .getfield 14, 3, 5, 0, 57) := rfl
theorem s66_1 {l0 l1 : AV} {s0 : Nat} {M : Mem} {P : PMem} (hk : kd s0 = 5) : evL 66 1 [l0, l1] [Rf s0] (Hp M P) = evL 66 4 [l0, l1] [Rf (rfd s0 0)] (Hp M P) := e_getR c66_1 rfl hk
theorem c66_4 : cd 66 4 = some (4, .iload_n 1, 1, 0, 0, 0) := rfl
theorem s66_4 {l0 s0 : AV} {l1 : Int} {h : AH} : evL 66 4 [l0, I l1] [s0] h = evL 66 5 [l0, I l1] [I l1, s0] h := ev_go c66_4 rfl
theorem c66_5 : cd 66 5 = some (5, .invokevirtual 20, 3, 80, 0, 270) := rfl
theorem s66_5 {l0 l1 : AV} {s0 : Int} {s1 : Nat} {M : Mem} {P : PMem} (hk : kd s1 = 6) : evL 66 5 [l0, l1] [I s0, Rf s1] (Hp M P) = cont (evM 80 [Rf s1, I s0] (Hp M P)) (fun r h => evL 66 8 [l0, l1] (rl r []) h) := e_callV (av' := [I s0]) (rest := []) (c := 6) c66_5 rfl rfl rfl rfl rfl rfl rfl hk rfl
theorem c66_8 : cd 66 8 = some (8, .ireturn, 1, 0, 0, 0) := rfl
theorem s66_8 {l0 l1 : AV} {s0 : Int} {h : AH} : evL 66 8 [l0, l1] [I s0] h = some (some (I s0), h) := e_ret c66_8 rfl
/-! 67: TankDivers$Path.setPile(II)V -/
theorem en67 {l0 l1 l2 : AV} {h : AH} : evM 67 [l0, l1, l2] h = evL 67 0 [l0, l1, l2] [] h := rfl
theorem c67_0 : cd 67 0 = some (0, .aload_n 0, 1, 0, 0, 0) := rfl
theorem s67_0 {l1 l2 : AV} {l0 : Option Nat} {h : AH} : evL 67 0 [.inr (.inl l0), l1, l2] [] h = evL 67 1 [.inr (.inl l0), l1, l2] [.inr (.inl l0)] h := ev_go c67_0 rfl
theorem c67_1 : cd 67 1 = some (1, .getfield 14, 3, 5, 0, 57) := rfl
theorem s67_1 {l0 l1 l2 : AV} {s0 : Nat} {M : Mem} {P : PMem} (hk : kd s0 = 5) : evL 67 1 [l0, l1, l2] [Rf s0] (Hp M P) = evL 67 4 [l0, l1, l2] [Rf (rfd s0 0)] (Hp M P) := e_getR c67_1 rfl hk
theorem c67_4 : cd 67 4 = some (4, .iload_n 1, 1, 0, 0, 0) := rfl
theorem s67_4 {l0 l2 s0 : AV} {l1 : Int} {h : AH} : evL 67 4 [l0, I l1, l2] [s0] h = evL 67 5 [l0, I l1, l2] [I l1, s0] h := ev_go c67_4 rfl
theorem c67_5 : cd 67 5 = some (5, .iload_n 2, 1, 0, 0, 0) := rfl
theorem s67_5 {l0 l1 s0 s1 : AV} {l2 : Int} {h : AH} : evL 67 5 [l0, l1, I l2] [s0, s1] h = evL 67 6 [l0, l1, I l2] [I l2, s0, s1] h := ev_go c67_5 rfl
theorem c67_6 : cd 67 6 = some (6, .invokevirtual 24, 3, 81, 0, 217) := rfl
theorem s67_6 {l0 l1 l2 : AV} {s0 s1 : Int} {s2 : Nat} {M : Mem} {P : PMem} (hk : kd s2 = 6) : evL 67 6 [l0, l1, l2] [I s0, I s1, Rf s2] (Hp M P) = cont (evM 81 [Rf s2, I s1, I s0] (Hp M P)) (fun r h => evL 67 9 [l0, l1, l2] (rl r []) h) := e_callV (av' := [I s1, I s0]) (rest := []) (c := 6) c67_6 rfl rfl rfl rfl rfl rfl rfl hk rfl
theorem c67_9 : cd 67 9 = some (9, .return_, 1, 0, 0, 0) := rfl
theorem s67_9 {l0 l1 l2 : AV} {h : AH} : evL 67 9 [l0, l1, l2] [] h = some (none, h) := e_ret c67_9 rfl
/-! 68: TankDivers$Path.addSpace(I)V -/
theorem en68 {l0 l1 : AV} {h : AH} : evM 68 [l0, l1] h = evL 68 0 [l0, l1] [] h := rfl
theorem c68_0 : cd 68 0 = some (0, .aload_n 0, 1, 0, 0, 0) := rfl
theorem s68_0 {l1 : AV} {l0 : Option Nat} {h : AH} : evL 68 0 [.inr (.inl l0), l1] [] h = evL 68 1 [.inr (.inl l0), l1] [.inr (.inl l0)] h := ev_go c68_0 rfl
theorem c68_1 : cd 68 1 = some (1, .dup, 1, 0, 0, 0) := rfl
theorem s68_1 {l0 l1 : AV} {s0 : Option Nat} {h : AH} : evL 68 1 [l0, l1] [.inr (.inl s0)] h = evL 68 2 [l0, l1] [.inr (.inl s0), .inr (.inl s0)] h := ev_go c68_1 rfl
theorem c68_2 : cd 68 2 = some (2, .getfield 28, 3, 5, 1, 59) := rfl
theorem s68_2 {l0 l1 s1 : AV} {s0 : Nat} {M : Mem} {P : PMem} (hk : kd s0 = 5) : evL 68 2 [l0, l1] [Rf s0, s1] (Hp M P) = evL 68 5 [l0, l1] [I (M s0 1), s1] (Hp M P) := e_getI c68_2 rfl hk
theorem c68_5 : cd 68 5 = some (5, .iconst 1, 1, 0, 0, 0) := rfl
theorem s68_5 {l0 l1 s0 s1 : AV} {h : AH} : evL 68 5 [l0, l1] [s0, s1] h = evL 68 6 [l0, l1] [I 1, s0, s1] h := ev_go c68_5 rfl
theorem c68_6 : cd 68 6 = some (6, .iadd, 1, 0, 0, 0) := rfl
theorem s68_6 {l0 l1 s2 : AV} {s0 s1 : Int} {h : AH} : evL 68 6 [l0, l1] [I s0, I s1, s2] h = evL 68 7 [l0, l1] [I (ad s1 s0), s2] h := ev_go c68_6 rfl
theorem c68_7 : cd 68 7 = some (7, .putfield 28, 3, 5, 1, 59) := rfl
theorem s68_7 {l0 l1 : AV} {s0 : Int} {s1 : Nat} {M : Mem} {P : PMem} (hk : kd s1 = 5) : evL 68 7 [l0, l1] [I s0, Rf s1] (Hp M P) = evL 68 10 [l0, l1] [] (Hp (wr M s1 1 s0) P) := e_putI c68_7 rfl hk
theorem c68_10 : cd 68 10 = some (10, .aload_n 0, 1, 0, 0, 0) := rfl
theorem s68_10 {l1 : AV} {l0 : Option Nat} {h : AH} : evL 68 10 [.inr (.inl l0), l1] [] h = evL 68 11 [.inr (.inl l0), l1] [.inr (.inl l0)] h := ev_go c68_10 rfl
theorem c68_11 : cd 68 11 = some (11, .getfield 14, 3, 5, 0, 57) := rfl
theorem s68_11 {l0 l1 : AV} {s0 : Nat} {M : Mem} {P : PMem} (hk : kd s0 = 5) : evL 68 11 [l0, l1] [Rf s0] (Hp M P) = evL 68 14 [l0, l1] [Rf (rfd s0 0)] (Hp M P) := e_getR c68_11 rfl hk
theorem c68_14 : cd 68 14 = some (14, .aload_n 0, 1, 0, 0, 0) := rfl
theorem s68_14 {l1 s0 : AV} {l0 : Option Nat} {h : AH} : evL 68 14 [.inr (.inl l0), l1] [s0] h = evL 68 15 [.inr (.inl l0), l1] [.inr (.inl l0), s0] h := ev_go c68_14 rfl
theorem c68_15 : cd 68 15 = some (15, .getfield 28, 3, 5, 1, 59) := rfl
theorem s68_15 {l0 l1 s1 : AV} {s0 : Nat} {M : Mem} {P : PMem} (hk : kd s0 = 5) : evL 68 15 [l0, l1] [Rf s0, s1] (Hp M P) = evL 68 18 [l0, l1] [I (M s0 1), s1] (Hp M P) := e_getI c68_15 rfl hk
theorem c68_18 : cd 68 18 = some (18, .iload_n 1, 1, 0, 0, 0) := rfl
theorem s68_18 {l0 s0 s1 : AV} {l1 : Int} {h : AH} : evL 68 18 [l0, I l1] [s0, s1] h = evL 68 19 [l0, I l1] [I l1, s0, s1] h := ev_go c68_18 rfl
theorem c68_19 : cd 68 19 = some (19, .invokevirtual 24, 3, 81, 0, 217) := rfl
theorem s68_19 {l0 l1 : AV} {s0 s1 : Int} {s2 : Nat} {M : Mem} {P : PMem} (hk : kd s2 = 6) : evL 68 19 [l0, l1] [I s0, I s1, Rf s2] (Hp M P) = cont (evM 81 [Rf s2, I s1, I s0] (Hp M P)) (fun r h => evL 68 22 [l0, l1] (rl r []) h) := e_callV (av' := [I s1, I s0]) (rest := []) (c := 6) c68_19 rfl rfl rfl rfl rfl rfl rfl hk rfl
theorem c68_22 : cd 68 22 = some (22, .return_, 1, 0, 0, 0) := rfl
theorem s68_22 {l0 l1 : AV} {h : AH} : evL 68 22 [l0, l1] [] h = some (none, h) := e_ret c68_22 rfl
/-! 69: TankDivers$Path.blanks()I -/
theorem en69 {l0 : AV} {h : AH} : evM 69 [l0] h = evL 69 0 [l0, Db 0, Db 0] [] h := rfl
theorem c69_0 : cd 69 0 = some (0, .iconst 0, 1, 0, 0, 0) := rfl
theorem s69_0 {l0 l1 l2 : AV} {h : AH} : evL 69 0 [l0, l1, l2] [] h = evL 69 1 [l0, l1, l2] [I 0] h := ev_go c69_0 rfl
theorem c69_1 : cd 69 1 = some (1, .istore_n 1, 1, 0, 0, 0) := rfl
theorem s69_1 {l0 l1 l2 : AV} {s0 : Int} {h : AH} : evL 69 1 [l0, l1, l2] [I s0] h = evL 69 2 [l0, I s0, l2] [] h := ev_go c69_1 rfl
theorem c69_2 : cd 69 2 = some (2, .iconst 1, 1, 0, 0, 0) := rfl
theorem s69_2 {l0 l1 l2 : AV} {h : AH} : evL 69 2 [l0, l1, l2] [] h = evL 69 3 [l0, l1, l2] [I 1] h := ev_go c69_2 rfl
theorem c69_3 : cd 69 3 = some (3, .istore_n 2, 1, 0, 0, 0) := rfl
theorem s69_3 {l0 l1 l2 : AV} {s0 : Int} {h : AH} : evL 69 3 [l0, l1, l2] [I s0] h = evL 69 4 [l0, l1, I s0] [] h := ev_go c69_3 rfl
theorem c69_4 : cd 69 4 = some (4, .iload_n 2, 1, 0, 0, 0) := rfl
theorem s69_4 {l0 l1 : AV} {l2 : Int} {h : AH} : evL 69 4 [l0, l1, I l2] [] h = evL 69 5 [l0, l1, I l2] [I l2] h := ev_go c69_4 rfl
theorem c69_5 : cd 69 5 = some (5, .aload_n 0, 1, 0, 0, 0) := rfl
theorem s69_5 {l1 l2 s0 : AV} {l0 : Option Nat} {h : AH} : evL 69 5 [.inr (.inl l0), l1, l2] [s0] h = evL 69 6 [.inr (.inl l0), l1, l2] [.inr (.inl l0), s0] h := ev_go c69_5 rfl
theorem c69_6 : cd 69 6 = some (6, .getfield 28, 3, 5, 1, 59) := rfl
theorem s69_6 {l0 l1 l2 s1 : AV} {s0 : Nat} {M : Mem} {P : PMem} (hk : kd s0 = 5) : evL 69 6 [l0, l1, l2] [Rf s0, s1] (Hp M P) = evL 69 9 [l0, l1, l2] [I (M s0 1), s1] (Hp M P) := e_getI c69_6 rfl hk
theorem c69_9 : cd 69 9 = some (9, .if_icmp .gt 28, 3, 0, 0, 0) := rfl
theorem s69_9 {l0 l1 l2 : AV} {s0 s1 : Int} {h : AH} : evL 69 9 [l0, l1, l2] [I s0, I s1] h = if s0 < s1 then evL 69 37 [l0, l1, l2] [] h else evL 69 12 [l0, l1, l2] [] h := e_icmp_gt c69_9 rfl rfl
theorem c69_12 : cd 69 12 = some (12, .iload_n 1, 1, 0, 0, 0) := rfl
theorem s69_12 {l0 l2 : AV} {l1 : Int} {h : AH} : evL 69 12 [l0, I l1, l2] [] h = evL 69 13 [l0, I l1, l2] [I l1] h := ev_go c69_12 rfl
theorem c69_13 : cd 69 13 = some (13, .aload_n 0, 1, 0, 0, 0) := rfl
theorem s69_13 {l1 l2 s0 : AV} {l0 : Option Nat} {h : AH} : evL 69 13 [.inr (.inl l0), l1, l2] [s0] h = evL 69 14 [.inr (.inl l0), l1, l2] [.inr (.inl l0), s0] h := ev_go c69_13 rfl
theorem c69_14 : cd 69 14 = some (14, .getfield 14, 3, 5, 0, 57) := rfl
theorem s69_14 {l0 l1 l2 s1 : AV} {s0 : Nat} {M : Mem} {P : PMem} (hk : kd s0 = 5) : evL 69 14 [l0, l1, l2] [Rf s0, s1] (Hp M P) = evL 69 17 [l0, l1, l2] [Rf (rfd s0 0), s1] (Hp M P) := e_getR c69_14 rfl hk
theorem c69_17 : cd 69 17 = some (17, .iload_n 2, 1, 0, 0, 0) := rfl
theorem s69_17 {l0 l1 s0 s1 : AV} {l2 : Int} {h : AH} : evL 69 17 [l0, l1, I l2] [s0, s1] h = evL 69 18 [l0, l1, I l2] [I l2, s0, s1] h := ev_go c69_17 rfl
theorem c69_18 : cd 69 18 = some (18, .invokevirtual 20, 3, 80, 0, 270) := rfl
theorem s69_18 {l0 l1 l2 s2 : AV} {s0 : Int} {s1 : Nat} {M : Mem} {P : PMem} (hk : kd s1 = 6) : evL 69 18 [l0, l1, l2] [I s0, Rf s1, s2] (Hp M P) = cont (evM 80 [Rf s1, I s0] (Hp M P)) (fun r h => evL 69 21 [l0, l1, l2] (rl r [s2]) h) := e_callV (av' := [I s0]) (rest := [s2]) (c := 6) c69_18 rfl rfl rfl rfl rfl rfl rfl hk rfl
theorem c69_21 : cd 69 21 = some (21, .ifCond .ne 7, 3, 0, 0, 0) := rfl
theorem s69_21 {l0 l1 l2 s1 : AV} {s0 : Int} {h : AH} : evL 69 21 [l0, l1, l2] [I s0, s1] h = if s0 = 0 then evL 69 24 [l0, l1, l2] [s1] h else evL 69 28 [l0, l1, l2] [s1] h := e_if_ne c69_21 rfl rfl
theorem c69_24 : cd 69 24 = some (24, .iconst 1, 1, 0, 0, 0) := rfl
theorem s69_24 {l0 l1 l2 s0 : AV} {h : AH} : evL 69 24 [l0, l1, l2] [s0] h = evL 69 25 [l0, l1, l2] [I 1, s0] h := ev_go c69_24 rfl
theorem c69_25 : cd 69 25 = some (25, .goto 4, 3, 0, 0, 0) := rfl
theorem s69_25 {l0 l1 l2 s0 s1 : AV} {h : AH} : evL 69 25 [l0, l1, l2] [s0, s1] h = evL 69 29 [l0, l1, l2] [s0, s1] h := ev_go c69_25 rfl
theorem c69_28 : cd 69 28 = some (28, .iconst 0, 1, 0, 0, 0) := rfl
theorem s69_28 {l0 l1 l2 s0 : AV} {h : AH} : evL 69 28 [l0, l1, l2] [s0] h = evL 69 29 [l0, l1, l2] [I 0, s0] h := ev_go c69_28 rfl
theorem c69_29 : cd 69 29 = some (29, .iadd, 1, 0, 0, 0) := rfl
theorem s69_29 {l0 l1 l2 : AV} {s0 s1 : Int} {h : AH} : evL 69 29 [l0, l1, l2] [I s0, I s1] h = evL 69 30 [l0, l1, l2] [I (ad s1 s0)] h := ev_go c69_29 rfl
theorem c69_30 : cd 69 30 = some (30, .istore_n 1, 1, 0, 0, 0) := rfl
theorem s69_30 {l0 l1 l2 : AV} {s0 : Int} {h : AH} : evL 69 30 [l0, l1, l2] [I s0] h = evL 69 31 [l0, I s0, l2] [] h := ev_go c69_30 rfl
theorem c69_31 : cd 69 31 = some (31, .iinc 2 1, 3, 0, 0, 0) := rfl
theorem s69_31 {l0 l1 : AV} {l2 : Int} {h : AH} : evL 69 31 [l0, l1, I l2] [] h = evL 69 34 [l0, l1, I (ad l2 1)] [] h := ev_go c69_31 rfl
theorem c69_34 : cd 69 34 = some (34, .goto (-30), 3, 0, 0, 0) := rfl
theorem s69_34 {l0 l1 l2 : AV} {h : AH} : evL 69 34 [l0, l1, l2] [] h = evL 69 4 [l0, l1, l2] [] h := ev_go c69_34 rfl
theorem c69_37 : cd 69 37 = some (37, .iload_n 1, 1, 0, 0, 0) := rfl
theorem s69_37 {l0 l2 : AV} {l1 : Int} {h : AH} : evL 69 37 [l0, I l1, l2] [] h = evL 69 38 [l0, I l1, l2] [I l1] h := ev_go c69_37 rfl
theorem c69_38 : cd 69 38 = some (38, .ireturn, 1, 0, 0, 0) := rfl
theorem s69_38 {l0 l1 l2 : AV} {s0 : Int} {h : AH} : evL 69 38 [l0, l1, l2] [I s0] h = some (some (I s0), h) := e_ret c69_38 rfl
/-! 70: TankDivers$Path.treasures()I -/
theorem en70 {l0 : AV} {h : AH} : evM 70 [l0] h = evL 70 0 [l0, Db 0, Db 0] [] h := rfl
theorem c70_0 : cd 70 0 = some (0, .iconst 0, 1, 0, 0, 0) := rfl
theorem s70_0 {l0 l1 l2 : AV} {h : AH} : evL 70 0 [l0, l1, l2] [] h = evL 70 1 [l0, l1, l2] [I 0] h := ev_go c70_0 rfl
theorem c70_1 : cd 70 1 = some (1, .istore_n 1, 1, 0, 0, 0) := rfl
theorem s70_1 {l0 l1 l2 : AV} {s0 : Int} {h : AH} : evL 70 1 [l0, l1, l2] [I s0] h = evL 70 2 [l0, I s0, l2] [] h := ev_go c70_1 rfl
theorem c70_2 : cd 70 2 = some (2, .iconst 1, 1, 0, 0, 0) := rfl
theorem s70_2 {l0 l1 l2 : AV} {h : AH} : evL 70 2 [l0, l1, l2] [] h = evL 70 3 [l0, l1, l2] [I 1] h := ev_go c70_2 rfl
theorem c70_3 : cd 70 3 = some (3, .istore_n 2, 1, 0, 0, 0) := rfl
theorem s70_3 {l0 l1 l2 : AV} {s0 : Int} {h : AH} : evL 70 3 [l0, l1, l2] [I s0] h = evL 70 4 [l0, l1, I s0] [] h := ev_go c70_3 rfl
theorem c70_4 : cd 70 4 = some (4, .iload_n 2, 1, 0, 0, 0) := rfl
theorem s70_4 {l0 l1 : AV} {l2 : Int} {h : AH} : evL 70 4 [l0, l1, I l2] [] h = evL 70 5 [l0, l1, I l2] [I l2] h := ev_go c70_4 rfl
theorem c70_5 : cd 70 5 = some (5, .aload_n 0, 1, 0, 0, 0) := rfl
theorem s70_5 {l1 l2 s0 : AV} {l0 : Option Nat} {h : AH} : evL 70 5 [.inr (.inl l0), l1, l2] [s0] h = evL 70 6 [.inr (.inl l0), l1, l2] [.inr (.inl l0), s0] h := ev_go c70_5 rfl
theorem c70_6 : cd 70 6 = some (6, .getfield 28, 3, 5, 1, 59) := rfl
theorem s70_6 {l0 l1 l2 s1 : AV} {s0 : Nat} {M : Mem} {P : PMem} (hk : kd s0 = 5) : evL 70 6 [l0, l1, l2] [Rf s0, s1] (Hp M P) = evL 70 9 [l0, l1, l2] [I (M s0 1), s1] (Hp M P) := e_getI c70_6 rfl hk
theorem c70_9 : cd 70 9 = some (9, .if_icmp .gt 23, 3, 0, 0, 0) := rfl
theorem s70_9 {l0 l1 l2 : AV} {s0 s1 : Int} {h : AH} : evL 70 9 [l0, l1, l2] [I s0, I s1] h = if s0 < s1 then evL 70 32 [l0, l1, l2] [] h else evL 70 12 [l0, l1, l2] [] h := e_icmp_gt c70_9 rfl rfl
theorem c70_12 : cd 70 12 = some (12, .iload_n 1, 1, 0, 0, 0) := rfl
theorem s70_12 {l0 l2 : AV} {l1 : Int} {h : AH} : evL 70 12 [l0, I l1, l2] [] h = evL 70 13 [l0, I l1, l2] [I l1] h := ev_go c70_12 rfl
theorem c70_13 : cd 70 13 = some (13, .aload_n 0, 1, 0, 0, 0) := rfl
theorem s70_13 {l1 l2 s0 : AV} {l0 : Option Nat} {h : AH} : evL 70 13 [.inr (.inl l0), l1, l2] [s0] h = evL 70 14 [.inr (.inl l0), l1, l2] [.inr (.inl l0), s0] h := ev_go c70_13 rfl
theorem c70_14 : cd 70 14 = some (14, .getfield 14, 3, 5, 0, 57) := rfl
theorem s70_14 {l0 l1 l2 s1 : AV} {s0 : Nat} {M : Mem} {P : PMem} (hk : kd s0 = 5) : evL 70 14 [l0, l1, l2] [Rf s0, s1] (Hp M P) = evL 70 17 [l0, l1, l2] [Rf (rfd s0 0), s1] (Hp M P) := e_getR c70_14 rfl hk
theorem c70_17 : cd 70 17 = some (17, .iload_n 2, 1, 0, 0, 0) := rfl
theorem s70_17 {l0 l1 s0 s1 : AV} {l2 : Int} {h : AH} : evL 70 17 [l0, l1, I l2] [s0, s1] h = evL 70 18 [l0, l1, I l2] [I l2, s0, s1] h := ev_go c70_17 rfl
theorem c70_18 : cd 70 18 = some (18, .invokevirtual 20, 3, 80, 0, 270) := rfl
theorem s70_18 {l0 l1 l2 s2 : AV} {s0 : Int} {s1 : Nat} {M : Mem} {P : PMem} (hk : kd s1 = 6) : evL 70 18 [l0, l1, l2] [I s0, Rf s1, s2] (Hp M P) = cont (evM 80 [Rf s1, I s0] (Hp M P)) (fun r h => evL 70 21 [l0, l1, l2] (rl r [s2]) h) := e_callV (av' := [I s0]) (rest := [s2]) (c := 6) c70_18 rfl rfl rfl rfl rfl rfl rfl hk rfl
theorem c70_21 : cd 70 21 = some (21, .invokestatic 32, 3, 75, 0, 313) := rfl
theorem s70_21 {l0 l1 l2 s1 : AV} {s0 : Int} {M : Mem} {P : PMem} : evL 70 21 [l0, l1, l2] [I s0, s1] (Hp M P) = cont (evM 75 [I s0] (Hp M P)) (fun r h => evL 70 24 [l0, l1, l2] (rl r [s1]) h) := e_callS (av := [I s0]) (rest := [s1]) c70_21 rfl rfl rfl rfl rfl rfl
theorem c70_24 : cd 70 24 = some (24, .iadd, 1, 0, 0, 0) := rfl
theorem s70_24 {l0 l1 l2 : AV} {s0 s1 : Int} {h : AH} : evL 70 24 [l0, l1, l2] [I s0, I s1] h = evL 70 25 [l0, l1, l2] [I (ad s1 s0)] h := ev_go c70_24 rfl
theorem c70_25 : cd 70 25 = some (25, .istore_n 1, 1, 0, 0, 0) := rfl
theorem s70_25 {l0 l1 l2 : AV} {s0 : Int} {h : AH} : evL 70 25 [l0, l1, l2] [I s0] h = evL 70 26 [l0, I s0, l2] [] h := ev_go c70_25 rfl
theorem c70_26 : cd 70 26 = some (26, .iinc 2 1, 3, 0, 0, 0) := rfl
theorem s70_26 {l0 l1 : AV} {l2 : Int} {h : AH} : evL 70 26 [l0, l1, I l2] [] h = evL 70 29 [l0, l1, I (ad l2 1)] [] h := ev_go c70_26 rfl
theorem c70_29 : cd 70 29 = some (29, .goto (-25), 3, 0, 0, 0) := rfl
theorem s70_29 {l0 l1 l2 : AV} {h : AH} : evL 70 29 [l0, l1, l2] [] h = evL 70 4 [l0, l1, l2] [] h := ev_go c70_29 rfl
theorem c70_32 : cd 70 32 = some (32, .iload_n 1, 1, 0, 0, 0) := rfl
theorem s70_32 {l0 l2 : AV} {l1 : Int} {h : AH} : evL 70 32 [l0, I l1, l2] [] h = evL 70 33 [l0, I l1, l2] [I l1] h := ev_go c70_32 rfl
theorem c70_33 : cd 70 33 = some (33, .ireturn, 1, 0, 0, 0) := rfl
theorem s70_33 {l0 l1 l2 : AV} {s0 : Int} {h : AH} : evL 70 33 [l0, l1, l2] [I s0] h = some (some (I s0), h) := e_ret c70_33 rfl
/-! 71: TankDivers$Path.values()I -/
theorem en71 {l0 : AV} {h : AH} : evM 71 [l0] h = evL 71 0 [l0, Db 0, Db 0] [] h := rfl
theorem c71_0 : cd 71 0 = some (0, .iconst 0, 1, 0, 0, 0) := rfl
theorem s71_0 {l0 l1 l2 : AV} {h : AH} : evL 71 0 [l0, l1, l2] [] h = evL 71 1 [l0, l1, l2] [I 0] h := ev_go c71_0 rfl
theorem c71_1 : cd 71 1 = some (1, .istore_n 1, 1, 0, 0, 0) := rfl
theorem s71_1 {l0 l1 l2 : AV} {s0 : Int} {h : AH} : evL 71 1 [l0, l1, l2] [I s0] h = evL 71 2 [l0, I s0, l2] [] h := ev_go c71_1 rfl
theorem c71_2 : cd 71 2 = some (2, .iconst 1, 1, 0, 0, 0) := rfl
theorem s71_2 {l0 l1 l2 : AV} {h : AH} : evL 71 2 [l0, l1, l2] [] h = evL 71 3 [l0, l1, l2] [I 1] h := ev_go c71_2 rfl
theorem c71_3 : cd 71 3 = some (3, .istore_n 2, 1, 0, 0, 0) := rfl
theorem s71_3 {l0 l1 l2 : AV} {s0 : Int} {h : AH} : evL 71 3 [l0, l1, l2] [I s0] h = evL 71 4 [l0, l1, I s0] [] h := ev_go c71_3 rfl
theorem c71_4 : cd 71 4 = some (4, .iload_n 2, 1, 0, 0, 0) := rfl
theorem s71_4 {l0 l1 : AV} {l2 : Int} {h : AH} : evL 71 4 [l0, l1, I l2] [] h = evL 71 5 [l0, l1, I l2] [I l2] h := ev_go c71_4 rfl
theorem c71_5 : cd 71 5 = some (5, .aload_n 0, 1, 0, 0, 0) := rfl
theorem s71_5 {l1 l2 s0 : AV} {l0 : Option Nat} {h : AH} : evL 71 5 [.inr (.inl l0), l1, l2] [s0] h = evL 71 6 [.inr (.inl l0), l1, l2] [.inr (.inl l0), s0] h := ev_go c71_5 rfl
theorem c71_6 : cd 71 6 = some (6, .getfield 28, 3, 5, 1, 59) := rfl
theorem s71_6 {l0 l1 l2 s1 : AV} {s0 : Nat} {M : Mem} {P : PMem} (hk : kd s0 = 5) : evL 71 6 [l0, l1, l2] [Rf s0, s1] (Hp M P) = evL 71 9 [l0, l1, l2] [I (M s0 1), s1] (Hp M P) := e_getI c71_6 rfl hk
theorem c71_9 : cd 71 9 = some (9, .if_icmp .gt 23, 3, 0, 0, 0) := rfl
theorem s71_9 {l0 l1 l2 : AV} {s0 s1 : Int} {h : AH} : evL 71 9 [l0, l1, l2] [I s0, I s1] h = if s0 < s1 then evL 71 32 [l0, l1, l2] [] h else evL 71 12 [l0, l1, l2] [] h := e_icmp_gt c71_9 rfl rfl
theorem c71_12 : cd 71 12 = some (12, .iload_n 1, 1, 0, 0, 0) := rfl
theorem s71_12 {l0 l2 : AV} {l1 : Int} {h : AH} : evL 71 12 [l0, I l1, l2] [] h = evL 71 13 [l0, I l1, l2] [I l1] h := ev_go c71_12 rfl
theorem c71_13 : cd 71 13 = some (13, .aload_n 0, 1, 0, 0, 0) := rfl
theorem s71_13 {l1 l2 s0 : AV} {l0 : Option Nat} {h : AH} : evL 71 13 [.inr (.inl l0), l1, l2] [s0] h = evL 71 14 [.inr (.inl l0), l1, l2] [.inr (.inl l0), s0] h := ev_go c71_13 rfl
theorem c71_14 : cd 71 14 = some (14, .getfield 14, 3, 5, 0, 57) := rfl
theorem s71_14 {l0 l1 l2 s1 : AV} {s0 : Nat} {M : Mem} {P : PMem} (hk : kd s0 = 5) : evL 71 14 [l0, l1, l2] [Rf s0, s1] (Hp M P) = evL 71 17 [l0, l1, l2] [Rf (rfd s0 0), s1] (Hp M P) := e_getR c71_14 rfl hk
theorem c71_17 : cd 71 17 = some (17, .iload_n 2, 1, 0, 0, 0) := rfl
theorem s71_17 {l0 l1 s0 s1 : AV} {l2 : Int} {h : AH} : evL 71 17 [l0, l1, I l2] [s0, s1] h = evL 71 18 [l0, l1, I l2] [I l2, s0, s1] h := ev_go c71_17 rfl
theorem c71_18 : cd 71 18 = some (18, .invokevirtual 20, 3, 80, 0, 270) := rfl
theorem s71_18 {l0 l1 l2 s2 : AV} {s0 : Int} {s1 : Nat} {M : Mem} {P : PMem} (hk : kd s1 = 6) : evL 71 18 [l0, l1, l2] [I s0, Rf s1, s2] (Hp M P) = cont (evM 80 [Rf s1, I s0] (Hp M P)) (fun r h => evL 71 21 [l0, l1, l2] (rl r [s2]) h) := e_callV (av' := [I s0]) (rest := [s2]) (c := 6) c71_18 rfl rfl rfl rfl rfl rfl rfl hk rfl
theorem c71_21 : cd 71 21 = some (21, .invokestatic 37, 3, 77, 0, 278) := rfl
theorem s71_21 {l0 l1 l2 s1 : AV} {s0 : Int} {M : Mem} {P : PMem} : evL 71 21 [l0, l1, l2] [I s0, s1] (Hp M P) = cont (evM 77 [I s0] (Hp M P)) (fun r h => evL 71 24 [l0, l1, l2] (rl r [s1]) h) := e_callS (av := [I s0]) (rest := [s1]) c71_21 rfl rfl rfl rfl rfl rfl
theorem c71_24 : cd 71 24 = some (24, .iadd, 1, 0, 0, 0) := rfl
theorem s71_24 {l0 l1 l2 : AV} {s0 s1 : Int} {h : AH} : evL 71 24 [l0, l1, l2] [I s0, I s1] h = evL 71 25 [l0, l1, l2] [I (ad s1 s0)] h := ev_go c71_24 rfl
theorem c71_25 : cd 71 25 = some (25, .istore_n 1, 1, 0, 0, 0) := rfl
theorem s71_25 {l0 l1 l2 : AV} {s0 : Int} {h : AH} : evL 71 25 [l0, l1, l2] [I s0] h = evL 71 26 [l0, I s0, l2] [] h := ev_go c71_25 rfl
theorem c71_26 : cd 71 26 = some (26, .iinc 2 1, 3, 0, 0, 0) := rfl
theorem s71_26 {l0 l1 : AV} {l2 : Int} {h : AH} : evL 71 26 [l0, l1, I l2] [] h = evL 71 29 [l0, l1, I (ad l2 1)] [] h := ev_go c71_26 rfl
theorem c71_29 : cd 71 29 = some (29, .goto (-25), 3, 0, 0, 0) := rfl
theorem s71_29 {l0 l1 l2 : AV} {h : AH} : evL 71 29 [l0, l1, l2] [] h = evL 71 4 [l0, l1, l2] [] h := ev_go c71_29 rfl
theorem c71_32 : cd 71 32 = some (32, .iload_n 1, 1, 0, 0, 0) := rfl
theorem s71_32 {l0 l2 : AV} {l1 : Int} {h : AH} : evL 71 32 [l0, I l1, l2] [] h = evL 71 33 [l0, I l1, l2] [I l1] h := ev_go c71_32 rfl
theorem c71_33 : cd 71 33 = some (33, .ireturn, 1, 0, 0, 0) := rfl
theorem s71_33 {l0 l1 l2 : AV} {s0 : Int} {h : AH} : evL 71 33 [l0, l1, l2] [I s0] h = some (some (I s0), h) := e_ret c71_33 rfl
/-! 72: TankDivers$Path.closeUp()V -/
theorem en72 {l0 : AV} {h : AH} : evM 72 [l0] h = evL 72 0 [l0, Db 0, Db 0, Db 0] [] h := rfl
theorem c72_0 : cd 72 0 = some (0, .aload_n 0, 1, 0, 0, 0) := rfl
theorem s72_0 {l1 l2 l3 : AV} {l0 : Option Nat} {h : AH} : evL 72 0 [.inr (.inl l0), l1, l2, l3] [] h = evL 72 1 [.inr (.inl l0), l1, l2, l3] [.inr (.inl l0)] h := ev_go c72_0 rfl
theorem c72_1 : cd 72 1 = some (1, .getfield 28, 3, 5, 1, 59) := rfl
theorem s72_1 {l0 l1 l2 l3 : AV} {s0 : Nat} {M : Mem} {P : PMem} (hk : kd s0 = 5) : evL 72 1 [l0, l1, l2, l3] [Rf s0] (Hp M P) = evL 72 4 [l0, l1, l2, l3] [I (M s0 1)] (Hp M P) := e_getI c72_1 rfl hk
theorem c72_4 : cd 72 4 = some (4, .istore_n 1, 1, 0, 0, 0) := rfl
theorem s72_4 {l0 l1 l2 l3 : AV} {s0 : Int} {h : AH} : evL 72 4 [l0, l1, l2, l3] [I s0] h = evL 72 5 [l0, I s0, l2, l3] [] h := ev_go c72_4 rfl
theorem c72_5 : cd 72 5 = some (5, .aload_n 0, 1, 0, 0, 0) := rfl
theorem s72_5 {l1 l2 l3 : AV} {l0 : Option Nat} {h : AH} : evL 72 5 [.inr (.inl l0), l1, l2, l3] [] h = evL 72 6 [.inr (.inl l0), l1, l2, l3] [.inr (.inl l0)] h := ev_go c72_5 rfl
theorem c72_6 : cd 72 6 = some (6, .iconst 0, 1, 0, 0, 0) := rfl
theorem s72_6 {l0 l1 l2 l3 s0 : AV} {h : AH} : evL 72 6 [l0, l1, l2, l3] [s0] h = evL 72 7 [l0, l1, l2, l3] [I 0, s0] h := ev_go c72_6 rfl
theorem c72_7 : cd 72 7 = some (7, .putfield 28, 3, 5, 1, 59) := rfl
theorem s72_7 {l0 l1 l2 l3 : AV} {s0 : Int} {s1 : Nat} {M : Mem} {P : PMem} (hk : kd s1 = 5) : evL 72 7 [l0, l1, l2, l3] [I s0, Rf s1] (Hp M P) = evL 72 10 [l0, l1, l2, l3] [] (Hp (wr M s1 1 s0) P) := e_putI c72_7 rfl hk
theorem c72_10 : cd 72 10 = some (10, .iconst 1, 1, 0, 0, 0) := rfl
theorem s72_10 {l0 l1 l2 l3 : AV} {h : AH} : evL 72 10 [l0, l1, l2, l3] [] h = evL 72 11 [l0, l1, l2, l3] [I 1] h := ev_go c72_10 rfl
theorem c72_11 : cd 72 11 = some (11, .istore_n 2, 1, 0, 0, 0) := rfl
theorem s72_11 {l0 l1 l2 l3 : AV} {s0 : Int} {h : AH} : evL 72 11 [l0, l1, l2, l3] [I s0] h = evL 72 12 [l0, l1, I s0, l3] [] h := ev_go c72_11 rfl
theorem c72_12 : cd 72 12 = some (12, .iload_n 2, 1, 0, 0, 0) := rfl
theorem s72_12 {l0 l1 l3 : AV} {l2 : Int} {h : AH} : evL 72 12 [l0, l1, I l2, l3] [] h = evL 72 13 [l0, l1, I l2, l3] [I l2] h := ev_go c72_12 rfl
theorem c72_13 : cd 72 13 = some (13, .iload_n 1, 1, 0, 0, 0) := rfl
theorem s72_13 {l0 l2 l3 s0 : AV} {l1 : Int} {h : AH} : evL 72 13 [l0, I l1, l2, l3] [s0] h = evL 72 14 [l0, I l1, l2, l3] [I l1, s0] h := ev_go c72_13 rfl
theorem c72_14 : cd 72 14 = some (14, .if_icmp .gt 27, 3, 0, 0, 0) := rfl
theorem s72_14 {l0 l1 l2 l3 : AV} {s0 s1 : Int} {h : AH} : evL 72 14 [l0, l1, l2, l3] [I s0, I s1] h = if s0 < s1 then evL 72 41 [l0, l1, l2, l3] [] h else evL 72 17 [l0, l1, l2, l3] [] h := e_icmp_gt c72_14 rfl rfl
theorem c72_17 : cd 72 17 = some (17, .aload_n 0, 1, 0, 0, 0) := rfl
theorem s72_17 {l1 l2 l3 : AV} {l0 : Option Nat} {h : AH} : evL 72 17 [.inr (.inl l0), l1, l2, l3] [] h = evL 72 18 [.inr (.inl l0), l1, l2, l3] [.inr (.inl l0)] h := ev_go c72_17 rfl
theorem c72_18 : cd 72 18 = some (18, .getfield 14, 3, 5, 0, 57) := rfl
theorem s72_18 {l0 l1 l2 l3 : AV} {s0 : Nat} {M : Mem} {P : PMem} (hk : kd s0 = 5) : evL 72 18 [l0, l1, l2, l3] [Rf s0] (Hp M P) = evL 72 21 [l0, l1, l2, l3] [Rf (rfd s0 0)] (Hp M P) := e_getR c72_18 rfl hk
theorem c72_21 : cd 72 21 = some (21, .iload_n 2, 1, 0, 0, 0) := rfl
theorem s72_21 {l0 l1 l3 s0 : AV} {l2 : Int} {h : AH} : evL 72 21 [l0, l1, I l2, l3] [s0] h = evL 72 22 [l0, l1, I l2, l3] [I l2, s0] h := ev_go c72_21 rfl
theorem c72_22 : cd 72 22 = some (22, .invokevirtual 20, 3, 80, 0, 270) := rfl
theorem s72_22 {l0 l1 l2 l3 : AV} {s0 : Int} {s1 : Nat} {M : Mem} {P : PMem} (hk : kd s1 = 6) : evL 72 22 [l0, l1, l2, l3] [I s0, Rf s1] (Hp M P) = cont (evM 80 [Rf s1, I s0] (Hp M P)) (fun r h => evL 72 25 [l0, l1, l2, l3] (rl r []) h) := e_callV (av' := [I s0]) (rest := []) (c := 6) c72_22 rfl rfl rfl rfl rfl rfl rfl hk rfl
theorem c72_25 : cd 72 25 = some (25, .istore_n 3, 1, 0, 0, 0) := rfl
theorem s72_25 {l0 l1 l2 l3 : AV} {s0 : Int} {h : AH} : evL 72 25 [l0, l1, l2, l3] [I s0] h = evL 72 26 [l0, l1, l2, I s0] [] h := ev_go c72_25 rfl
theorem c72_26 : cd 72 26 = some (26, .iload_n 3, 1, 0, 0, 0) := rfl
theorem s72_26 {l0 l1 l2 : AV} {l3 : Int} {h : AH} : evL 72 26 [l0, l1, l2, I l3] [] h = evL 72 27 [l0, l1, l2, I l3] [I l3] h := ev_go c72_26 rfl
theorem c72_27 : cd 72 27 = some (27, .ifCond .eq 8, 3, 0, 0, 0) := rfl
theorem s72_27 {l0 l1 l2 l3 : AV} {s0 : Int} {h : AH} : evL 72 27 [l0, l1, l2, l3] [I s0] h = if s0 = 0 then evL 72 35 [l0, l1, l2, l3] [] h else evL 72 30 [l0, l1, l2, l3] [] h := e_if_eq c72_27 rfl rfl
theorem c72_30 : cd 72 30 = some (30, .aload_n 0, 1, 0, 0, 0) := rfl
theorem s72_30 {l1 l2 l3 : AV} {l0 : Option Nat} {h : AH} : evL 72 30 [.inr (.inl l0), l1, l2, l3] [] h = evL 72 31 [.inr (.inl l0), l1, l2, l3] [.inr (.inl l0)] h := ev_go c72_30 rfl
theorem c72_31 : cd 72 31 = some (31, .iload_n 3, 1, 0, 0, 0) := rfl
theorem s72_31 {l0 l1 l2 s0 : AV} {l3 : Int} {h : AH} : evL 72 31 [l0, l1, l2, I l3] [s0] h = evL 72 32 [l0, l1, l2, I l3] [I l3, s0] h := ev_go c72_31 rfl
theorem c72_32 : cd 72 32 = some (32, .invokevirtual 40, 3, 68, 0, 615) := rfl
theorem s72_32 {l0 l1 l2 l3 : AV} {s0 : Int} {s1 : Nat} {M : Mem} {P : PMem} (hk : kd s1 = 5) : evL 72 32 [l0, l1, l2, l3] [I s0, Rf s1] (Hp M P) = cont (evM 68 [Rf s1, I s0] (Hp M P)) (fun r h => evL 72 35 [l0, l1, l2, l3] (rl r []) h) := e_callV (av' := [I s0]) (rest := []) (c := 5) c72_32 rfl rfl rfl rfl rfl rfl rfl hk rfl
theorem c72_35 : cd 72 35 = some (35, .iinc 2 1, 3, 0, 0, 0) := rfl
theorem s72_35 {l0 l1 l3 : AV} {l2 : Int} {h : AH} : evL 72 35 [l0, l1, I l2, l3] [] h = evL 72 38 [l0, l1, I (ad l2 1), l3] [] h := ev_go c72_35 rfl
theorem c72_38 : cd 72 38 = some (38, .goto (-26), 3, 0, 0, 0) := rfl
theorem s72_38 {l0 l1 l2 l3 : AV} {h : AH} : evL 72 38 [l0, l1, l2, l3] [] h = evL 72 12 [l0, l1, l2, l3] [] h := ev_go c72_38 rfl
theorem c72_41 : cd 72 41 = some (41, .return_, 1, 0, 0, 0) := rfl
theorem s72_41 {l0 l1 l2 l3 : AV} {h : AH} : evL 72 41 [l0, l1, l2, l3] [] h = some (none, h) := e_ret c72_41 rfl
/-! 73: TankDivers$Path.addStacks(LTankDivers$Row;I)V -/
theorem en73 {l0 l1 l2 : AV} {h : AH} : evM 73 [l0, l1, l2] h = evL 73 0 [l0, l1, l2, Db 0, Db 0] [] h := rfl
theorem c73_0 : cd 73 0 = some (0, .iconst 0, 1, 0, 0, 0) := rfl
theorem s73_0 {l0 l1 l2 l3 l4 : AV} {h : AH} : evL 73 0 [l0, l1, l2, l3, l4] [] h = evL 73 1 [l0, l1, l2, l3, l4] [I 0] h := ev_go c73_0 rfl
theorem c73_1 : cd 73 1 = some (1, .istore_n 3, 1, 0, 0, 0) := rfl
theorem s73_1 {l0 l1 l2 l3 l4 : AV} {s0 : Int} {h : AH} : evL 73 1 [l0, l1, l2, l3, l4] [I s0] h = evL 73 2 [l0, l1, l2, I s0, l4] [] h := ev_go c73_1 rfl
theorem c73_2 : cd 73 2 = some (2, .iconst 0, 1, 0, 0, 0) := rfl
theorem s73_2 {l0 l1 l2 l3 l4 : AV} {h : AH} : evL 73 2 [l0, l1, l2, l3, l4] [] h = evL 73 3 [l0, l1, l2, l3, l4] [I 0] h := ev_go c73_2 rfl
theorem c73_3 : cd 73 3 = some (3, .istore 4, 2, 0, 0, 0) := rfl
theorem s73_3 {l0 l1 l2 l3 l4 : AV} {s0 : Int} {h : AH} : evL 73 3 [l0, l1, l2, l3, l4] [I s0] h = evL 73 5 [l0, l1, l2, l3, I s0] [] h := ev_go c73_3 rfl
theorem c73_5 : cd 73 5 = some (5, .iload 4, 2, 0, 0, 0) := rfl
theorem s73_5 {l0 l1 l2 l3 : AV} {l4 : Int} {h : AH} : evL 73 5 [l0, l1, l2, l3, I l4] [] h = evL 73 7 [l0, l1, l2, l3, I l4] [I l4] h := ev_go c73_5 rfl
theorem c73_7 : cd 73 7 = some (7, .iload_n 2, 1, 0, 0, 0) := rfl
theorem s73_7 {l0 l1 l3 l4 s0 : AV} {l2 : Int} {h : AH} : evL 73 7 [l0, l1, I l2, l3, l4] [s0] h = evL 73 8 [l0, l1, I l2, l3, l4] [I l2, s0] h := ev_go c73_7 rfl
theorem c73_8 : cd 73 8 = some (8, .if_icmp .ge 43, 3, 0, 0, 0) := rfl
theorem s73_8 {l0 l1 l2 l3 l4 : AV} {s0 s1 : Int} {h : AH} : evL 73 8 [l0, l1, l2, l3, l4] [I s0, I s1] h = if s0 ≤ s1 then evL 73 51 [l0, l1, l2, l3, l4] [] h else evL 73 11 [l0, l1, l2, l3, l4] [] h := e_icmp_ge c73_8 rfl rfl
theorem c73_11 : cd 73 11 = some (11, .iload_n 3, 1, 0, 0, 0) := rfl
theorem s73_11 {l0 l1 l2 l4 : AV} {l3 : Int} {h : AH} : evL 73 11 [l0, l1, l2, I l3, l4] [] h = evL 73 12 [l0, l1, l2, I l3, l4] [I l3] h := ev_go c73_11 rfl
theorem c73_12 : cd 73 12 = some (12, .aload_n 1, 1, 0, 0, 0) := rfl
theorem s73_12 {l0 l2 l3 l4 s0 : AV} {l1 : Option Nat} {h : AH} : evL 73 12 [l0, .inr (.inl l1), l2, l3, l4] [s0] h = evL 73 13 [l0, .inr (.inl l1), l2, l3, l4] [.inr (.inl l1), s0] h := ev_go c73_12 rfl
theorem c73_13 : cd 73 13 = some (13, .iload 4, 2, 0, 0, 0) := rfl
theorem s73_13 {l0 l1 l2 l3 s0 s1 : AV} {l4 : Int} {h : AH} : evL 73 13 [l0, l1, l2, l3, I l4] [s0, s1] h = evL 73 15 [l0, l1, l2, l3, I l4] [I l4, s0, s1] h := ev_go c73_13 rfl
theorem c73_15 : cd 73 15 = some (15, .invokevirtual 20, 3, 80, 0, 270) := rfl
theorem s73_15 {l0 l1 l2 l3 l4 s2 : AV} {s0 : Int} {s1 : Nat} {M : Mem} {P : PMem} (hk : kd s1 = 6) : evL 73 15 [l0, l1, l2, l3, l4] [I s0, Rf s1, s2] (Hp M P) = cont (evM 80 [Rf s1, I s0] (Hp M P)) (fun r h => evL 73 18 [l0, l1, l2, l3, l4] (rl r [s2]) h) := e_callV (av' := [I s0]) (rest := [s2]) (c := 6) c73_15 rfl rfl rfl rfl rfl rfl rfl hk rfl
theorem c73_18 : cd 73 18 = some (18, .invokestatic 43, 3, 78, 0, 620) := rfl
theorem s73_18 {l0 l1 l2 l3 l4 : AV} {s0 s1 : Int} {M : Mem} {P : PMem} : evL 73 18 [l0, l1, l2, l3, l4] [I s0, I s1] (Hp M P) = cont (evM 78 [I s1, I s0] (Hp M P)) (fun r h => evL 73 21 [l0, l1, l2, l3, l4] (rl r []) h) := e_callS (av := [I s1, I s0]) (rest := []) c73_18 rfl rfl rfl rfl rfl rfl
theorem c73_21 : cd 73 21 = some (21, .istore_n 3, 1, 0, 0, 0) := rfl
theorem s73_21 {l0 l1 l2 l3 l4 : AV} {s0 : Int} {h : AH} : evL 73 21 [l0, l1, l2, l3, l4] [I s0] h = evL 73 22 [l0, l1, l2, I s0, l4] [] h := ev_go c73_21 rfl
theorem c73_22 : cd 73 22 = some (22, .iload_n 3, 1, 0, 0, 0) := rfl
theorem s73_22 {l0 l1 l2 l4 : AV} {l3 : Int} {h : AH} : evL 73 22 [l0, l1, l2, I l3, l4] [] h = evL 73 23 [l0, l1, l2, I l3, l4] [I l3] h := ev_go c73_22 rfl
theorem c73_23 : cd 73 23 = some (23, .invokestatic 32, 3, 75, 0, 313) := rfl
theorem s73_23 {l0 l1 l2 l3 l4 : AV} {s0 : Int} {M : Mem} {P : PMem} : evL 73 23 [l0, l1, l2, l3, l4] [I s0] (Hp M P) = cont (evM 75 [I s0] (Hp M P)) (fun r h => evL 73 26 [l0, l1, l2, l3, l4] (rl r []) h) := e_callS (av := [I s0]) (rest := []) c73_23 rfl rfl rfl rfl rfl rfl
theorem c73_26 : cd 73 26 = some (26, .iconst 3, 1, 0, 0, 0) := rfl
theorem s73_26 {l0 l1 l2 l3 l4 s0 : AV} {h : AH} : evL 73 26 [l0, l1, l2, l3, l4] [s0] h = evL 73 27 [l0, l1, l2, l3, l4] [I 3, s0] h := ev_go c73_26 rfl
theorem c73_27 : cd 73 27 = some (27, .if_icmp .eq 11, 3, 0, 0, 0) := rfl
theorem s73_27 {l0 l1 l2 l3 l4 : AV} {s0 s1 : Int} {h : AH} : evL 73 27 [l0, l1, l2, l3, l4] [I s0, I s1] h = if s1 = s0 then evL 73 38 [l0, l1, l2, l3, l4] [] h else evL 73 30 [l0, l1, l2, l3, l4] [] h := e_icmp_eq c73_27 rfl rfl
theorem c73_30 : cd 73 30 = some (30, .iload 4, 2, 0, 0, 0) := rfl
theorem s73_30 {l0 l1 l2 l3 : AV} {l4 : Int} {h : AH} : evL 73 30 [l0, l1, l2, l3, I l4] [] h = evL 73 32 [l0, l1, l2, l3, I l4] [I l4] h := ev_go c73_30 rfl
theorem c73_32 : cd 73 32 = some (32, .iload_n 2, 1, 0, 0, 0) := rfl
theorem s73_32 {l0 l1 l3 l4 s0 : AV} {l2 : Int} {h : AH} : evL 73 32 [l0, l1, I l2, l3, l4] [s0] h = evL 73 33 [l0, l1, I l2, l3, l4] [I l2, s0] h := ev_go c73_32 rfl
theorem c73_33 : cd 73 33 = some (33, .iconst 1, 1, 0, 0, 0) := rfl
theorem s73_33 {l0 l1 l2 l3 l4 s0 s1 : AV} {h : AH} : evL 73 33 [l0, l1, l2, l3, l4] [s0, s1] h = evL 73 34 [l0, l1, l2, l3, l4] [I 1, s0, s1] h := ev_go c73_33 rfl
theorem c73_34 : cd 73 34 = some (34, .isub, 1, 0, 0, 0) := rfl
theorem s73_34 {l0 l1 l2 l3 l4 s2 : AV} {s0 s1 : Int} {h : AH} : evL 73 34 [l0, l1, l2, l3, l4] [I s0, I s1, s2] h = evL 73 35 [l0, l1, l2, l3, l4] [I (sb s1 s0), s2] h := ev_go c73_34 rfl
theorem c73_35 : cd 73 35 = some (35, .if_icmp .ne 10, 3, 0, 0, 0) := rfl
theorem s73_35 {l0 l1 l2 l3 l4 : AV} {s0 s1 : Int} {h : AH} : evL 73 35 [l0, l1, l2, l3, l4] [I s0, I s1] h = if s1 = s0 then evL 73 38 [l0, l1, l2, l3, l4] [] h else evL 73 45 [l0, l1, l2, l3, l4] [] h := e_icmp_ne c73_35 rfl rfl
theorem c73_38 : cd 73 38 = some (38, .aload_n 0, 1, 0, 0, 0) := rfl
theorem s73_38 {l1 l2 l3 l4 : AV} {l0 : Option Nat} {h : AH} : evL 73 38 [.inr (.inl l0), l1, l2, l3, l4] [] h = evL 73 39 [.inr (.inl l0), l1, l2, l3, l4] [.inr (.inl l0)] h := ev_go c73_38 rfl
theorem c73_39 : cd 73 39 = some (39, .iload_n 3, 1, 0, 0, 0) := rfl
theorem s73_39 {l0 l1 l2 l4 s0 : AV} {l3 : Int} {h : AH} : evL 73 39 [l0, l1, l2, I l3, l4] [s0] h = evL 73 40 [l0, l1, l2, I l3, l4] [I l3, s0] h := ev_go c73_39 rfl
theorem c73_40 : cd 73 40 = some (40, .invokevirtual 40, 3, 68, 0, 615) := rfl
theorem s73_40 {l0 l1 l2 l3 l4 : AV} {s0 : Int} {s1 : Nat} {M : Mem} {P : PMem} (hk : kd s1 = 5) : evL 73 40 [l0, l1, l2, l3, l4] [I s0, Rf s1] (Hp M P) = cont (evM 68 [Rf s1, I s0] (Hp M P)) (fun r h => evL 73 43 [l0, l1, l2, l3, l4] (rl r []) h) := e_callV (av' := [I s0]) (rest := []) (c := 5) c73_40 rfl rfl rfl rfl rfl rfl rfl hk rfl
theorem c73_43 : cd 73 43 = some (43, .iconst 0, 1, 0, 0, 0) := rfl
theorem s73_43 {l0 l1 l2 l3 l4 : AV} {h : AH} : evL 73 43 [l0, l1, l2, l3, l4] [] h = evL 73 44 [l0, l1, l2, l3, l4] [I 0] h := ev_go c73_43 rfl
theorem c73_44 : cd 73 44 = some (44, .istore_n 3, 1, 0, 0, 0) := rfl
theorem s73_44 {l0 l1 l2 l3 l4 : AV} {s0 : Int} {h : AH} : evL 73 44 [l0, l1, l2, l3, l4] [I s0] h = evL 73 45 [l0, l1, l2, I s0, l4] [] h := ev_go c73_44 rfl
theorem c73_45 : cd 73 45 = some (45, .iinc 4 1, 3, 0, 0, 0) := rfl
theorem s73_45 {l0 l1 l2 l3 : AV} {l4 : Int} {h : AH} : evL 73 45 [l0, l1, l2, l3, I l4] [] h = evL 73 48 [l0, l1, l2, l3, I (ad l4 1)] [] h := ev_go c73_45 rfl
theorem c73_48 : cd 73 48 = some (48, .goto (-43), 3, 0, 0, 0) := rfl
theorem s73_48 {l0 l1 l2 l3 l4 : AV} {h : AH} : evL 73 48 [l0, l1, l2, l3, l4] [] h = evL 73 5 [l0, l1, l2, l3, l4] [] h := ev_go c73_48 rfl
theorem c73_51 : cd 73 51 = some (51, .return_, 1, 0, 0, 0) := rfl
theorem s73_51 {l0 l1 l2 l3 l4 : AV} {h : AH} : evL 73 51 [l0, l1, l2, l3, l4] [] h = some (none, h) := e_ret c73_51 rfl
/-! 74: TankDivers$Path.copyFrom(LTankDivers$Path;)V -/
theorem en74 {l0 l1 : AV} {h : AH} : evM 74 [l0, l1] h = evL 74 0 [l0, l1] [] h := rfl
theorem c74_0 : cd 74 0 = some (0, .aload_n 0, 1, 0, 0, 0) := rfl
theorem s74_0 {l1 : AV} {l0 : Option Nat} {h : AH} : evL 74 0 [.inr (.inl l0), l1] [] h = evL 74 1 [.inr (.inl l0), l1] [.inr (.inl l0)] h := ev_go c74_0 rfl
theorem c74_1 : cd 74 1 = some (1, .getfield 14, 3, 5, 0, 57) := rfl
theorem s74_1 {l0 l1 : AV} {s0 : Nat} {M : Mem} {P : PMem} (hk : kd s0 = 5) : evL 74 1 [l0, l1] [Rf s0] (Hp M P) = evL 74 4 [l0, l1] [Rf (rfd s0 0)] (Hp M P) := e_getR c74_1 rfl hk
theorem c74_4 : cd 74 4 = some (4, .aload_n 1, 1, 0, 0, 0) := rfl
theorem s74_4 {l0 s0 : AV} {l1 : Option Nat} {h : AH} : evL 74 4 [l0, .inr (.inl l1)] [s0] h = evL 74 5 [l0, .inr (.inl l1)] [.inr (.inl l1), s0] h := ev_go c74_4 rfl
theorem c74_5 : cd 74 5 = some (5, .getfield 14, 3, 5, 0, 57) := rfl
theorem s74_5 {l0 l1 s1 : AV} {s0 : Nat} {M : Mem} {P : PMem} (hk : kd s0 = 5) : evL 74 5 [l0, l1] [Rf s0, s1] (Hp M P) = evL 74 8 [l0, l1] [Rf (rfd s0 0), s1] (Hp M P) := e_getR c74_5 rfl hk
theorem c74_8 : cd 74 8 = some (8, .invokevirtual 47, 3, 85, 0, 352) := rfl
theorem s74_8 {l0 l1 : AV} {s0 s1 : Nat} {M : Mem} {P : PMem} (hk : kd s1 = 6) : evL 74 8 [l0, l1] [Rf s0, Rf s1] (Hp M P) = cont (evM 85 [Rf s1, Rf s0] (Hp M P)) (fun r h => evL 74 11 [l0, l1] (rl r []) h) := e_callV (av' := [Rf s0]) (rest := []) (c := 6) c74_8 rfl rfl rfl rfl rfl rfl rfl hk rfl
theorem c74_11 : cd 74 11 = some (11, .aload_n 0, 1, 0, 0, 0) := rfl
theorem s74_11 {l1 : AV} {l0 : Option Nat} {h : AH} : evL 74 11 [.inr (.inl l0), l1] [] h = evL 74 12 [.inr (.inl l0), l1] [.inr (.inl l0)] h := ev_go c74_11 rfl
theorem c74_12 : cd 74 12 = some (12, .aload_n 1, 1, 0, 0, 0) := rfl
theorem s74_12 {l0 s0 : AV} {l1 : Option Nat} {h : AH} : evL 74 12 [l0, .inr (.inl l1)] [s0] h = evL 74 13 [l0, .inr (.inl l1)] [.inr (.inl l1), s0] h := ev_go c74_12 rfl
theorem c74_13 : cd 74 13 = some (13, .getfield 28, 3, 5, 1, 59) := rfl
theorem s74_13 {l0 l1 s1 : AV} {s0 : Nat} {M : Mem} {P : PMem} (hk : kd s0 = 5) : evL 74 13 [l0, l1] [Rf s0, s1] (Hp M P) = evL 74 16 [l0, l1] [I (M s0 1), s1] (Hp M P) := e_getI c74_13 rfl hk
theorem c74_16 : cd 74 16 = some (16, .putfield 28, 3, 5, 1, 59) := rfl
theorem s74_16 {l0 l1 : AV} {s0 : Int} {s1 : Nat} {M : Mem} {P : PMem} (hk : kd s1 = 5) : evL 74 16 [l0, l1] [I s0, Rf s1] (Hp M P) = evL 74 19 [l0, l1] [] (Hp (wr M s1 1 s0) P) := e_putI c74_16 rfl hk
theorem c74_19 : cd 74 19 = some (19, .return_, 1, 0, 0, 0) := rfl
theorem s74_19 {l0 l1 : AV} {h : AH} : evL 74 19 [l0, l1] [] h = some (none, h) := e_ret c74_19 rfl
/-! 75: TankDivers$Pile.sizeOf(I)I -/
theorem en75 {l0 : AV} {h : AH} : evM 75 [l0] h = evL 75 0 [l0] [] h := rfl
theorem c75_0 : cd 75 0 = some (0, .iload_n 0, 1, 0, 0, 0) := rfl
theorem s75_0 {l0 : Int} {h : AH} : evL 75 0 [I l0] [] h = evL 75 1 [I l0] [I l0] h := ev_go c75_0 rfl
theorem c75_1 : cd 75 1 = some (1, .bipush 12, 2, 0, 0, 0) := rfl
theorem s75_1 {l0 s0 : AV} {h : AH} : evL 75 1 [l0] [s0] h = evL 75 3 [l0] [I 12, s0] h := ev_go c75_1 rfl
theorem c75_3 : cd 75 3 = some (3, .ishr, 1, 0, 0, 0) := rfl
theorem s75_3 {l0 : AV} {s0 s1 : Int} {h : AH} : evL 75 3 [l0] [I s0, I s1] h = evL 75 4 [l0] [I (shr s1 s0)] h := ev_go c75_3 rfl
theorem c75_4 : cd 75 4 = some (4, .ireturn, 1, 0, 0, 0) := rfl
theorem s75_4 {l0 : AV} {s0 : Int} {h : AH} : evL 75 4 [l0] [I s0] h = some (some (I s0), h) := e_ret c75_4 rfl
/-! 76: TankDivers$Pile.valueAt(II)I -/
theorem en76 {l0 l1 : AV} {h : AH} : evM 76 [l0, l1] h = evL 76 0 [l0, l1] [] h := rfl
theorem c76_0 : cd 76 0 = some (0, .iload_n 0, 1, 0, 0, 0) := rfl
theorem s76_0 {l1 : AV} {l0 : Int} {h : AH} : evL 76 0 [I l0, l1] [] h = evL 76 1 [I l0, l1] [I l0] h := ev_go c76_0 rfl
theorem c76_1 : cd 76 1 = some (1, .iconst 4, 1, 0, 0, 0) := rfl
theorem s76_1 {l0 l1 s0 : AV} {h : AH} : evL 76 1 [l0, l1] [s0] h = evL 76 2 [l0, l1] [I 4, s0] h := ev_go c76_1 rfl
theorem c76_2 : cd 76 2 = some (2, .iload_n 1, 1, 0, 0, 0) := rfl
theorem s76_2 {l0 s0 s1 : AV} {l1 : Int} {h : AH} : evL 76 2 [l0, I l1] [s0, s1] h = evL 76 3 [l0, I l1] [I l1, s0, s1] h := ev_go c76_2 rfl
theorem c76_3 : cd 76 3 = some (3, .imul, 1, 0, 0, 0) := rfl
theorem s76_3 {l0 l1 s2 : AV} {s0 s1 : Int} {h : AH} : evL 76 3 [l0, l1] [I s0, I s1, s2] h = evL 76 4 [l0, l1] [I (ml s1 s0), s2] h := ev_go c76_3 rfl
theorem c76_4 : cd 76 4 = some (4, .ishr, 1, 0, 0, 0) := rfl
theorem s76_4 {l0 l1 : AV} {s0 s1 : Int} {h : AH} : evL 76 4 [l0, l1] [I s0, I s1] h = evL 76 5 [l0, l1] [I (shr s1 s0)] h := ev_go c76_4 rfl
theorem c76_5 : cd 76 5 = some (5, .bipush 15, 2, 0, 0, 0) := rfl
theorem s76_5 {l0 l1 s0 : AV} {h : AH} : evL 76 5 [l0, l1] [s0] h = evL 76 7 [l0, l1] [I 15, s0] h := ev_go c76_5 rfl
theorem c76_7 : cd 76 7 = some (7, .iand, 1, 0, 0, 0) := rfl
theorem s76_7 {l0 l1 : AV} {s0 s1 : Int} {h : AH} : evL 76 7 [l0, l1] [I s0, I s1] h = evL 76 8 [l0, l1] [I (an s1 s0)] h := ev_go c76_7 rfl
theorem c76_8 : cd 76 8 = some (8, .ireturn, 1, 0, 0, 0) := rfl
theorem s76_8 {l0 l1 : AV} {s0 : Int} {h : AH} : evL 76 8 [l0, l1] [I s0] h = some (some (I s0), h) := e_ret c76_8 rfl
/-! 77: TankDivers$Pile.sumOf(I)I -/
theorem en77 {l0 : AV} {h : AH} : evM 77 [l0] h = evL 77 0 [l0] [] h := rfl
theorem c77_0 : cd 77 0 = some (0, .iload_n 0, 1, 0, 0, 0) := rfl
theorem s77_0 {l0 : Int} {h : AH} : evL 77 0 [I l0] [] h = evL 77 1 [I l0] [I l0] h := ev_go c77_0 rfl
theorem c77_1 : cd 77 1 = some (1, .iconst 0, 1, 0, 0, 0) := rfl
theorem s77_1 {l0 s0 : AV} {h : AH} : evL 77 1 [l0] [s0] h = evL 77 2 [l0] [I 0, s0] h := ev_go c77_1 rfl
theorem c77_2 : cd 77 2 = some (2, .invokestatic 11, 3, 76, 0, 281) := rfl
theorem s77_2 {l0 : AV} {s0 s1 : Int} {M : Mem} {P : PMem} : evL 77 2 [l0] [I s0, I s1] (Hp M P) = cont (evM 76 [I s1, I s0] (Hp M P)) (fun r h => evL 77 5 [l0] (rl r []) h) := e_callS (av := [I s1, I s0]) (rest := []) c77_2 rfl rfl rfl rfl rfl rfl
theorem c77_5 : cd 77 5 = some (5, .iload_n 0, 1, 0, 0, 0) := rfl
theorem s77_5 {s0 : AV} {l0 : Int} {h : AH} : evL 77 5 [I l0] [s0] h = evL 77 6 [I l0] [I l0, s0] h := ev_go c77_5 rfl
theorem c77_6 : cd 77 6 = some (6, .iconst 1, 1, 0, 0, 0) := rfl
theorem s77_6 {l0 s0 s1 : AV} {h : AH} : evL 77 6 [l0] [s0, s1] h = evL 77 7 [l0] [I 1, s0, s1] h := ev_go c77_6 rfl
theorem c77_7 : cd 77 7 = some (7, .invokestatic 11, 3, 76, 0, 281) := rfl
theorem s77_7 {l0 s2 : AV} {s0 s1 : Int} {M : Mem} {P : PMem} : evL 77 7 [l0] [I s0, I s1, s2] (Hp M P) = cont (evM 76 [I s1, I s0] (Hp M P)) (fun r h => evL 77 10 [l0] (rl r [s2]) h) := e_callS (av := [I s1, I s0]) (rest := [s2]) c77_7 rfl rfl rfl rfl rfl rfl
theorem c77_10 : cd 77 10 = some (10, .iadd, 1, 0, 0, 0) := rfl
theorem s77_10 {l0 : AV} {s0 s1 : Int} {h : AH} : evL 77 10 [l0] [I s0, I s1] h = evL 77 11 [l0] [I (ad s1 s0)] h := ev_go c77_10 rfl
theorem c77_11 : cd 77 11 = some (11, .iload_n 0, 1, 0, 0, 0) := rfl
theorem s77_11 {s0 : AV} {l0 : Int} {h : AH} : evL 77 11 [I l0] [s0] h = evL 77 12 [I l0] [I l0, s0] h := ev_go c77_11 rfl
theorem c77_12 : cd 77 12 = some (12, .iconst 2, 1, 0, 0, 0) := rfl
theorem s77_12 {l0 s0 s1 : AV} {h : AH} : evL 77 12 [l0] [s0, s1] h = evL 77 13 [l0] [I 2, s0, s1] h := ev_go c77_12 rfl
theorem c77_13 : cd 77 13 = some (13, .invokestatic 11, 3, 76, 0, 281) := rfl
theorem s77_13 {l0 s2 : AV} {s0 s1 : Int} {M : Mem} {P : PMem} : evL 77 13 [l0] [I s0, I s1, s2] (Hp M P) = cont (evM 76 [I s1, I s0] (Hp M P)) (fun r h => evL 77 16 [l0] (rl r [s2]) h) := e_callS (av := [I s1, I s0]) (rest := [s2]) c77_13 rfl rfl rfl rfl rfl rfl
theorem c77_16 : cd 77 16 = some (16, .iadd, 1, 0, 0, 0) := rfl
theorem s77_16 {l0 : AV} {s0 s1 : Int} {h : AH} : evL 77 16 [l0] [I s0, I s1] h = evL 77 17 [l0] [I (ad s1 s0)] h := ev_go c77_16 rfl
theorem c77_17 : cd 77 17 = some (17, .ireturn, 1, 0, 0, 0) := rfl
theorem s77_17 {l0 : AV} {s0 : Int} {h : AH} : evL 77 17 [l0] [I s0] h = some (some (I s0), h) := e_ret c77_17 rfl
/-! 78: TankDivers$Pile.withOnTop(II)I -/
theorem en78 {l0 l1 : AV} {h : AH} : evM 78 [l0, l1] h = evL 78 0 [l0, l1] [] h := rfl
theorem c78_0 : cd 78 0 = some (0, .iload_n 0, 1, 0, 0, 0) := rfl
theorem s78_0 {l1 : AV} {l0 : Int} {h : AH} : evL 78 0 [I l0, l1] [] h = evL 78 1 [I l0, l1] [I l0] h := ev_go c78_0 rfl
theorem c78_1 : cd 78 1 = some (1, .sipush 4096, 3, 0, 0, 0) := rfl
theorem s78_1 {l0 l1 s0 : AV} {h : AH} : evL 78 1 [l0, l1] [s0] h = evL 78 4 [l0, l1] [I 4096, s0] h := ev_go c78_1 rfl
theorem c78_4 : cd 78 4 = some (4, .iadd, 1, 0, 0, 0) := rfl
theorem s78_4 {l0 l1 : AV} {s0 s1 : Int} {h : AH} : evL 78 4 [l0, l1] [I s0, I s1] h = evL 78 5 [l0, l1] [I (ad s1 s0)] h := ev_go c78_4 rfl
theorem c78_5 : cd 78 5 = some (5, .iload_n 1, 1, 0, 0, 0) := rfl
theorem s78_5 {l0 s0 : AV} {l1 : Int} {h : AH} : evL 78 5 [l0, I l1] [s0] h = evL 78 6 [l0, I l1] [I l1, s0] h := ev_go c78_5 rfl
theorem c78_6 : cd 78 6 = some (6, .iconst 4, 1, 0, 0, 0) := rfl
theorem s78_6 {l0 l1 s0 s1 : AV} {h : AH} : evL 78 6 [l0, l1] [s0, s1] h = evL 78 7 [l0, l1] [I 4, s0, s1] h := ev_go c78_6 rfl
theorem c78_7 : cd 78 7 = some (7, .iload_n 0, 1, 0, 0, 0) := rfl
theorem s78_7 {l1 s0 s1 s2 : AV} {l0 : Int} {h : AH} : evL 78 7 [I l0, l1] [s0, s1, s2] h = evL 78 8 [I l0, l1] [I l0, s0, s1, s2] h := ev_go c78_7 rfl
theorem c78_8 : cd 78 8 = some (8, .invokestatic 15, 3, 75, 0, 210) := rfl
theorem s78_8 {l0 l1 s1 s2 s3 : AV} {s0 : Int} {M : Mem} {P : PMem} : evL 78 8 [l0, l1] [I s0, s1, s2, s3] (Hp M P) = cont (evM 75 [I s0] (Hp M P)) (fun r h => evL 78 11 [l0, l1] (rl r [s1, s2, s3]) h) := e_callS (av := [I s0]) (rest := [s1, s2, s3]) c78_8 rfl rfl rfl rfl rfl rfl
theorem c78_11 : cd 78 11 = some (11, .imul, 1, 0, 0, 0) := rfl
theorem s78_11 {l0 l1 s2 s3 : AV} {s0 s1 : Int} {h : AH} : evL 78 11 [l0, l1] [I s0, I s1, s2, s3] h = evL 78 12 [l0, l1] [I (ml s1 s0), s2, s3] h := ev_go c78_11 rfl
theorem c78_12 : cd 78 12 = some (12, .ishl, 1, 0, 0, 0) := rfl
theorem s78_12 {l0 l1 s2 : AV} {s0 s1 : Int} {h : AH} : evL 78 12 [l0, l1] [I s0, I s1, s2] h = evL 78 13 [l0, l1] [I (shl s1 s0), s2] h := ev_go c78_12 rfl
theorem c78_13 : cd 78 13 = some (13, .iadd, 1, 0, 0, 0) := rfl
theorem s78_13 {l0 l1 : AV} {s0 s1 : Int} {h : AH} : evL 78 13 [l0, l1] [I s0, I s1] h = evL 78 14 [l0, l1] [I (ad s1 s0)] h := ev_go c78_13 rfl
theorem c78_14 : cd 78 14 = some (14, .ireturn, 1, 0, 0, 0) := rfl
theorem s78_14 {l0 l1 : AV} {s0 : Int} {h : AH} : evL 78 14 [l0, l1] [I s0] h = some (some (I s0), h) := e_ret c78_14 rfl
/-! 80: TankDivers$Row.get(I)I -/
theorem en80 {l0 l1 : AV} {h : AH} : evM 80 [l0, l1] h = evL 80 0 [l0, l1] [] h := rfl
theorem c80_0 : cd 80 0 = some (0, .iload_n 1, 1, 0, 0, 0) := rfl
theorem s80_0 {l0 : AV} {l1 : Int} {h : AH} : evL 80 0 [l0, I l1] [] h = evL 80 1 [l0, I l1] [I l1] h := ev_go c80_0 rfl
theorem c80_1 : cd 80 1 = some (1, .ifCond .lt 21, 3, 0, 0, 0) := rfl
theorem s80_1 {l0 l1 : AV} {s0 : Int} {h : AH} : evL 80 1 [l0, l1] [I s0] h = if s0 < 0 then evL 80 22 [l0, l1] [] h else evL 80 4 [l0, l1] [] h := e_if_lt c80_1 rfl rfl
theorem c80_4 : cd 80 4 = some (4, .iload_n 1, 1, 0, 0, 0) := rfl
theorem s80_4 {l0 : AV} {l1 : Int} {h : AH} : evL 80 4 [l0, I l1] [] h = evL 80 5 [l0, I l1] [I l1] h := ev_go c80_4 rfl
theorem c80_5 : cd 80 5 = some (5, .aload_n 0, 1, 0, 0, 0) := rfl
theorem s80_5 {l1 s0 : AV} {l0 : Option Nat} {h : AH} : evL 80 5 [.inr (.inl l0), l1] [s0] h = evL 80 6 [.inr (.inl l0), l1] [.inr (.inl l0), s0] h := ev_go c80_5 rfl
theorem c80_6 : cd 80 6 = some (6, .getfield 13, 3, 6, 0, 52) := rfl
theorem s80_6 {l0 l1 s1 : AV} {s0 : Nat} {M : Mem} {P : PMem} (hk : kd s0 = 6) : evL 80 6 [l0, l1] [Rf s0, s1] (Hp M P) = evL 80 9 [l0, l1] [Rf (rfd s0 0), s1] (Hp M P) := e_getR c80_6 rfl hk
theorem c80_9 : cd 80 9 = some (9, .arraylength, 1, 0, 0, 0) := rfl
theorem s80_9 {l0 l1 s1 : AV} {s0 : Nat} {M : Mem} {P : PMem} (hk : kd s0 = 100 ∨ kd s0 = 101) (hl : ln s0 ≤ 1000000) : evL 80 9 [l0, l1] [Rf s0, s1] (Hp M P) = evL 80 10 [l0, l1] [I (ln s0 : Int), s1] (Hp M P) := e_alen c80_9 hk hl
theorem c80_10 : cd 80 10 = some (10, .if_icmp .ge 12, 3, 0, 0, 0) := rfl
theorem s80_10 {l0 l1 : AV} {s0 s1 : Int} {h : AH} : evL 80 10 [l0, l1] [I s0, I s1] h = if s0 ≤ s1 then evL 80 22 [l0, l1] [] h else evL 80 13 [l0, l1] [] h := e_icmp_ge c80_10 rfl rfl
theorem c80_13 : cd 80 13 = some (13, .aload_n 0, 1, 0, 0, 0) := rfl
theorem s80_13 {l1 : AV} {l0 : Option Nat} {h : AH} : evL 80 13 [.inr (.inl l0), l1] [] h = evL 80 14 [.inr (.inl l0), l1] [.inr (.inl l0)] h := ev_go c80_13 rfl
theorem c80_14 : cd 80 14 = some (14, .getfield 13, 3, 6, 0, 52) := rfl
theorem s80_14 {l0 l1 : AV} {s0 : Nat} {M : Mem} {P : PMem} (hk : kd s0 = 6) : evL 80 14 [l0, l1] [Rf s0] (Hp M P) = evL 80 17 [l0, l1] [Rf (rfd s0 0)] (Hp M P) := e_getR c80_14 rfl hk
theorem c80_17 : cd 80 17 = some (17, .iload_n 1, 1, 0, 0, 0) := rfl
theorem s80_17 {l0 s0 : AV} {l1 : Int} {h : AH} : evL 80 17 [l0, I l1] [s0] h = evL 80 18 [l0, I l1] [I l1, s0] h := ev_go c80_17 rfl
theorem c80_18 : cd 80 18 = some (18, .iaload, 1, 0, 0, 0) := rfl
theorem s80_18 {l0 l1 : AV} {s0 : Int} {s1 : Nat} {M : Mem} {P : PMem} (hk : kd s1 = 100) (h0 : 0 ≤ s0) (hn : s0.toNat < ln s1) : evL 80 18 [l0, l1] [I s0, Rf s1] (Hp M P) = evL 80 19 [l0, l1] [I (M s1 s0.toNat)] (Hp M P) := e_iald c80_18 hk h0 hn
theorem c80_19 : cd 80 19 = some (19, .goto 4, 3, 0, 0, 0) := rfl
theorem s80_19 {l0 l1 s0 : AV} {h : AH} : evL 80 19 [l0, l1] [s0] h = evL 80 23 [l0, l1] [s0] h := ev_go c80_19 rfl
theorem c80_22 : cd 80 22 = some (22, .iconst 0, 1, 0, 0, 0) := rfl
theorem s80_22 {l0 l1 : AV} {h : AH} : evL 80 22 [l0, l1] [] h = evL 80 23 [l0, l1] [I 0] h := ev_go c80_22 rfl
theorem c80_23 : cd 80 23 = some (23, .ireturn, 1, 0, 0, 0) := rfl
theorem s80_23 {l0 l1 : AV} {s0 : Int} {h : AH} : evL 80 23 [l0, l1] [I s0] h = some (some (I s0), h) := e_ret c80_23 rfl
/-! 81: TankDivers$Row.set(II)V -/
theorem en81 {l0 l1 l2 : AV} {h : AH} : evM 81 [l0, l1, l2] h = evL 81 0 [l0, l1, l2] [] h := rfl
theorem c81_0 : cd 81 0 = some (0, .iload_n 1, 1, 0, 0, 0) := rfl
theorem s81_0 {l0 l2 : AV} {l1 : Int} {h : AH} : evL 81 0 [l0, I l1, l2] [] h = evL 81 1 [l0, I l1, l2] [I l1] h := ev_go c81_0 rfl
theorem c81_1 : cd 81 1 = some (1, .ifCond .lt 19, 3, 0, 0, 0) := rfl
theorem s81_1 {l0 l1 l2 : AV} {s0 : Int} {h : AH} : evL 81 1 [l0, l1, l2] [I s0] h = if s0 < 0 then evL 81 20 [l0, l1, l2] [] h else evL 81 4 [l0, l1, l2] [] h := e_if_lt c81_1 rfl rfl
theorem c81_4 : cd 81 4 = some (4, .iload_n 1, 1, 0, 0, 0) := rfl
theorem s81_4 {l0 l2 : AV} {l1 : Int} {h : AH} : evL 81 4 [l0, I l1, l2] [] h = evL 81 5 [l0, I l1, l2] [I l1] h := ev_go c81_4 rfl
theorem c81_5 : cd 81 5 = some (5, .aload_n 0, 1, 0, 0, 0) := rfl
theorem s81_5 {l1 l2 s0 : AV} {l0 : Option Nat} {h : AH} : evL 81 5 [.inr (.inl l0), l1, l2] [s0] h = evL 81 6 [.inr (.inl l0), l1, l2] [.inr (.inl l0), s0] h := ev_go c81_5 rfl
theorem c81_6 : cd 81 6 = some (6, .getfield 13, 3, 6, 0, 52) := rfl
theorem s81_6 {l0 l1 l2 s1 : AV} {s0 : Nat} {M : Mem} {P : PMem} (hk : kd s0 = 6) : evL 81 6 [l0, l1, l2] [Rf s0, s1] (Hp M P) = evL 81 9 [l0, l1, l2] [Rf (rfd s0 0), s1] (Hp M P) := e_getR c81_6 rfl hk
theorem c81_9 : cd 81 9 = some (9, .arraylength, 1, 0, 0, 0) := rfl
theorem s81_9 {l0 l1 l2 s1 : AV} {s0 : Nat} {M : Mem} {P : PMem} (hk : kd s0 = 100 ∨ kd s0 = 101) (hl : ln s0 ≤ 1000000) : evL 81 9 [l0, l1, l2] [Rf s0, s1] (Hp M P) = evL 81 10 [l0, l1, l2] [I (ln s0 : Int), s1] (Hp M P) := e_alen c81_9 hk hl
theorem c81_10 : cd 81 10 = some (10, .if_icmp .ge 10, 3, 0, 0, 0) := rfl
theorem s81_10 {l0 l1 l2 : AV} {s0 s1 : Int} {h : AH} : evL 81 10 [l0, l1, l2] [I s0, I s1] h = if s0 ≤ s1 then evL 81 20 [l0, l1, l2] [] h else evL 81 13 [l0, l1, l2] [] h := e_icmp_ge c81_10 rfl rfl
theorem c81_13 : cd 81 13 = some (13, .aload_n 0, 1, 0, 0, 0) := rfl
theorem s81_13 {l1 l2 : AV} {l0 : Option Nat} {h : AH} : evL 81 13 [.inr (.inl l0), l1, l2] [] h = evL 81 14 [.inr (.inl l0), l1, l2] [.inr (.inl l0)] h := ev_go c81_13 rfl
theorem c81_14 : cd 81 14 = some (14, .getfield 13, 3, 6, 0, 52) := rfl
theorem s81_14 {l0 l1 l2 : AV} {s0 : Nat} {M : Mem} {P : PMem} (hk : kd s0 = 6) : evL 81 14 [l0, l1, l2] [Rf s0] (Hp M P) = evL 81 17 [l0, l1, l2] [Rf (rfd s0 0)] (Hp M P) := e_getR c81_14 rfl hk
theorem c81_17 : cd 81 17 = some (17, .iload_n 1, 1, 0, 0, 0) := rfl
theorem s81_17 {l0 l2 s0 : AV} {l1 : Int} {h : AH} : evL 81 17 [l0, I l1, l2] [s0] h = evL 81 18 [l0, I l1, l2] [I l1, s0] h := ev_go c81_17 rfl
theorem c81_18 : cd 81 18 = some (18, .iload_n 2, 1, 0, 0, 0) := rfl
theorem s81_18 {l0 l1 s0 s1 : AV} {l2 : Int} {h : AH} : evL 81 18 [l0, l1, I l2] [s0, s1] h = evL 81 19 [l0, l1, I l2] [I l2, s0, s1] h := ev_go c81_18 rfl
theorem c81_19 : cd 81 19 = some (19, .iastore, 1, 0, 0, 0) := rfl
theorem s81_19 {l0 l1 l2 : AV} {s0 s1 : Int} {s2 : Nat} {M : Mem} {P : PMem} (hk : kd s2 = 100) (h0 : 0 ≤ s1) (hn : s1.toNat < ln s2) : evL 81 19 [l0, l1, l2] [I s0, I s1, Rf s2] (Hp M P) = evL 81 20 [l0, l1, l2] [] (Hp (wr M s2 s1.toNat s0) P) := e_iast c81_19 hk h0 hn
theorem c81_20 : cd 81 20 = some (20, .return_, 1, 0, 0, 0) := rfl
theorem s81_20 {l0 l1 l2 : AV} {h : AH} : evL 81 20 [l0, l1, l2] [] h = some (none, h) := e_ret c81_20 rfl
/-! 82: TankDivers$Row.add(II)V -/
theorem en82 {l0 l1 l2 : AV} {h : AH} : evM 82 [l0, l1, l2] h = evL 82 0 [l0, l1, l2] [] h := rfl
theorem c82_0 : cd 82 0 = some (0, .aload_n 0, 1, 0, 0, 0) := rfl
theorem s82_0 {l1 l2 : AV} {l0 : Option Nat} {h : AH} : evL 82 0 [.inr (.inl l0), l1, l2] [] h = evL 82 1 [.inr (.inl l0), l1, l2] [.inr (.inl l0)] h := ev_go c82_0 rfl
theorem c82_1 : cd 82 1 = some (1, .iload_n 1, 1, 0, 0, 0) := rfl
theorem s82_1 {l0 l2 s0 : AV} {l1 : Int} {h : AH} : evL 82 1 [l0, I l1, l2] [s0] h = evL 82 2 [l0, I l1, l2] [I l1, s0] h := ev_go c82_1 rfl
theorem c82_2 : cd 82 2 = some (2, .aload_n 0, 1, 0, 0, 0) := rfl
theorem s82_2 {l1 l2 s0 s1 : AV} {l0 : Option Nat} {h : AH} : evL 82 2 [.inr (.inl l0), l1, l2] [s0, s1] h = evL 82 3 [.inr (.inl l0), l1, l2] [.inr (.inl l0), s0, s1] h := ev_go c82_2 rfl
theorem c82_3 : cd 82 3 = some (3, .iload_n 1, 1, 0, 0, 0) := rfl
theorem s82_3 {l0 l2 s0 s1 s2 : AV} {l1 : Int} {h : AH} : evL 82 3 [l0, I l1, l2] [s0, s1, s2] h = evL 82 4 [l0, I l1, l2] [I l1, s0, s1, s2] h := ev_go c82_3 rfl
theorem c82_4 : cd 82 4 = some (4, .invokevirtual 19, 3, 80, 0, 356) := rfl
theorem s82_4 {l0 l1 l2 s2 s3 : AV} {s0 : Int} {s1 : Nat} {M : Mem} {P : PMem} (hk : kd s1 = 6) : evL 82 4 [l0, l1, l2] [I s0, Rf s1, s2, s3] (Hp M P) = cont (evM 80 [Rf s1, I s0] (Hp M P)) (fun r h => evL 82 7 [l0, l1, l2] (rl r [s2, s3]) h) := e_callV (av' := [I s0]) (rest := [s2, s3]) (c := 6) c82_4 rfl rfl rfl rfl rfl rfl rfl hk rfl
theorem c82_7 : cd 82 7 = some (7, .iload_n 2, 1, 0, 0, 0) := rfl
theorem s82_7 {l0 l1 s0 s1 s2 : AV} {l2 : Int} {h : AH} : evL 82 7 [l0, l1, I l2] [s0, s1, s2] h = evL 82 8 [l0, l1, I l2] [I l2, s0, s1, s2] h := ev_go c82_7 rfl
theorem c82_8 : cd 82 8 = some (8, .iadd, 1, 0, 0, 0) := rfl
theorem s82_8 {l0 l1 l2 s2 s3 : AV} {s0 s1 : Int} {h : AH} : evL 82 8 [l0, l1, l2] [I s0, I s1, s2, s3] h = evL 82 9 [l0, l1, l2] [I (ad s1 s0), s2, s3] h := ev_go c82_8 rfl
theorem c82_9 : cd 82 9 = some (9, .invokevirtual 23, 3, 81, 0, 524) := rfl
theorem s82_9 {l0 l1 l2 : AV} {s0 s1 : Int} {s2 : Nat} {M : Mem} {P : PMem} (hk : kd s2 = 6) : evL 82 9 [l0, l1, l2] [I s0, I s1, Rf s2] (Hp M P) = cont (evM 81 [Rf s2, I s1, I s0] (Hp M P)) (fun r h => evL 82 12 [l0, l1, l2] (rl r []) h) := e_callV (av' := [I s1, I s0]) (rest := []) (c := 6) c82_9 rfl rfl rfl rfl rfl rfl rfl hk rfl
theorem c82_12 : cd 82 12 = some (12, .return_, 1, 0, 0, 0) := rfl
theorem s82_12 {l0 l1 l2 : AV} {h : AH} : evL 82 12 [l0, l1, l2] [] h = some (none, h) := e_ret c82_12 rfl
/-! 83: TankDivers$Row.sum()I -/
theorem en83 {l0 : AV} {h : AH} : evM 83 [l0] h = evL 83 0 [l0, Db 0, Db 0] [] h := rfl
theorem c83_0 : cd 83 0 = some (0, .iconst 0, 1, 0, 0, 0) := rfl
theorem s83_0 {l0 l1 l2 : AV} {h : AH} : evL 83 0 [l0, l1, l2] [] h = evL 83 1 [l0, l1, l2] [I 0] h := ev_go c83_0 rfl
theorem c83_1 : cd 83 1 = some (1, .istore_n 1, 1, 0, 0, 0) := rfl
theorem s83_1 {l0 l1 l2 : AV} {s0 : Int} {h : AH} : evL 83 1 [l0, l1, l2] [I s0] h = evL 83 2 [l0, I s0, l2] [] h := ev_go c83_1 rfl
theorem c83_2 : cd 83 2 = some (2, .iconst 0, 1, 0, 0, 0) := rfl
theorem s83_2 {l0 l1 l2 : AV} {h : AH} : evL 83 2 [l0, l1, l2] [] h = evL 83 3 [l0, l1, l2] [I 0] h := ev_go c83_2 rfl
theorem c83_3 : cd 83 3 = some (3, .istore_n 2, 1, 0, 0, 0) := rfl
theorem s83_3 {l0 l1 l2 : AV} {s0 : Int} {h : AH} : evL 83 3 [l0, l1, l2] [I s0] h = evL 83 4 [l0, l1, I s0] [] h := ev_go c83_3 rfl
theorem c83_4 : cd 83 4 = some (4, .iload_n 2, 1, 0, 0, 0) := rfl
theorem s83_4 {l0 l1 : AV} {l2 : Int} {h : AH} : evL 83 4 [l0, l1, I l2] [] h = evL 83 5 [l0, l1, I l2] [I l2] h := ev_go c83_4 rfl
theorem c83_5 : cd 83 5 = some (5, .aload_n 0, 1, 0, 0, 0) := rfl
theorem s83_5 {l1 l2 s0 : AV} {l0 : Option Nat} {h : AH} : evL 83 5 [.inr (.inl l0), l1, l2] [s0] h = evL 83 6 [.inr (.inl l0), l1, l2] [.inr (.inl l0), s0] h := ev_go c83_5 rfl
theorem c83_6 : cd 83 6 = some (6, .getfield 13, 3, 6, 0, 52) := rfl
theorem s83_6 {l0 l1 l2 s1 : AV} {s0 : Nat} {M : Mem} {P : PMem} (hk : kd s0 = 6) : evL 83 6 [l0, l1, l2] [Rf s0, s1] (Hp M P) = evL 83 9 [l0, l1, l2] [Rf (rfd s0 0), s1] (Hp M P) := e_getR c83_6 rfl hk
theorem c83_9 : cd 83 9 = some (9, .arraylength, 1, 0, 0, 0) := rfl
theorem s83_9 {l0 l1 l2 s1 : AV} {s0 : Nat} {M : Mem} {P : PMem} (hk : kd s0 = 100 ∨ kd s0 = 101) (hl : ln s0 ≤ 1000000) : evL 83 9 [l0, l1, l2] [Rf s0, s1] (Hp M P) = evL 83 10 [l0, l1, l2] [I (ln s0 : Int), s1] (Hp M P) := e_alen c83_9 hk hl
theorem c83_10 : cd 83 10 = some (10, .if_icmp .ge 18, 3, 0, 0, 0) := rfl
theorem s83_10 {l0 l1 l2 : AV} {s0 s1 : Int} {h : AH} : evL 83 10 [l0, l1, l2] [I s0, I s1] h = if s0 ≤ s1 then evL 83 28 [l0, l1, l2] [] h else evL 83 13 [l0, l1, l2] [] h := e_icmp_ge c83_10 rfl rfl
theorem c83_13 : cd 83 13 = some (13, .iload_n 1, 1, 0, 0, 0) := rfl
theorem s83_13 {l0 l2 : AV} {l1 : Int} {h : AH} : evL 83 13 [l0, I l1, l2] [] h = evL 83 14 [l0, I l1, l2] [I l1] h := ev_go c83_13 rfl
theorem c83_14 : cd 83 14 = some (14, .aload_n 0, 1, 0, 0, 0) := rfl
theorem s83_14 {l1 l2 s0 : AV} {l0 : Option Nat} {h : AH} : evL 83 14 [.inr (.inl l0), l1, l2] [s0] h = evL 83 15 [.inr (.inl l0), l1, l2] [.inr (.inl l0), s0] h := ev_go c83_14 rfl
theorem c83_15 : cd 83 15 = some (15, .getfield 13, 3, 6, 0, 52) := rfl
theorem s83_15 {l0 l1 l2 s1 : AV} {s0 : Nat} {M : Mem} {P : PMem} (hk : kd s0 = 6) : evL 83 15 [l0, l1, l2] [Rf s0, s1] (Hp M P) = evL 83 18 [l0, l1, l2] [Rf (rfd s0 0), s1] (Hp M P) := e_getR c83_15 rfl hk
theorem c83_18 : cd 83 18 = some (18, .iload_n 2, 1, 0, 0, 0) := rfl
theorem s83_18 {l0 l1 s0 s1 : AV} {l2 : Int} {h : AH} : evL 83 18 [l0, l1, I l2] [s0, s1] h = evL 83 19 [l0, l1, I l2] [I l2, s0, s1] h := ev_go c83_18 rfl
theorem c83_19 : cd 83 19 = some (19, .iaload, 1, 0, 0, 0) := rfl
theorem s83_19 {l0 l1 l2 s2 : AV} {s0 : Int} {s1 : Nat} {M : Mem} {P : PMem} (hk : kd s1 = 100) (h0 : 0 ≤ s0) (hn : s0.toNat < ln s1) : evL 83 19 [l0, l1, l2] [I s0, Rf s1, s2] (Hp M P) = evL 83 20 [l0, l1, l2] [I (M s1 s0.toNat), s2] (Hp M P) := e_iald c83_19 hk h0 hn
theorem c83_20 : cd 83 20 = some (20, .iadd, 1, 0, 0, 0) := rfl
theorem s83_20 {l0 l1 l2 : AV} {s0 s1 : Int} {h : AH} : evL 83 20 [l0, l1, l2] [I s0, I s1] h = evL 83 21 [l0, l1, l2] [I (ad s1 s0)] h := ev_go c83_20 rfl
theorem c83_21 : cd 83 21 = some (21, .istore_n 1, 1, 0, 0, 0) := rfl
theorem s83_21 {l0 l1 l2 : AV} {s0 : Int} {h : AH} : evL 83 21 [l0, l1, l2] [I s0] h = evL 83 22 [l0, I s0, l2] [] h := ev_go c83_21 rfl
theorem c83_22 : cd 83 22 = some (22, .iinc 2 1, 3, 0, 0, 0) := rfl
theorem s83_22 {l0 l1 : AV} {l2 : Int} {h : AH} : evL 83 22 [l0, l1, I l2] [] h = evL 83 25 [l0, l1, I (ad l2 1)] [] h := ev_go c83_22 rfl
theorem c83_25 : cd 83 25 = some (25, .goto (-21), 3, 0, 0, 0) := rfl
theorem s83_25 {l0 l1 l2 : AV} {h : AH} : evL 83 25 [l0, l1, l2] [] h = evL 83 4 [l0, l1, l2] [] h := ev_go c83_25 rfl
theorem c83_28 : cd 83 28 = some (28, .iload_n 1, 1, 0, 0, 0) := rfl
theorem s83_28 {l0 l2 : AV} {l1 : Int} {h : AH} : evL 83 28 [l0, I l1, l2] [] h = evL 83 29 [l0, I l1, l2] [I l1] h := ev_go c83_28 rfl
theorem c83_29 : cd 83 29 = some (29, .ireturn, 1, 0, 0, 0) := rfl
theorem s83_29 {l0 l1 l2 : AV} {s0 : Int} {h : AH} : evL 83 29 [l0, l1, l2] [I s0] h = some (some (I s0), h) := e_ret c83_29 rfl
/-! 84: TankDivers$Row.wipe()V -/
theorem en84 {l0 : AV} {h : AH} : evM 84 [l0] h = evL 84 0 [l0, Db 0] [] h := rfl
theorem c84_0 : cd 84 0 = some (0, .iconst 0, 1, 0, 0, 0) := rfl
theorem s84_0 {l0 l1 : AV} {h : AH} : evL 84 0 [l0, l1] [] h = evL 84 1 [l0, l1] [I 0] h := ev_go c84_0 rfl
theorem c84_1 : cd 84 1 = some (1, .istore_n 1, 1, 0, 0, 0) := rfl
theorem s84_1 {l0 l1 : AV} {s0 : Int} {h : AH} : evL 84 1 [l0, l1] [I s0] h = evL 84 2 [l0, I s0] [] h := ev_go c84_1 rfl
theorem c84_2 : cd 84 2 = some (2, .iload_n 1, 1, 0, 0, 0) := rfl
theorem s84_2 {l0 : AV} {l1 : Int} {h : AH} : evL 84 2 [l0, I l1] [] h = evL 84 3 [l0, I l1] [I l1] h := ev_go c84_2 rfl
theorem c84_3 : cd 84 3 = some (3, .aload_n 0, 1, 0, 0, 0) := rfl
theorem s84_3 {l1 s0 : AV} {l0 : Option Nat} {h : AH} : evL 84 3 [.inr (.inl l0), l1] [s0] h = evL 84 4 [.inr (.inl l0), l1] [.inr (.inl l0), s0] h := ev_go c84_3 rfl
theorem c84_4 : cd 84 4 = some (4, .getfield 13, 3, 6, 0, 52) := rfl
theorem s84_4 {l0 l1 s1 : AV} {s0 : Nat} {M : Mem} {P : PMem} (hk : kd s0 = 6) : evL 84 4 [l0, l1] [Rf s0, s1] (Hp M P) = evL 84 7 [l0, l1] [Rf (rfd s0 0), s1] (Hp M P) := e_getR c84_4 rfl hk
theorem c84_7 : cd 84 7 = some (7, .arraylength, 1, 0, 0, 0) := rfl
theorem s84_7 {l0 l1 s1 : AV} {s0 : Nat} {M : Mem} {P : PMem} (hk : kd s0 = 100 ∨ kd s0 = 101) (hl : ln s0 ≤ 1000000) : evL 84 7 [l0, l1] [Rf s0, s1] (Hp M P) = evL 84 8 [l0, l1] [I (ln s0 : Int), s1] (Hp M P) := e_alen c84_7 hk hl
theorem c84_8 : cd 84 8 = some (8, .if_icmp .ge 16, 3, 0, 0, 0) := rfl
theorem s84_8 {l0 l1 : AV} {s0 s1 : Int} {h : AH} : evL 84 8 [l0, l1] [I s0, I s1] h = if s0 ≤ s1 then evL 84 24 [l0, l1] [] h else evL 84 11 [l0, l1] [] h := e_icmp_ge c84_8 rfl rfl
theorem c84_11 : cd 84 11 = some (11, .aload_n 0, 1, 0, 0, 0) := rfl
theorem s84_11 {l1 : AV} {l0 : Option Nat} {h : AH} : evL 84 11 [.inr (.inl l0), l1] [] h = evL 84 12 [.inr (.inl l0), l1] [.inr (.inl l0)] h := ev_go c84_11 rfl
theorem c84_12 : cd 84 12 = some (12, .getfield 13, 3, 6, 0, 52) := rfl
theorem s84_12 {l0 l1 : AV} {s0 : Nat} {M : Mem} {P : PMem} (hk : kd s0 = 6) : evL 84 12 [l0, l1] [Rf s0] (Hp M P) = evL 84 15 [l0, l1] [Rf (rfd s0 0)] (Hp M P) := e_getR c84_12 rfl hk
theorem c84_15 : cd 84 15 = some (15, .iload_n 1, 1, 0, 0, 0) := rfl
theorem s84_15 {l0 s0 : AV} {l1 : Int} {h : AH} : evL 84 15 [l0, I l1] [s0] h = evL 84 16 [l0, I l1] [I l1, s0] h := ev_go c84_15 rfl
theorem c84_16 : cd 84 16 = some (16, .iconst 0, 1, 0, 0, 0) := rfl
theorem s84_16 {l0 l1 s0 s1 : AV} {h : AH} : evL 84 16 [l0, l1] [s0, s1] h = evL 84 17 [l0, l1] [I 0, s0, s1] h := ev_go c84_16 rfl
theorem c84_17 : cd 84 17 = some (17, .iastore, 1, 0, 0, 0) := rfl
theorem s84_17 {l0 l1 : AV} {s0 s1 : Int} {s2 : Nat} {M : Mem} {P : PMem} (hk : kd s2 = 100) (h0 : 0 ≤ s1) (hn : s1.toNat < ln s2) : evL 84 17 [l0, l1] [I s0, I s1, Rf s2] (Hp M P) = evL 84 18 [l0, l1] [] (Hp (wr M s2 s1.toNat s0) P) := e_iast c84_17 hk h0 hn
theorem c84_18 : cd 84 18 = some (18, .iinc 1 1, 3, 0, 0, 0) := rfl
theorem s84_18 {l0 : AV} {l1 : Int} {h : AH} : evL 84 18 [l0, I l1] [] h = evL 84 21 [l0, I (ad l1 1)] [] h := ev_go c84_18 rfl
theorem c84_21 : cd 84 21 = some (21, .goto (-19), 3, 0, 0, 0) := rfl
theorem s84_21 {l0 l1 : AV} {h : AH} : evL 84 21 [l0, l1] [] h = evL 84 2 [l0, l1] [] h := ev_go c84_21 rfl
theorem c84_24 : cd 84 24 = some (24, .return_, 1, 0, 0, 0) := rfl
theorem s84_24 {l0 l1 : AV} {h : AH} : evL 84 24 [l0, l1] [] h = some (none, h) := e_ret c84_24 rfl
/-! 85: TankDivers$Row.copyFrom(LTankDivers$Row;)V -/
theorem en85 {l0 l1 : AV} {h : AH} : evM 85 [l0, l1] h = evL 85 0 [l0, l1, Db 0] [] h := rfl
theorem c85_0 : cd 85 0 = some (0, .iconst 0, 1, 0, 0, 0) := rfl
theorem s85_0 {l0 l1 l2 : AV} {h : AH} : evL 85 0 [l0, l1, l2] [] h = evL 85 1 [l0, l1, l2] [I 0] h := ev_go c85_0 rfl
theorem c85_1 : cd 85 1 = some (1, .istore_n 2, 1, 0, 0, 0) := rfl
theorem s85_1 {l0 l1 l2 : AV} {s0 : Int} {h : AH} : evL 85 1 [l0, l1, l2] [I s0] h = evL 85 2 [l0, l1, I s0] [] h := ev_go c85_1 rfl
theorem c85_2 : cd 85 2 = some (2, .iload_n 2, 1, 0, 0, 0) := rfl
theorem s85_2 {l0 l1 : AV} {l2 : Int} {h : AH} : evL 85 2 [l0, l1, I l2] [] h = evL 85 3 [l0, l1, I l2] [I l2] h := ev_go c85_2 rfl
theorem c85_3 : cd 85 3 = some (3, .aload_n 0, 1, 0, 0, 0) := rfl
theorem s85_3 {l1 l2 s0 : AV} {l0 : Option Nat} {h : AH} : evL 85 3 [.inr (.inl l0), l1, l2] [s0] h = evL 85 4 [.inr (.inl l0), l1, l2] [.inr (.inl l0), s0] h := ev_go c85_3 rfl
theorem c85_4 : cd 85 4 = some (4, .getfield 13, 3, 6, 0, 52) := rfl
theorem s85_4 {l0 l1 l2 s1 : AV} {s0 : Nat} {M : Mem} {P : PMem} (hk : kd s0 = 6) : evL 85 4 [l0, l1, l2] [Rf s0, s1] (Hp M P) = evL 85 7 [l0, l1, l2] [Rf (rfd s0 0), s1] (Hp M P) := e_getR c85_4 rfl hk
theorem c85_7 : cd 85 7 = some (7, .arraylength, 1, 0, 0, 0) := rfl
theorem s85_7 {l0 l1 l2 s1 : AV} {s0 : Nat} {M : Mem} {P : PMem} (hk : kd s0 = 100 ∨ kd s0 = 101) (hl : ln s0 ≤ 1000000) : evL 85 7 [l0, l1, l2] [Rf s0, s1] (Hp M P) = evL 85 8 [l0, l1, l2] [I (ln s0 : Int), s1] (Hp M P) := e_alen c85_7 hk hl
theorem c85_8 : cd 85 8 = some (8, .if_icmp .ge 20, 3, 0, 0, 0) := rfl
theorem s85_8 {l0 l1 l2 : AV} {s0 s1 : Int} {h : AH} : evL 85 8 [l0, l1, l2] [I s0, I s1] h = if s0 ≤ s1 then evL 85 28 [l0, l1, l2] [] h else evL 85 11 [l0, l1, l2] [] h := e_icmp_ge c85_8 rfl rfl
theorem c85_11 : cd 85 11 = some (11, .aload_n 0, 1, 0, 0, 0) := rfl
theorem s85_11 {l1 l2 : AV} {l0 : Option Nat} {h : AH} : evL 85 11 [.inr (.inl l0), l1, l2] [] h = evL 85 12 [.inr (.inl l0), l1, l2] [.inr (.inl l0)] h := ev_go c85_11 rfl
theorem c85_12 : cd 85 12 = some (12, .getfield 13, 3, 6, 0, 52) := rfl
theorem s85_12 {l0 l1 l2 : AV} {s0 : Nat} {M : Mem} {P : PMem} (hk : kd s0 = 6) : evL 85 12 [l0, l1, l2] [Rf s0] (Hp M P) = evL 85 15 [l0, l1, l2] [Rf (rfd s0 0)] (Hp M P) := e_getR c85_12 rfl hk
theorem c85_15 : cd 85 15 = some (15, .iload_n 2, 1, 0, 0, 0) := rfl
theorem s85_15 {l0 l1 s0 : AV} {l2 : Int} {h : AH} : evL 85 15 [l0, l1, I l2] [s0] h = evL 85 16 [l0, l1, I l2] [I l2, s0] h := ev_go c85_15 rfl
theorem c85_16 : cd 85 16 = some (16, .aload_n 1, 1, 0, 0, 0) := rfl
theorem s85_16 {l0 l2 s0 s1 : AV} {l1 : Option Nat} {h : AH} : evL 85 16 [l0, .inr (.inl l1), l2] [s0, s1] h = evL 85 17 [l0, .inr (.inl l1), l2] [.inr (.inl l1), s0, s1] h := ev_go c85_16 rfl
theorem c85_17 : cd 85 17 = some (17, .iload_n 2, 1, 0, 0, 0) := rfl
theorem s85_17 {l0 l1 s0 s1 s2 : AV} {l2 : Int} {h : AH} : evL 85 17 [l0, l1, I l2] [s0, s1, s2] h = evL 85 18 [l0, l1, I l2] [I l2, s0, s1, s2] h := ev_go c85_17 rfl
theorem c85_18 : cd 85 18 = some (18, .invokevirtual 19, 3, 80, 0, 356) := rfl
theorem s85_18 {l0 l1 l2 s2 s3 : AV} {s0 : Int} {s1 : Nat} {M : Mem} {P : PMem} (hk : kd s1 = 6) : evL 85 18 [l0, l1, l2] [I s0, Rf s1, s2, s3] (Hp M P) = cont (evM 80 [Rf s1, I s0] (Hp M P)) (fun r h => evL 85 21 [l0, l1, l2] (rl r [s2, s3]) h) := e_callV (av' := [I s0]) (rest := [s2, s3]) (c := 6) c85_18 rfl rfl rfl rfl rfl rfl rfl hk rfl
theorem c85_21 : cd 85 21 = some (21, .iastore, 1, 0, 0, 0) := rfl
theorem s85_21 {l0 l1 l2 : AV} {s0 s1 : Int} {s2 : Nat} {M : Mem} {P : PMem} (hk : kd s2 = 100) (h0 : 0 ≤ s1) (hn : s1.toNat < ln s2) : evL 85 21 [l0, l1, l2] [I s0, I s1, Rf s2] (Hp M P) = evL 85 22 [l0, l1, l2] [] (Hp (wr M s2 s1.toNat s0) P) := e_iast c85_21 hk h0 hn
theorem c85_22 : cd 85 22 = some (22, .iinc 2 1, 3, 0, 0, 0) := rfl
theorem s85_22 {l0 l1 : AV} {l2 : Int} {h : AH} : evL 85 22 [l0, l1, I l2] [] h = evL 85 25 [l0, l1, I (ad l2 1)] [] h := ev_go c85_22 rfl
theorem c85_25 : cd 85 25 = some (25, .goto (-23), 3, 0, 0, 0) := rfl
theorem s85_25 {l0 l1 l2 : AV} {h : AH} : evL 85 25 [l0, l1, l2] [] h = evL 85 2 [l0, l1, l2] [] h := ev_go c85_25 rfl
theorem c85_28 : cd 85 28 = some (28, .return_, 1, 0, 0, 0) := rfl
theorem s85_28 {l0 l1 l2 : AV} {h : AH} : evL 85 28 [l0, l1, l2] [] h = some (none, h) := e_ret c85_28 rfl
