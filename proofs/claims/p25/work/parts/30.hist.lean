/-! ===== copies of games, the history ===== -/
def gB (b : Nat) : Prop := b = 1 ∨ b = 24 ∨ b = 49 ∨ b = 72 ∨ b = 95 ∨ b = 118
def gF (b : Nat) : Prop := (kd b = 1 ∧ rfd b 0 = b + 1 ∧ rfd b 1 = b + 4) ∧ (kd (b + 1) = 5 ∧ rfd (b + 1) 0 = b + 2 ∧ isRow (b + 2) (b + 3) 17) ∧ (kd (b + 4) = 0 ∧ rfd (b + 4) 0 = b + 5 ∧ rfd (b + 4) 1 = b + 7 ∧ rfd (b + 4) 2 = b + 9 ∧ rfd (b + 4) 3 = b + 11 ∧ rfd (b + 4) 4 = b + 13 ∧ rfd (b + 4) 5 = b + 15 ∧ rfd (b + 4) 6 = b + 17 ∧ rfd (b + 4) 7 = b + 19) ∧
  (isRow (b + 5) (b + 6) 4 ∧ isRow (b + 7) (b + 8) 4 ∧ isRow (b + 9) (b + 10) 4 ∧ isRow (b + 11) (b + 12) 4 ∧ isRow (b + 13) (b + 14) 24 ∧ isRow (b + 15) (b + 16) 4 ∧ isRow (b + 17) (b + 18) 4 ∧ isRow (b + 19) (b + 20) 4)
theorem gF_of {b : Nat} (h : gB b) : gF b := by
  unfold gF isRow
  rcases h with rfl | rfl | rfl | rfl | rfl | rfl <;> decide
def cpS (M : Mem) (b b2 : Nat) (S : Nat → Nat → Bool) : Mem := fun a k => if b ≤ a ∧ S (a - b) k = true then M (b2 + (a - b)) k else M a k
def far (b b2 : Nat) : Prop := b2 + 23 ≤ b ∨ b + 23 ≤ b2
def sm (S : Nat → Nat → Bool) : Prop := ∀ o k, S o k = true → o < 23
def un (S : Nat → Nat → Bool) (o n : Nat) : Nat → Nat → Bool := fun o' k' => S o' k' || (decide (o' = o) && decide (k' < n))
def un1 (S : Nat → Nat → Bool) (o k : Nat) : Nat → Nat → Bool := fun o' k' => S o' k' || (decide (o' = o) && decide (k' = k))
theorem sm_un {S : Nat → Nat → Bool} {o n : Nat} (h : sm S) (ho : o < 23) : sm (un S o n) := by
  intro o' k' q
  simp only [un, Bool.or_eq_true, Bool.and_eq_true, decide_eq_true_eq] at q
  rcases q with q | q
  · exact h _ _ q
  · omega
theorem sm_un1 {S : Nat → Nat → Bool} {o k : Nat} (h : sm S) (ho : o < 23) : sm (un1 S o k) := by
  intro o' k' q
  simp only [un1, Bool.or_eq_true, Bool.and_eq_true, decide_eq_true_eq] at q
  rcases q with q | q
  · exact h _ _ q
  · omega
section Cp
variable {M : Mem} {P : PMem} {b b2 : Nat} {S : Nat → Nat → Bool}
theorem cpS_src (hS : sm S) (hd : far b b2) {o k : Nat} (ho : o < 23) : cpS M b b2 S (b2 + o) k = M (b2 + o) k := by
  unfold cpS
  rw [if_neg]
  rintro ⟨h1, h2⟩
  have := hS _ _ h2
  unfold far at hd
  omega
theorem cpS_wr (hS : sm S) (hd : far b b2) {o k : Nat} (ho : o < 23) : wr (cpS M b b2 S) (b + o) k (cpS M b b2 S (b2 + o) k) = cpS M b b2 (un1 S o k) := by
  rw [cpS_src hS hd ho]
  funext a q
  unfold wr cpS
  by_cases h : a = b + o ∧ q = k
  · rw [if_pos h, if_pos (by rw [h.1, h.2]; exact ⟨Nat.le_add_right _ _, by simp [un1]⟩), h.1, h.2, Nat.add_sub_cancel_left]
  · rw [if_neg h]
    by_cases h1 : b ≤ a ∧ S (a - b) q = true
    · rw [if_pos h1, if_pos ⟨h1.1, by simp [un1, h1.2]⟩]
    · rw [if_neg h1, if_neg]
      rintro ⟨h2, h3⟩
      simp only [un1, Bool.or_eq_true, Bool.and_eq_true, decide_eq_true_eq] at h3
      rcases h3 with h3 | h3
      · exact h1 ⟨h2, h3⟩
      · exact h (by omega)
theorem cpS_row (hS : sm S) (hd : far b b2) {o n : Nat} (ho : o < 23) : cpR (cpS M b b2 S) (b + o) n (b2 + o) n = cpS M b b2 (un S o n) := by
  funext a q
  unfold cpR
  by_cases h : a = b + o ∧ q < n
  · rw [if_pos h, rg_n h.2, cpS_src hS hd ho]
    unfold cpS
    rw [if_pos (by rw [h.1]; exact ⟨Nat.le_add_right _ _, by simp [un, h.2]⟩), h.1, Nat.add_sub_cancel_left]
  · rw [if_neg h]
    unfold cpS
    by_cases h1 : b ≤ a ∧ S (a - b) q = true
    · rw [if_pos h1, if_pos ⟨h1.1, by simp [un, h1.2]⟩]
    · rw [if_neg h1, if_neg]
      rintro ⟨h2, h3⟩
      simp only [un, Bool.or_eq_true, Bool.and_eq_true, decide_eq_true_eq] at h3
      rcases h3 with h3 | h3
      · exact h1 ⟨h2, h3⟩
      · exact h (by omega)
theorem cpS_0 : cpS M b b2 (fun _ _ => false) = M := by
  funext a q
  unfold cpS
  rw [if_neg (by simp)]
theorem far_ne (hd : far b b2) (o : Nat) : b + o ≠ b2 + o := by unfold far at hd; omega
theorem cp_path (g : gF b) (g2 : gF b2) (hd : far b b2) (hS : sm S) : evM 74 [Rf (b + 1), Rf (b2 + 1)] (Hp (cpS M b b2 S) P) = some (none, Hp (cpS M b b2 (un1 (un S 3 17) 1 1)) P) := by
  obtain ⟨-, ⟨p1, p2, p3⟩, -⟩ := g
  obtain ⟨-, ⟨q1, q2, q3⟩, -⟩ := g2
  have r := row_copy p3 q3 (far_ne hd 3) (M := cpS M b b2 S) (P := P)
  rw [cpS_row hS hd (by omega)] at r
  have w := cpS_wr (M := M) (o := 1) (k := 1) (sm_un (n := 17) hS (show 3 < 23 by omega)) hd (by omega)
  have k1 := p3.1
  have k2 := q3.1
  simp only [en74, s74_0, s74_1, s74_4, s74_5, s74_8, s74_11, s74_12, s74_13, s74_16, s74_19, cont_some, rl_some, rl_none, if_true, if_false, kd_0, kd_1, kd_2, kd_5, kd_47, kd_141, kd_144, rf_0_0, rf_0_1, rf_0_2, rf_0_3, rf_0_4, rf_1_0, rf_1_1, rf_1_2, rf_2_0, rf_5_0, rf_5_1, rf_5_2, rf_5_3, rf_5_4, rf_5_5, rf_5_6, rf_5_7, rf_47_0, rf_141_0, rf_144_0, rf_144_1, kd_3, kd_6, kd_8, kd_10, kd_12, kd_14, kd_16, kd_18, kd_20, kd_22, kd_142, kd_145, kd_147, kd_24, p1, p2, q1, q2, k1, k2, r, w]
theorem cp_crew (g : gF b) (g2 : gF b2) (hd : far b b2) (hS : sm S) : evM 25 [Rf (b + 4), Rf (b2 + 4)] (Hp (cpS M b b2 S) P) = some (none, Hp (cpS M b b2 (un (un (un (un (un (un (un (un (un1 S 4 8) 6 4) 8 4) 10 4) 12 4) 14 24) 16 4) 18 4) 20 4)) P) := by
  obtain ⟨-, -, ⟨p0, p1, p2, p3, p4, p5, p6, p7, p8⟩, r1, r2, r3, r4, r5, r6, r7, r8⟩ := g
  obtain ⟨-, -, ⟨q0, q1, q2, q3, q4, q5, q6, q7, q8⟩, t1, t2, t3, t4, t5, t6, t7, t8⟩ := g2
  have w := cpS_wr (M := M) (o := 4) (k := 8) hS hd (by omega)
  have s0 := sm_un1 (k := 8) hS (show 4 < 23 by omega)
  have s1 := sm_un (n := 4) s0 (show 6 < 23 by omega)
  have s2 := sm_un (n := 4) s1 (show 8 < 23 by omega)
  have s3 := sm_un (n := 4) s2 (show 10 < 23 by omega)
  have s4 := sm_un (n := 4) s3 (show 12 < 23 by omega)
  have s5 := sm_un (n := 24) s4 (show 14 < 23 by omega)
  have s6 := sm_un (n := 4) s5 (show 16 < 23 by omega)
  have s7 := sm_un (n := 4) s6 (show 18 < 23 by omega)
  have e1 := row_copy r1 t1 (far_ne hd 6) (M := cpS M b b2 (un1 S 4 8)) (P := P)
  rw [cpS_row s0 hd (by omega)] at e1
  have e2 := row_copy r2 t2 (far_ne hd 8) (M := cpS M b b2 (un (un1 S 4 8) 6 4)) (P := P)
  rw [cpS_row s1 hd (by omega)] at e2
  have e3 := row_copy r3 t3 (far_ne hd 10) (M := cpS M b b2 (un (un (un1 S 4 8) 6 4) 8 4)) (P := P)
  rw [cpS_row s2 hd (by omega)] at e3
  have e4 := row_copy r4 t4 (far_ne hd 12) (M := cpS M b b2 (un (un (un (un1 S 4 8) 6 4) 8 4) 10 4)) (P := P)
  rw [cpS_row s3 hd (by omega)] at e4
  have e5 := row_copy r5 t5 (far_ne hd 14) (M := cpS M b b2 (un (un (un (un (un1 S 4 8) 6 4) 8 4) 10 4) 12 4)) (P := P)
  rw [cpS_row s4 hd (by omega)] at e5
  have e6 := row_copy r6 t6 (far_ne hd 16) (M := cpS M b b2 (un (un (un (un (un (un1 S 4 8) 6 4) 8 4) 10 4) 12 4) 14 24)) (P := P)
  rw [cpS_row s5 hd (by omega)] at e6
  have e7 := row_copy r7 t7 (far_ne hd 18) (M := cpS M b b2 (un (un (un (un (un (un (un1 S 4 8) 6 4) 8 4) 10 4) 12 4) 14 24) 16 4)) (P := P)
  rw [cpS_row s6 hd (by omega)] at e7
  have e8 := row_copy r8 t8 (far_ne hd 20) (M := cpS M b b2 (un (un (un (un (un (un (un (un1 S 4 8) 6 4) 8 4) 10 4) 12 4) 14 24) 16 4) 18 4)) (P := P)
  rw [cpS_row s7 hd (by omega)] at e8
  have k1 := r1.1
  have k2 := r2.1
  have k3 := r3.1
  have k4 := r4.1
  have k5 := r5.1
  have k6 := r6.1
  have k7 := r7.1
  have k8 := r8.1
  have j1 := t1.1
  have j2 := t2.1
  have j3 := t3.1
  have j4 := t4.1
  have j5 := t5.1
  have j6 := t6.1
  have j7 := t7.1
  have j8 := t8.1
  simp only [en25, s25_0, s25_1, s25_2, s25_5, s25_8, s25_9, s25_12, s25_13, s25_16, s25_19, s25_20, s25_23, s25_24, s25_27, s25_30, s25_31, s25_34, s25_35, s25_38, s25_41, s25_42, s25_45, s25_46, s25_49, s25_52, s25_53, s25_56, s25_57, s25_60, s25_63, s25_64, s25_67, s25_68, s25_71, s25_74, s25_75, s25_78, s25_79, s25_82, s25_85, s25_86, s25_89, s25_90, s25_93, s25_96, cont_some, rl_some, rl_none, if_true, if_false, kd_0, kd_1, kd_2, kd_5, kd_47, kd_141, kd_144, rf_0_0, rf_0_1, rf_0_2, rf_0_3, rf_0_4, rf_1_0, rf_1_1, rf_1_2, rf_2_0, rf_5_0, rf_5_1, rf_5_2, rf_5_3, rf_5_4, rf_5_5, rf_5_6, rf_5_7, rf_47_0, rf_141_0, rf_144_0, rf_144_1, kd_3, kd_6, kd_8, kd_10, kd_12, kd_14, kd_16, kd_18, kd_20, kd_22, kd_142, kd_145, kd_147, kd_24, p0, p1, p2, p3, p4, p5, p6, p7, p8, q0, q1, q2, q3, q4, q5, q6, q7, q8, w, k1, k2, k3, k4, k5, k6, k7, k8, e1, e2, e3, e4, e5, e6, e7, e8]
def cS : Nat → Nat → Bool := un1 (un1 (un1 (un1 (un1 (un1 (un1 (un (un (un (un (un (un (un (un (un1 (un1 (un (fun _ _ => false) 3 17) 1 1) 4 8) 6 4) 8 4) 10 4) 12 4) 14 24) 16 4) 18 4) 20 4) 0 3) 0 4) 0 5) 0 6) 0 7) 0 8) 0 9
/-- the game b over the game b2 -/
def cpG (M : Mem) (b b2 : Nat) : Mem := cpS M b b2 cS
theorem cp_game (h : gB b) (h2 : gB b2) (hd : far b b2) (hz : M b2 6 = 0 ∨ M b2 6 = 1) : evM 45 [Rf b, Rf b2] (Hp M P) = some (none, Hp (cpG M b b2) P) := by
  have g := gF_of h
  have g2 := gF_of h2
  have s0 : sm (fun _ _ => false) := fun o k q => by cases q
  have e1 := cp_path (M := M) (P := P) g g2 hd s0
  rw [cpS_0] at e1
  have s1 : sm (un1 (un (fun _ _ => false) 3 17) 1 1) := sm_un1 (sm_un s0 (by omega)) (by omega)
  have e2 := cp_crew (M := M) (P := P) g g2 hd s1
  obtain ⟨S, eS⟩ : ∃ S, S = un (un (un (un (un (un (un (un (un1 (un1 (un (fun _ _ => false) 3 17) 1 1) 4 8) 6 4) 8 4) 10 4) 12 4) 14 24) 16 4) 18 4) 20 4 := ⟨_, rfl⟩
  rw [← eS] at e2
  have s2 : sm S := by
    rw [eS]
    exact sm_un (sm_un (sm_un (sm_un (sm_un (sm_un (sm_un (sm_un (sm_un1 s1 (by omega)) (by omega)) (by omega)) (by omega)) (by omega)) (by omega)) (by omega)) (by omega)) (by omega)
  have w : ∀ (S : Nat → Nat → Bool) (k : Nat), sm S → wr (cpS M b b2 S) b k (cpS M b b2 S b2 k) = cpS M b b2 (un1 S 0 k) := fun S k hS => cpS_wr (M := M) (o := 0) (k := k) hS hd (by omega)
  have t3 := sm_un1 (k := 3) s2 (show 0 < 23 by omega)
  have t4 := sm_un1 (k := 4) t3 (show 0 < 23 by omega)
  have t5 := sm_un1 (k := 5) t4 (show 0 < 23 by omega)
  have t6 := sm_un1 (k := 6) t5 (show 0 < 23 by omega)
  have t7 := sm_un1 (k := 7) t6 (show 0 < 23 by omega)
  have t8 := sm_un1 (k := 8) t7 (show 0 < 23 by omega)
  have z6 : cpS M b b2 (un1 (un1 (un1 S 0 3) 0 4) 0 5) b2 6 = 0 ∨ cpS M b b2 (un1 (un1 (un1 S 0 3) 0 4) 0 5) b2 6 = 1 := by
    have := cpS_src (M := M) (o := 0) (k := 6) t5 hd (by omega)
    rw [Nat.add_zero] at this
    rw [this]
    exact hz
  obtain ⟨⟨g3, g4, g5⟩, -⟩ := g
  obtain ⟨⟨f3, f4, f5⟩, f6, f7, -⟩ := g2
  have g1k := (gF_of h).2.1.1
  have g4k := (gF_of h).2.2.1.1
  simp only [en45, s45_0, s45_1, s45_4, s45_5, s45_8, s45_11, s45_12, s45_15, s45_16, s45_19, s45_22, s45_23, s45_24, s45_27, s45_30, s45_31, s45_32, s45_35, s45_38, s45_39, s45_40, s45_43, s45_46, s45_47, s45_48, s45_51, s45_54, s45_55, s45_56, s45_59, s45_62, s45_63, s45_64, s45_67, s45_70, s45_71, s45_72, s45_75, s45_78, cont_some, rl_some, rl_none, if_true, if_false, kd_0, kd_1, kd_2, kd_5, kd_47, kd_141, kd_144, rf_0_0, rf_0_1, rf_0_2, rf_0_3, rf_0_4, rf_1_0, rf_1_1, rf_1_2, rf_2_0, rf_5_0, rf_5_1, rf_5_2, rf_5_3, rf_5_4, rf_5_5, rf_5_6, rf_5_7, rf_47_0, rf_141_0, rf_144_0, rf_144_1, kd_3, kd_6, kd_8, kd_10, kd_12, kd_14, kd_16, kd_18, kd_20, kd_22, kd_142, kd_145, kd_147, kd_24, g3, g4, g5, f3, f4, f5, g1k, g4k, e1, e2, w S 3 s2, w _ 4 t3, w _ 5 t4, z6, w _ 6 t5, w _ 7 t6, w _ 8 t7, w _ 9 t8]
  rw [eS]
  rfl
theorem cpG_in {o k : Nat} (h : cS o k = true) : cpG M b b2 (b + o) k = M (b2 + o) k := by
  unfold cpG cpS
  rw [Nat.add_sub_cancel_left, if_pos ⟨Nat.le_add_right _ _, h⟩]
theorem cS_sm : sm cS := by
  have s0 : sm (fun _ _ => false) := fun o k q => by cases q
  exact sm_un1 (sm_un1 (sm_un1 (sm_un1 (sm_un1 (sm_un1 (sm_un1 (sm_un (sm_un (sm_un (sm_un (sm_un (sm_un (sm_un (sm_un (sm_un1 (sm_un1 (sm_un s0 (by omega)) (by omega)) (by omega)) (by omega)) (by omega)) (by omega)) (by omega)) (by omega)) (by omega)) (by omega)) (by omega)) (by omega)) (by omega)) (by omega)) (by omega)) (by omega)) (by omega)) (by omega)
theorem cpG_out {a k : Nat} (h : a < b ∨ b + 23 ≤ a) : cpG M b b2 a k = M a k := by
  unfold cpG cpS
  rw [if_neg]
  rintro ⟨h1, h2⟩
  have := cS_sm _ _ h2
  omega
end Cp
/-! the history -/
section Hist
variable {M : Mem} {P : PMem} {K : Nat}
def hB (b : Nat) : Prop := b = 49 ∨ b = 72 ∨ b = 95 ∨ b = 118
def PO (P : PMem) : Prop := ∀ j, j < 4 → hB (P j)
theorem hB_g {b : Nat} (h : hB b) : gB b := by unfold hB at h; unfold gB; omega
theorem hB_kd {b : Nat} (h : hB b) : kd b = 1 := by rcases h with rfl | rfl | rfl | rfl <;> decide
theorem k48 : kd 48 = 101 := by decide
theorem l48 : ln 48 = 4 := by decide
theorem h_at {x : Int} : evM 51 [Rf 47, I x] (Hp M P) = some (some (if 0 ≤ x ∧ x < 4 then Rf (P x.toNat) else Nu), Hp M P) := by
  have hx : (4 : Int) ≤ 1000000 := by omega
  have e4 : (((4 : Nat) : Int)) = 4 := rfl
  have l4 : (4 : Nat) ≤ 1000000 := by omega
  by_cases c1 : x < 0
  · rw [if_neg (by omega)]
    simp only [en51, s51_0, s51_1, s51_4, s51_5, s51_6, s51_9, s51_10, s51_13, s51_14, s51_17, s51_18, s51_19, s51_22, s51_23, cont_some, rl_some, rl_none, if_true, if_false, kd_0, kd_1, kd_2, kd_5, kd_47, kd_141, kd_144, rf_0_0, rf_0_1, rf_0_2, rf_0_3, rf_0_4, rf_1_0, rf_1_1, rf_1_2, rf_2_0, rf_5_0, rf_5_1, rf_5_2, rf_5_3, rf_5_4, rf_5_5, rf_5_6, rf_5_7, rf_47_0, rf_141_0, rf_144_0, rf_144_1, kd_3, kd_6, kd_8, kd_10, kd_12, kd_14, kd_16, kd_18, kd_20, kd_22, kd_142, kd_145, kd_147, kd_24, c1]
  · by_cases c2 : 4 ≤ x
    · rw [if_neg (by omega)]
      simp only [en51, s51_0, s51_1, s51_4, s51_5, s51_6, s51_9, s51_10, s51_13, s51_14, s51_17, s51_18, s51_19, s51_22, s51_23, cont_some, rl_some, rl_none, if_true, if_false, kd_0, kd_1, kd_2, kd_5, kd_47, kd_141, kd_144, rf_0_0, rf_0_1, rf_0_2, rf_0_3, rf_0_4, rf_1_0, rf_1_1, rf_1_2, rf_2_0, rf_5_0, rf_5_1, rf_5_2, rf_5_3, rf_5_4, rf_5_5, rf_5_6, rf_5_7, rf_47_0, rf_141_0, rf_144_0, rf_144_1, kd_3, kd_6, kd_8, kd_10, kd_12, kd_14, kd_16, kd_18, kd_20, kd_22, kd_142, kd_145, kd_147, kd_24, c1, k48, l48, or_true, l4, e4, c2]
    · rw [if_pos (by omega)]
      have c3 : 0 ≤ x := by omega
      have c4 : x < 4 := by omega
      simp only [en51, s51_0, s51_1, s51_4, s51_5, s51_6, s51_9, s51_10, s51_13, s51_14, s51_17, s51_18, s51_19, s51_22, s51_23, cont_some, rl_some, rl_none, if_true, if_false, kd_0, kd_1, kd_2, kd_5, kd_47, kd_141, kd_144, rf_0_0, rf_0_1, rf_0_2, rf_0_3, rf_0_4, rf_1_0, rf_1_1, rf_1_2, rf_2_0, rf_5_0, rf_5_1, rf_5_2, rf_5_3, rf_5_4, rf_5_5, rf_5_6, rf_5_7, rf_47_0, rf_141_0, rf_144_0, rf_144_1, kd_3, kd_6, kd_8, kd_10, kd_12, kd_14, kd_16, kd_18, kd_20, kd_22, kd_142, kd_145, kd_147, kd_24, c1, k48, l48, or_true, l4, e4, c2, c3, c4]
theorem h_at_n {k : Nat} (h : k < 4) : evM 51 [Rf 47, I (k : Int)] (Hp M P) = some (some (Rf (P k)), Hp M P) := by
  rw [h_at, if_pos (by omega)]
  rfl
def rotP (P : PMem) : PMem := upP (upP (upP (upP P 0 (P 1)) 1 (P 2)) 2 (P 3)) 3 (P 0)
theorem h_drop (hP : PO P) : evM 49 [Rf 47] (Hp M P) = some (none, Hp (wr M 47 1 3) (rotP P)) := by
  have l4 : (4 : Nat) ≤ 1000000 := by omega
  have a0 := h_at_n (M := M) (P := P) (k := 0) (by omega)
  have e0 : ((0 : Nat) : Int) = 0 := rfl
  rw [e0] at a0
  have e4 : (((4 : Nat) : Int)) = 4 := rfl
  have b1 : sb 1 1 = 0 := sb_eq (by omega) (by omega)
  have b2 : sb 2 1 = 1 := sb_eq (by omega) (by omega)
  have b3 : sb 3 1 = 2 := sb_eq (by omega) (by omega)
  have b4 : sb 4 1 = 3 := sb_eq (by omega) (by omega)
  have a1 : ad 1 1 = 2 := ad_eq (by omega) (by omega)
  have a2 : ad 2 1 = 3 := ad_eq (by omega) (by omega)
  have a3 : ad 3 1 = 4 := ad_eq (by omega) (by omega)
  have k0 := hB_kd (hP 0 (by omega))
  have k1 := hB_kd (hP 1 (by omega))
  have k2 := hB_kd (hP 2 (by omega))
  have k3 := hB_kd (hP 3 (by omega))
  have t0 : (0 : Int).toNat = 0 := rfl
  have t1 : (1 : Int).toNat = 1 := rfl
  have t2 : (2 : Int).toNat = 2 := rfl
  have t3 : (3 : Int).toNat = 3 := rfl
  have u2 : upP P 0 (P 1) 2 = P 2 := by unfold upP; rw [if_neg (by omega)]
  have u3 : upP (upP P 0 (P 1)) 1 (P 2) 3 = P 3 := by unfold upP; rw [if_neg (by omega), if_neg (by omega)]
  have c1 : ¬ (4 : Int) ≤ 1 := by omega
  have c2 : ¬ (4 : Int) ≤ 2 := by omega
  have c3 : ¬ (4 : Int) ≤ 3 := by omega
  have c4 : (4 : Int) ≤ 4 := by omega
  have c5 : ¬ (4 : Int) ≤ 0 := by omega
  have i0 : (0 : Int) ≤ 0 := by omega
  have i1 : (0 : Int) ≤ 1 := by omega
  have i2 : (0 : Int) ≤ 2 := by omega
  have i3 : (0 : Int) ≤ 3 := by omega
  have j0 : (0 : Int) < 4 := by omega
  have j1 : (1 : Int) < 4 := by omega
  have j2 : (2 : Int) < 4 := by omega
  have j3 : (3 : Int) < 4 := by omega
  simp only [en49, s49_0, s49_1, s49_2, s49_5, s49_6, s49_7, s49_9, s49_10, s49_13, s49_14, s49_17, s49_18, s49_21, s49_22, s49_23, s49_24, s49_25, s49_28, s49_29, s49_30, s49_31, s49_34, s49_37, s49_38, s49_41, s49_42, s49_45, s49_46, s49_49, s49_50, s49_53, s49_54, s49_55, s49_56, s49_57, s49_58, s49_59, s49_60, s49_63, s49_64, s49_65, s49_66, s49_69, cont_some, rl_some, rl_none, if_true, if_false, kd_0, kd_1, kd_2, kd_5, kd_47, kd_141, kd_144, rf_0_0, rf_0_1, rf_0_2, rf_0_3, rf_0_4, rf_1_0, rf_1_1, rf_1_2, rf_2_0, rf_5_0, rf_5_1, rf_5_2, rf_5_3, rf_5_4, rf_5_5, rf_5_6, rf_5_7, rf_47_0, rf_141_0, rf_144_0, rf_144_1, kd_3, kd_6, kd_8, kd_10, kd_12, kd_14, kd_16, kd_18, kd_20, kd_22, kd_142, kd_145, kd_147, kd_24, a0]
  rw [s49_8]
  simp only [en49, s49_0, s49_1, s49_2, s49_5, s49_6, s49_7, s49_9, s49_10, s49_13, s49_14, s49_17, s49_18, s49_21, s49_22, s49_23, s49_24, s49_25, s49_28, s49_29, s49_30, s49_31, s49_34, s49_37, s49_38, s49_41, s49_42, s49_45, s49_46, s49_49, s49_50, s49_53, s49_54, s49_55, s49_56, s49_57, s49_58, s49_59, s49_60, s49_63, s49_64, s49_65, s49_66, s49_69, cont_some, rl_some, rl_none, if_true, if_false, kd_0, kd_1, kd_2, kd_5, kd_47, kd_141, kd_144, rf_0_0, rf_0_1, rf_0_2, rf_0_3, rf_0_4, rf_1_0, rf_1_1, rf_1_2, rf_2_0, rf_5_0, rf_5_1, rf_5_2, rf_5_3, rf_5_4, rf_5_5, rf_5_6, rf_5_7, rf_47_0, rf_141_0, rf_144_0, rf_144_1, kd_3, kd_6, kd_8, kd_10, kd_12, kd_14, kd_16, kd_18, kd_20, kd_22, kd_142, kd_145, kd_147, kd_24, k48, l48, or_true, l4, e4, c1, b1, a1, t0, t1, i0, i1, j0, j1, k1]
  rw [s49_8]
  simp only [en49, s49_0, s49_1, s49_2, s49_5, s49_6, s49_7, s49_9, s49_10, s49_13, s49_14, s49_17, s49_18, s49_21, s49_22, s49_23, s49_24, s49_25, s49_28, s49_29, s49_30, s49_31, s49_34, s49_37, s49_38, s49_41, s49_42, s49_45, s49_46, s49_49, s49_50, s49_53, s49_54, s49_55, s49_56, s49_57, s49_58, s49_59, s49_60, s49_63, s49_64, s49_65, s49_66, s49_69, cont_some, rl_some, rl_none, if_true, if_false, kd_0, kd_1, kd_2, kd_5, kd_47, kd_141, kd_144, rf_0_0, rf_0_1, rf_0_2, rf_0_3, rf_0_4, rf_1_0, rf_1_1, rf_1_2, rf_2_0, rf_5_0, rf_5_1, rf_5_2, rf_5_3, rf_5_4, rf_5_5, rf_5_6, rf_5_7, rf_47_0, rf_141_0, rf_144_0, rf_144_1, kd_3, kd_6, kd_8, kd_10, kd_12, kd_14, kd_16, kd_18, kd_20, kd_22, kd_142, kd_145, kd_147, kd_24, k48, l48, or_true, l4, e4, c2, b2, a2, t1, t2, i1, i2, j1, j2, u2, k2]
  rw [s49_8]
  simp only [en49, s49_0, s49_1, s49_2, s49_5, s49_6, s49_7, s49_9, s49_10, s49_13, s49_14, s49_17, s49_18, s49_21, s49_22, s49_23, s49_24, s49_25, s49_28, s49_29, s49_30, s49_31, s49_34, s49_37, s49_38, s49_41, s49_42, s49_45, s49_46, s49_49, s49_50, s49_53, s49_54, s49_55, s49_56, s49_57, s49_58, s49_59, s49_60, s49_63, s49_64, s49_65, s49_66, s49_69, cont_some, rl_some, rl_none, if_true, if_false, kd_0, kd_1, kd_2, kd_5, kd_47, kd_141, kd_144, rf_0_0, rf_0_1, rf_0_2, rf_0_3, rf_0_4, rf_1_0, rf_1_1, rf_1_2, rf_2_0, rf_5_0, rf_5_1, rf_5_2, rf_5_3, rf_5_4, rf_5_5, rf_5_6, rf_5_7, rf_47_0, rf_141_0, rf_144_0, rf_144_1, kd_3, kd_6, kd_8, kd_10, kd_12, kd_14, kd_16, kd_18, kd_20, kd_22, kd_142, kd_145, kd_147, kd_24, k48, l48, or_true, l4, e4, c3, b3, a3, t2, t3, i2, i3, j2, j3, u3, k3]
  rw [s49_8]
  simp only [en49, s49_0, s49_1, s49_2, s49_5, s49_6, s49_7, s49_9, s49_10, s49_13, s49_14, s49_17, s49_18, s49_21, s49_22, s49_23, s49_24, s49_25, s49_28, s49_29, s49_30, s49_31, s49_34, s49_37, s49_38, s49_41, s49_42, s49_45, s49_46, s49_49, s49_50, s49_53, s49_54, s49_55, s49_56, s49_57, s49_58, s49_59, s49_60, s49_63, s49_64, s49_65, s49_66, s49_69, cont_some, rl_some, rl_none, if_true, if_false, kd_0, kd_1, kd_2, kd_5, kd_47, kd_141, kd_144, rf_0_0, rf_0_1, rf_0_2, rf_0_3, rf_0_4, rf_1_0, rf_1_1, rf_1_2, rf_2_0, rf_5_0, rf_5_1, rf_5_2, rf_5_3, rf_5_4, rf_5_5, rf_5_6, rf_5_7, rf_47_0, rf_141_0, rf_144_0, rf_144_1, kd_3, kd_6, kd_8, kd_10, kd_12, kd_14, kd_16, kd_18, kd_20, kd_22, kd_142, kd_145, kd_147, kd_24, k48, l48, or_true, l4, e4, c4, c5, b4, t3, i3, j3, k0]
  rfl
/-- the memory and the places behind a recording -/
def rcM (M : Mem) (P : PMem) (K : Nat) : Mem := if K < 4 then wr (cpG M (P K) 1) 47 1 ((K + 1 : Nat) : Int) else wr (cpG (wr M 47 1 3) (P 0) 1) 47 1 4
def rcP (P : PMem) (K : Nat) : PMem := if K < 4 then P else rotP P
theorem hB_far {b : Nat} (h : hB b) : far b 1 := by unfold hB at h; unfold far; omega
theorem h_rec (hP : PO P) (hK : M 47 1 = (K : Int)) (hK4 : K ≤ 4) (hz : M 1 6 = 0 ∨ M 1 6 = 1) : evM 48 [Rf 47, Rf 1] (Hp M P) = some (none, Hp (rcM M P K) (rcP P K)) := by
  have l4 : (4 : Nat) ≤ 1000000 := by omega
  have e4 : (((4 : Nat) : Int)) = 4 := rfl
  by_cases c : K < 4
  · have c1 : (K : Int) < 4 := by omega
    have hb := hP K c
    have e1 := cp_game (M := M) (P := P) (hB_g hb) (show gB 1 from Or.inl rfl) (hB_far hb) hz
    have kk := hB_kd hb
    have e47 : cpG M (P K) 1 47 1 = (K : Int) := by rw [cpG_out (by unfold hB at hb; omega)]; exact hK
    unfold rcM rcP
    rw [if_pos c, if_pos c]
    simp only [en48, s48_0, s48_1, s48_4, s48_5, s48_8, s48_9, s48_12, s48_13, s48_16, s48_17, s48_18, s48_21, s48_24, s48_25, s48_26n, s48_26s, s48_29, s48_30, s48_31, s48_34, s48_35, s48_36, s48_39, s48_40, s48_41, s48_44, cont_some, rl_some, rl_none, if_true, if_false, kd_0, kd_1, kd_2, kd_5, kd_47, kd_141, kd_144, rf_0_0, rf_0_1, rf_0_2, rf_0_3, rf_0_4, rf_1_0, rf_1_1, rf_1_2, rf_2_0, rf_5_0, rf_5_1, rf_5_2, rf_5_3, rf_5_4, rf_5_5, rf_5_6, rf_5_7, rf_47_0, rf_141_0, rf_144_0, rf_144_1, kd_3, kd_6, kd_8, kd_10, kd_12, kd_14, kd_16, kd_18, kd_20, kd_22, kd_142, kd_145, kd_147, kd_24, hK, k48, l48, or_true, l4, e4, c1, h_at_n c, e1, kk, e47, ad_n K (by omega)]
  · have ek : K = 4 := by omega
    subst ek
    have c1 : ¬ (4 : Int) < 4 := by omega
    have hb := hP 0 (by omega)
    have d1 := h_drop (M := M) hP
    have er : rotP P 3 = P 0 := by unfold rotP upP; rw [if_pos rfl]
    have a3 := h_at_n (M := wr M 47 1 3) (P := rotP P) (k := 3) (by omega)
    have e3 : ((3 : Nat) : Int) = 3 := rfl
    rw [e3, er] at a3
    have e47 : wr M 47 1 3 47 1 = 3 := by rw [wr_app, if_pos ⟨rfl, rfl⟩]
    have e16 : wr M 47 1 3 1 6 = M 1 6 := by rw [wr_app, if_neg (by omega)]
    have e1 := cp_game (M := wr M 47 1 3) (P := rotP P) (hB_g hb) (show gB 1 from Or.inl rfl) (hB_far hb) (by rw [e16]; exact hz)
    have kk := hB_kd hb
    have e47b : cpG (wr M 47 1 3) (P 0) 1 47 1 = 3 := by rw [cpG_out (by unfold hB at hb; omega)]; exact e47
    have a4 : ad 3 1 = 4 := ad_eq (by omega) (by omega)
    unfold rcM rcP
    rw [if_neg c, if_neg c]
    rw [e4] at hK
    simp only [en48, s48_0, s48_1, s48_4, s48_5, s48_8, s48_9, s48_12, s48_13, s48_16, s48_17, s48_18, s48_21, s48_24, s48_25, s48_26n, s48_26s, s48_29, s48_30, s48_31, s48_34, s48_35, s48_36, s48_39, s48_40, s48_41, s48_44, cont_some, rl_some, rl_none, if_true, if_false, kd_0, kd_1, kd_2, kd_5, kd_47, kd_141, kd_144, rf_0_0, rf_0_1, rf_0_2, rf_0_3, rf_0_4, rf_1_0, rf_1_1, rf_1_2, rf_2_0, rf_5_0, rf_5_1, rf_5_2, rf_5_3, rf_5_4, rf_5_5, rf_5_6, rf_5_7, rf_47_0, rf_141_0, rf_144_0, rf_144_1, kd_3, kd_6, kd_8, kd_10, kd_12, kd_14, kd_16, kd_18, kd_20, kd_22, kd_142, kd_145, kd_147, kd_24, hK, k48, l48, or_true, l4, e4, c1, d1, e47, a3, e1, kk, e47b, a4]
theorem far_sym {b b2 : Nat} (h : far b b2) : far b2 b := by unfold far at h ⊢; omega
theorem h_back0 (hK : M 47 1 = 0) : evM 50 [Rf 47, Rf 1] (Hp M P) = some (some (I (-2)), Hp M P) := by
  have e1 : sb 0 1 = -1 := sb_eq (by omega) (by omega)
  have c : ¬ (0 ≤ (-1 : Int) ∧ (-1 : Int) < 4) := by omega
  simp only [en50, s50_0, s50_1, s50_2, s50_5, s50_6, s50_7, s50_10, s50_11, s50_12n, s50_12s, s50_15, s50_17, s50_18, s50_19, s50_20, s50_23, s50_24, s50_25, s50_28, s50_29, s50_30, s50_33, s50_34, s50_37, cont_some, rl_some, rl_none, if_true, if_false, kd_0, kd_1, kd_2, kd_5, kd_47, kd_141, kd_144, rf_0_0, rf_0_1, rf_0_2, rf_0_3, rf_0_4, rf_1_0, rf_1_1, rf_1_2, rf_2_0, rf_5_0, rf_5_1, rf_5_2, rf_5_3, rf_5_4, rf_5_5, rf_5_6, rf_5_7, rf_47_0, rf_141_0, rf_144_0, rf_144_1, kd_3, kd_6, kd_8, kd_10, kd_12, kd_14, kd_16, kd_18, kd_20, kd_22, kd_142, kd_145, kd_147, kd_24, hK, e1, h_at, c]
theorem h_back (hP : PO P) (hK : M 47 1 = ((K + 1 : Nat) : Int)) (hK4 : K < 4) (hz : M (P K) 6 = 0 ∨ M (P K) 6 = 1) : evM 50 [Rf 47, Rf 1] (Hp M P) = some (some (I (K : Int)), Hp (wr (cpG M 1 (P K)) 47 1 (K : Int)) P) := by
  have hb := hP K hK4
  have e1 : sb ((K + 1 : Nat) : Int) 1 = (K : Int) := by rw [sb_eq (by omega) (by omega)]; omega
  have c1 := cp_game (M := M) (P := P) (show gB 1 from Or.inl rfl) (hB_g hb) (far_sym (hB_far hb)) hz
  have e47 : cpG M 1 (P K) 47 1 = ((K + 1 : Nat) : Int) := by rw [cpG_out (by omega)]; exact hK
  have e48 : wr (cpG M 1 (P K)) 47 1 (K : Int) 47 1 = (K : Int) := by rw [wr_app, if_pos ⟨rfl, rfl⟩]
  simp only [en50, s50_0, s50_1, s50_2, s50_5, s50_6, s50_7, s50_10, s50_11, s50_12n, s50_12s, s50_15, s50_17, s50_18, s50_19, s50_20, s50_23, s50_24, s50_25, s50_28, s50_29, s50_30, s50_33, s50_34, s50_37, cont_some, rl_some, rl_none, if_true, if_false, kd_0, kd_1, kd_2, kd_5, kd_47, kd_141, kd_144, rf_0_0, rf_0_1, rf_0_2, rf_0_3, rf_0_4, rf_1_0, rf_1_1, rf_1_2, rf_2_0, rf_5_0, rf_5_1, rf_5_2, rf_5_3, rf_5_4, rf_5_5, rf_5_6, rf_5_7, rf_47_0, rf_141_0, rf_144_0, rf_144_1, kd_3, kd_6, kd_8, kd_10, kd_12, kd_14, kd_16, kd_18, kd_20, kd_22, kd_142, kd_145, kd_147, kd_24, hK, e1, h_at_n hK4, c1, e47, e48]
end Hist
