/-! ===== Game: looks and moves ===== -/
def ltF (x : Int) : Int := (421 * x + 1663) % 10000
theorem ltF_b (x : Int) : 0 ≤ ltF x ∧ ltF x ≤ 9999 := by unfold ltF; omega
theorem lot_eq {x : Int} (h0 : 0 ≤ x) (h1 : x ≤ 9999) : rm (ad (ml 421 x) 1663) 10000 = ltF x := by
  rw [ml_eq (by omega) (by omega), ad_eq (by omega) (by omega), rm_eq (by omega) (by omega) (by omega) (by omega)]
  rfl
/-- the next place upwards, from x on -/
def stU (f : Nat → Int) (n t : Nat) : Nat → Nat
  | 0 => 0
  | x + 1 => if occ f t ((x + 1 : Nat) : Int) n 0 then stU f n t x else x + 1
theorem stU_le (f : Nat → Int) (n t : Nat) : ∀ x, stU f n t x ≤ x := by
  intro x
  induction x with
  | zero => exact Nat.le_refl _
  | succ x ih => unfold stU; split <;> omega
/-- the next place downwards: m places to look at, from x on; y if there is none -/
def stD (f : Nat → Int) (n t y : Nat) : Nat → Nat → Nat
  | 0, _ => y
  | m + 1, x => if occ f t (x : Int) n 0 then stD f n t y m (x + 1) else x
theorem stD_le (f : Nat → Int) (n t y : Nat) : ∀ m x, stD f n t y m x = y ∨ (x ≤ stD f n t y m x ∧ stD f n t y m x < x + m) := by
  intro m
  induction m with
  | zero => intro x; exact Or.inl rfl
  | succ m ih =>
    intro x
    unfold stD
    split
    · rcases ih (x + 1) with h | h
      · exact Or.inl h
      · right; omega
    · right; omega
def go1 (f : Nat → Int) (n t sp : Nat) (up : Bool) (p : Nat) : Nat := if up then stU f n t (p - 1) else stD f n t p (sp - p) (p + 1)
theorem go1_le {f : Nat → Int} {n t sp p : Nat} {up : Bool} (h : p ≤ sp) : go1 f n t sp up p ≤ sp := by
  unfold go1
  split
  · have := stU_le f n t (p - 1); omega
  · rcases stD_le f n t p (sp - p) (p + 1) with h | h <;> omega
def landF (f : Nat → Int) (n t sp : Nat) (up : Bool) : Nat → Nat → Nat
  | 0, p => p
  | k + 1, p => landF f n t sp up k (go1 f n t sp up p)
theorem landF_le {f : Nat → Int} {n t sp : Nat} {up : Bool} : ∀ (k p : Nat), p ≤ sp → landF f n t sp up k p ≤ sp := by
  intro k
  induction k with
  | zero => intro p h; exact h
  | succ k ih => intro p h; exact ih _ (go1_le h)
section Game
variable {M : Mem} {P : PMem} {n sp t : Nat} {hl : Nat → Nat}
theorem g_draw (h0 : 0 ≤ M 1 3) (h1 : M 1 3 ≤ 9999) : evM 28 [Rf 1] (Hp M P) = some (none, Hp (wr M 1 3 (ltF (M 1 3))) P) := by
  have c : ¬ (10000 : Int) = 0 := by omega
  simp only [en28, s28_0, s28_1, s28_4, s28_5, s28_8, s28_9, s28_12, s28_13, s28_16, s28_17, s28_20, cont_some, rl_some, rl_none, if_true, if_false, kd_0, kd_1, kd_2, kd_5, kd_47, kd_141, kd_144, rf_0_0, rf_0_1, rf_0_2, rf_0_3, rf_0_4, rf_1_0, rf_1_1, rf_1_2, rf_2_0, rf_5_0, rf_5_1, rf_5_2, rf_5_3, rf_5_4, rf_5_5, rf_5_6, rf_5_7, rf_47_0, rf_141_0, rf_144_0, rf_144_1, kd_3, kd_6, kd_8, kd_10, kd_12, kd_14, kd_16, kd_18, kd_20, kd_22, kd_142, kd_145, kd_147, kd_24, lot_eq h0 h1, ne_eq, c, not_false_eq_true]
theorem g_die (h0 : 0 ≤ M 1 3) (h1 : M 1 3 ≤ 9999) : evM 29 [Rf 1] (Hp M P) = some (some (I (1 + ltF (M 1 3) % 3)), Hp (wr M 1 3 (ltF (M 1 3))) P) := by
  have hb := ltF_b (M 1 3)
  have e1 : wr M 1 3 (ltF (M 1 3)) 1 3 = ltF (M 1 3) := by rw [wr_app, if_pos ⟨rfl, rfl⟩]
  have e2 : rm (ltF (M 1 3)) 3 = ltF (M 1 3) % 3 := rm_eq (by omega) (by omega) (by omega) (by omega)
  have e3 : ad 1 (ltF (M 1 3) % 3) = 1 + ltF (M 1 3) % 3 := ad_eq (by omega) (by omega)
  have c : ¬ (3 : Int) = 0 := by omega
  simp only [en29, s29_0, s29_1, s29_4, s29_5, s29_6, s29_9, s29_10, s29_11, s29_12, cont_some, rl_some, rl_none, if_true, if_false, kd_0, kd_1, kd_2, kd_5, kd_47, kd_141, kd_144, rf_0_0, rf_0_1, rf_0_2, rf_0_3, rf_0_4, rf_1_0, rf_1_1, rf_1_2, rf_2_0, rf_5_0, rf_5_1, rf_5_2, rf_5_3, rf_5_4, rf_5_5, rf_5_6, rf_5_7, rf_47_0, rf_141_0, rf_144_0, rf_144_1, kd_3, kd_6, kd_8, kd_10, kd_12, kd_14, kd_16, kd_18, kd_20, kd_22, kd_142, kd_145, kd_147, kd_24, g_draw h0 h1, e1, e2, e3, ne_eq, c, not_false_eq_true]
theorem g_over : evM 30 [Rf 1] (Hp M P) = some (some (I (if 3 ≤ M 1 4 then 1 else 0)), Hp M P) := by
  by_cases c : M 1 4 < 3
  · have c2 : ¬ 3 ≤ M 1 4 := by omega
    simp only [en30, s30_0, s30_1, s30_4, s30_5, s30_8, s30_9, s30_12, s30_13, cont_some, rl_some, rl_none, if_true, if_false, kd_0, kd_1, kd_2, kd_5, kd_47, kd_141, kd_144, rf_0_0, rf_0_1, rf_0_2, rf_0_3, rf_0_4, rf_1_0, rf_1_1, rf_1_2, rf_2_0, rf_5_0, rf_5_1, rf_5_2, rf_5_3, rf_5_4, rf_5_5, rf_5_6, rf_5_7, rf_47_0, rf_141_0, rf_144_0, rf_144_1, kd_3, kd_6, kd_8, kd_10, kd_12, kd_14, kd_16, kd_18, kd_20, kd_22, kd_142, kd_145, kd_147, kd_24, c, c2, Int.zero_ne_one, or_false]
  · have c2 : 3 ≤ M 1 4 := by omega
    simp only [en30, s30_0, s30_1, s30_4, s30_5, s30_8, s30_9, s30_12, s30_13, cont_some, rl_some, rl_none, if_true, if_false, kd_0, kd_1, kd_2, kd_5, kd_47, kd_141, kd_144, rf_0_0, rf_0_1, rf_0_2, rf_0_3, rf_0_4, rf_1_0, rf_1_1, rf_1_2, rf_2_0, rf_5_0, rf_5_1, rf_5_2, rf_5_3, rf_5_4, rf_5_5, rf_5_6, rf_5_7, rf_47_0, rf_141_0, rf_144_0, rf_144_1, kd_3, kd_6, kd_8, kd_10, kd_12, kd_14, kd_16, kd_18, kd_20, kd_22, kd_142, kd_145, kd_147, kd_24, c, c2, Int.zero_ne_one, or_true]
theorem g_place (ht : M 1 5 = (t : Int)) (h4 : t < 4) : evM 31 [Rf 1] (Hp M P) = some (some (I (M 7 t)), Hp M P) := by
  simp only [en31, s31_0, s31_1, s31_4, s31_7, s31_8, s31_11, s31_14, cont_some, rl_some, rl_none, if_true, if_false, kd_0, kd_1, kd_2, kd_5, kd_47, kd_141, kd_144, rf_0_0, rf_0_1, rf_0_2, rf_0_3, rf_0_4, rf_1_0, rf_1_1, rf_1_2, rf_2_0, rf_5_0, rf_5_1, rf_5_2, rf_5_3, rf_5_4, rf_5_5, rf_5_6, rf_5_7, rf_47_0, rf_141_0, rf_144_0, rf_144_1, kd_3, kd_6, kd_8, kd_10, kd_12, kd_14, kd_16, kd_18, kd_20, kd_22, kd_142, kd_145, kd_147, kd_24, ht, row_get R_pl, rg_n h4]
theorem g_up (ht : M 1 5 = (t : Int)) (h4 : t < 4) : evM 35 [Rf 1] (Hp M P) = some (some (I (if M 9 t = 1 then 1 else 0)), Hp M P) := by
  by_cases c : M 9 t = 1
  · simp only [en35, s35_0, s35_1, s35_4, s35_7, s35_8, s35_11, s35_14, s35_15, s35_18, s35_19, s35_22, s35_23, cont_some, rl_some, rl_none, if_true, if_false, kd_0, kd_1, kd_2, kd_5, kd_47, kd_141, kd_144, rf_0_0, rf_0_1, rf_0_2, rf_0_3, rf_0_4, rf_1_0, rf_1_1, rf_1_2, rf_2_0, rf_5_0, rf_5_1, rf_5_2, rf_5_3, rf_5_4, rf_5_5, rf_5_6, rf_5_7, rf_47_0, rf_141_0, rf_144_0, rf_144_1, kd_3, kd_6, kd_8, kd_10, kd_12, kd_14, kd_16, kd_18, kd_20, kd_22, kd_142, kd_145, kd_147, kd_24, ht, row_get R_up, rg_n h4, c, or_true]
  · simp only [en35, s35_0, s35_1, s35_4, s35_7, s35_8, s35_11, s35_14, s35_15, s35_18, s35_19, s35_22, s35_23, cont_some, rl_some, rl_none, if_true, if_false, kd_0, kd_1, kd_2, kd_5, kd_47, kd_141, kd_144, rf_0_0, rf_0_1, rf_0_2, rf_0_3, rf_0_4, rf_1_0, rf_1_1, rf_1_2, rf_2_0, rf_5_0, rf_5_1, rf_5_2, rf_5_3, rf_5_4, rf_5_5, rf_5_6, rf_5_7, rf_47_0, rf_141_0, rf_144_0, rf_144_1, kd_3, kd_6, kd_8, kd_10, kd_12, kd_14, kd_16, kd_18, kd_20, kd_22, kd_142, kd_145, kd_147, kd_24, ht, row_get R_up, rg_n h4, c, Int.zero_ne_one, or_false]
theorem g_allV (h1 : CN M n) (h2 : CH M n hl) (h3 : CPi M n hl) (h4 : CS M sp) (h5 : CPa M sp) : evM 32 [Rf 1] (Hp M P) = some (some (I (ad (sumN (fun s => psum (M 4 (s + 1))) sp + sumN (va1 M hl) n) (sumA (M 17) 4))), Hp M P) := by
  have b1 := sumN_b (f := fun s => psum (M 4 (s + 1))) (B := 45) sp (fun j hj => psum_b _)
  have b2 := sumN_b (f := va1 M hl) (B := 270) n (fun j hj => va1_b h2 hj)
  have a1 := h1.2
  have a2 := h4.2
  have e : ad (sumN (fun s => psum (M 4 (s + 1))) sp) (sumN (va1 M hl) n) = sumN (fun s => psum (M 4 (s + 1))) sp + sumN (va1 M hl) n := ad_eq (by omega) (by omega)
  simp only [en32, s32_0, s32_1, s32_4, s32_7, s32_8, s32_11, s32_14, s32_15, s32_16, s32_19, s32_22, s32_23, cont_some, rl_some, rl_none, if_true, if_false, kd_0, kd_1, kd_2, kd_5, kd_47, kd_141, kd_144, rf_0_0, rf_0_1, rf_0_2, rf_0_3, rf_0_4, rf_1_0, rf_1_1, rf_1_2, rf_2_0, rf_5_0, rf_5_1, rf_5_2, rf_5_3, rf_5_4, rf_5_5, rf_5_6, rf_5_7, rf_47_0, rf_141_0, rf_144_0, rf_144_1, kd_3, kd_6, kd_8, kd_10, kd_12, kd_14, kd_16, kd_18, kd_20, kd_22, kd_142, kd_145, kd_147, kd_24, p_val h4 h5, c_hva h1 h2 h3, c_owned, e]
theorem g_allT (h1 : CN M n) (h2 : CH M n hl) (h3 : CPi M n hl) (h4 : CS M sp) (h5 : CPa M sp) : evM 33 [Rf 1] (Hp M P) = some (some (I (ad (sumN (fun s => pcnt (M 4 (s + 1))) sp + sumN (tr1 M hl) n) (sumA (M 19) 4))), Hp M P) := by
  have b1 := sumN_b (f := fun s => pcnt (M 4 (s + 1))) (B := 3) sp (fun j hj => pcnt_b (h5 j hj).1 (h5 j hj).2)
  have b2 := sumN_b (f := tr1 M hl) (B := 18) n (fun j hj => tr1_b h2 h3 hj)
  have a1 := h1.2
  have a2 := h4.2
  have e : ad (sumN (fun s => pcnt (M 4 (s + 1))) sp) (sumN (tr1 M hl) n) = sumN (fun s => pcnt (M 4 (s + 1))) sp + sumN (tr1 M hl) n := ad_eq (by omega) (by omega)
  simp only [en33, s33_0, s33_1, s33_4, s33_7, s33_8, s33_11, s33_14, s33_15, s33_16, s33_19, s33_22, s33_25, s33_26, cont_some, rl_some, rl_none, if_true, if_false, kd_0, kd_1, kd_2, kd_5, kd_47, kd_141, kd_144, rf_0_0, rf_0_1, rf_0_2, rf_0_3, rf_0_4, rf_1_0, rf_1_1, rf_1_2, rf_2_0, rf_5_0, rf_5_1, rf_5_2, rf_5_3, rf_5_4, rf_5_5, rf_5_6, rf_5_7, rf_47_0, rf_141_0, rf_144_0, rf_144_1, kd_3, kd_6, kd_8, kd_10, kd_12, kd_14, kd_16, kd_18, kd_20, kd_22, kd_142, kd_145, kd_147, kd_24, p_tre h4 h5, c_htr h1 h2 h3, row_sum R_ow, e]
/-- why a move is refused -/
def rsM (M : Mem) (t : Nat) (back : Int) : Int := if 3 ≤ M 1 4 then 1 else if M 1 6 = 0 then (if back = 0 then 0 else if M 9 t = 1 ∨ M 7 t = 0 then 4 else 0) else 3
theorem g_whyM (ht : M 1 5 = (t : Int)) (h4 : t < 4) {back : Int} : evM 34 [Rf 1, I back] (Hp M P) = some (some (I (rsM M t back)), Hp M P) := by
  unfold rsM
  by_cases c1 : 3 ≤ M 1 4
  · simp only [en34, s34_0, s34_1, s34_4, s34_7, s34_8, s34_9, s34_10, s34_13, s34_16, s34_17, s34_18, s34_19, s34_22, s34_23, s34_26, s34_29, s34_30, s34_33, s34_36, s34_37, s34_40, s34_41, cont_some, rl_some, rl_none, if_true, if_false, kd_0, kd_1, kd_2, kd_5, kd_47, kd_141, kd_144, rf_0_0, rf_0_1, rf_0_2, rf_0_3, rf_0_4, rf_1_0, rf_1_1, rf_1_2, rf_2_0, rf_5_0, rf_5_1, rf_5_2, rf_5_3, rf_5_4, rf_5_5, rf_5_6, rf_5_7, rf_47_0, rf_141_0, rf_144_0, rf_144_1, kd_3, kd_6, kd_8, kd_10, kd_12, kd_14, kd_16, kd_18, kd_20, kd_22, kd_142, kd_145, kd_147, kd_24, g_over, c1, Int.one_ne_zero]
  · by_cases c2 : M 1 6 = 0
    · by_cases c3 : back = 0
      · simp only [en34, s34_0, s34_1, s34_4, s34_7, s34_8, s34_9, s34_10, s34_13, s34_16, s34_17, s34_18, s34_19, s34_22, s34_23, s34_26, s34_29, s34_30, s34_33, s34_36, s34_37, s34_40, s34_41, cont_some, rl_some, rl_none, if_true, if_false, kd_0, kd_1, kd_2, kd_5, kd_47, kd_141, kd_144, rf_0_0, rf_0_1, rf_0_2, rf_0_3, rf_0_4, rf_1_0, rf_1_1, rf_1_2, rf_2_0, rf_5_0, rf_5_1, rf_5_2, rf_5_3, rf_5_4, rf_5_5, rf_5_6, rf_5_7, rf_47_0, rf_141_0, rf_144_0, rf_144_1, kd_3, kd_6, kd_8, kd_10, kd_12, kd_14, kd_16, kd_18, kd_20, kd_22, kd_142, kd_145, kd_147, kd_24, g_over, c1, c2, c3]
      · by_cases c4 : M 9 t = 1
        · simp only [en34, s34_0, s34_1, s34_4, s34_7, s34_8, s34_9, s34_10, s34_13, s34_16, s34_17, s34_18, s34_19, s34_22, s34_23, s34_26, s34_29, s34_30, s34_33, s34_36, s34_37, s34_40, s34_41, cont_some, rl_some, rl_none, if_true, if_false, kd_0, kd_1, kd_2, kd_5, kd_47, kd_141, kd_144, rf_0_0, rf_0_1, rf_0_2, rf_0_3, rf_0_4, rf_1_0, rf_1_1, rf_1_2, rf_2_0, rf_5_0, rf_5_1, rf_5_2, rf_5_3, rf_5_4, rf_5_5, rf_5_6, rf_5_7, rf_47_0, rf_141_0, rf_144_0, rf_144_1, kd_3, kd_6, kd_8, kd_10, kd_12, kd_14, kd_16, kd_18, kd_20, kd_22, kd_142, kd_145, kd_147, kd_24, g_over, c1, c2, c3, g_up ht h4, c4, Int.one_ne_zero, true_or]
        · by_cases c5 : M 7 t = 0
          · simp only [en34, s34_0, s34_1, s34_4, s34_7, s34_8, s34_9, s34_10, s34_13, s34_16, s34_17, s34_18, s34_19, s34_22, s34_23, s34_26, s34_29, s34_30, s34_33, s34_36, s34_37, s34_40, s34_41, cont_some, rl_some, rl_none, if_true, if_false, kd_0, kd_1, kd_2, kd_5, kd_47, kd_141, kd_144, rf_0_0, rf_0_1, rf_0_2, rf_0_3, rf_0_4, rf_1_0, rf_1_1, rf_1_2, rf_2_0, rf_5_0, rf_5_1, rf_5_2, rf_5_3, rf_5_4, rf_5_5, rf_5_6, rf_5_7, rf_47_0, rf_141_0, rf_144_0, rf_144_1, kd_3, kd_6, kd_8, kd_10, kd_12, kd_14, kd_16, kd_18, kd_20, kd_22, kd_142, kd_145, kd_147, kd_24, g_over, c1, c2, c3, g_up ht h4, c4, g_place ht h4, c5, or_true]
          · simp only [en34, s34_0, s34_1, s34_4, s34_7, s34_8, s34_9, s34_10, s34_13, s34_16, s34_17, s34_18, s34_19, s34_22, s34_23, s34_26, s34_29, s34_30, s34_33, s34_36, s34_37, s34_40, s34_41, cont_some, rl_some, rl_none, if_true, if_false, kd_0, kd_1, kd_2, kd_5, kd_47, kd_141, kd_144, rf_0_0, rf_0_1, rf_0_2, rf_0_3, rf_0_4, rf_1_0, rf_1_1, rf_1_2, rf_2_0, rf_5_0, rf_5_1, rf_5_2, rf_5_3, rf_5_4, rf_5_5, rf_5_6, rf_5_7, rf_47_0, rf_141_0, rf_144_0, rf_144_1, kd_3, kd_6, kd_8, kd_10, kd_12, kd_14, kd_16, kd_18, kd_20, kd_22, kd_142, kd_145, kd_147, kd_24, g_over, c1, c2, c3, g_up ht h4, c4, g_place ht h4, c5, or_false]
    · simp only [en34, s34_0, s34_1, s34_4, s34_7, s34_8, s34_9, s34_10, s34_13, s34_16, s34_17, s34_18, s34_19, s34_22, s34_23, s34_26, s34_29, s34_30, s34_33, s34_36, s34_37, s34_40, s34_41, cont_some, rl_some, rl_none, if_true, if_false, kd_0, kd_1, kd_2, kd_5, kd_47, kd_141, kd_144, rf_0_0, rf_0_1, rf_0_2, rf_0_3, rf_0_4, rf_1_0, rf_1_1, rf_1_2, rf_2_0, rf_5_0, rf_5_1, rf_5_2, rf_5_3, rf_5_4, rf_5_5, rf_5_6, rf_5_7, rf_47_0, rf_141_0, rf_144_0, rf_144_1, kd_3, kd_6, kd_8, kd_10, kd_12, kd_14, kd_16, kd_18, kd_20, kd_22, kd_142, kd_145, kd_147, kd_24, g_over, c1, c2]
theorem g_stU_loop (h1 : CN M n) (ht : M 1 5 = (t : Int)) {fr : Int} : ∀ x : Nat, x ≤ 100 → evL 38 4 [Rf 1, I fr, I (x : Int)] [] (Hp M P) = some (some (I (stU (M 7) n t x : Int)), Hp M P) := by
  intro x
  induction x with
  | zero =>
    intro _
    have e : ((0 : Nat) : Int) = 0 := rfl
    rw [e, s38_4]
    simp only [en38, s38_0, s38_1, s38_2, s38_3, s38_5, s38_8, s38_9, s38_12, s38_13, s38_16, s38_17, s38_20, s38_23, s38_24, s38_25, s38_28, s38_31, s38_32, cont_some, rl_some, rl_none, if_true, if_false, kd_0, kd_1, kd_2, kd_5, kd_47, kd_141, kd_144, rf_0_0, rf_0_1, rf_0_2, rf_0_3, rf_0_4, rf_1_0, rf_1_1, rf_1_2, rf_2_0, rf_5_0, rf_5_1, rf_5_2, rf_5_3, rf_5_4, rf_5_5, rf_5_6, rf_5_7, rf_47_0, rf_141_0, rf_144_0, rf_144_1, kd_3, kd_6, kd_8, kd_10, kd_12, kd_14, kd_16, kd_18, kd_20, kd_22, kd_142, kd_145, kd_147, kd_24, Int.le_refl, stU]
    rfl
  | succ x ih =>
    intro hx
    have c1 : ¬ ((x + 1 : Nat) : Int) ≤ 0 := by omega
    have e2 : ad ((x + 1 : Nat) : Int) (-1) = (x : Int) := by rw [ad_eq (by omega) (by omega)]; omega
    have hf := c_free (P := P) h1 (t := t) (s := ((x + 1 : Nat) : Int))
    rw [s38_4]
    by_cases c2 : occ (M 7) t ((x + 1 : Nat) : Int) n 0 = true
    · rw [if_pos c2] at hf
      simp only [en38, s38_0, s38_1, s38_2, s38_3, s38_5, s38_8, s38_9, s38_12, s38_13, s38_16, s38_17, s38_20, s38_23, s38_24, s38_25, s38_28, s38_31, s38_32, cont_some, rl_some, rl_none, if_true, if_false, kd_0, kd_1, kd_2, kd_5, kd_47, kd_141, kd_144, rf_0_0, rf_0_1, rf_0_2, rf_0_3, rf_0_4, rf_1_0, rf_1_1, rf_1_2, rf_2_0, rf_5_0, rf_5_1, rf_5_2, rf_5_3, rf_5_4, rf_5_5, rf_5_6, rf_5_7, rf_47_0, rf_141_0, rf_144_0, rf_144_1, kd_3, kd_6, kd_8, kd_10, kd_12, kd_14, kd_16, kd_18, kd_20, kd_22, kd_142, kd_145, kd_147, kd_24, c1, ht, hf, e2, stU, c2]
      exact ih (by omega)
    · rw [if_neg c2] at hf
      simp only [en38, s38_0, s38_1, s38_2, s38_3, s38_5, s38_8, s38_9, s38_12, s38_13, s38_16, s38_17, s38_20, s38_23, s38_24, s38_25, s38_28, s38_31, s38_32, cont_some, rl_some, rl_none, if_true, if_false, kd_0, kd_1, kd_2, kd_5, kd_47, kd_141, kd_144, rf_0_0, rf_0_1, rf_0_2, rf_0_3, rf_0_4, rf_1_0, rf_1_1, rf_1_2, rf_2_0, rf_5_0, rf_5_1, rf_5_2, rf_5_3, rf_5_4, rf_5_5, rf_5_6, rf_5_7, rf_47_0, rf_141_0, rf_144_0, rf_144_1, kd_3, kd_6, kd_8, kd_10, kd_12, kd_14, kd_16, kd_18, kd_20, kd_22, kd_142, kd_145, kd_147, kd_24, c1, ht, hf, Int.one_ne_zero, stU, c2, Bool.false_eq_true]
theorem g_stU (h1 : CN M n) (ht : M 1 5 = (t : Int)) {p : Nat} (hp : p ≤ 100) : evM 38 [Rf 1, I (p : Int)] (Hp M P) = some (some (I (stU (M 7) n t (p - 1) : Int)), Hp M P) := by
  by_cases h0 : p = 0
  · subst h0
    have e : ((0 : Nat) : Int) = 0 := rfl
    have e2 : sb 0 1 = -1 := sb_eq (by omega) (by omega)
    have c1 : (-1 : Int) ≤ 0 := by omega
    rw [e]
    simp only [en38, s38_0, s38_1, s38_2, s38_3, s38_4, s38_5, s38_8, s38_9, s38_12, s38_13, s38_16, s38_17, s38_20, s38_23, s38_24, s38_25, s38_28, s38_31, s38_32, cont_some, rl_some, rl_none, if_true, if_false, kd_0, kd_1, kd_2, kd_5, kd_47, kd_141, kd_144, rf_0_0, rf_0_1, rf_0_2, rf_0_3, rf_0_4, rf_1_0, rf_1_1, rf_1_2, rf_2_0, rf_5_0, rf_5_1, rf_5_2, rf_5_3, rf_5_4, rf_5_5, rf_5_6, rf_5_7, rf_47_0, rf_141_0, rf_144_0, rf_144_1, kd_3, kd_6, kd_8, kd_10, kd_12, kd_14, kd_16, kd_18, kd_20, kd_22, kd_142, kd_145, kd_147, kd_24, e2, c1]
    rfl
  · have e2 : sb (p : Int) 1 = ((p - 1 : Nat) : Int) := by rw [sb_eq (by omega) (by omega)]; omega
    simp only [en38, s38_0, s38_1, s38_2, s38_3, s38_5, s38_8, s38_9, s38_12, s38_13, s38_16, s38_17, s38_20, s38_23, s38_24, s38_25, s38_28, s38_31, s38_32, cont_some, rl_some, rl_none, if_true, if_false, kd_0, kd_1, kd_2, kd_5, kd_47, kd_141, kd_144, rf_0_0, rf_0_1, rf_0_2, rf_0_3, rf_0_4, rf_1_0, rf_1_1, rf_1_2, rf_2_0, rf_5_0, rf_5_1, rf_5_2, rf_5_3, rf_5_4, rf_5_5, rf_5_6, rf_5_7, rf_47_0, rf_141_0, rf_144_0, rf_144_1, kd_3, kd_6, kd_8, kd_10, kd_12, kd_14, kd_16, kd_18, kd_20, kd_22, kd_142, kd_145, kd_147, kd_24, e2]
    exact g_stU_loop h1 ht (p - 1) (by omega)
theorem g_stD_loop (h1 : CN M n) (h2 : CS M sp) (ht : M 1 5 = (t : Int)) {fr : Nat} : ∀ m x : Nat, x + m = sp + 1 → evL 39 4 [Rf 1, I (fr : Int), I (x : Int)] [] (Hp M P) = some (some (I (stD (M 7) n t fr m x : Int)), Hp M P) := by
  obtain ⟨a1, a2⟩ := h2
  intro m
  induction m with
  | zero =>
    intro x hx
    have c1 : (sp : Int) < (x : Int) := by omega
    rw [s39_4]
    simp only [en39, s39_0, s39_1, s39_2, s39_3, s39_5, s39_6, s39_9, s39_12, s39_15, s39_16, s39_19, s39_20, s39_23, s39_24, s39_27, s39_30, s39_31, s39_32, s39_35, s39_38, s39_39, cont_some, rl_some, rl_none, if_true, if_false, kd_0, kd_1, kd_2, kd_5, kd_47, kd_141, kd_144, rf_0_0, rf_0_1, rf_0_2, rf_0_3, rf_0_4, rf_1_0, rf_1_1, rf_1_2, rf_2_0, rf_5_0, rf_5_1, rf_5_2, rf_5_3, rf_5_4, rf_5_5, rf_5_6, rf_5_7, rf_47_0, rf_141_0, rf_144_0, rf_144_1, kd_3, kd_6, kd_8, kd_10, kd_12, kd_14, kd_16, kd_18, kd_20, kd_22, kd_142, kd_145, kd_147, kd_24, a1, c1, stD]
  | succ m ih =>
    intro x hx
    have c1 : ¬ (sp : Int) < (x : Int) := by omega
    have hf := c_free (P := P) h1 (t := t) (s := (x : Int))
    rw [s39_4]
    by_cases c2 : occ (M 7) t (x : Int) n 0 = true
    · rw [if_pos c2] at hf
      simp only [en39, s39_0, s39_1, s39_2, s39_3, s39_5, s39_6, s39_9, s39_12, s39_15, s39_16, s39_19, s39_20, s39_23, s39_24, s39_27, s39_30, s39_31, s39_32, s39_35, s39_38, s39_39, cont_some, rl_some, rl_none, if_true, if_false, kd_0, kd_1, kd_2, kd_5, kd_47, kd_141, kd_144, rf_0_0, rf_0_1, rf_0_2, rf_0_3, rf_0_4, rf_1_0, rf_1_1, rf_1_2, rf_2_0, rf_5_0, rf_5_1, rf_5_2, rf_5_3, rf_5_4, rf_5_5, rf_5_6, rf_5_7, rf_47_0, rf_141_0, rf_144_0, rf_144_1, kd_3, kd_6, kd_8, kd_10, kd_12, kd_14, kd_16, kd_18, kd_20, kd_22, kd_142, kd_145, kd_147, kd_24, a1, c1, ht, hf, ad_n x (by omega), stD, c2]
      exact ih (x + 1) (by omega)
    · rw [if_neg c2] at hf
      simp only [en39, s39_0, s39_1, s39_2, s39_3, s39_5, s39_6, s39_9, s39_12, s39_15, s39_16, s39_19, s39_20, s39_23, s39_24, s39_27, s39_30, s39_31, s39_32, s39_35, s39_38, s39_39, cont_some, rl_some, rl_none, if_true, if_false, kd_0, kd_1, kd_2, kd_5, kd_47, kd_141, kd_144, rf_0_0, rf_0_1, rf_0_2, rf_0_3, rf_0_4, rf_1_0, rf_1_1, rf_1_2, rf_2_0, rf_5_0, rf_5_1, rf_5_2, rf_5_3, rf_5_4, rf_5_5, rf_5_6, rf_5_7, rf_47_0, rf_141_0, rf_144_0, rf_144_1, kd_3, kd_6, kd_8, kd_10, kd_12, kd_14, kd_16, kd_18, kd_20, kd_22, kd_142, kd_145, kd_147, kd_24, a1, c1, ht, hf, Int.one_ne_zero, stD, c2, Bool.false_eq_true]
theorem g_stD (h1 : CN M n) (h2 : CS M sp) (ht : M 1 5 = (t : Int)) {p : Nat} (hp : p ≤ sp) : evM 39 [Rf 1, I (p : Int)] (Hp M P) = some (some (I (stD (M 7) n t p (sp - p) (p + 1) : Int)), Hp M P) := by
  have a2 := h2.2
  simp only [en39, s39_0, s39_1, s39_2, s39_3, s39_5, s39_6, s39_9, s39_12, s39_15, s39_16, s39_19, s39_20, s39_23, s39_24, s39_27, s39_30, s39_31, s39_32, s39_35, s39_38, s39_39, cont_some, rl_some, rl_none, if_true, if_false, kd_0, kd_1, kd_2, kd_5, kd_47, kd_141, kd_144, rf_0_0, rf_0_1, rf_0_2, rf_0_3, rf_0_4, rf_1_0, rf_1_1, rf_1_2, rf_2_0, rf_5_0, rf_5_1, rf_5_2, rf_5_3, rf_5_4, rf_5_5, rf_5_6, rf_5_7, rf_47_0, rf_141_0, rf_144_0, rf_144_1, kd_3, kd_6, kd_8, kd_10, kd_12, kd_14, kd_16, kd_18, kd_20, kd_22, kd_142, kd_145, kd_147, kd_24, ad_n p (by omega)]
  exact g_stD_loop h1 h2 ht (sp - p) (p + 1) (by omega)
theorem g_land_loop (h1 : CN M n) (h2 : CS M sp) (ht : M 1 5 = (t : Int)) {fr di : Int} {up : Int} {st : Int} (hst : st ≤ 100) : ∀ (m : Nat) (x : Int) (p : Nat), x + m = (if 0 ≤ st then st else 0) → 0 ≤ x → p ≤ sp → evL 37 24 [Rf 1, I fr, I up, I di, I st, I (p : Int), I x] [] (Hp M P) = some (some (I (landF (M 7) n t sp (decide (up ≠ 0)) m p : Int)), Hp M P) := by
  have a2 := h2.2
  intro m
  induction m with
  | zero =>
    intro x p hx h0 hp
    have c1 : st ≤ x := by split at hx <;> omega
    rw [s37_24]
    simp only [en37, s37_0, s37_1, s37_2, s37_5, s37_8, s37_9, s37_12, s37_15, s37_16, s37_18, s37_19, s37_21, s37_22, s37_26, s37_28, s37_31, s37_32, s37_35, s37_36, s37_38, s37_41, s37_44, s37_45, s37_47, s37_50, s37_52, s37_55, s37_58, s37_60, cont_some, rl_some, rl_none, if_true, if_false, kd_0, kd_1, kd_2, kd_5, kd_47, kd_141, kd_144, rf_0_0, rf_0_1, rf_0_2, rf_0_3, rf_0_4, rf_1_0, rf_1_1, rf_1_2, rf_2_0, rf_5_0, rf_5_1, rf_5_2, rf_5_3, rf_5_4, rf_5_5, rf_5_6, rf_5_7, rf_47_0, rf_141_0, rf_144_0, rf_144_1, kd_3, kd_6, kd_8, kd_10, kd_12, kd_14, kd_16, kd_18, kd_20, kd_22, kd_142, kd_145, kd_147, kd_24, c1, landF]
  | succ m ih =>
    intro x p hx h0 hp
    have c1 : ¬ st ≤ x := by split at hx <;> omega
    have e1 : ad x 1 = x + 1 := ad_eq (by split at hx <;> omega) (by split at hx <;> omega)
    have hg := go1_le (f := M 7) (n := n) (t := t) (up := decide (up ≠ 0)) hp
    rw [s37_24]
    by_cases c2 : up = 0
    · subst c2
      have eg : go1 (M 7) n t sp (decide ((0 : Int) ≠ 0)) p = stD (M 7) n t p (sp - p) (p + 1) := by simp [go1]
      have := ih (x + 1) _ (by omega) (by omega) hg
      rw [eg] at this
      have e3 : landF (M 7) n t sp (decide ((0 : Int) ≠ 0)) (m + 1) p = landF (M 7) n t sp (decide ((0 : Int) ≠ 0)) m (stD (M 7) n t p (sp - p) (p + 1)) := by
        simp only [landF]
        rw [eg]
      rw [e3]
      simp only [en37, s37_0, s37_1, s37_2, s37_5, s37_8, s37_9, s37_12, s37_15, s37_16, s37_18, s37_19, s37_21, s37_22, s37_26, s37_28, s37_31, s37_32, s37_35, s37_36, s37_38, s37_41, s37_44, s37_45, s37_47, s37_50, s37_52, s37_55, s37_58, s37_60, cont_some, rl_some, rl_none, if_true, if_false, kd_0, kd_1, kd_2, kd_5, kd_47, kd_141, kd_144, rf_0_0, rf_0_1, rf_0_2, rf_0_3, rf_0_4, rf_1_0, rf_1_1, rf_1_2, rf_2_0, rf_5_0, rf_5_1, rf_5_2, rf_5_3, rf_5_4, rf_5_5, rf_5_6, rf_5_7, rf_47_0, rf_141_0, rf_144_0, rf_144_1, kd_3, kd_6, kd_8, kd_10, kd_12, kd_14, kd_16, kd_18, kd_20, kd_22, kd_142, kd_145, kd_147, kd_24, c1, g_stD h1 h2 ht hp, e1]
      exact this
    · have eg : go1 (M 7) n t sp (decide (up ≠ 0)) p = stU (M 7) n t (p - 1) := by simp [go1, c2]
      simp only [en37, s37_0, s37_1, s37_2, s37_5, s37_8, s37_9, s37_12, s37_15, s37_16, s37_18, s37_19, s37_21, s37_22, s37_26, s37_28, s37_31, s37_32, s37_35, s37_36, s37_38, s37_41, s37_44, s37_45, s37_47, s37_50, s37_52, s37_55, s37_58, s37_60, cont_some, rl_some, rl_none, if_true, if_false, kd_0, kd_1, kd_2, kd_5, kd_47, kd_141, kd_144, rf_0_0, rf_0_1, rf_0_2, rf_0_3, rf_0_4, rf_1_0, rf_1_1, rf_1_2, rf_2_0, rf_5_0, rf_5_1, rf_5_2, rf_5_3, rf_5_4, rf_5_5, rf_5_6, rf_5_7, rf_47_0, rf_141_0, rf_144_0, rf_144_1, kd_3, kd_6, kd_8, kd_10, kd_12, kd_14, kd_16, kd_18, kd_20, kd_22, kd_142, kd_145, kd_147, kd_24, c1, c2, g_stU h1 ht (show p ≤ 100 by omega), e1]
      have := ih (x + 1) _ (by omega) (by omega) hg
      rw [eg] at this
      simp only [landF]
      rw [eg]
      exact this
theorem g_land (h1 : CN M n) (h2 : CS M sp) (ht : M 1 5 = (t : Int)) (h4 : t < 4) {h : Nat} (hh : M 13 t = (h : Int)) (h6 : h ≤ 6) {p : Nat} (hp : p ≤ sp) {up di : Int} (d0 : 0 ≤ di) (d1 : di ≤ 50) : evM 37 [Rf 1, I (p : Int), I up, I di] (Hp M P) = some (some (I (landF (M 7) n t sp (decide (up ≠ 0)) (di - h).toNat p : Int)), Hp M P) := by
  have e1 : sb di (h : Int) = di - h := sb_eq (by omega) (by omega)
  simp only [en37, s37_0, s37_1, s37_2, s37_5, s37_8, s37_9, s37_12, s37_15, s37_16, s37_18, s37_19, s37_21, s37_22, s37_26, s37_28, s37_31, s37_32, s37_35, s37_36, s37_38, s37_41, s37_44, s37_45, s37_47, s37_50, s37_52, s37_55, s37_58, s37_60, cont_some, rl_some, rl_none, if_true, if_false, kd_0, kd_1, kd_2, kd_5, kd_47, kd_141, kd_144, rf_0_0, rf_0_1, rf_0_2, rf_0_3, rf_0_4, rf_1_0, rf_1_1, rf_1_2, rf_2_0, rf_5_0, rf_5_1, rf_5_2, rf_5_3, rf_5_4, rf_5_5, rf_5_6, rf_5_7, rf_47_0, rf_141_0, rf_144_0, rf_144_1, kd_3, kd_6, kd_8, kd_10, kd_12, kd_14, kd_16, kd_18, kd_20, kd_22, kd_142, kd_145, kd_147, kd_24, ht, row_get R_he, rg_n h4, hh, e1]
  exact g_land_loop h1 h2 ht (by omega) (di - h).toNat 0 p (by split <;> omega) (by omega) hp
end Game
