/-! ===== Path ===== -/
section Path
variable {M : Mem} {P : PMem} {sp : Nat}
def CS (M : Mem) (sp : Nat) : Prop := M 2 1 = (sp : Int) ∧ sp ≤ 16
def CPa (M : Mem) (sp : Nat) : Prop := ∀ s, s < sp → 0 ≤ M 4 (s + 1) ∧ M 4 (s + 1) < 16384
theorem p_at {s : Nat} (hs : s ≤ 16) : evM 66 [Rf 2, I (s : Int)] (Hp M P) = some (some (I (M 4 s)), Hp M P) := by
  simp only [en66, s66_0, s66_1, s66_4, s66_5, s66_8, cont_some, rl_some, rl_none, if_true, if_false, kd_0, kd_1, kd_2, kd_5, kd_47, kd_141, kd_144, rf_0_0, rf_0_1, rf_0_2, rf_0_3, rf_0_4, rf_1_0, rf_1_1, rf_1_2, rf_2_0, rf_5_0, rf_5_1, rf_5_2, rf_5_3, rf_5_4, rf_5_5, rf_5_6, rf_5_7, rf_47_0, rf_141_0, rf_144_0, rf_144_1, kd_3, kd_6, kd_8, kd_10, kd_12, kd_14, kd_16, kd_18, kd_20, kd_22, kd_142, kd_145, kd_147, kd_24, row_get R_path, rg_n (show s < 17 by omega)]
theorem p_set {s : Nat} {v : Int} (hs : s ≤ 16) : evM 67 [Rf 2, I (s : Int), I v] (Hp M P) = some (none, Hp (wr M 4 s v) P) := by
  simp only [en67, s67_0, s67_1, s67_4, s67_5, s67_6, s67_9, cont_some, rl_some, rl_none, if_true, if_false, kd_0, kd_1, kd_2, kd_5, kd_47, kd_141, kd_144, rf_0_0, rf_0_1, rf_0_2, rf_0_3, rf_0_4, rf_1_0, rf_1_1, rf_1_2, rf_2_0, rf_5_0, rf_5_1, rf_5_2, rf_5_3, rf_5_4, rf_5_5, rf_5_6, rf_5_7, rf_47_0, rf_141_0, rf_144_0, rf_144_1, kd_3, kd_6, kd_8, kd_10, kd_12, kd_14, kd_16, kd_18, kd_20, kd_22, kd_142, kd_145, kd_147, kd_24, row_set R_path, rs_n (show s < 17 by omega)]
theorem p_add {v : Int} (h1 : M 2 1 = (sp : Int)) (hs : sp < 16) : evM 68 [Rf 2, I v] (Hp M P) = some (none, Hp (wr (wr M 2 1 ((sp + 1 : Nat) : Int)) 4 (sp + 1) v) P) := by
  have e1 : wr M 2 1 ((sp + 1 : Nat) : Int) 2 1 = ((sp + 1 : Nat) : Int) := by rw [wr_app, if_pos ⟨rfl, rfl⟩]
  simp only [en68, s68_0, s68_1, s68_2, s68_5, s68_6, s68_7, s68_10, s68_11, s68_14, s68_15, s68_18, s68_19, s68_22, cont_some, rl_some, rl_none, if_true, if_false, kd_0, kd_1, kd_2, kd_5, kd_47, kd_141, kd_144, rf_0_0, rf_0_1, rf_0_2, rf_0_3, rf_0_4, rf_1_0, rf_1_1, rf_1_2, rf_2_0, rf_5_0, rf_5_1, rf_5_2, rf_5_3, rf_5_4, rf_5_5, rf_5_6, rf_5_7, rf_47_0, rf_141_0, rf_144_0, rf_144_1, kd_3, kd_6, kd_8, kd_10, kd_12, kd_14, kd_16, kd_18, kd_20, kd_22, kd_142, kd_145, kd_147, kd_24, h1, ad_n sp (by omega), e1, row_set R_path, rs_n (show sp + 1 < 17 by omega)]
def bl1 (M : Mem) (s : Nat) : Int := if M 4 (s + 1) = 0 then 1 else 0
theorem p_blank_loop (h : CS M sp) : ∀ (m s : Nat), s + m = sp → evL 69 4 [Rf 2, I (sumN (bl1 M) s), I ((s + 1 : Nat) : Int)] [] (Hp M P) = some (some (I (sumN (bl1 M) sp)), Hp M P) := by
  obtain ⟨h1, h2⟩ := h
  intro m
  induction m with
  | zero =>
    intro s hs
    have e : s = sp := by omega
    subst e
    have c1 : (s : Int) < ((s + 1 : Nat) : Int) := by omega
    rw [s69_4]
    simp only [en69, s69_0, s69_1, s69_2, s69_3, s69_5, s69_6, s69_9, s69_12, s69_13, s69_14, s69_17, s69_18, s69_21, s69_24, s69_25, s69_28, s69_29, s69_30, s69_31, s69_34, s69_37, s69_38, cont_some, rl_some, rl_none, if_true, if_false, kd_0, kd_1, kd_2, kd_5, kd_47, kd_141, kd_144, rf_0_0, rf_0_1, rf_0_2, rf_0_3, rf_0_4, rf_1_0, rf_1_1, rf_1_2, rf_2_0, rf_5_0, rf_5_1, rf_5_2, rf_5_3, rf_5_4, rf_5_5, rf_5_6, rf_5_7, rf_47_0, rf_141_0, rf_144_0, rf_144_1, kd_3, kd_6, kd_8, kd_10, kd_12, kd_14, kd_16, kd_18, kd_20, kd_22, kd_142, kd_145, kd_147, kd_24, h1, c1]
  | succ m ih =>
    intro s hs
    have hb : ∀ j, j < s → 0 ≤ bl1 M j ∧ bl1 M j ≤ 1 := fun j _ => by unfold bl1; split <;> omega
    have b := sumN_b (f := bl1 M) (B := 1) s hb
    have c1 : ¬ (sp : Int) < ((s + 1 : Nat) : Int) := by omega
    rw [s69_4]
    by_cases c2 : M 4 (s + 1) = 0
    · have e1 : ad (sumN (bl1 M) s) 1 = sumN (bl1 M) (s + 1) := by
        have : bl1 M s = 1 := by unfold bl1; rw [if_pos c2]
        simp only [sumN, this]
        exact ad_eq (by omega) (by omega)
      simp only [en69, s69_0, s69_1, s69_2, s69_3, s69_5, s69_6, s69_9, s69_12, s69_13, s69_14, s69_17, s69_18, s69_21, s69_24, s69_25, s69_28, s69_29, s69_30, s69_31, s69_34, s69_37, s69_38, cont_some, rl_some, rl_none, if_true, if_false, kd_0, kd_1, kd_2, kd_5, kd_47, kd_141, kd_144, rf_0_0, rf_0_1, rf_0_2, rf_0_3, rf_0_4, rf_1_0, rf_1_1, rf_1_2, rf_2_0, rf_5_0, rf_5_1, rf_5_2, rf_5_3, rf_5_4, rf_5_5, rf_5_6, rf_5_7, rf_47_0, rf_141_0, rf_144_0, rf_144_1, kd_3, kd_6, kd_8, kd_10, kd_12, kd_14, kd_16, kd_18, kd_20, kd_22, kd_142, kd_145, kd_147, kd_24, h1, c1, row_get R_path, rg_n (show s + 1 < 17 by omega), c2, e1, ad_n (s + 1) (by omega)]
      exact ih (s + 1) (by omega)
    · have e1 : ad (sumN (bl1 M) s) 0 = sumN (bl1 M) (s + 1) := by
        have : bl1 M s = 0 := by unfold bl1; rw [if_neg c2]
        simp only [sumN, this]
        exact ad_eq (by omega) (by omega)
      simp only [en69, s69_0, s69_1, s69_2, s69_3, s69_5, s69_6, s69_9, s69_12, s69_13, s69_14, s69_17, s69_18, s69_21, s69_24, s69_25, s69_28, s69_29, s69_30, s69_31, s69_34, s69_37, s69_38, cont_some, rl_some, rl_none, if_true, if_false, kd_0, kd_1, kd_2, kd_5, kd_47, kd_141, kd_144, rf_0_0, rf_0_1, rf_0_2, rf_0_3, rf_0_4, rf_1_0, rf_1_1, rf_1_2, rf_2_0, rf_5_0, rf_5_1, rf_5_2, rf_5_3, rf_5_4, rf_5_5, rf_5_6, rf_5_7, rf_47_0, rf_141_0, rf_144_0, rf_144_1, kd_3, kd_6, kd_8, kd_10, kd_12, kd_14, kd_16, kd_18, kd_20, kd_22, kd_142, kd_145, kd_147, kd_24, h1, c1, row_get R_path, rg_n (show s + 1 < 17 by omega), c2, e1, ad_n (s + 1) (by omega)]
      exact ih (s + 1) (by omega)
theorem p_blank (h : CS M sp) : evM 69 [Rf 2] (Hp M P) = some (some (I (sumN (bl1 M) sp)), Hp M P) := by
  simp only [en69, s69_0, s69_1, s69_2, s69_3, s69_5, s69_6, s69_9, s69_12, s69_13, s69_14, s69_17, s69_18, s69_21, s69_24, s69_25, s69_28, s69_29, s69_30, s69_31, s69_34, s69_37, s69_38]
  exact p_blank_loop h sp 0 (by omega)
theorem p_tre_loop (h : CS M sp) (h3 : CPa M sp) : ∀ (m s : Nat), s + m = sp → evL 70 4 [Rf 2, I (sumN (fun s => pcnt (M 4 (s + 1))) s), I ((s + 1 : Nat) : Int)] [] (Hp M P) = some (some (I (sumN (fun s => pcnt (M 4 (s + 1))) sp)), Hp M P) := by
  obtain ⟨h1, h2⟩ := h
  intro m
  induction m with
  | zero =>
    intro s hs
    have e : s = sp := by omega
    subst e
    have c1 : (s : Int) < ((s + 1 : Nat) : Int) := by omega
    rw [s70_4]
    simp only [en70, s70_0, s70_1, s70_2, s70_3, s70_5, s70_6, s70_9, s70_12, s70_13, s70_14, s70_17, s70_18, s70_21, s70_24, s70_25, s70_26, s70_29, s70_32, s70_33, cont_some, rl_some, rl_none, if_true, if_false, kd_0, kd_1, kd_2, kd_5, kd_47, kd_141, kd_144, rf_0_0, rf_0_1, rf_0_2, rf_0_3, rf_0_4, rf_1_0, rf_1_1, rf_1_2, rf_2_0, rf_5_0, rf_5_1, rf_5_2, rf_5_3, rf_5_4, rf_5_5, rf_5_6, rf_5_7, rf_47_0, rf_141_0, rf_144_0, rf_144_1, kd_3, kd_6, kd_8, kd_10, kd_12, kd_14, kd_16, kd_18, kd_20, kd_22, kd_142, kd_145, kd_147, kd_24, h1, c1]
  | succ m ih =>
    intro s hs
    have b := sumN_b (f := fun s => pcnt (M 4 (s + 1))) (B := 3) s (fun j hj => pcnt_b (h3 j (by omega)).1 (h3 j (by omega)).2)
    have b2 := pcnt_b (h3 s (by omega)).1 (h3 s (by omega)).2
    have c1 : ¬ (sp : Int) < ((s + 1 : Nat) : Int) := by omega
    have e1 : ad (sumN (fun s => pcnt (M 4 (s + 1))) s) (pcnt (M 4 (s + 1))) = sumN (fun s => pcnt (M 4 (s + 1))) (s + 1) := ad_eq (by omega) (by omega)
    rw [s70_4]
    simp only [en70, s70_0, s70_1, s70_2, s70_3, s70_5, s70_6, s70_9, s70_12, s70_13, s70_14, s70_17, s70_18, s70_21, s70_24, s70_25, s70_26, s70_29, s70_32, s70_33, cont_some, rl_some, rl_none, if_true, if_false, kd_0, kd_1, kd_2, kd_5, kd_47, kd_141, kd_144, rf_0_0, rf_0_1, rf_0_2, rf_0_3, rf_0_4, rf_1_0, rf_1_1, rf_1_2, rf_2_0, rf_5_0, rf_5_1, rf_5_2, rf_5_3, rf_5_4, rf_5_5, rf_5_6, rf_5_7, rf_47_0, rf_141_0, rf_144_0, rf_144_1, kd_3, kd_6, kd_8, kd_10, kd_12, kd_14, kd_16, kd_18, kd_20, kd_22, kd_142, kd_145, kd_147, kd_24, h1, c1, row_get R_path, rg_n (show s + 1 < 17 by omega), pile_size (h3 s (by omega)).1 (h3 s (by omega)).2, e1, ad_n (s + 1) (by omega)]
    exact ih (s + 1) (by omega)
theorem p_tre (h : CS M sp) (h3 : CPa M sp) : evM 70 [Rf 2] (Hp M P) = some (some (I (sumN (fun s => pcnt (M 4 (s + 1))) sp)), Hp M P) := by
  simp only [en70, s70_0, s70_1, s70_2, s70_3, s70_5, s70_6, s70_9, s70_12, s70_13, s70_14, s70_17, s70_18, s70_21, s70_24, s70_25, s70_26, s70_29, s70_32, s70_33]
  exact p_tre_loop h h3 sp 0 (by omega)
theorem p_val_loop (h : CS M sp) (h3 : CPa M sp) : ∀ (m s : Nat), s + m = sp → evL 71 4 [Rf 2, I (sumN (fun s => psum (M 4 (s + 1))) s), I ((s + 1 : Nat) : Int)] [] (Hp M P) = some (some (I (sumN (fun s => psum (M 4 (s + 1))) sp)), Hp M P) := by
  obtain ⟨h1, h2⟩ := h
  intro m
  induction m with
  | zero =>
    intro s hs
    have e : s = sp := by omega
    subst e
    have c1 : (s : Int) < ((s + 1 : Nat) : Int) := by omega
    rw [s71_4]
    simp only [en71, s71_0, s71_1, s71_2, s71_3, s71_5, s71_6, s71_9, s71_12, s71_13, s71_14, s71_17, s71_18, s71_21, s71_24, s71_25, s71_26, s71_29, s71_32, s71_33, cont_some, rl_some, rl_none, if_true, if_false, kd_0, kd_1, kd_2, kd_5, kd_47, kd_141, kd_144, rf_0_0, rf_0_1, rf_0_2, rf_0_3, rf_0_4, rf_1_0, rf_1_1, rf_1_2, rf_2_0, rf_5_0, rf_5_1, rf_5_2, rf_5_3, rf_5_4, rf_5_5, rf_5_6, rf_5_7, rf_47_0, rf_141_0, rf_144_0, rf_144_1, kd_3, kd_6, kd_8, kd_10, kd_12, kd_14, kd_16, kd_18, kd_20, kd_22, kd_142, kd_145, kd_147, kd_24, h1, c1]
  | succ m ih =>
    intro s hs
    have b := sumN_b (f := fun s => psum (M 4 (s + 1))) (B := 45) s (fun j hj => psum_b _)
    have b2 := psum_b (M 4 (s + 1))
    have c1 : ¬ (sp : Int) < ((s + 1 : Nat) : Int) := by omega
    have e1 : ad (sumN (fun s => psum (M 4 (s + 1))) s) (psum (M 4 (s + 1))) = sumN (fun s => psum (M 4 (s + 1))) (s + 1) := ad_eq (by omega) (by omega)
    rw [s71_4]
    simp only [en71, s71_0, s71_1, s71_2, s71_3, s71_5, s71_6, s71_9, s71_12, s71_13, s71_14, s71_17, s71_18, s71_21, s71_24, s71_25, s71_26, s71_29, s71_32, s71_33, cont_some, rl_some, rl_none, if_true, if_false, kd_0, kd_1, kd_2, kd_5, kd_47, kd_141, kd_144, rf_0_0, rf_0_1, rf_0_2, rf_0_3, rf_0_4, rf_1_0, rf_1_1, rf_1_2, rf_2_0, rf_5_0, rf_5_1, rf_5_2, rf_5_3, rf_5_4, rf_5_5, rf_5_6, rf_5_7, rf_47_0, rf_141_0, rf_144_0, rf_144_1, kd_3, kd_6, kd_8, kd_10, kd_12, kd_14, kd_16, kd_18, kd_20, kd_22, kd_142, kd_145, kd_147, kd_24, h1, c1, row_get R_path, rg_n (show s + 1 < 17 by omega), pile_sum (h3 s (by omega)).1 (h3 s (by omega)).2, e1, ad_n (s + 1) (by omega)]
    exact ih (s + 1) (by omega)
theorem p_val (h : CS M sp) (h3 : CPa M sp) : evM 71 [Rf 2] (Hp M P) = some (some (I (sumN (fun s => psum (M 4 (s + 1))) sp)), Hp M P) := by
  simp only [en71, s71_0, s71_1, s71_2, s71_3, s71_5, s71_6, s71_9, s71_12, s71_13, s71_14, s71_17, s71_18, s71_21, s71_24, s71_25, s71_26, s71_29, s71_32, s71_33]
  exact p_val_loop h h3 sp 0 (by omega)
/-- the stacks of the first k spaces, without the blank ones -/
def nbL (M : Mem) (k : Nat) : List Int := ((List.range k).map fun s : Nat => M 4 (s + 1)).filter fun c => decide (c ≠ 0)
theorem nbL_succ (k : Nat) : nbL M (k + 1) = nbL M k ++ (if M 4 (k + 1) = 0 then [] else [M 4 (k + 1)]) := by
  unfold nbL
  rw [List.range_succ, List.map_append, List.filter_append]
  by_cases h : M 4 (k + 1) = 0 <;> simp [h]
theorem nbL_len (k : Nat) : (nbL M k).length ≤ k := by
  unfold nbL
  exact Nat.le_trans (List.length_filter_le _ _) (by simp)
/-- a path of so many stacks, laid from space b+1 on -/
def layP (M : Mem) (b : Nat) (L : List Int) : Mem := putL (wr M 2 1 ((b + L.length : Nat) : Int)) 4 (b + 1) L
theorem wr_comm {M : Mem} {i j a b : Nat} {x y : Int} (h : i ≠ a) : wr (wr M i j x) a b y = wr (wr M a b y) i j x := by
  funext p q
  unfold wr
  by_cases h1 : p = a ∧ q = b
  · rw [if_pos h1, if_neg (by omega), if_pos h1]
  · rw [if_neg h1]
    by_cases h2 : p = i ∧ q = j
    · rw [if_pos h2, if_pos h2]
    · rw [if_neg h2, if_neg h2, if_neg h1]
theorem wr_wr {M : Mem} {i j : Nat} {x y : Int} : wr (wr M i j x) i j y = wr M i j y := by
  funext p q
  unfold wr
  split <;> rfl
theorem putL_wr {M : Mem} {i j k b : Nat} {x : Int} {L : List Int} (h : i ≠ k) : putL (wr M i j x) k b L = wr (putL M k b L) i j x := by
  funext p q
  unfold putL wr
  by_cases h1 : p = k ∧ b ≤ q ∧ q < b + L.length
  · rw [if_pos h1, if_neg (by omega)]
    exact (if_pos h1).symm
  · rw [if_neg h1]
    by_cases h2 : p = i ∧ q = j
    · rw [if_pos h2, if_pos h2]
    · rw [if_neg h2, if_neg h2]
      exact (if_neg h1).symm
theorem layP_add {b : Nat} {L : List Int} {v : Int} : wr (wr (layP M b L) 2 1 ((b + L.length + 1 : Nat) : Int)) 4 (b + L.length + 1) v = layP M b (L ++ [v]) := by
  unfold layP
  rw [putL_wr (by omega), wr_wr, wr_comm (by omega), show b + L.length + 1 = b + 1 + L.length by omega, putL_snoc, putL_wr (by omega), List.length_append, List.length_singleton]
  congr 1
  omega
theorem layP_sp {b : Nat} {L : List Int} : layP M b L 2 1 = ((b + L.length : Nat) : Int) := by
  unfold layP
  rw [putL_o (by omega), wr_app, if_pos ⟨rfl, rfl⟩]
theorem layP_o {b a k : Nat} {L : List Int} (h : a ≠ 4) (h2 : a ≠ 2) : layP M b L a k = M a k := by
  unfold layP
  rw [putL_o h, wr_app, if_neg (by omega)]
theorem layP_gt {b k : Nat} {L : List Int} (h : b + L.length < k) : layP M b L 4 k = M 4 k := by
  unfold layP
  rw [putL_ge (by omega), wr_app, if_neg (by omega)]
theorem layP_le {b k : Nat} {L : List Int} (h : k ≤ b) : layP M b L 4 k = M 4 k := by
  unfold layP
  rw [putL_lt (by omega), wr_app, if_neg (by omega)]
theorem layP_at {b k : Nat} {L : List Int} (h : k < L.length) : layP M b L 4 (b + 1 + k) = L.getD k 0 := by
  unfold layP
  exact putL_at h
theorem p_close_loop (h2 : sp ≤ 16) : ∀ (m k : Nat), k + m = sp → ∀ l3 : AV, evL 72 12 [Rf 2, I (sp : Int), I ((k + 1 : Nat) : Int), l3] [] (Hp (layP M 0 (nbL M k)) P) = some (none, Hp (layP M 0 (nbL M sp)) P) := by
  intro m
  induction m with
  | zero =>
    intro k hk l3
    have e : k = sp := by omega
    subst e
    have c1 : (k : Int) < ((k + 1 : Nat) : Int) := by omega
    rw [s72_12]
    simp only [en72, s72_0, s72_1, s72_4, s72_5, s72_6, s72_7, s72_10, s72_11, s72_13, s72_14, s72_17, s72_18, s72_21, s72_22, s72_25, s72_26, s72_27, s72_30, s72_31, s72_32, s72_35, s72_38, s72_41, cont_some, rl_some, rl_none, if_true, if_false, kd_0, kd_1, kd_2, kd_5, kd_47, kd_141, kd_144, rf_0_0, rf_0_1, rf_0_2, rf_0_3, rf_0_4, rf_1_0, rf_1_1, rf_1_2, rf_2_0, rf_5_0, rf_5_1, rf_5_2, rf_5_3, rf_5_4, rf_5_5, rf_5_6, rf_5_7, rf_47_0, rf_141_0, rf_144_0, rf_144_1, kd_3, kd_6, kd_8, kd_10, kd_12, kd_14, kd_16, kd_18, kd_20, kd_22, kd_142, kd_145, kd_147, kd_24, c1]
  | succ m ih =>
    intro k hk l3
    have hl := nbL_len (M := M) k
    have c1 : ¬ (sp : Int) < ((k + 1 : Nat) : Int) := by omega
    have e4 : layP M 0 (nbL M k) 4 (k + 1) = M 4 (k + 1) := layP_gt (by omega)
    rw [s72_12]
    by_cases c2 : M 4 (k + 1) = 0
    · have e : nbL M (k + 1) = nbL M k := by rw [nbL_succ, if_pos c2, List.append_nil]
      simp only [en72, s72_0, s72_1, s72_4, s72_5, s72_6, s72_7, s72_10, s72_11, s72_13, s72_14, s72_17, s72_18, s72_21, s72_22, s72_25, s72_26, s72_27, s72_30, s72_31, s72_32, s72_35, s72_38, s72_41, cont_some, rl_some, rl_none, if_true, if_false, kd_0, kd_1, kd_2, kd_5, kd_47, kd_141, kd_144, rf_0_0, rf_0_1, rf_0_2, rf_0_3, rf_0_4, rf_1_0, rf_1_1, rf_1_2, rf_2_0, rf_5_0, rf_5_1, rf_5_2, rf_5_3, rf_5_4, rf_5_5, rf_5_6, rf_5_7, rf_47_0, rf_141_0, rf_144_0, rf_144_1, kd_3, kd_6, kd_8, kd_10, kd_12, kd_14, kd_16, kd_18, kd_20, kd_22, kd_142, kd_145, kd_147, kd_24, c1, row_get R_path, rg_n (show k + 1 < 17 by omega), e4, c2, ad_n (k + 1) (by omega)]
      have := ih (k + 1) (by omega) (I 0)
      rw [e] at this
      exact this
    · have e : nbL M (k + 1) = nbL M k ++ [M 4 (k + 1)] := by rw [nbL_succ, if_neg c2]
      have ha := p_add (M := layP M 0 (nbL M k)) (P := P) (sp := 0 + (nbL M k).length) (v := M 4 (k + 1)) layP_sp (by omega)
      rw [layP_add] at ha
      simp only [en72, s72_0, s72_1, s72_4, s72_5, s72_6, s72_7, s72_10, s72_11, s72_13, s72_14, s72_17, s72_18, s72_21, s72_22, s72_25, s72_26, s72_27, s72_30, s72_31, s72_32, s72_35, s72_38, s72_41, cont_some, rl_some, rl_none, if_true, if_false, kd_0, kd_1, kd_2, kd_5, kd_47, kd_141, kd_144, rf_0_0, rf_0_1, rf_0_2, rf_0_3, rf_0_4, rf_1_0, rf_1_1, rf_1_2, rf_2_0, rf_5_0, rf_5_1, rf_5_2, rf_5_3, rf_5_4, rf_5_5, rf_5_6, rf_5_7, rf_47_0, rf_141_0, rf_144_0, rf_144_1, kd_3, kd_6, kd_8, kd_10, kd_12, kd_14, kd_16, kd_18, kd_20, kd_22, kd_142, kd_145, kd_147, kd_24, c1, row_get R_path, rg_n (show k + 1 < 17 by omega), e4, c2, ha, ad_n (k + 1) (by omega)]
      have := ih (k + 1) (by omega) (I (M 4 (k + 1)))
      rw [e] at this
      exact this
theorem p_close (h : CS M sp) : evM 72 [Rf 2] (Hp M P) = some (none, Hp (layP M 0 (nbL M sp)) P) := by
  obtain ⟨h1, h2⟩ := h
  simp only [en72, s72_0, s72_1, s72_4, s72_5, s72_6, s72_7, s72_10, s72_11, s72_13, s72_14, s72_17, s72_18, s72_21, s72_22, s72_25, s72_26, s72_27, s72_30, s72_31, s72_32, s72_35, s72_38, s72_41, cont_some, rl_some, rl_none, if_true, if_false, kd_0, kd_1, kd_2, kd_5, kd_47, kd_141, kd_144, rf_0_0, rf_0_1, rf_0_2, rf_0_3, rf_0_4, rf_1_0, rf_1_1, rf_1_2, rf_2_0, rf_5_0, rf_5_1, rf_5_2, rf_5_3, rf_5_4, rf_5_5, rf_5_6, rf_5_7, rf_47_0, rf_141_0, rf_144_0, rf_144_1, kd_3, kd_6, kd_8, kd_10, kd_12, kd_14, kd_16, kd_18, kd_20, kd_22, kd_142, kd_145, kd_147, kd_24, h1]
  have h := p_close_loop (M := M) (P := P) h2 sp 0 (by omega) (Db 0)
  have e : layP M 0 (nbL M 0) = wr M 2 1 0 := by
    unfold layP
    rw [show nbL M 0 = [] from rfl, putL_nil]
    rfl
  rw [e] at h
  exact h
/-- values into stacks of three; p: the stack begun -/
def topP (c v : Int) : Int := c + 4096 + v * (if pcnt c = 0 then 1 else if pcnt c = 1 then 16 else 256)
def chk : Int → List Int → List Int
  | _, [] => []
  | c, v :: rest => if pcnt (topP c v) = 3 ∨ rest = [] then topP c v :: chk 0 rest else chk (topP c v) rest
theorem topP_b {c v : Int} (h0 : 0 ≤ c) (h1 : c < 12288) (hv : 0 ≤ v ∧ v ≤ 15) (hz : c % 4096 < (if pcnt c = 0 then 1 else if pcnt c = 1 then 16 else 256)) : 4096 ≤ topP c v ∧ topP c v < 16384 ∧ pcnt (topP c v) = pcnt c + 1 ∧ topP c v % 4096 < (if pcnt c = 0 then 16 else if pcnt c = 1 then 256 else 4096) := by
  have hb : pcnt c = 0 ∨ pcnt c = 1 ∨ pcnt c = 2 := by unfold pcnt; omega
  unfold topP
  rcases hb with hb | hb | hb
  · simp only [hb, if_true] at hz ⊢
    unfold pcnt at hb ⊢
    omega
  · have h10 : ¬ (1 : Int) = 0 := by omega
    simp only [hb, h10, if_true, if_false] at hz ⊢
    unfold pcnt at hb ⊢
    omega
  · have h20 : ¬ (2 : Int) = 0 := by omega
    have h21 : ¬ (2 : Int) = 1 := by omega
    simp only [hb, h20, h21, if_false] at hz ⊢
    unfold pcnt at hb ⊢
    omega
theorem p_stk_loop {num : Nat} (hn : num ≤ 16) : ∀ (rest : List Int) (i b : Nat) (c : Int) (L : List Int), i + rest.length = num → (∀ k, k < rest.length → M 23 (i + k) = rest.getD k 0 ∧ 0 ≤ rest.getD k 0 ∧ rest.getD k 0 ≤ 15) → 0 ≤ c → c < 12288 → c % 4096 < (if pcnt c = 0 then 1 else if pcnt c = 1 then 16 else 256) → b + L.length + (chk c rest).length ≤ 16 → evL 73 5 [Rf 2, Rf 22, I (num : Int), I c, I (i : Int)] [] (Hp (layP M b L) P) = some (none, Hp (layP M b (L ++ chk c rest)) P) := by
  intro rest
  induction rest with
  | nil =>
    intro i b c L hi _ _ _ _ _
    have e : i = num := by simpa using hi
    subst e
    rw [s73_5]
    simp only [en73, s73_0, s73_1, s73_2, s73_3, s73_7, s73_8, s73_11, s73_12, s73_13, s73_15, s73_18, s73_21, s73_22, s73_23, s73_26, s73_27, s73_30, s73_32, s73_33, s73_34, s73_35, s73_38, s73_39, s73_40, s73_43, s73_44, s73_45, s73_48, s73_51, cont_some, rl_some, rl_none, if_true, if_false, kd_0, kd_1, kd_2, kd_5, kd_47, kd_141, kd_144, rf_0_0, rf_0_1, rf_0_2, rf_0_3, rf_0_4, rf_1_0, rf_1_1, rf_1_2, rf_2_0, rf_5_0, rf_5_1, rf_5_2, rf_5_3, rf_5_4, rf_5_5, rf_5_6, rf_5_7, rf_47_0, rf_141_0, rf_144_0, rf_144_1, kd_3, kd_6, kd_8, kd_10, kd_12, kd_14, kd_16, kd_18, kd_20, kd_22, kd_142, kd_145, kd_147, kd_24, Int.le_refl, chk, List.append_nil]
  | cons v rest ih =>
    intro i b c L hi hr h0 h1 hz hb
    rw [List.length_cons] at hi
    obtain ⟨r1, r2, r3⟩ := hr 0 (by simp)
    have ev : (v :: rest).getD 0 0 = v := rfl
    rw [ev] at r1 r2 r3
    rw [Nat.add_zero] at r1
    have e23 : layP M b L 23 i = v := by rw [layP_o (by omega) (by omega)]; exact r1
    have c1 : ¬ (num : Int) ≤ (i : Int) := by omega
    have ht := pile_top (M := layP M b L) (P := P) h0 h1 ⟨r2, r3⟩
    have et : c + 4096 + v * (if pcnt c = 0 then 1 else if pcnt c = 1 then 16 else 256) = topP c v := rfl
    rw [et] at ht
    obtain ⟨q1, q2, q3, q4⟩ := topP_b h0 h1 ⟨r2, r3⟩ hz
    have hs := pile_size (h := Hp (layP M b L) P) (show 0 ≤ topP c v by omega) q2
    have hr2 : ∀ k, k < rest.length → M 23 (i + 1 + k) = rest.getD k 0 ∧ 0 ≤ rest.getD k 0 ∧ rest.getD k 0 ≤ 15 := by
      intro k hk
      have := hr (k + 1) (by simp; omega)
      rw [show i + (k + 1) = i + 1 + k by omega] at this
      exact this
    have e7 : sb (num : Int) 1 = (num : Int) - 1 := sb_eq (by omega) (by omega)
    have key : pcnt (topP c v) = 3 ∨ rest = [] → evL 73 38 [Rf 2, Rf 22, I (num : Int), I (topP c v), I (i : Int)] [] (Hp (layP M b L) P) = some (none, Hp (layP M b (L ++ chk c (v :: rest))) P) := by
      intro hq
      have ec : chk c (v :: rest) = topP c v :: chk 0 rest := by simp only [chk, if_pos hq]
      rw [ec, List.length_cons] at hb
      have ha := p_add (M := layP M b L) (P := P) (sp := b + L.length) (v := topP c v) layP_sp (by omega)
      rw [layP_add] at ha
      simp only [en73, s73_0, s73_1, s73_2, s73_3, s73_7, s73_8, s73_11, s73_12, s73_13, s73_15, s73_18, s73_21, s73_22, s73_23, s73_26, s73_27, s73_30, s73_32, s73_33, s73_34, s73_35, s73_38, s73_39, s73_40, s73_43, s73_44, s73_45, s73_48, s73_51, cont_some, rl_some, rl_none, if_true, if_false, kd_0, kd_1, kd_2, kd_5, kd_47, kd_141, kd_144, rf_0_0, rf_0_1, rf_0_2, rf_0_3, rf_0_4, rf_1_0, rf_1_1, rf_1_2, rf_2_0, rf_5_0, rf_5_1, rf_5_2, rf_5_3, rf_5_4, rf_5_5, rf_5_6, rf_5_7, rf_47_0, rf_141_0, rf_144_0, rf_144_1, kd_3, kd_6, kd_8, kd_10, kd_12, kd_14, kd_16, kd_18, kd_20, kd_22, kd_142, kd_145, kd_147, kd_24, ha, ad_n i (by omega)]
      have := ih (i + 1) b 0 (L ++ [topP c v]) (by omega) hr2 (by omega) (by omega) (by decide) (by simp; omega)
      rw [this, ec]
      simp
    rw [s73_5]
    by_cases q : pcnt (topP c v) = 3
    · simp only [en73, s73_0, s73_1, s73_2, s73_3, s73_7, s73_8, s73_11, s73_12, s73_13, s73_15, s73_18, s73_21, s73_22, s73_23, s73_26, s73_27, s73_30, s73_32, s73_33, s73_34, s73_35, s73_39, s73_40, s73_43, s73_44, s73_45, s73_48, s73_51, cont_some, rl_some, rl_none, if_true, if_false, kd_0, kd_1, kd_2, kd_5, kd_47, kd_141, kd_144, rf_0_0, rf_0_1, rf_0_2, rf_0_3, rf_0_4, rf_1_0, rf_1_1, rf_1_2, rf_2_0, rf_5_0, rf_5_1, rf_5_2, rf_5_3, rf_5_4, rf_5_5, rf_5_6, rf_5_7, rf_47_0, rf_141_0, rf_144_0, rf_144_1, kd_3, kd_6, kd_8, kd_10, kd_12, kd_14, kd_16, kd_18, kd_20, kd_22, kd_142, kd_145, kd_147, kd_24, c1, row_get R_lo, rg_n (show i < 16 by omega), e23, ht, hs, q]
      exact key (Or.inl q)
    · by_cases qr : rest = []
      · have c2 : ((i : Int) = (num : Int) - 1) ↔ True := iff_true_intro (by subst qr; simp at hi; omega)
        simp only [en73, s73_0, s73_1, s73_2, s73_3, s73_7, s73_8, s73_11, s73_12, s73_13, s73_15, s73_18, s73_21, s73_22, s73_23, s73_26, s73_27, s73_30, s73_32, s73_33, s73_34, s73_35, s73_39, s73_40, s73_43, s73_44, s73_45, s73_48, s73_51, cont_some, rl_some, rl_none, if_true, if_false, kd_0, kd_1, kd_2, kd_5, kd_47, kd_141, kd_144, rf_0_0, rf_0_1, rf_0_2, rf_0_3, rf_0_4, rf_1_0, rf_1_1, rf_1_2, rf_2_0, rf_5_0, rf_5_1, rf_5_2, rf_5_3, rf_5_4, rf_5_5, rf_5_6, rf_5_7, rf_47_0, rf_141_0, rf_144_0, rf_144_1, kd_3, kd_6, kd_8, kd_10, kd_12, kd_14, kd_16, kd_18, kd_20, kd_22, kd_142, kd_145, kd_147, kd_24, c1, row_get R_lo, rg_n (show i < 16 by omega), e23, ht, hs, q, e7, c2]
        exact key (Or.inr qr)
      · have hrl : 0 < rest.length := List.length_pos_iff.mpr qr
        have c2 : ¬ (i : Int) = (num : Int) - 1 := by omega
        have ec : chk c (v :: rest) = chk (topP c v) rest := by simp only [chk, if_neg (show ¬ (pcnt (topP c v) = 3 ∨ rest = []) from fun w => w.elim q qr)]
        rw [ec] at hb ⊢
        simp only [en73, s73_0, s73_1, s73_2, s73_3, s73_7, s73_8, s73_11, s73_12, s73_13, s73_15, s73_18, s73_21, s73_22, s73_23, s73_26, s73_27, s73_30, s73_32, s73_33, s73_34, s73_35, s73_39, s73_40, s73_43, s73_44, s73_45, s73_48, s73_51, cont_some, rl_some, rl_none, if_true, if_false, kd_0, kd_1, kd_2, kd_5, kd_47, kd_141, kd_144, rf_0_0, rf_0_1, rf_0_2, rf_0_3, rf_0_4, rf_1_0, rf_1_1, rf_1_2, rf_2_0, rf_5_0, rf_5_1, rf_5_2, rf_5_3, rf_5_4, rf_5_5, rf_5_6, rf_5_7, rf_47_0, rf_141_0, rf_144_0, rf_144_1, kd_3, kd_6, kd_8, kd_10, kd_12, kd_14, kd_16, kd_18, kd_20, kd_22, kd_142, kd_145, kd_147, kd_24, c1, row_get R_lo, rg_n (show i < 16 by omega), e23, ht, hs, q, e7, c2, ad_n i (by omega)]
        have hpc : pcnt c = 0 ∨ pcnt c = 1 := by
          have : pcnt c = 0 ∨ pcnt c = 1 ∨ pcnt c = 2 := by unfold pcnt; omega
          omega
        refine ih (i + 1) b (topP c v) L (by omega) hr2 (by omega) ?_ ?_ hb
        · unfold pcnt at q3 hpc; omega
        · rw [q3]
          rcases hpc with hpc | hpc
          · rw [hpc] at q4 ⊢; exact q4
          · rw [hpc] at q4 ⊢; exact q4
theorem p_stk {L : List Int} {b : Nat} (h1 : M 2 1 = (b : Int)) (hn : L.length ≤ 16) (hr : ∀ k, k < L.length → M 23 k = L.getD k 0 ∧ 0 ≤ L.getD k 0 ∧ L.getD k 0 ≤ 15) (hb : b + (chk 0 L).length ≤ 16) : evM 73 [Rf 2, Rf 22, I (L.length : Int)] (Hp M P) = some (none, Hp (layP M b (chk 0 L)) P) := by
  simp only [en73, s73_0, s73_1, s73_2, s73_3, s73_7, s73_8, s73_11, s73_12, s73_13, s73_15, s73_18, s73_21, s73_22, s73_23, s73_26, s73_27, s73_30, s73_32, s73_33, s73_34, s73_35, s73_38, s73_39, s73_40, s73_43, s73_44, s73_45, s73_48, s73_51]
  have e : layP M b [] = M := by
    unfold layP
    rw [putL_nil]
    funext p q
    unfold wr
    split
    · rename_i w; rw [w.1, w.2, h1]; simp
    · rfl
  have h := p_stk_loop (M := M) (P := P) hn L 0 b 0 [] (by omega) (fun k hk => by rw [Nat.zero_add]; exact hr k hk) (by omega) (by omega) (by decide) (by simpa using hb)
  rw [e, List.nil_append] at h
  exact h
end Path
