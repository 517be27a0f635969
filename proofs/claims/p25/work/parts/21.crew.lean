/-! ===== the objects at hand ===== -/
theorem kd_0 : kd 0 = 7 := by decide
theorem kd_1 : kd 1 = 1 := by decide
theorem kd_24 : kd 24 = 1 := by decide
theorem kd_2 : kd 2 = 5 := by decide
theorem kd_5 : kd 5 = 0 := by decide
theorem kd_47 : kd 47 = 2 := by decide
theorem kd_141 : kd 141 = 4 := by decide
theorem kd_144 : kd 144 = 3 := by decide
theorem kd_3 : kd 3 = 6 := by decide
theorem kd_6 : kd 6 = 6 := by decide
theorem kd_8 : kd 8 = 6 := by decide
theorem kd_10 : kd 10 = 6 := by decide
theorem kd_12 : kd 12 = 6 := by decide
theorem kd_14 : kd 14 = 6 := by decide
theorem kd_16 : kd 16 = 6 := by decide
theorem kd_18 : kd 18 = 6 := by decide
theorem kd_20 : kd 20 = 6 := by decide
theorem kd_22 : kd 22 = 6 := by decide
theorem kd_142 : kd 142 = 6 := by decide
theorem kd_145 : kd 145 = 6 := by decide
theorem kd_147 : kd 147 = 6 := by decide
theorem rf_0_0 : rfd 0 0 = 1 := by decide
theorem rf_0_1 : rfd 0 1 = 24 := by decide
theorem rf_0_2 : rfd 0 2 = 47 := by decide
theorem rf_0_3 : rfd 0 3 = 141 := by decide
theorem rf_0_4 : rfd 0 4 = 144 := by decide
theorem rf_1_0 : rfd 1 0 = 2 := by decide
theorem rf_1_1 : rfd 1 1 = 5 := by decide
theorem rf_1_2 : rfd 1 2 = 22 := by decide
theorem rf_2_0 : rfd 2 0 = 3 := by decide
theorem rf_5_0 : rfd 5 0 = 6 := by decide
theorem rf_5_1 : rfd 5 1 = 8 := by decide
theorem rf_5_2 : rfd 5 2 = 10 := by decide
theorem rf_5_3 : rfd 5 3 = 12 := by decide
theorem rf_5_4 : rfd 5 4 = 14 := by decide
theorem rf_5_5 : rfd 5 5 = 16 := by decide
theorem rf_5_6 : rfd 5 6 = 18 := by decide
theorem rf_5_7 : rfd 5 7 = 20 := by decide
theorem rf_47_0 : rfd 47 0 = 48 := by decide
theorem rf_141_0 : rfd 141 0 = 142 := by decide
theorem rf_144_0 : rfd 144 0 = 145 := by decide
theorem rf_144_1 : rfd 144 1 = 147 := by decide
theorem R_path : isRow 3 4 17 := ⟨rfl, rfl, rfl, rfl, by decide⟩
theorem R_pl : isRow 6 7 4 := ⟨rfl, rfl, rfl, rfl, by decide⟩
theorem R_up : isRow 8 9 4 := ⟨rfl, rfl, rfl, rfl, by decide⟩
theorem R_ho : isRow 10 11 4 := ⟨rfl, rfl, rfl, rfl, by decide⟩
theorem R_he : isRow 12 13 4 := ⟨rfl, rfl, rfl, rfl, by decide⟩
theorem R_pi : isRow 14 15 24 := ⟨rfl, rfl, rfl, rfl, by decide⟩
theorem R_sc : isRow 16 17 4 := ⟨rfl, rfl, rfl, rfl, by decide⟩
theorem R_ow : isRow 18 19 4 := ⟨rfl, rfl, rfl, rfl, by decide⟩
theorem R_dr : isRow 20 21 4 := ⟨rfl, rfl, rfl, rfl, by decide⟩
theorem R_lo : isRow 22 23 16 := ⟨rfl, rfl, rfl, rfl, by decide⟩
theorem R_pad : isRow 142 143 60 := ⟨rfl, rfl, rfl, rfl, by decide⟩
theorem R_now : isRow 145 146 17 := ⟨rfl, rfl, rfl, rfl, by decide⟩
theorem R_nxt : isRow 147 148 17 := ⟨rfl, rfl, rfl, rfl, by decide⟩
theorem rg_n {M : Mem} {j n k : Nat} (h : k < n) : rg M j n (k : Int) = M j k := by
  unfold rg
  rw [if_pos (by omega)]
  rfl
theorem rs_n {M : Mem} {j n k : Nat} {v : Int} (h : k < n) : rs M j n (k : Int) v = wr M j k v := by
  unfold rs
  rw [if_pos (by omega)]
  rfl
theorem ad_n (k : Nat) (h : k ≤ 1000000) : ad (k : Int) 1 = ((k + 1 : Nat) : Int) := by rw [ad_eq (by omega) (by omega)]; push_cast; rfl
/-! sums -/
def sumN (f : Nat → Int) : Nat → Int
  | 0 => 0
  | n + 1 => sumN f n + f n
theorem sumN_b {f : Nat → Int} {B : Int} : ∀ n : Nat, (∀ i, i < n → 0 ≤ f i ∧ f i ≤ B) → 0 ≤ sumN f n ∧ sumN f n ≤ B * n := by
  intro n
  induction n with
  | zero => intro _; simp [sumN]
  | succ n ih =>
    intro h
    have h1 := ih (fun i hi => h i (by omega))
    have h2 := h n (by omega)
    have e : B * ((n + 1 : Nat) : Int) = B * n + B := by push_cast; rw [Int.mul_add, Int.mul_one]
    rw [e]
    simp only [sumN]
    omega
theorem sumN_congr {f g : Nat → Int} : ∀ n : Nat, (∀ i, i < n → f i = g i) → sumN f n = sumN g n := by
  intro n
  induction n with
  | zero => intro _; rfl
  | succ n ih =>
    intro h
    simp only [sumN]
    rw [ih (fun i hi => h i (by omega)), h n (by omega)]
/-! ===== Crew: what looks alone ===== -/
section Crew
variable {M : Mem} {P : PMem}
theorem cr_has {x : Int} : evM 1 [Rf 5, I x] (Hp M P) = some (some (I (if 0 ≤ x ∧ x < M 5 8 then 1 else 0)), Hp M P) := by
  by_cases c1 : x < 0
  · rw [if_neg (by omega)]
    simp only [en1, s1_0, s1_1, s1_4, s1_5, s1_6, s1_9, s1_12, s1_13, s1_16, s1_17, cont_some, rl_some, rl_none, if_true, if_false, kd_0, kd_1, kd_2, kd_5, kd_47, kd_141, kd_144, rf_0_0, rf_0_1, rf_0_2, rf_0_3, rf_0_4, rf_1_0, rf_1_1, rf_1_2, rf_2_0, rf_5_0, rf_5_1, rf_5_2, rf_5_3, rf_5_4, rf_5_5, rf_5_6, rf_5_7, rf_47_0, rf_141_0, rf_144_0, rf_144_1, kd_3, kd_6, kd_8, kd_10, kd_12, kd_14, kd_16, kd_18, kd_20, kd_22, kd_142, kd_145, kd_147, kd_24, c1, Int.zero_ne_one, or_false]
  · by_cases c2 : M 5 8 ≤ x
    · rw [if_neg (by omega)]
      simp only [en1, s1_0, s1_1, s1_4, s1_5, s1_6, s1_9, s1_12, s1_13, s1_16, s1_17, cont_some, rl_some, rl_none, if_true, if_false, kd_0, kd_1, kd_2, kd_5, kd_47, kd_141, kd_144, rf_0_0, rf_0_1, rf_0_2, rf_0_3, rf_0_4, rf_1_0, rf_1_1, rf_1_2, rf_2_0, rf_5_0, rf_5_1, rf_5_2, rf_5_3, rf_5_4, rf_5_5, rf_5_6, rf_5_7, rf_47_0, rf_141_0, rf_144_0, rf_144_1, kd_3, kd_6, kd_8, kd_10, kd_12, kd_14, kd_16, kd_18, kd_20, kd_22, kd_142, kd_145, kd_147, kd_24, c1, c2, Int.zero_ne_one, or_false]
    · rw [if_pos (by omega)]
      simp only [en1, s1_0, s1_1, s1_4, s1_5, s1_6, s1_9, s1_12, s1_13, s1_16, s1_17, cont_some, rl_some, rl_none, if_true, if_false, kd_0, kd_1, kd_2, kd_5, kd_47, kd_141, kd_144, rf_0_0, rf_0_1, rf_0_2, rf_0_3, rf_0_4, rf_1_0, rf_1_1, rf_1_2, rf_2_0, rf_5_0, rf_5_1, rf_5_2, rf_5_3, rf_5_4, rf_5_5, rf_5_6, rf_5_7, rf_47_0, rf_141_0, rf_144_0, rf_144_1, kd_3, kd_6, kd_8, kd_10, kd_12, kd_14, kd_16, kd_18, kd_20, kd_22, kd_142, kd_145, kd_147, kd_24, c1, c2, or_true]
theorem cr_cell {d i : Nat} {h : AH} (hd : d ≤ 4) (hi : i ≤ 6) : evM 5 [I (d : Int), I (i : Int)] h = some (some (I ((6 * d + i : Nat) : Int)), h) := by
  have e1 : ml (d : Int) 6 = (d : Int) * 6 := ml_eq (by omega) (by omega)
  have e2 : ad ((d : Int) * 6) (i : Int) = ((6 * d + i : Nat) : Int) := by rw [ad_eq (by omega) (by omega)]; omega
  simp only [en5, s5_0, s5_1, s5_3, s5_4, s5_5, s5_6, e1, e2]
theorem cr_pile {d i : Nat} (hd : d < 4) (hi : i < 6) : evM 6 [Rf 5, I (d : Int), I (i : Int)] (Hp M P) = some (some (I (M 15 (6 * d + i))), Hp M P) := by
  simp only [en6, s6_0, s6_1, s6_4, s6_5, s6_6, s6_9, s6_12, cont_some, rl_some, rl_none, if_true, if_false, kd_0, kd_1, kd_2, kd_5, kd_47, kd_141, kd_144, rf_0_0, rf_0_1, rf_0_2, rf_0_3, rf_0_4, rf_1_0, rf_1_1, rf_1_2, rf_2_0, rf_5_0, rf_5_1, rf_5_2, rf_5_3, rf_5_4, rf_5_5, rf_5_6, rf_5_7, rf_47_0, rf_141_0, rf_144_0, rf_144_1, kd_3, kd_6, kd_8, kd_10, kd_12, kd_14, kd_16, kd_18, kd_20, kd_22, kd_142, kd_145, kd_147, kd_24, cr_cell (show d ≤ 4 by omega) (show i ≤ 6 by omega), row_get R_pi, rg_n (show 6 * d + i < 24 by omega)]
theorem cr_tre_loop {d k : Nat} (hd : d < 4) (hk : M 13 d = (k : Int)) (hk6 : k ≤ 6) (hp : ∀ i, i < k → 0 ≤ M 15 (6 * d + i) ∧ M 15 (6 * d + i) < 16384) : ∀ (m i : Nat), i + m = k → evL 9 4 [Rf 5, I (d : Int), I (sumN (fun i => pcnt (M 15 (6 * d + i))) i), I (i : Int)] [] (Hp M P) = some (some (I (sumN (fun i => pcnt (M 15 (6 * d + i))) k)), Hp M P) := by
  intro m
  induction m with
  | zero =>
    intro i hi
    have e : i = k := by omega
    subst e
    rw [s9_4]
    simp only [en9, s9_0, s9_1, s9_2, s9_3, s9_5, s9_6, s9_9, s9_10, s9_13, s9_16, s9_17, s9_18, s9_21, s9_22, s9_23, s9_26, s9_29, s9_32, s9_33, s9_34, s9_37, s9_40, s9_41, cont_some, rl_some, rl_none, if_true, if_false, kd_0, kd_1, kd_2, kd_5, kd_47, kd_141, kd_144, rf_0_0, rf_0_1, rf_0_2, rf_0_3, rf_0_4, rf_1_0, rf_1_1, rf_1_2, rf_2_0, rf_5_0, rf_5_1, rf_5_2, rf_5_3, rf_5_4, rf_5_5, rf_5_6, rf_5_7, rf_47_0, rf_141_0, rf_144_0, rf_144_1, kd_3, kd_6, kd_8, kd_10, kd_12, kd_14, kd_16, kd_18, kd_20, kd_22, kd_142, kd_145, kd_147, kd_24, row_get R_he, rg_n hd, hk, Int.le_refl]
  | succ m ih =>
    intro i hi
    have b := sumN_b (f := fun i => pcnt (M 15 (6 * d + i))) (B := 3) i (fun j hj => pcnt_b (hp j (by omega)).1 (hp j (by omega)).2)
    have b2 := pcnt_b (hp i (by omega)).1 (hp i (by omega)).2
    have c1 : ¬ (k : Int) ≤ (i : Int) := by omega
    have e1 : ad (sumN (fun i => pcnt (M 15 (6 * d + i))) i) (pcnt (M 15 (6 * d + i))) = sumN (fun i => pcnt (M 15 (6 * d + i))) (i + 1) := ad_eq (by omega) (by omega)
    rw [s9_4]
    simp only [en9, s9_0, s9_1, s9_2, s9_3, s9_5, s9_6, s9_9, s9_10, s9_13, s9_16, s9_17, s9_18, s9_21, s9_22, s9_23, s9_26, s9_29, s9_32, s9_33, s9_34, s9_37, s9_40, s9_41, cont_some, rl_some, rl_none, if_true, if_false, kd_0, kd_1, kd_2, kd_5, kd_47, kd_141, kd_144, rf_0_0, rf_0_1, rf_0_2, rf_0_3, rf_0_4, rf_1_0, rf_1_1, rf_1_2, rf_2_0, rf_5_0, rf_5_1, rf_5_2, rf_5_3, rf_5_4, rf_5_5, rf_5_6, rf_5_7, rf_47_0, rf_141_0, rf_144_0, rf_144_1, kd_3, kd_6, kd_8, kd_10, kd_12, kd_14, kd_16, kd_18, kd_20, kd_22, kd_142, kd_145, kd_147, kd_24, row_get R_he, rg_n hd, hk, c1, cr_cell (show d ≤ 4 by omega) (show i ≤ 6 by omega), row_get R_pi, rg_n (show 6 * d + i < 24 by omega), pile_size (hp i (by omega)).1 (hp i (by omega)).2, ad_n i (by omega), e1]
    exact ih (i + 1) (by omega)
theorem cr_tre {d k : Nat} (hd : d < 4) (hk : M 13 d = (k : Int)) (hk6 : k ≤ 6) (hp : ∀ i, i < k → 0 ≤ M 15 (6 * d + i) ∧ M 15 (6 * d + i) < 16384) : evM 9 [Rf 5, I (d : Int)] (Hp M P) = some (some (I (sumN (fun i => pcnt (M 15 (6 * d + i))) k)), Hp M P) := by
  simp only [en9, s9_0, s9_1, s9_2, s9_3, s9_5, s9_6, s9_9, s9_10, s9_13, s9_16, s9_17, s9_18, s9_21, s9_22, s9_23, s9_26, s9_29, s9_32, s9_33, s9_34, s9_37, s9_40, s9_41]
  exact cr_tre_loop hd hk hk6 hp k 0 (by omega)
theorem cr_val_loop {d k : Nat} (hd : d < 4) (hk : M 13 d = (k : Int)) (hk6 : k ≤ 6) (hp : ∀ i, i < k → 0 ≤ M 15 (6 * d + i) ∧ M 15 (6 * d + i) < 16384) : ∀ (m i : Nat), i + m = k → evL 10 4 [Rf 5, I (d : Int), I (sumN (fun i => psum (M 15 (6 * d + i))) i), I (i : Int)] [] (Hp M P) = some (some (I (sumN (fun i => psum (M 15 (6 * d + i))) k)), Hp M P) := by
  intro m
  induction m with
  | zero =>
    intro i hi
    have e : i = k := by omega
    subst e
    rw [s10_4]
    simp only [en10, s10_0, s10_1, s10_2, s10_3, s10_5, s10_6, s10_9, s10_10, s10_13, s10_16, s10_17, s10_18, s10_21, s10_22, s10_23, s10_26, s10_29, s10_32, s10_33, s10_34, s10_37, s10_40, s10_41, cont_some, rl_some, rl_none, if_true, if_false, kd_0, kd_1, kd_2, kd_5, kd_47, kd_141, kd_144, rf_0_0, rf_0_1, rf_0_2, rf_0_3, rf_0_4, rf_1_0, rf_1_1, rf_1_2, rf_2_0, rf_5_0, rf_5_1, rf_5_2, rf_5_3, rf_5_4, rf_5_5, rf_5_6, rf_5_7, rf_47_0, rf_141_0, rf_144_0, rf_144_1, kd_3, kd_6, kd_8, kd_10, kd_12, kd_14, kd_16, kd_18, kd_20, kd_22, kd_142, kd_145, kd_147, kd_24, row_get R_he, rg_n hd, hk, Int.le_refl]
  | succ m ih =>
    intro i hi
    have b := sumN_b (f := fun i => psum (M 15 (6 * d + i))) (B := 45) i (fun j hj => psum_b _)
    have b2 := psum_b (M 15 (6 * d + i))
    have c1 : ¬ (k : Int) ≤ (i : Int) := by omega
    have e1 : ad (sumN (fun i => psum (M 15 (6 * d + i))) i) (psum (M 15 (6 * d + i))) = sumN (fun i => psum (M 15 (6 * d + i))) (i + 1) := ad_eq (by omega) (by omega)
    rw [s10_4]
    simp only [en10, s10_0, s10_1, s10_2, s10_3, s10_5, s10_6, s10_9, s10_10, s10_13, s10_16, s10_17, s10_18, s10_21, s10_22, s10_23, s10_26, s10_29, s10_32, s10_33, s10_34, s10_37, s10_40, s10_41, cont_some, rl_some, rl_none, if_true, if_false, kd_0, kd_1, kd_2, kd_5, kd_47, kd_141, kd_144, rf_0_0, rf_0_1, rf_0_2, rf_0_3, rf_0_4, rf_1_0, rf_1_1, rf_1_2, rf_2_0, rf_5_0, rf_5_1, rf_5_2, rf_5_3, rf_5_4, rf_5_5, rf_5_6, rf_5_7, rf_47_0, rf_141_0, rf_144_0, rf_144_1, kd_3, kd_6, kd_8, kd_10, kd_12, kd_14, kd_16, kd_18, kd_20, kd_22, kd_142, kd_145, kd_147, kd_24, row_get R_he, rg_n hd, hk, c1, cr_cell (show d ≤ 4 by omega) (show i ≤ 6 by omega), row_get R_pi, rg_n (show 6 * d + i < 24 by omega), pile_sum (hp i (by omega)).1 (hp i (by omega)).2, ad_n i (by omega), e1]
    exact ih (i + 1) (by omega)
theorem cr_val {d k : Nat} (hd : d < 4) (hk : M 13 d = (k : Int)) (hk6 : k ≤ 6) (hp : ∀ i, i < k → 0 ≤ M 15 (6 * d + i) ∧ M 15 (6 * d + i) < 16384) : evM 10 [Rf 5, I (d : Int)] (Hp M P) = some (some (I (sumN (fun i => psum (M 15 (6 * d + i))) k)), Hp M P) := by
  simp only [en10, s10_0, s10_1, s10_2, s10_3, s10_5, s10_6, s10_9, s10_10, s10_13, s10_16, s10_17, s10_18, s10_21, s10_22, s10_23, s10_26, s10_29, s10_32, s10_33, s10_34, s10_37, s10_40, s10_41]
  exact cr_val_loop hd hk hk6 hp k 0 (by omega)
end Crew
