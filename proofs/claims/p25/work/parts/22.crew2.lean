/-! ===== Crew, on ===== -/
section Crew2
variable {M : Mem} {P : PMem} {n : Nat} {hl : Nat → Nat}
def CN (M : Mem) (n : Nat) : Prop := M 5 8 = (n : Int) ∧ n ≤ 4
def CH (M : Mem) (n : Nat) (hl : Nat → Nat) : Prop := ∀ d, d < n → hl d ≤ 6 ∧ M 13 d = (hl d : Int)
def CPi (M : Mem) (n : Nat) (hl : Nat → Nat) : Prop := ∀ d, d < n → ∀ i, i < hl d → 0 ≤ M 15 (6 * d + i) ∧ M 15 (6 * d + i) < 16384
def tr1 (M : Mem) (hl : Nat → Nat) (d : Nat) : Int := sumN (fun i => pcnt (M 15 (6 * d + i))) (hl d)
def va1 (M : Mem) (hl : Nat → Nat) (d : Nat) : Int := sumN (fun i => psum (M 15 (6 * d + i))) (hl d)
theorem c_tre (h1 : CN M n) (h2 : CH M n hl) (h3 : CPi M n hl) {d : Nat} (hd : d < n) : evM 9 [Rf 5, I (d : Int)] (Hp M P) = some (some (I (tr1 M hl d)), Hp M P) := cr_tre (show d < 4 by have := h1.2; omega) (h2 d hd).2 (h2 d hd).1 (h3 d hd)
theorem c_val (h1 : CN M n) (h2 : CH M n hl) (h3 : CPi M n hl) {d : Nat} (hd : d < n) : evM 10 [Rf 5, I (d : Int)] (Hp M P) = some (some (I (va1 M hl d)), Hp M P) := cr_val (show d < 4 by have := h1.2; omega) (h2 d hd).2 (h2 d hd).1 (h3 d hd)
theorem tr1_b (h2 : CH M n hl) (h3 : CPi M n hl) {d : Nat} (hd : d < n) : 0 ≤ tr1 M hl d ∧ tr1 M hl d ≤ 18 := by
  have b := sumN_b (f := fun i => pcnt (M 15 (6 * d + i))) (B := 3) (hl d) (fun j hj => pcnt_b (h3 d hd j hj).1 (h3 d hd j hj).2)
  have := (h2 d hd).1
  unfold tr1
  omega
theorem va1_b (h2 : CH M n hl) {d : Nat} (hd : d < n) : 0 ≤ va1 M hl d ∧ va1 M hl d ≤ 270 := by
  have b := sumN_b (f := fun i => psum (M 15 (6 * d + i))) (B := 45) (hl d) (fun j hj => psum_b _)
  have := (h2 d hd).1
  unfold va1
  omega
theorem c_htr_loop (h1 : CN M n) (h2 : CH M n hl) (h3 : CPi M n hl) : ∀ (m d : Nat), d + m = n → evL 11 4 [Rf 5, I (sumN (tr1 M hl) d), I (d : Int)] [] (Hp M P) = some (some (I (sumN (tr1 M hl) n)), Hp M P) := by
  have h4 := h1.2
  have h5 := h1.1
  intro m
  induction m with
  | zero =>
    intro d hd
    have e : d = n := by omega
    subst e
    rw [s11_4]
    simp only [en11, s11_0, s11_1, s11_2, s11_3, s11_5, s11_6, s11_9, s11_12, s11_13, s11_14, s11_15, s11_18, s11_19, s11_20, s11_23, s11_26, s11_27, cont_some, rl_some, rl_none, if_true, if_false, kd_0, kd_1, kd_2, kd_5, kd_47, kd_141, kd_144, rf_0_0, rf_0_1, rf_0_2, rf_0_3, rf_0_4, rf_1_0, rf_1_1, rf_1_2, rf_2_0, rf_5_0, rf_5_1, rf_5_2, rf_5_3, rf_5_4, rf_5_5, rf_5_6, rf_5_7, rf_47_0, rf_141_0, rf_144_0, rf_144_1, kd_3, kd_6, kd_8, kd_10, kd_12, kd_14, kd_16, kd_18, kd_20, kd_22, kd_142, kd_145, kd_147, kd_24, h5, Int.le_refl]
  | succ m ih =>
    intro d hd
    have b := sumN_b (f := tr1 M hl) (B := 18) d (fun j hj => tr1_b h2 h3 (show j < n by omega))
    have b2 := tr1_b h2 h3 (show d < n by omega)
    have c1 : ¬ (n : Int) ≤ (d : Int) := by omega
    have e1 : ad (sumN (tr1 M hl) d) (tr1 M hl d) = sumN (tr1 M hl) (d + 1) := ad_eq (by omega) (by omega)
    rw [s11_4]
    simp only [en11, s11_0, s11_1, s11_2, s11_3, s11_5, s11_6, s11_9, s11_12, s11_13, s11_14, s11_15, s11_18, s11_19, s11_20, s11_23, s11_26, s11_27, cont_some, rl_some, rl_none, if_true, if_false, kd_0, kd_1, kd_2, kd_5, kd_47, kd_141, kd_144, rf_0_0, rf_0_1, rf_0_2, rf_0_3, rf_0_4, rf_1_0, rf_1_1, rf_1_2, rf_2_0, rf_5_0, rf_5_1, rf_5_2, rf_5_3, rf_5_4, rf_5_5, rf_5_6, rf_5_7, rf_47_0, rf_141_0, rf_144_0, rf_144_1, kd_3, kd_6, kd_8, kd_10, kd_12, kd_14, kd_16, kd_18, kd_20, kd_22, kd_142, kd_145, kd_147, kd_24, h5, c1, c_tre h1 h2 h3 (show d < n by omega), ad_n d (by omega), e1]
    exact ih (d + 1) (by omega)
theorem c_htr (h1 : CN M n) (h2 : CH M n hl) (h3 : CPi M n hl) : evM 11 [Rf 5] (Hp M P) = some (some (I (sumN (tr1 M hl) n)), Hp M P) := by
  simp only [en11, s11_0, s11_1, s11_2, s11_3, s11_5, s11_6, s11_9, s11_12, s11_13, s11_14, s11_15, s11_18, s11_19, s11_20, s11_23, s11_26, s11_27]
  exact c_htr_loop h1 h2 h3 n 0 (by omega)
theorem c_hva_loop (h1 : CN M n) (h2 : CH M n hl) (h3 : CPi M n hl) : ∀ (m d : Nat), d + m = n → evL 12 4 [Rf 5, I (sumN (va1 M hl) d), I (d : Int)] [] (Hp M P) = some (some (I (sumN (va1 M hl) n)), Hp M P) := by
  have h4 := h1.2
  have h5 := h1.1
  intro m
  induction m with
  | zero =>
    intro d hd
    have e : d = n := by omega
    subst e
    rw [s12_4]
    simp only [en12, s12_0, s12_1, s12_2, s12_3, s12_5, s12_6, s12_9, s12_12, s12_13, s12_14, s12_15, s12_18, s12_19, s12_20, s12_23, s12_26, s12_27, cont_some, rl_some, rl_none, if_true, if_false, kd_0, kd_1, kd_2, kd_5, kd_47, kd_141, kd_144, rf_0_0, rf_0_1, rf_0_2, rf_0_3, rf_0_4, rf_1_0, rf_1_1, rf_1_2, rf_2_0, rf_5_0, rf_5_1, rf_5_2, rf_5_3, rf_5_4, rf_5_5, rf_5_6, rf_5_7, rf_47_0, rf_141_0, rf_144_0, rf_144_1, kd_3, kd_6, kd_8, kd_10, kd_12, kd_14, kd_16, kd_18, kd_20, kd_22, kd_142, kd_145, kd_147, kd_24, h5, Int.le_refl]
  | succ m ih =>
    intro d hd
    have b := sumN_b (f := va1 M hl) (B := 270) d (fun j hj => va1_b h2 (show j < n by omega))
    have b2 := va1_b h2 (show d < n by omega)
    have c1 : ¬ (n : Int) ≤ (d : Int) := by omega
    have e1 : ad (sumN (va1 M hl) d) (va1 M hl d) = sumN (va1 M hl) (d + 1) := ad_eq (by omega) (by omega)
    rw [s12_4]
    simp only [en12, s12_0, s12_1, s12_2, s12_3, s12_5, s12_6, s12_9, s12_12, s12_13, s12_14, s12_15, s12_18, s12_19, s12_20, s12_23, s12_26, s12_27, cont_some, rl_some, rl_none, if_true, if_false, kd_0, kd_1, kd_2, kd_5, kd_47, kd_141, kd_144, rf_0_0, rf_0_1, rf_0_2, rf_0_3, rf_0_4, rf_1_0, rf_1_1, rf_1_2, rf_2_0, rf_5_0, rf_5_1, rf_5_2, rf_5_3, rf_5_4, rf_5_5, rf_5_6, rf_5_7, rf_47_0, rf_141_0, rf_144_0, rf_144_1, kd_3, kd_6, kd_8, kd_10, kd_12, kd_14, kd_16, kd_18, kd_20, kd_22, kd_142, kd_145, kd_147, kd_24, h5, c1, c_val h1 h2 h3 (show d < n by omega), ad_n d (by omega), e1]
    exact ih (d + 1) (by omega)
theorem c_hva (h1 : CN M n) (h2 : CH M n hl) (h3 : CPi M n hl) : evM 12 [Rf 5] (Hp M P) = some (some (I (sumN (va1 M hl) n)), Hp M P) := by
  simp only [en12, s12_0, s12_1, s12_2, s12_3, s12_5, s12_6, s12_9, s12_12, s12_13, s12_14, s12_15, s12_18, s12_19, s12_20, s12_23, s12_26, s12_27]
  exact c_hva_loop h1 h2 h3 n 0 (by omega)
theorem c_home {d : Nat} (hd : d < 4) : evM 15 [Rf 5, I (d : Int)] (Hp M P) = some (some (I (if M 11 d = 1 then 1 else 0)), Hp M P) := by
  by_cases c1 : M 11 d = 1
  · simp only [en15, s15_0, s15_1, s15_4, s15_5, s15_8, s15_9, s15_12, s15_13, s15_16, s15_17, cont_some, rl_some, rl_none, if_true, if_false, kd_0, kd_1, kd_2, kd_5, kd_47, kd_141, kd_144, rf_0_0, rf_0_1, rf_0_2, rf_0_3, rf_0_4, rf_1_0, rf_1_1, rf_1_2, rf_2_0, rf_5_0, rf_5_1, rf_5_2, rf_5_3, rf_5_4, rf_5_5, rf_5_6, rf_5_7, rf_47_0, rf_141_0, rf_144_0, rf_144_1, kd_3, kd_6, kd_8, kd_10, kd_12, kd_14, kd_16, kd_18, kd_20, kd_22, kd_142, kd_145, kd_147, kd_24, row_get R_ho, rg_n hd, c1, or_true]
  · simp only [en15, s15_0, s15_1, s15_4, s15_5, s15_8, s15_9, s15_12, s15_13, s15_16, s15_17, cont_some, rl_some, rl_none, if_true, if_false, kd_0, kd_1, kd_2, kd_5, kd_47, kd_141, kd_144, rf_0_0, rf_0_1, rf_0_2, rf_0_3, rf_0_4, rf_1_0, rf_1_1, rf_1_2, rf_2_0, rf_5_0, rf_5_1, rf_5_2, rf_5_3, rf_5_4, rf_5_5, rf_5_6, rf_5_7, rf_47_0, rf_141_0, rf_144_0, rf_144_1, kd_3, kd_6, kd_8, kd_10, kd_12, kd_14, kd_16, kd_18, kd_20, kd_22, kd_142, kd_145, kd_147, kd_24, row_get R_ho, rg_n hd, c1, Int.zero_ne_one, or_false]
def usd (M : Mem) (hl : Nat → Nat) (d : Nat) : Int := if M 11 d = 1 then 0 else (hl d : Int)
theorem c_used_loop (h1 : CN M n) (h2 : CH M n hl) : ∀ (m d : Nat), d + m = n → evL 13 4 [Rf 5, I (sumN (usd M hl) d), I (d : Int)] [] (Hp M P) = some (some (I (sumN (usd M hl) n)), Hp M P) := by
  have h4 := h1.2
  have h5 := h1.1
  have hb : ∀ j, j < n → 0 ≤ usd M hl j ∧ usd M hl j ≤ 6 := by
    intro j hj
    have := (h2 j hj).1
    unfold usd
    split <;> omega
  intro m
  induction m with
  | zero =>
    intro d hd
    have e : d = n := by omega
    subst e
    rw [s13_4]
    simp only [en13, s13_0, s13_1, s13_2, s13_3, s13_5, s13_6, s13_9, s13_12, s13_13, s13_14, s13_15, s13_18, s13_21, s13_22, s13_25, s13_26, s13_29, s13_30, s13_33, s13_34, s13_35, s13_38, s13_41, s13_42, cont_some, rl_some, rl_none, if_true, if_false, kd_0, kd_1, kd_2, kd_5, kd_47, kd_141, kd_144, rf_0_0, rf_0_1, rf_0_2, rf_0_3, rf_0_4, rf_1_0, rf_1_1, rf_1_2, rf_2_0, rf_5_0, rf_5_1, rf_5_2, rf_5_3, rf_5_4, rf_5_5, rf_5_6, rf_5_7, rf_47_0, rf_141_0, rf_144_0, rf_144_1, kd_3, kd_6, kd_8, kd_10, kd_12, kd_14, kd_16, kd_18, kd_20, kd_22, kd_142, kd_145, kd_147, kd_24, h5, Int.le_refl]
  | succ m ih =>
    intro d hd
    have hd2 : d < n := by omega
    have b := sumN_b (f := usd M hl) (B := 6) d (fun j hj => hb j (by omega))
    have b2 := hb d hd2
    have c1 : ¬ (n : Int) ≤ (d : Int) := by omega
    have e1 : ad (sumN (usd M hl) d) (usd M hl d) = sumN (usd M hl) (d + 1) := ad_eq (by omega) (by omega)
    have e0 : usd M hl d = if M 11 d = 1 then 0 else (hl d : Int) := rfl
    rw [s13_4]
    by_cases c2 : M 11 d = 1
    · rw [if_pos c2] at e0
      rw [e0] at e1
      simp only [en13, s13_0, s13_1, s13_2, s13_3, s13_5, s13_6, s13_9, s13_12, s13_13, s13_14, s13_15, s13_18, s13_21, s13_22, s13_25, s13_26, s13_29, s13_30, s13_33, s13_34, s13_35, s13_38, s13_41, s13_42, cont_some, rl_some, rl_none, if_true, if_false, kd_0, kd_1, kd_2, kd_5, kd_47, kd_141, kd_144, rf_0_0, rf_0_1, rf_0_2, rf_0_3, rf_0_4, rf_1_0, rf_1_1, rf_1_2, rf_2_0, rf_5_0, rf_5_1, rf_5_2, rf_5_3, rf_5_4, rf_5_5, rf_5_6, rf_5_7, rf_47_0, rf_141_0, rf_144_0, rf_144_1, kd_3, kd_6, kd_8, kd_10, kd_12, kd_14, kd_16, kd_18, kd_20, kd_22, kd_142, kd_145, kd_147, kd_24, h5, c1, c_home (show d < 4 by omega), c2, ad_n d (by omega), e1, Int.one_ne_zero]
      exact ih (d + 1) (by omega)
    · rw [if_neg c2] at e0
      rw [e0] at e1
      simp only [en13, s13_0, s13_1, s13_2, s13_3, s13_5, s13_6, s13_9, s13_12, s13_13, s13_14, s13_15, s13_18, s13_21, s13_22, s13_25, s13_26, s13_29, s13_30, s13_33, s13_34, s13_35, s13_38, s13_41, s13_42, cont_some, rl_some, rl_none, if_true, if_false, kd_0, kd_1, kd_2, kd_5, kd_47, kd_141, kd_144, rf_0_0, rf_0_1, rf_0_2, rf_0_3, rf_0_4, rf_1_0, rf_1_1, rf_1_2, rf_2_0, rf_5_0, rf_5_1, rf_5_2, rf_5_3, rf_5_4, rf_5_5, rf_5_6, rf_5_7, rf_47_0, rf_141_0, rf_144_0, rf_144_1, kd_3, kd_6, kd_8, kd_10, kd_12, kd_14, kd_16, kd_18, kd_20, kd_22, kd_142, kd_145, kd_147, kd_24, h5, c1, c_home (show d < 4 by omega), c2, ad_n d (by omega), e1, row_get R_he, rg_n (show d < 4 by omega), (h2 d hd2).2]
      exact ih (d + 1) (by omega)
theorem c_used (h1 : CN M n) (h2 : CH M n hl) : evM 13 [Rf 5] (Hp M P) = some (some (I (sumN (usd M hl) n)), Hp M P) := by
  simp only [en13, s13_0, s13_1, s13_2, s13_3, s13_5, s13_6, s13_9, s13_12, s13_13, s13_14, s13_15, s13_18, s13_21, s13_22, s13_25, s13_26, s13_29, s13_30, s13_33, s13_34, s13_35, s13_38, s13_41, s13_42]
  exact c_used_loop h1 h2 n 0 (by omega)
theorem c_owned : evM 14 [Rf 5] (Hp M P) = some (some (I (sumA (M 17) 4)), Hp M P) := by
  simp only [en14, s14_0, s14_1, s14_4, s14_7, cont_some, rl_some, rl_none, if_true, if_false, kd_0, kd_1, kd_2, kd_5, kd_47, kd_141, kd_144, rf_0_0, rf_0_1, rf_0_2, rf_0_3, rf_0_4, rf_1_0, rf_1_1, rf_1_2, rf_2_0, rf_5_0, rf_5_1, rf_5_2, rf_5_3, rf_5_4, rf_5_5, rf_5_6, rf_5_7, rf_47_0, rf_141_0, rf_144_0, rf_144_1, kd_3, kd_6, kd_8, kd_10, kd_12, kd_14, kd_16, kd_18, kd_20, kd_22, kd_142, kd_145, kd_147, kd_24, row_sum R_sc]
theorem c_allHome : evM 16 [Rf 5] (Hp M P) = some (some (I (if sumA (M 11) 4 = M 5 8 then 1 else 0)), Hp M P) := by
  by_cases c1 : sumA (M 11) 4 = M 5 8
  · simp only [en16, s16_0, s16_1, s16_4, s16_7, s16_8, s16_11, s16_14, s16_15, s16_18, s16_19, cont_some, rl_some, rl_none, if_true, if_false, kd_0, kd_1, kd_2, kd_5, kd_47, kd_141, kd_144, rf_0_0, rf_0_1, rf_0_2, rf_0_3, rf_0_4, rf_1_0, rf_1_1, rf_1_2, rf_2_0, rf_5_0, rf_5_1, rf_5_2, rf_5_3, rf_5_4, rf_5_5, rf_5_6, rf_5_7, rf_47_0, rf_141_0, rf_144_0, rf_144_1, kd_3, kd_6, kd_8, kd_10, kd_12, kd_14, kd_16, kd_18, kd_20, kd_22, kd_142, kd_145, kd_147, kd_24, row_sum R_ho, c1, or_true]
  · simp only [en16, s16_0, s16_1, s16_4, s16_7, s16_8, s16_11, s16_14, s16_15, s16_18, s16_19, cont_some, rl_some, rl_none, if_true, if_false, kd_0, kd_1, kd_2, kd_5, kd_47, kd_141, kd_144, rf_0_0, rf_0_1, rf_0_2, rf_0_3, rf_0_4, rf_1_0, rf_1_1, rf_1_2, rf_2_0, rf_5_0, rf_5_1, rf_5_2, rf_5_3, rf_5_4, rf_5_5, rf_5_6, rf_5_7, rf_47_0, rf_141_0, rf_144_0, rf_144_1, kd_3, kd_6, kd_8, kd_10, kd_12, kd_14, kd_16, kd_18, kd_20, kd_22, kd_142, kd_145, kd_147, kd_24, row_sum R_ho, c1, Int.zero_ne_one, or_false]
/-- the first diver at a place, from d on -/
def dvAt (f : Nat → Int) (s : Int) (n : Nat) : Nat → Nat → Int
  | 0, _ => -4
  | m + 1, d => if f d = s then (d : Int) else dvAt f s n m (d + 1)
theorem c_dvAt_loop (h1 : CN M n) {s : Int} : ∀ (m d : Nat), d + m = n → evL 17 2 [Rf 5, I s, I (d : Int)] [] (Hp M P) = some (some (I (dvAt (M 7) s n m d)), Hp M P) := by
  have h4 := h1.2
  have h5 := h1.1
  intro m
  induction m with
  | zero =>
    intro d hd
    have e : d = n := by omega
    subst e
    rw [s17_2]
    simp only [en17, s17_0, s17_1, s17_3, s17_4, s17_7, s17_10, s17_11, s17_14, s17_15, s17_18, s17_19, s17_22, s17_23, s17_24, s17_27, s17_30, s17_32, cont_some, rl_some, rl_none, if_true, if_false, kd_0, kd_1, kd_2, kd_5, kd_47, kd_141, kd_144, rf_0_0, rf_0_1, rf_0_2, rf_0_3, rf_0_4, rf_1_0, rf_1_1, rf_1_2, rf_2_0, rf_5_0, rf_5_1, rf_5_2, rf_5_3, rf_5_4, rf_5_5, rf_5_6, rf_5_7, rf_47_0, rf_141_0, rf_144_0, rf_144_1, kd_3, kd_6, kd_8, kd_10, kd_12, kd_14, kd_16, kd_18, kd_20, kd_22, kd_142, kd_145, kd_147, kd_24, h5, Int.le_refl, dvAt]
  | succ m ih =>
    intro d hd
    have c1 : ¬ (n : Int) ≤ (d : Int) := by omega
    rw [s17_2]
    by_cases c2 : M 7 d = s
    · simp only [en17, s17_0, s17_1, s17_3, s17_4, s17_7, s17_10, s17_11, s17_14, s17_15, s17_18, s17_19, s17_22, s17_23, s17_24, s17_27, s17_30, s17_32, cont_some, rl_some, rl_none, if_true, if_false, kd_0, kd_1, kd_2, kd_5, kd_47, kd_141, kd_144, rf_0_0, rf_0_1, rf_0_2, rf_0_3, rf_0_4, rf_1_0, rf_1_1, rf_1_2, rf_2_0, rf_5_0, rf_5_1, rf_5_2, rf_5_3, rf_5_4, rf_5_5, rf_5_6, rf_5_7, rf_47_0, rf_141_0, rf_144_0, rf_144_1, kd_3, kd_6, kd_8, kd_10, kd_12, kd_14, kd_16, kd_18, kd_20, kd_22, kd_142, kd_145, kd_147, kd_24, h5, c1, row_get R_pl, rg_n (show d < 4 by omega), c2, dvAt]
    · simp only [en17, s17_0, s17_1, s17_3, s17_4, s17_7, s17_10, s17_11, s17_14, s17_15, s17_18, s17_19, s17_22, s17_23, s17_24, s17_27, s17_30, s17_32, cont_some, rl_some, rl_none, if_true, if_false, kd_0, kd_1, kd_2, kd_5, kd_47, kd_141, kd_144, rf_0_0, rf_0_1, rf_0_2, rf_0_3, rf_0_4, rf_1_0, rf_1_1, rf_1_2, rf_2_0, rf_5_0, rf_5_1, rf_5_2, rf_5_3, rf_5_4, rf_5_5, rf_5_6, rf_5_7, rf_47_0, rf_141_0, rf_144_0, rf_144_1, kd_3, kd_6, kd_8, kd_10, kd_12, kd_14, kd_16, kd_18, kd_20, kd_22, kd_142, kd_145, kd_147, kd_24, h5, c1, row_get R_pl, rg_n (show d < 4 by omega), c2, ad_n d (by omega), dvAt]
      exact ih (d + 1) (by omega)
theorem c_dvAt (h1 : CN M n) {s : Int} : evM 17 [Rf 5, I s] (Hp M P) = some (some (I (dvAt (M 7) s n n 0)), Hp M P) := by
  simp only [en17, s17_0, s17_1, s17_3, s17_4, s17_7, s17_10, s17_11, s17_14, s17_15, s17_18, s17_19, s17_22, s17_23, s17_24, s17_27, s17_30, s17_32]
  exact c_dvAt_loop h1 n 0 (by omega)
/-- is another diver there, from e on -/
def occ (f : Nat → Int) (t : Nat) (s : Int) : Nat → Nat → Bool
  | 0, _ => false
  | m + 1, e => (decide (e ≠ t) && decide (f e = s)) || occ f t s m (e + 1)
theorem c_free_loop (h1 : CN M n) {t : Nat} {s : Int} : ∀ (m d : Nat), d + m = n → evL 18 2 [Rf 5, I (t : Int), I s, I (d : Int)] [] (Hp M P) = some (some (I (if occ (M 7) t s m d then 0 else 1)), Hp M P) := by
  have h4 := h1.2
  have h5 := h1.1
  intro m
  induction m with
  | zero =>
    intro d hd
    have e : d = n := by omega
    subst e
    rw [s18_2]
    simp only [en18, s18_0, s18_1, s18_3, s18_4, s18_7, s18_10, s18_11, s18_12, s18_15, s18_16, s18_19, s18_20, s18_23, s18_24, s18_27, s18_28, s18_29, s18_32, s18_35, s18_36, cont_some, rl_some, rl_none, if_true, if_false, kd_0, kd_1, kd_2, kd_5, kd_47, kd_141, kd_144, rf_0_0, rf_0_1, rf_0_2, rf_0_3, rf_0_4, rf_1_0, rf_1_1, rf_1_2, rf_2_0, rf_5_0, rf_5_1, rf_5_2, rf_5_3, rf_5_4, rf_5_5, rf_5_6, rf_5_7, rf_47_0, rf_141_0, rf_144_0, rf_144_1, kd_3, kd_6, kd_8, kd_10, kd_12, kd_14, kd_16, kd_18, kd_20, kd_22, kd_142, kd_145, kd_147, kd_24, h5, Int.le_refl, occ, or_true, Bool.false_eq_true]
  | succ m ih =>
    intro d hd
    have c1 : ¬ (n : Int) ≤ (d : Int) := by omega
    rw [s18_2]
    by_cases c3 : d = t
    · subst c3
      have e : occ (M 7) d s (m + 1) d = occ (M 7) d s m (d + 1) := by simp [occ]
      simp only [en18, s18_0, s18_1, s18_3, s18_4, s18_7, s18_10, s18_11, s18_12, s18_15, s18_16, s18_19, s18_20, s18_23, s18_24, s18_27, s18_28, s18_29, s18_32, s18_35, s18_36, cont_some, rl_some, rl_none, if_true, if_false, kd_0, kd_1, kd_2, kd_5, kd_47, kd_141, kd_144, rf_0_0, rf_0_1, rf_0_2, rf_0_3, rf_0_4, rf_1_0, rf_1_1, rf_1_2, rf_2_0, rf_5_0, rf_5_1, rf_5_2, rf_5_3, rf_5_4, rf_5_5, rf_5_6, rf_5_7, rf_47_0, rf_141_0, rf_144_0, rf_144_1, kd_3, kd_6, kd_8, kd_10, kd_12, kd_14, kd_16, kd_18, kd_20, kd_22, kd_142, kd_145, kd_147, kd_24, h5, c1, ad_n d (by omega), e]
      exact ih (d + 1) (by omega)
    · have c3' : ¬ ((d : Int) = (t : Int)) := by omega
      by_cases c2 : M 7 d = s
      · have e : occ (M 7) t s (m + 1) d = true := by simp [occ, c2, c3]
        simp only [en18, s18_0, s18_1, s18_3, s18_4, s18_7, s18_10, s18_11, s18_12, s18_15, s18_16, s18_19, s18_20, s18_23, s18_24, s18_27, s18_28, s18_29, s18_32, s18_35, s18_36, cont_some, rl_some, rl_none, if_true, if_false, kd_0, kd_1, kd_2, kd_5, kd_47, kd_141, kd_144, rf_0_0, rf_0_1, rf_0_2, rf_0_3, rf_0_4, rf_1_0, rf_1_1, rf_1_2, rf_2_0, rf_5_0, rf_5_1, rf_5_2, rf_5_3, rf_5_4, rf_5_5, rf_5_6, rf_5_7, rf_47_0, rf_141_0, rf_144_0, rf_144_1, kd_3, kd_6, kd_8, kd_10, kd_12, kd_14, kd_16, kd_18, kd_20, kd_22, kd_142, kd_145, kd_147, kd_24, h5, c1, c3', row_get R_pl, rg_n (show d < 4 by omega), c2, e, Int.zero_ne_one, or_false]
      · have e : occ (M 7) t s (m + 1) d = occ (M 7) t s m (d + 1) := by simp [occ, c2]
        simp only [en18, s18_0, s18_1, s18_3, s18_4, s18_7, s18_10, s18_11, s18_12, s18_15, s18_16, s18_19, s18_20, s18_23, s18_24, s18_27, s18_28, s18_29, s18_32, s18_35, s18_36, cont_some, rl_some, rl_none, if_true, if_false, kd_0, kd_1, kd_2, kd_5, kd_47, kd_141, kd_144, rf_0_0, rf_0_1, rf_0_2, rf_0_3, rf_0_4, rf_1_0, rf_1_1, rf_1_2, rf_2_0, rf_5_0, rf_5_1, rf_5_2, rf_5_3, rf_5_4, rf_5_5, rf_5_6, rf_5_7, rf_47_0, rf_141_0, rf_144_0, rf_144_1, kd_3, kd_6, kd_8, kd_10, kd_12, kd_14, kd_16, kd_18, kd_20, kd_22, kd_142, kd_145, kd_147, kd_24, h5, c1, c3', row_get R_pl, rg_n (show d < 4 by omega), c2, ad_n d (by omega), e]
        exact ih (d + 1) (by omega)
theorem c_free (h1 : CN M n) {t : Nat} {s : Int} : evM 18 [Rf 5, I (t : Int), I s] (Hp M P) = some (some (I (if occ (M 7) t s n 0 then 0 else 1)), Hp M P) := by
  simp only [en18, s18_0, s18_1, s18_3, s18_4, s18_7, s18_10, s18_11, s18_12, s18_15, s18_16, s18_19, s18_20, s18_23, s18_24, s18_27, s18_28, s18_29, s18_32, s18_35, s18_36]
  exact c_free_loop h1 n 0 (by omega)
/-- the next diver who is not home -/
def nxO (f : Nat → Int) (n d0 : Nat) : Nat → Nat → Nat
  | 0, _ => d0
  | m + 1, x => if f (if x + 1 < n then x + 1 else 0) = 1 then nxO f n d0 m (if x + 1 < n then x + 1 else 0) else (if x + 1 < n then x + 1 else 0)
theorem c_next_loop (h1 : CN M n) (hn : 0 < n) {d0 : Nat} : ∀ (m x i : Nat), i + m = n → x < n → evL 19 4 [Rf 5, I (d0 : Int), I (x : Int), I (i : Int)] [] (Hp M P) = some (some (I (nxO (M 11) n d0 m x : Int)), Hp M P) := by
  have h4 := h1.2
  have h5 := h1.1
  intro m
  induction m with
  | zero =>
    intro x i hi hx
    have e : i = n := by omega
    subst e
    rw [s19_4]
    simp only [en19, s19_0, s19_1, s19_2, s19_3, s19_5, s19_6, s19_9, s19_12, s19_13, s19_14, s19_15, s19_16, s19_19, s19_22, s19_23, s19_24, s19_25, s19_28, s19_29, s19_30, s19_31, s19_32, s19_35, s19_38, s19_39, s19_40, s19_43, s19_46, s19_47, cont_some, rl_some, rl_none, if_true, if_false, kd_0, kd_1, kd_2, kd_5, kd_47, kd_141, kd_144, rf_0_0, rf_0_1, rf_0_2, rf_0_3, rf_0_4, rf_1_0, rf_1_1, rf_1_2, rf_2_0, rf_5_0, rf_5_1, rf_5_2, rf_5_3, rf_5_4, rf_5_5, rf_5_6, rf_5_7, rf_47_0, rf_141_0, rf_144_0, rf_144_1, kd_3, kd_6, kd_8, kd_10, kd_12, kd_14, kd_16, kd_18, kd_20, kd_22, kd_142, kd_145, kd_147, kd_24, h5, Int.le_refl, nxO]
  | succ m ih =>
    intro x i hi hx
    have c1 : ¬ (n : Int) ≤ (i : Int) := by omega
    rw [s19_4]
    by_cases c2 : x + 1 < n
    · have c2' : ¬ ((n : Int) ≤ ((x + 1 : Nat) : Int)) := by omega
      have e : nxO (M 11) n d0 (m + 1) x = if M 11 (x + 1) = 1 then nxO (M 11) n d0 m (x + 1) else x + 1 := by simp only [nxO, if_pos c2]
      by_cases c3 : M 11 (x + 1) = 1
      · rw [if_pos c3] at e
        simp only [en19, s19_0, s19_1, s19_2, s19_3, s19_5, s19_6, s19_9, s19_12, s19_13, s19_14, s19_15, s19_16, s19_19, s19_22, s19_23, s19_24, s19_25, s19_28, s19_29, s19_30, s19_31, s19_32, s19_35, s19_38, s19_39, s19_40, s19_43, s19_46, s19_47, cont_some, rl_some, rl_none, if_true, if_false, kd_0, kd_1, kd_2, kd_5, kd_47, kd_141, kd_144, rf_0_0, rf_0_1, rf_0_2, rf_0_3, rf_0_4, rf_1_0, rf_1_1, rf_1_2, rf_2_0, rf_5_0, rf_5_1, rf_5_2, rf_5_3, rf_5_4, rf_5_5, rf_5_6, rf_5_7, rf_47_0, rf_141_0, rf_144_0, rf_144_1, kd_3, kd_6, kd_8, kd_10, kd_12, kd_14, kd_16, kd_18, kd_20, kd_22, kd_142, kd_145, kd_147, kd_24, h5, c1, ad_n x (by omega), ad_n i (by omega), c2', c_home (show x + 1 < 4 by omega), c3, Int.one_ne_zero, e]
        exact ih (x + 1) (i + 1) (by omega) c2
      · rw [if_neg c3] at e
        simp only [en19, s19_0, s19_1, s19_2, s19_3, s19_5, s19_6, s19_9, s19_12, s19_13, s19_14, s19_15, s19_16, s19_19, s19_22, s19_23, s19_24, s19_25, s19_28, s19_29, s19_30, s19_31, s19_32, s19_35, s19_38, s19_39, s19_40, s19_43, s19_46, s19_47, cont_some, rl_some, rl_none, if_true, if_false, kd_0, kd_1, kd_2, kd_5, kd_47, kd_141, kd_144, rf_0_0, rf_0_1, rf_0_2, rf_0_3, rf_0_4, rf_1_0, rf_1_1, rf_1_2, rf_2_0, rf_5_0, rf_5_1, rf_5_2, rf_5_3, rf_5_4, rf_5_5, rf_5_6, rf_5_7, rf_47_0, rf_141_0, rf_144_0, rf_144_1, kd_3, kd_6, kd_8, kd_10, kd_12, kd_14, kd_16, kd_18, kd_20, kd_22, kd_142, kd_145, kd_147, kd_24, h5, c1, ad_n x (by omega), c2', c_home (show x + 1 < 4 by omega), c3, e]
    · have c2' : ((n : Int) ≤ ((x + 1 : Nat) : Int)) := by omega
      have e : nxO (M 11) n d0 (m + 1) x = if M 11 0 = 1 then nxO (M 11) n d0 m 0 else 0 := by simp only [nxO, if_neg c2]
      have hz := c_home (M := M) (P := P) (d := 0) (by omega)
      have e0 : ((0 : Nat) : Int) = 0 := rfl
      rw [e0] at hz
      by_cases c3 : M 11 0 = 1
      · rw [if_pos c3] at e
        simp only [en19, s19_0, s19_1, s19_2, s19_3, s19_5, s19_6, s19_9, s19_12, s19_13, s19_14, s19_15, s19_16, s19_19, s19_22, s19_23, s19_24, s19_25, s19_28, s19_29, s19_30, s19_31, s19_32, s19_35, s19_38, s19_39, s19_40, s19_43, s19_46, s19_47, cont_some, rl_some, rl_none, if_true, if_false, kd_0, kd_1, kd_2, kd_5, kd_47, kd_141, kd_144, rf_0_0, rf_0_1, rf_0_2, rf_0_3, rf_0_4, rf_1_0, rf_1_1, rf_1_2, rf_2_0, rf_5_0, rf_5_1, rf_5_2, rf_5_3, rf_5_4, rf_5_5, rf_5_6, rf_5_7, rf_47_0, rf_141_0, rf_144_0, rf_144_1, kd_3, kd_6, kd_8, kd_10, kd_12, kd_14, kd_16, kd_18, kd_20, kd_22, kd_142, kd_145, kd_147, kd_24, h5, c1, ad_n x (by omega), ad_n i (by omega), c2', hz, c3, Int.one_ne_zero, e]
        exact ih 0 (i + 1) (by omega) hn
      · rw [if_neg c3] at e
        simp only [en19, s19_0, s19_1, s19_2, s19_3, s19_5, s19_6, s19_9, s19_12, s19_13, s19_14, s19_15, s19_16, s19_19, s19_22, s19_23, s19_24, s19_25, s19_28, s19_29, s19_30, s19_31, s19_32, s19_35, s19_38, s19_39, s19_40, s19_43, s19_46, s19_47, cont_some, rl_some, rl_none, if_true, if_false, kd_0, kd_1, kd_2, kd_5, kd_47, kd_141, kd_144, rf_0_0, rf_0_1, rf_0_2, rf_0_3, rf_0_4, rf_1_0, rf_1_1, rf_1_2, rf_2_0, rf_5_0, rf_5_1, rf_5_2, rf_5_3, rf_5_4, rf_5_5, rf_5_6, rf_5_7, rf_47_0, rf_141_0, rf_144_0, rf_144_1, kd_3, kd_6, kd_8, kd_10, kd_12, kd_14, kd_16, kd_18, kd_20, kd_22, kd_142, kd_145, kd_147, kd_24, h5, c1, ad_n x (by omega), c2', hz, c3, e]
        rfl
theorem c_next (h1 : CN M n) {d0 : Nat} (hd : d0 < n) : evM 19 [Rf 5, I (d0 : Int)] (Hp M P) = some (some (I (nxO (M 11) n d0 n d0 : Int)), Hp M P) := by
  simp only [en19, s19_0, s19_1, s19_2, s19_3, s19_5, s19_6, s19_9, s19_12, s19_13, s19_14, s19_15, s19_16, s19_19, s19_22, s19_23, s19_24, s19_25, s19_28, s19_29, s19_30, s19_31, s19_32, s19_35, s19_38, s19_39, s19_40, s19_43, s19_46, s19_47]
  exact c_next_loop h1 (by omega) n d0 0 (by omega) hd
/-- the first of the greatest, from d on, b the best so far -/
def arg (f : Nat → Int) : Nat → Nat → Nat → Nat
  | 0, _, b => b
  | m + 1, d, b => arg f m (d + 1) (if f b < f d then d else b)
theorem c_deep_loop (h1 : CN M n) : ∀ (m d b : Nat), d + m = n → b < 4 → evL 20 4 [Rf 5, I (b : Int), I (d : Int)] [] (Hp M P) = some (some (I (arg (M 7) m d b : Int)), Hp M P) := by
  have h4 := h1.2
  have h5 := h1.1
  intro m
  induction m with
  | zero =>
    intro d b hd hb
    have e : d = n := by omega
    subst e
    rw [s20_4]
    simp only [en20, s20_0, s20_1, s20_2, s20_3, s20_5, s20_6, s20_9, s20_12, s20_13, s20_16, s20_17, s20_20, s20_21, s20_24, s20_25, s20_28, s20_31, s20_32, s20_33, s20_36, s20_39, s20_40, cont_some, rl_some, rl_none, if_true, if_false, kd_0, kd_1, kd_2, kd_5, kd_47, kd_141, kd_144, rf_0_0, rf_0_1, rf_0_2, rf_0_3, rf_0_4, rf_1_0, rf_1_1, rf_1_2, rf_2_0, rf_5_0, rf_5_1, rf_5_2, rf_5_3, rf_5_4, rf_5_5, rf_5_6, rf_5_7, rf_47_0, rf_141_0, rf_144_0, rf_144_1, kd_3, kd_6, kd_8, kd_10, kd_12, kd_14, kd_16, kd_18, kd_20, kd_22, kd_142, kd_145, kd_147, kd_24, h5, Int.le_refl, arg]
  | succ m ih =>
    intro d b hd hb
    have c1 : ¬ (n : Int) ≤ (d : Int) := by omega
    rw [s20_4]
    by_cases c2 : M 7 b < M 7 d
    · have c2' : ¬ M 7 d ≤ M 7 b := by omega
      simp only [en20, s20_0, s20_1, s20_2, s20_3, s20_5, s20_6, s20_9, s20_12, s20_13, s20_16, s20_17, s20_20, s20_21, s20_24, s20_25, s20_28, s20_31, s20_32, s20_33, s20_36, s20_39, s20_40, cont_some, rl_some, rl_none, if_true, if_false, kd_0, kd_1, kd_2, kd_5, kd_47, kd_141, kd_144, rf_0_0, rf_0_1, rf_0_2, rf_0_3, rf_0_4, rf_1_0, rf_1_1, rf_1_2, rf_2_0, rf_5_0, rf_5_1, rf_5_2, rf_5_3, rf_5_4, rf_5_5, rf_5_6, rf_5_7, rf_47_0, rf_141_0, rf_144_0, rf_144_1, kd_3, kd_6, kd_8, kd_10, kd_12, kd_14, kd_16, kd_18, kd_20, kd_22, kd_142, kd_145, kd_147, kd_24, h5, c1, row_get R_pl, rg_n (show d < 4 by omega), rg_n hb, c2', ad_n d (by omega), arg, c2]
      exact ih (d + 1) d (by omega) (by omega)
    · have c2' : M 7 d ≤ M 7 b := by omega
      simp only [en20, s20_0, s20_1, s20_2, s20_3, s20_5, s20_6, s20_9, s20_12, s20_13, s20_16, s20_17, s20_20, s20_21, s20_24, s20_25, s20_28, s20_31, s20_32, s20_33, s20_36, s20_39, s20_40, cont_some, rl_some, rl_none, if_true, if_false, kd_0, kd_1, kd_2, kd_5, kd_47, kd_141, kd_144, rf_0_0, rf_0_1, rf_0_2, rf_0_3, rf_0_4, rf_1_0, rf_1_1, rf_1_2, rf_2_0, rf_5_0, rf_5_1, rf_5_2, rf_5_3, rf_5_4, rf_5_5, rf_5_6, rf_5_7, rf_47_0, rf_141_0, rf_144_0, rf_144_1, kd_3, kd_6, kd_8, kd_10, kd_12, kd_14, kd_16, kd_18, kd_20, kd_22, kd_142, kd_145, kd_147, kd_24, h5, c1, row_get R_pl, rg_n (show d < 4 by omega), rg_n hb, c2', ad_n d (by omega), arg, c2]
      exact ih (d + 1) b (by omega) hb
theorem c_deep (h1 : CN M n) (hn : 1 ≤ n) : evM 20 [Rf 5] (Hp M P) = some (some (I (arg (M 7) (n - 1) 1 0 : Int)), Hp M P) := by
  simp only [en20, s20_0, s20_1, s20_2, s20_3, s20_5, s20_6, s20_9, s20_12, s20_13, s20_16, s20_17, s20_20, s20_21, s20_24, s20_25, s20_28, s20_31, s20_32, s20_33, s20_36, s20_39, s20_40]
  exact c_deep_loop h1 (n - 1) 1 0 (by omega) (by omega)
theorem c_best_loop (h1 : CN M n) : ∀ (m d b : Nat), d + m = n → b < 4 → evL 21 4 [Rf 5, I (b : Int), I (d : Int)] [] (Hp M P) = some (some (I (arg (M 17) m d b : Int)), Hp M P) := by
  have h4 := h1.2
  have h5 := h1.1
  intro m
  induction m with
  | zero =>
    intro d b hd hb
    have e : d = n := by omega
    subst e
    rw [s21_4]
    simp only [en21, s21_0, s21_1, s21_2, s21_3, s21_5, s21_6, s21_9, s21_12, s21_13, s21_16, s21_17, s21_20, s21_21, s21_24, s21_25, s21_28, s21_31, s21_32, s21_33, s21_36, s21_39, s21_40, cont_some, rl_some, rl_none, if_true, if_false, kd_0, kd_1, kd_2, kd_5, kd_47, kd_141, kd_144, rf_0_0, rf_0_1, rf_0_2, rf_0_3, rf_0_4, rf_1_0, rf_1_1, rf_1_2, rf_2_0, rf_5_0, rf_5_1, rf_5_2, rf_5_3, rf_5_4, rf_5_5, rf_5_6, rf_5_7, rf_47_0, rf_141_0, rf_144_0, rf_144_1, kd_3, kd_6, kd_8, kd_10, kd_12, kd_14, kd_16, kd_18, kd_20, kd_22, kd_142, kd_145, kd_147, kd_24, h5, Int.le_refl, arg]
  | succ m ih =>
    intro d b hd hb
    have c1 : ¬ (n : Int) ≤ (d : Int) := by omega
    rw [s21_4]
    by_cases c2 : M 17 b < M 17 d
    · have c2' : ¬ M 17 d ≤ M 17 b := by omega
      simp only [en21, s21_0, s21_1, s21_2, s21_3, s21_5, s21_6, s21_9, s21_12, s21_13, s21_16, s21_17, s21_20, s21_21, s21_24, s21_25, s21_28, s21_31, s21_32, s21_33, s21_36, s21_39, s21_40, cont_some, rl_some, rl_none, if_true, if_false, kd_0, kd_1, kd_2, kd_5, kd_47, kd_141, kd_144, rf_0_0, rf_0_1, rf_0_2, rf_0_3, rf_0_4, rf_1_0, rf_1_1, rf_1_2, rf_2_0, rf_5_0, rf_5_1, rf_5_2, rf_5_3, rf_5_4, rf_5_5, rf_5_6, rf_5_7, rf_47_0, rf_141_0, rf_144_0, rf_144_1, kd_3, kd_6, kd_8, kd_10, kd_12, kd_14, kd_16, kd_18, kd_20, kd_22, kd_142, kd_145, kd_147, kd_24, h5, c1, row_get R_sc, rg_n (show d < 4 by omega), rg_n hb, c2', ad_n d (by omega), arg, c2]
      exact ih (d + 1) d (by omega) (by omega)
    · have c2' : M 17 d ≤ M 17 b := by omega
      simp only [en21, s21_0, s21_1, s21_2, s21_3, s21_5, s21_6, s21_9, s21_12, s21_13, s21_16, s21_17, s21_20, s21_21, s21_24, s21_25, s21_28, s21_31, s21_32, s21_33, s21_36, s21_39, s21_40, cont_some, rl_some, rl_none, if_true, if_false, kd_0, kd_1, kd_2, kd_5, kd_47, kd_141, kd_144, rf_0_0, rf_0_1, rf_0_2, rf_0_3, rf_0_4, rf_1_0, rf_1_1, rf_1_2, rf_2_0, rf_5_0, rf_5_1, rf_5_2, rf_5_3, rf_5_4, rf_5_5, rf_5_6, rf_5_7, rf_47_0, rf_141_0, rf_144_0, rf_144_1, kd_3, kd_6, kd_8, kd_10, kd_12, kd_14, kd_16, kd_18, kd_20, kd_22, kd_142, kd_145, kd_147, kd_24, h5, c1, row_get R_sc, rg_n (show d < 4 by omega), rg_n hb, c2', ad_n d (by omega), arg, c2]
      exact ih (d + 1) b (by omega) hb
theorem c_best (h1 : CN M n) (hn : 1 ≤ n) : evM 21 [Rf 5] (Hp M P) = some (some (I (arg (M 17) (n - 1) 1 0 : Int)), Hp M P) := by
  simp only [en21, s21_0, s21_1, s21_2, s21_3, s21_5, s21_6, s21_9, s21_12, s21_13, s21_16, s21_17, s21_20, s21_21, s21_24, s21_25, s21_28, s21_31, s21_32, s21_33, s21_36, s21_39, s21_40]
  exact c_best_loop h1 (n - 1) 1 0 (by omega) (by omega)
end Crew2
