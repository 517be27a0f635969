/-! ===== Crew: what changes ===== -/
theorem wr_app {M : Mem} {i j a b : Nat} {z : Int} : wr M i j z a b = if a = i ∧ b = j then z else M a b := rfl
theorem wp_app {M : Mem} {j n a b : Nat} : wp M j n a b = if a = j ∧ b < n then 0 else M a b := rfl
section Crew3
variable {M : Mem} {P : PMem} {n : Nat} {hl : Nat → Nat}
theorem c_addP {d k : Nat} {p : Int} (hd : d < 4) (hk : M 13 d = (k : Int)) (hk6 : k < 6) : evM 7 [Rf 5, I (d : Int), I p] (Hp M P) = some (none, Hp (wr (wr M 15 (6 * d + k) p) 13 d ((k + 1 : Nat) : Int)) P) := by
  have e1 : wr M 15 (6 * d + k) p 13 d = (k : Int) := by rw [wr_app, if_neg (by omega), hk]
  simp only [en7, s7_0, s7_1, s7_4, s7_5, s7_6, s7_9, s7_10, s7_13, s7_16, s7_17, s7_20, s7_21, s7_24, s7_25, s7_26, s7_29, cont_some, rl_some, rl_none, if_true, if_false, kd_0, kd_1, kd_2, kd_5, kd_47, kd_141, kd_144, rf_0_0, rf_0_1, rf_0_2, rf_0_3, rf_0_4, rf_1_0, rf_1_1, rf_1_2, rf_2_0, rf_5_0, rf_5_1, rf_5_2, rf_5_3, rf_5_4, rf_5_5, rf_5_6, rf_5_7, rf_47_0, rf_141_0, rf_144_0, rf_144_1, kd_3, kd_6, kd_8, kd_10, kd_12, kd_14, kd_16, kd_18, kd_20, kd_22, kd_142, kd_145, kd_147, kd_24, row_get R_he, rg_n hd, hk, cr_cell (show d ≤ 4 by omega) (show k ≤ 6 by omega), row_set R_pi, rs_n (show 6 * d + k < 24 by omega), row_add R_he, e1, rs_n hd, ad_n k (by omega)]
/-- the piles of a diver closed up, from place i on, up to j -/
def shP (M : Mem) (d i j : Nat) : Mem := fun a b => if a = 15 ∧ 6 * d + i ≤ b ∧ b < 6 * d + j then M 15 (b + 1) else M a b
theorem shP_self {d i : Nat} : shP M d i i = M := by
  funext a b
  unfold shP
  rw [if_neg (by omega)]
theorem shP_step {d i j : Nat} (hij : i ≤ j) : wr (shP M d i j) 15 (6 * d + j) (M 15 (6 * d + (j + 1))) = shP M d i (j + 1) := by
  funext a b
  unfold wr shP
  by_cases ha : a = 15
  · subst ha
    by_cases hb : b = 6 * d + j
    · subst hb
      rw [if_pos ⟨rfl, rfl⟩, if_pos (by omega)]
      rfl
    · rw [if_neg (by omega)]
      by_cases hc : 6 * d + i ≤ b ∧ b < 6 * d + j
      · rw [if_pos (by omega), if_pos (by omega)]
      · rw [if_neg (by omega), if_neg (by omega)]
  · rw [if_neg (by omega), if_neg (by omega), if_neg (by omega)]
theorem c_rmP_loop {d i left : Nat} {x : Int} (hd : d < 4) (hl6 : left < 6) : ∀ (m j : Nat), j + m = left → i ≤ j → evL 8 22 [Rf 5, I (d : Int), I (i : Int), I x, I (left : Int), I (j : Int)] [] (Hp (shP M d i j) P) = some (some (I x), Hp (wr (shP M d i left) 13 d (left : Int)) P) := by
  intro m
  induction m with
  | zero =>
    intro j hj hij
    have e : j = left := by omega
    subst e
    rw [s8_22]
    simp only [en8, s8_0, s8_1, s8_2, s8_3, s8_6, s8_7, s8_8, s8_11, s8_12, s8_15, s8_16, s8_17, s8_19, s8_20, s8_24, s8_26, s8_29, s8_30, s8_33, s8_34, s8_36, s8_39, s8_40, s8_43, s8_44, s8_46, s8_47, s8_48, s8_51, s8_54, s8_57, s8_60, s8_63, s8_64, s8_67, s8_68, s8_70, s8_73, s8_74, cont_some, rl_some, rl_none, if_true, if_false, kd_0, kd_1, kd_2, kd_5, kd_47, kd_141, kd_144, rf_0_0, rf_0_1, rf_0_2, rf_0_3, rf_0_4, rf_1_0, rf_1_1, rf_1_2, rf_2_0, rf_5_0, rf_5_1, rf_5_2, rf_5_3, rf_5_4, rf_5_5, rf_5_6, rf_5_7, rf_47_0, rf_141_0, rf_144_0, rf_144_1, kd_3, kd_6, kd_8, kd_10, kd_12, kd_14, kd_16, kd_18, kd_20, kd_22, kd_142, kd_145, kd_147, kd_24, Int.le_refl, row_set R_he, rs_n hd]
  | succ m ih =>
    intro j hj hij
    have c1 : ¬ (left : Int) ≤ (j : Int) := by omega
    have e1 : shP M d i j 15 (6 * d + (j + 1)) = M 15 (6 * d + (j + 1)) := by
      unfold shP
      rw [if_neg (by omega)]
    rw [s8_22]
    simp only [en8, s8_0, s8_1, s8_2, s8_3, s8_6, s8_7, s8_8, s8_11, s8_12, s8_15, s8_16, s8_17, s8_19, s8_20, s8_24, s8_26, s8_29, s8_30, s8_33, s8_34, s8_36, s8_39, s8_40, s8_43, s8_44, s8_46, s8_47, s8_48, s8_51, s8_54, s8_57, s8_60, s8_63, s8_64, s8_67, s8_68, s8_70, s8_73, s8_74, cont_some, rl_some, rl_none, if_true, if_false, kd_0, kd_1, kd_2, kd_5, kd_47, kd_141, kd_144, rf_0_0, rf_0_1, rf_0_2, rf_0_3, rf_0_4, rf_1_0, rf_1_1, rf_1_2, rf_2_0, rf_5_0, rf_5_1, rf_5_2, rf_5_3, rf_5_4, rf_5_5, rf_5_6, rf_5_7, rf_47_0, rf_141_0, rf_144_0, rf_144_1, kd_3, kd_6, kd_8, kd_10, kd_12, kd_14, kd_16, kd_18, kd_20, kd_22, kd_142, kd_145, kd_147, kd_24, c1, ad_n j (by omega), cr_cell (show d ≤ 4 by omega) (show j ≤ 6 by omega), cr_cell (show d ≤ 4 by omega) (show j + 1 ≤ 6 by omega), row_get R_pi, rg_n (show 6 * d + (j + 1) < 24 by omega), row_set R_pi, rs_n (show 6 * d + j < 24 by omega), e1, shP_step hij]
    exact ih (j + 1) (by omega) (by omega)
theorem c_rmP {d i k : Nat} (hd : d < 4) (hk : M 13 d = ((k + 1 : Nat) : Int)) (hk6 : k < 6) (hi : i ≤ k) : evM 8 [Rf 5, I (d : Int), I (i : Int)] (Hp M P) = some (some (I (M 15 (6 * d + i))), Hp (wr (shP M d i k) 13 d (k : Int)) P) := by
  have e1 : sb ((k + 1 : Nat) : Int) 1 = (k : Int) := by rw [sb_eq (by omega) (by omega)]; omega
  simp only [en8, s8_0, s8_1, s8_2, s8_3, s8_6, s8_7, s8_8, s8_11, s8_12, s8_15, s8_16, s8_17, s8_19, s8_20, s8_24, s8_26, s8_29, s8_30, s8_33, s8_34, s8_36, s8_39, s8_40, s8_43, s8_44, s8_46, s8_47, s8_48, s8_51, s8_54, s8_57, s8_60, s8_63, s8_64, s8_67, s8_68, s8_70, s8_73, s8_74, cont_some, rl_some, rl_none, if_true, if_false, kd_0, kd_1, kd_2, kd_5, kd_47, kd_141, kd_144, rf_0_0, rf_0_1, rf_0_2, rf_0_3, rf_0_4, rf_1_0, rf_1_1, rf_1_2, rf_2_0, rf_5_0, rf_5_1, rf_5_2, rf_5_3, rf_5_4, rf_5_5, rf_5_6, rf_5_7, rf_47_0, rf_141_0, rf_144_0, rf_144_1, kd_3, kd_6, kd_8, kd_10, kd_12, kd_14, kd_16, kd_18, kd_20, kd_22, kd_142, kd_145, kd_147, kd_24, cr_pile hd (show i < 6 by omega), row_get R_he, rg_n hd, hk, e1]
  have h := c_rmP_loop (M := M) (P := P) (d := d) (i := i) (left := k) (x := M 15 (6 * d + i)) hd hk6 (k - i) i (by omega) (Nat.le_refl _)
  rw [shP_self] at h
  exact h
def toS (M : Mem) : Mem := wp (wp (wp (wp M 7 4) 9 4) 11 4) 13 4
theorem c_toShip : evM 3 [Rf 5] (Hp M P) = some (none, Hp (toS M) P) := by
  simp only [en3, s3_0, s3_1, s3_4, s3_7, s3_8, s3_11, s3_14, s3_15, s3_18, s3_21, s3_22, s3_25, s3_28, cont_some, rl_some, rl_none, if_true, if_false, kd_0, kd_1, kd_2, kd_5, kd_47, kd_141, kd_144, rf_0_0, rf_0_1, rf_0_2, rf_0_3, rf_0_4, rf_1_0, rf_1_1, rf_1_2, rf_2_0, rf_5_0, rf_5_1, rf_5_2, rf_5_3, rf_5_4, rf_5_5, rf_5_6, rf_5_7, rf_47_0, rf_141_0, rf_144_0, rf_144_1, kd_3, kd_6, kd_8, kd_10, kd_12, kd_14, kd_16, kd_18, kd_20, kd_22, kd_142, kd_145, kd_147, kd_24, row_wipe R_pl, row_wipe R_up, row_wipe R_ho, row_wipe R_he]
  rfl
theorem c_muster {x : Int} : evM 2 [Rf 5, I x] (Hp M P) = some (none, Hp (toS (wp (wp (wp (wr M 5 8 x) 17 4) 19 4) 21 4)) P) := by
  simp only [en2, s2_0, s2_1, s2_2, s2_5, s2_6, s2_9, s2_12, s2_13, s2_16, s2_19, s2_20, s2_23, s2_26, s2_27, s2_30, cont_some, rl_some, rl_none, if_true, if_false, kd_0, kd_1, kd_2, kd_5, kd_47, kd_141, kd_144, rf_0_0, rf_0_1, rf_0_2, rf_0_3, rf_0_4, rf_1_0, rf_1_1, rf_1_2, rf_2_0, rf_5_0, rf_5_1, rf_5_2, rf_5_3, rf_5_4, rf_5_5, rf_5_6, rf_5_7, rf_47_0, rf_141_0, rf_144_0, rf_144_1, kd_3, kd_6, kd_8, kd_10, kd_12, kd_14, kd_16, kd_18, kd_20, kd_22, kd_142, kd_145, kd_147, kd_24, row_wipe R_sc, row_wipe R_ow, row_wipe R_dr, c_toShip]
/-- the stacks of who is home are brought; who isn't is drowned: of the first k divers -/
def brg (M : Mem) (hl : Nat → Nat) (k : Nat) : Mem := fun a b => if b < k then
    (if a = 17 then (if M 11 b = 1 then ad (M 17 b) (va1 M hl b) else M 17 b)
     else if a = 19 then (if M 11 b = 1 then ad (M 19 b) (tr1 M hl b) else M 19 b)
     else if a = 21 then (if M 11 b = 1 then M 21 b else ad (M 21 b) 1)
     else M a b) else M a b
theorem brg_o {k a b : Nat} (h1 : a ≠ 17) (h2 : a ≠ 19) (h3 : a ≠ 21) : brg M hl k a b = M a b := by
  unfold brg
  rw [if_neg h1, if_neg h2, if_neg h3]
  split <;> rfl
theorem brg_0 : brg M hl 0 = M := by
  funext a b
  unfold brg
  rw [if_neg (by omega)]
theorem brg_ge {k a b : Nat} (h : k ≤ b) : brg M hl k a b = M a b := by
  unfold brg
  rw [if_neg (by omega)]
theorem c_bring_loop (h1 : CN M n) (h2 : CH M n hl) (h3 : CPi M n hl) : ∀ (m d : Nat), d + m = n → evL 22 2 [Rf 5, I (d : Int)] [] (Hp (brg M hl d) P) = some (none, Hp (brg M hl n) P) := by
  have h4 := h1.2
  have h5 := h1.1
  have g1 : ∀ d, CN (brg M hl d) n := fun d => ⟨by rw [brg_o (by omega) (by omega) (by omega)]; exact h5, h4⟩
  have g2 : ∀ d, CH (brg M hl d) n hl := fun d e he => ⟨(h2 e he).1, by rw [brg_o (by omega) (by omega) (by omega)]; exact (h2 e he).2⟩
  have g3 : ∀ d, CPi (brg M hl d) n hl := fun d e he i hi => by rw [brg_o (by omega) (by omega) (by omega)]; exact h3 e he i hi
  have g4 : ∀ d e, va1 (brg M hl d) hl e = va1 M hl e := fun d e => by
    unfold va1
    exact sumN_congr _ (fun i _ => by rw [brg_o (by omega) (by omega) (by omega)])
  have g5 : ∀ d e, tr1 (brg M hl d) hl e = tr1 M hl e := fun d e => by
    unfold tr1
    exact sumN_congr _ (fun i _ => by rw [brg_o (by omega) (by omega) (by omega)])
  intro m
  induction m with
  | zero =>
    intro d hd
    have e : d = n := by omega
    subst e
    have e8 := (g1 d).1
    rw [s22_2]
    simp only [en22, s22_0, s22_1, s22_3, s22_4, s22_7, s22_10, s22_11, s22_12, s22_15, s22_18, s22_19, s22_22, s22_23, s22_24, s22_25, s22_28, s22_31, s22_32, s22_35, s22_36, s22_37, s22_38, s22_41, s22_44, s22_47, s22_48, s22_51, s22_52, s22_53, s22_56, s22_59, s22_62, cont_some, rl_some, rl_none, if_true, if_false, kd_0, kd_1, kd_2, kd_5, kd_47, kd_141, kd_144, rf_0_0, rf_0_1, rf_0_2, rf_0_3, rf_0_4, rf_1_0, rf_1_1, rf_1_2, rf_2_0, rf_5_0, rf_5_1, rf_5_2, rf_5_3, rf_5_4, rf_5_5, rf_5_6, rf_5_7, rf_47_0, rf_141_0, rf_144_0, rf_144_1, kd_3, kd_6, kd_8, kd_10, kd_12, kd_14, kd_16, kd_18, kd_20, kd_22, kd_142, kd_145, kd_147, kd_24, e8, Int.le_refl]
  | succ m ih =>
    intro d hd
    have hd2 : d < n := by omega
    have hd4 : d < 4 := by omega
    have c1 : ¬ (n : Int) ≤ (d : Int) := by omega
    have e8 := (g1 d).1
    have e11 : brg M hl d 11 d = M 11 d := brg_ge (Nat.le_refl _)
    have e17 : brg M hl d 17 d = M 17 d := brg_ge (Nat.le_refl _)
    have e19 : brg M hl d 19 d = M 19 d := brg_ge (Nat.le_refl _)
    have e21 : brg M hl d 21 d = M 21 d := brg_ge (Nat.le_refl _)
    rw [s22_2]
    by_cases c2 : M 11 d = 1
    · have hh := c_home (M := brg M hl d) (P := P) hd4
      rw [e11, if_pos c2] at hh
      have w1 : CN (wr (brg M hl d) 17 d (ad (M 17 d) (va1 M hl d))) n := ⟨by rw [wr_app, if_neg (by omega)]; exact e8, h4⟩
      have w2 : CH (wr (brg M hl d) 17 d (ad (M 17 d) (va1 M hl d))) n hl := fun e he => ⟨(h2 e he).1, by rw [wr_app, if_neg (by omega)]; exact ((g2 d) e he).2⟩
      have w3 : CPi (wr (brg M hl d) 17 d (ad (M 17 d) (va1 M hl d))) n hl := fun e he i hi => by rw [wr_app, if_neg (by omega)]; exact (g3 d) e he i hi
      have w5 : tr1 (wr (brg M hl d) 17 d (ad (M 17 d) (va1 M hl d))) hl d = tr1 M hl d := by
        rw [← g5 d d]
        unfold tr1
        exact sumN_congr _ (fun i _ => by rw [wr_app, if_neg (by omega)])
      have w6 : wr (brg M hl d) 17 d (ad (M 17 d) (va1 M hl d)) 19 d = M 19 d := by rw [wr_app, if_neg (by omega), e19]
      have w7 : wr (wr (brg M hl d) 17 d (ad (M 17 d) (va1 M hl d))) 19 d (ad (M 19 d) (tr1 M hl d)) = brg M hl (d + 1) := by
        funext a b
        by_cases hb : b = d
        · subst hb
          unfold wr
          by_cases a19 : a = 19
          · subst a19; simp [brg, c2]
          · by_cases a17 : a = 17
            · subst a17; simp [brg, c2]
            · rw [if_neg (by omega), if_neg (by omega), brg_ge (Nat.le_refl _)]
              by_cases a21 : a = 21
              · subst a21; simp [brg, c2]
              · rw [brg_o a17 a19 a21]
        · unfold wr
          rw [if_neg (by omega), if_neg (by omega)]
          unfold brg
          by_cases hlt : b < d
          · rw [if_pos hlt, if_pos (show b < d + 1 by omega)]
          · rw [if_neg hlt, if_neg (show ¬ b < d + 1 by omega)]
      simp only [en22, s22_0, s22_1, s22_3, s22_4, s22_7, s22_10, s22_11, s22_12, s22_15, s22_18, s22_19, s22_22, s22_23, s22_24, s22_25, s22_28, s22_31, s22_32, s22_35, s22_36, s22_37, s22_38, s22_41, s22_44, s22_47, s22_48, s22_51, s22_52, s22_53, s22_56, s22_59, s22_62, cont_some, rl_some, rl_none, if_true, if_false, kd_0, kd_1, kd_2, kd_5, kd_47, kd_141, kd_144, rf_0_0, rf_0_1, rf_0_2, rf_0_3, rf_0_4, rf_1_0, rf_1_1, rf_1_2, rf_2_0, rf_5_0, rf_5_1, rf_5_2, rf_5_3, rf_5_4, rf_5_5, rf_5_6, rf_5_7, rf_47_0, rf_141_0, rf_144_0, rf_144_1, kd_3, kd_6, kd_8, kd_10, kd_12, kd_14, kd_16, kd_18, kd_20, kd_22, kd_142, kd_145, kd_147, kd_24, e8, c1, hh, Int.one_ne_zero, c_val (g1 d) (g2 d) (g3 d) hd2, g4, row_add R_sc, rg_n hd4, e17, rs_n hd4, c_tre w1 w2 w3 hd2, w5, row_add R_ow, w6, w7, ad_n d (by omega)]
      exact ih (d + 1) (by omega)
    · have hh := c_home (M := brg M hl d) (P := P) hd4
      rw [e11, if_neg c2] at hh
      have w7 : wr (brg M hl d) 21 d (ad (M 21 d) 1) = brg M hl (d + 1) := by
        funext a b
        by_cases hb : b = d
        · subst hb
          unfold wr
          by_cases a21 : a = 21
          · subst a21; simp [brg, c2]
          · rw [if_neg (by omega), brg_ge (Nat.le_refl _)]
            by_cases a17 : a = 17
            · subst a17; simp [brg, c2]
            · by_cases a19 : a = 19
              · subst a19; simp [brg, c2]
              · rw [brg_o a17 a19 a21]
        · unfold wr
          rw [if_neg (by omega)]
          unfold brg
          by_cases hlt : b < d
          · rw [if_pos hlt, if_pos (show b < d + 1 by omega)]
          · rw [if_neg hlt, if_neg (show ¬ b < d + 1 by omega)]
      simp only [en22, s22_0, s22_1, s22_3, s22_4, s22_7, s22_10, s22_11, s22_12, s22_15, s22_18, s22_19, s22_22, s22_23, s22_24, s22_25, s22_28, s22_31, s22_32, s22_35, s22_36, s22_37, s22_38, s22_41, s22_44, s22_47, s22_48, s22_51, s22_52, s22_53, s22_56, s22_59, s22_62, cont_some, rl_some, rl_none, if_true, if_false, kd_0, kd_1, kd_2, kd_5, kd_47, kd_141, kd_144, rf_0_0, rf_0_1, rf_0_2, rf_0_3, rf_0_4, rf_1_0, rf_1_1, rf_1_2, rf_2_0, rf_5_0, rf_5_1, rf_5_2, rf_5_3, rf_5_4, rf_5_5, rf_5_6, rf_5_7, rf_47_0, rf_141_0, rf_144_0, rf_144_1, kd_3, kd_6, kd_8, kd_10, kd_12, kd_14, kd_16, kd_18, kd_20, kd_22, kd_142, kd_145, kd_147, kd_24, e8, c1, hh, row_add R_dr, rg_n hd4, e21, rs_n hd4, w7, ad_n d (by omega)]
      exact ih (d + 1) (by omega)
theorem c_bring (h1 : CN M n) (h2 : CH M n hl) (h3 : CPi M n hl) : evM 22 [Rf 5] (Hp M P) = some (none, Hp (brg M hl n) P) := by
  simp only [en22, s22_0, s22_1, s22_3, s22_4, s22_7, s22_10, s22_11, s22_12, s22_15, s22_18, s22_19, s22_22, s22_23, s22_24, s22_25, s22_28, s22_31, s22_32, s22_35, s22_36, s22_37, s22_38, s22_41, s22_44, s22_47, s22_48, s22_51, s22_52, s22_53, s22_56, s22_59, s22_62]
  have h := c_bring_loop (P := P) h1 h2 h3 n 0 (by omega)
  rw [brg_0] at h
  exact h
/-- what diver(d, w) tells -/
def pOf (M : Mem) (hl : Nat → Nat) (d : Nat) (w : Int) : Int := if w = 0 then M 7 d else if w = 1 then M 9 d else if w = 2 then M 11 d else if w = 3 then M 13 d else if w = 4 then tr1 M hl d else if w = 5 then va1 M hl d else if w = 6 then M 17 d else if w = 7 then M 19 d else if w = 8 then M 21 d else -1
theorem c_prop (h1 : CN M n) (h2 : CH M n hl) (h3 : CPi M n hl) {d : Nat} (hd : d < n) {w : Int} : evM 4 [Rf 5, I (d : Int), I w] (Hp M P) = some (some (I (pOf M hl d w)), Hp M P) := by
  have h4 := h1.2
  have hd4 : d < 4 := by omega
  by_cases hw : w < 0 ∨ 8 < w
  · have e : pOf M hl d w = -1 := by
      unfold pOf
      rw [if_neg (by omega), if_neg (by omega), if_neg (by omega), if_neg (by omega), if_neg (by omega), if_neg (by omega), if_neg (by omega), if_neg (by omega), if_neg (by omega)]
    rw [e]
    simp only [en4, s4_0, s4_1_0, s4_1_1, s4_1_2, s4_1_3, s4_1_4, s4_1_5, s4_1_6, s4_1_7, s4_1_8, s4_1_d, s4_52, s4_53, s4_56, s4_57, s4_60, s4_61, s4_62, s4_65, s4_66, s4_69, s4_70, s4_71, s4_74, s4_75, s4_78, s4_79, s4_80, s4_83, s4_84, s4_87, s4_88, s4_89, s4_90, s4_93, s4_94, s4_95, s4_96, s4_99, s4_100, s4_101, s4_104, s4_105, s4_108, s4_109, s4_110, s4_113, s4_114, s4_117, s4_118, s4_119, s4_122, s4_123, s4_126, s4_127, s4_128, cont_some, rl_some, rl_none, if_true, if_false, kd_0, kd_1, kd_2, kd_5, kd_47, kd_141, kd_144, rf_0_0, rf_0_1, rf_0_2, rf_0_3, rf_0_4, rf_1_0, rf_1_1, rf_1_2, rf_2_0, rf_5_0, rf_5_1, rf_5_2, rf_5_3, rf_5_4, rf_5_5, rf_5_6, rf_5_7, rf_47_0, rf_141_0, rf_144_0, rf_144_1, kd_3, kd_6, kd_8, kd_10, kd_12, kd_14, kd_16, kd_18, kd_20, kd_22, kd_142, kd_145, kd_147, kd_24, s4_1_d hw]
  · have hw2 : w = 0 ∨ w = 1 ∨ w = 2 ∨ w = 3 ∨ w = 4 ∨ w = 5 ∨ w = 6 ∨ w = 7 ∨ w = 8 := by omega
    rcases hw2 with rfl | rfl | rfl | rfl | rfl | rfl | rfl | rfl | rfl
    · simp only [en4, s4_0, s4_52, s4_53, s4_56, s4_57, s4_60, s4_61, s4_62, s4_65, s4_66, s4_69, s4_70, s4_71, s4_74, s4_75, s4_78, s4_79, s4_80, s4_83, s4_84, s4_87, s4_88, s4_89, s4_90, s4_93, s4_94, s4_95, s4_96, s4_99, s4_100, s4_101, s4_104, s4_105, s4_108, s4_109, s4_110, s4_113, s4_114, s4_117, s4_118, s4_119, s4_122, s4_123, s4_126, s4_127, s4_128, s4_1_0, cont_some, rl_some, rl_none, if_true, if_false, kd_0, kd_1, kd_2, kd_5, kd_47, kd_141, kd_144, rf_0_0, rf_0_1, rf_0_2, rf_0_3, rf_0_4, rf_1_0, rf_1_1, rf_1_2, rf_2_0, rf_5_0, rf_5_1, rf_5_2, rf_5_3, rf_5_4, rf_5_5, rf_5_6, rf_5_7, rf_47_0, rf_141_0, rf_144_0, rf_144_1, kd_3, kd_6, kd_8, kd_10, kd_12, kd_14, kd_16, kd_18, kd_20, kd_22, kd_142, kd_145, kd_147, kd_24, row_get R_pl, rg_n hd4]; rfl
    · simp only [en4, s4_0, s4_52, s4_53, s4_56, s4_57, s4_60, s4_61, s4_62, s4_65, s4_66, s4_69, s4_70, s4_71, s4_74, s4_75, s4_78, s4_79, s4_80, s4_83, s4_84, s4_87, s4_88, s4_89, s4_90, s4_93, s4_94, s4_95, s4_96, s4_99, s4_100, s4_101, s4_104, s4_105, s4_108, s4_109, s4_110, s4_113, s4_114, s4_117, s4_118, s4_119, s4_122, s4_123, s4_126, s4_127, s4_128, s4_1_1, cont_some, rl_some, rl_none, if_true, if_false, kd_0, kd_1, kd_2, kd_5, kd_47, kd_141, kd_144, rf_0_0, rf_0_1, rf_0_2, rf_0_3, rf_0_4, rf_1_0, rf_1_1, rf_1_2, rf_2_0, rf_5_0, rf_5_1, rf_5_2, rf_5_3, rf_5_4, rf_5_5, rf_5_6, rf_5_7, rf_47_0, rf_141_0, rf_144_0, rf_144_1, kd_3, kd_6, kd_8, kd_10, kd_12, kd_14, kd_16, kd_18, kd_20, kd_22, kd_142, kd_145, kd_147, kd_24, row_get R_up, rg_n hd4]; rfl
    · simp only [en4, s4_0, s4_52, s4_53, s4_56, s4_57, s4_60, s4_61, s4_62, s4_65, s4_66, s4_69, s4_70, s4_71, s4_74, s4_75, s4_78, s4_79, s4_80, s4_83, s4_84, s4_87, s4_88, s4_89, s4_90, s4_93, s4_94, s4_95, s4_96, s4_99, s4_100, s4_101, s4_104, s4_105, s4_108, s4_109, s4_110, s4_113, s4_114, s4_117, s4_118, s4_119, s4_122, s4_123, s4_126, s4_127, s4_128, s4_1_2, cont_some, rl_some, rl_none, if_true, if_false, kd_0, kd_1, kd_2, kd_5, kd_47, kd_141, kd_144, rf_0_0, rf_0_1, rf_0_2, rf_0_3, rf_0_4, rf_1_0, rf_1_1, rf_1_2, rf_2_0, rf_5_0, rf_5_1, rf_5_2, rf_5_3, rf_5_4, rf_5_5, rf_5_6, rf_5_7, rf_47_0, rf_141_0, rf_144_0, rf_144_1, kd_3, kd_6, kd_8, kd_10, kd_12, kd_14, kd_16, kd_18, kd_20, kd_22, kd_142, kd_145, kd_147, kd_24, row_get R_ho, rg_n hd4]; rfl
    · simp only [en4, s4_0, s4_52, s4_53, s4_56, s4_57, s4_60, s4_61, s4_62, s4_65, s4_66, s4_69, s4_70, s4_71, s4_74, s4_75, s4_78, s4_79, s4_80, s4_83, s4_84, s4_87, s4_88, s4_89, s4_90, s4_93, s4_94, s4_95, s4_96, s4_99, s4_100, s4_101, s4_104, s4_105, s4_108, s4_109, s4_110, s4_113, s4_114, s4_117, s4_118, s4_119, s4_122, s4_123, s4_126, s4_127, s4_128, s4_1_3, cont_some, rl_some, rl_none, if_true, if_false, kd_0, kd_1, kd_2, kd_5, kd_47, kd_141, kd_144, rf_0_0, rf_0_1, rf_0_2, rf_0_3, rf_0_4, rf_1_0, rf_1_1, rf_1_2, rf_2_0, rf_5_0, rf_5_1, rf_5_2, rf_5_3, rf_5_4, rf_5_5, rf_5_6, rf_5_7, rf_47_0, rf_141_0, rf_144_0, rf_144_1, kd_3, kd_6, kd_8, kd_10, kd_12, kd_14, kd_16, kd_18, kd_20, kd_22, kd_142, kd_145, kd_147, kd_24, row_get R_he, rg_n hd4]; rfl
    · simp only [en4, s4_0, s4_52, s4_53, s4_56, s4_57, s4_60, s4_61, s4_62, s4_65, s4_66, s4_69, s4_70, s4_71, s4_74, s4_75, s4_78, s4_79, s4_80, s4_83, s4_84, s4_87, s4_88, s4_89, s4_90, s4_93, s4_94, s4_95, s4_96, s4_99, s4_100, s4_101, s4_104, s4_105, s4_108, s4_109, s4_110, s4_113, s4_114, s4_117, s4_118, s4_119, s4_122, s4_123, s4_126, s4_127, s4_128, s4_1_4, cont_some, rl_some, rl_none, if_true, if_false, kd_0, kd_1, kd_2, kd_5, kd_47, kd_141, kd_144, rf_0_0, rf_0_1, rf_0_2, rf_0_3, rf_0_4, rf_1_0, rf_1_1, rf_1_2, rf_2_0, rf_5_0, rf_5_1, rf_5_2, rf_5_3, rf_5_4, rf_5_5, rf_5_6, rf_5_7, rf_47_0, rf_141_0, rf_144_0, rf_144_1, kd_3, kd_6, kd_8, kd_10, kd_12, kd_14, kd_16, kd_18, kd_20, kd_22, kd_142, kd_145, kd_147, kd_24, c_tre h1 h2 h3 hd]; rfl
    · simp only [en4, s4_0, s4_52, s4_53, s4_56, s4_57, s4_60, s4_61, s4_62, s4_65, s4_66, s4_69, s4_70, s4_71, s4_74, s4_75, s4_78, s4_79, s4_80, s4_83, s4_84, s4_87, s4_88, s4_89, s4_90, s4_93, s4_94, s4_95, s4_96, s4_99, s4_100, s4_101, s4_104, s4_105, s4_108, s4_109, s4_110, s4_113, s4_114, s4_117, s4_118, s4_119, s4_122, s4_123, s4_126, s4_127, s4_128, s4_1_5, cont_some, rl_some, rl_none, if_true, if_false, kd_0, kd_1, kd_2, kd_5, kd_47, kd_141, kd_144, rf_0_0, rf_0_1, rf_0_2, rf_0_3, rf_0_4, rf_1_0, rf_1_1, rf_1_2, rf_2_0, rf_5_0, rf_5_1, rf_5_2, rf_5_3, rf_5_4, rf_5_5, rf_5_6, rf_5_7, rf_47_0, rf_141_0, rf_144_0, rf_144_1, kd_3, kd_6, kd_8, kd_10, kd_12, kd_14, kd_16, kd_18, kd_20, kd_22, kd_142, kd_145, kd_147, kd_24, c_val h1 h2 h3 hd]; rfl
    · simp only [en4, s4_0, s4_52, s4_53, s4_56, s4_57, s4_60, s4_61, s4_62, s4_65, s4_66, s4_69, s4_70, s4_71, s4_74, s4_75, s4_78, s4_79, s4_80, s4_83, s4_84, s4_87, s4_88, s4_89, s4_90, s4_93, s4_94, s4_95, s4_96, s4_99, s4_100, s4_101, s4_104, s4_105, s4_108, s4_109, s4_110, s4_113, s4_114, s4_117, s4_118, s4_119, s4_122, s4_123, s4_126, s4_127, s4_128, s4_1_6, cont_some, rl_some, rl_none, if_true, if_false, kd_0, kd_1, kd_2, kd_5, kd_47, kd_141, kd_144, rf_0_0, rf_0_1, rf_0_2, rf_0_3, rf_0_4, rf_1_0, rf_1_1, rf_1_2, rf_2_0, rf_5_0, rf_5_1, rf_5_2, rf_5_3, rf_5_4, rf_5_5, rf_5_6, rf_5_7, rf_47_0, rf_141_0, rf_144_0, rf_144_1, kd_3, kd_6, kd_8, kd_10, kd_12, kd_14, kd_16, kd_18, kd_20, kd_22, kd_142, kd_145, kd_147, kd_24, row_get R_sc, rg_n hd4]; rfl
    · simp only [en4, s4_0, s4_52, s4_53, s4_56, s4_57, s4_60, s4_61, s4_62, s4_65, s4_66, s4_69, s4_70, s4_71, s4_74, s4_75, s4_78, s4_79, s4_80, s4_83, s4_84, s4_87, s4_88, s4_89, s4_90, s4_93, s4_94, s4_95, s4_96, s4_99, s4_100, s4_101, s4_104, s4_105, s4_108, s4_109, s4_110, s4_113, s4_114, s4_117, s4_118, s4_119, s4_122, s4_123, s4_126, s4_127, s4_128, s4_1_7, cont_some, rl_some, rl_none, if_true, if_false, kd_0, kd_1, kd_2, kd_5, kd_47, kd_141, kd_144, rf_0_0, rf_0_1, rf_0_2, rf_0_3, rf_0_4, rf_1_0, rf_1_1, rf_1_2, rf_2_0, rf_5_0, rf_5_1, rf_5_2, rf_5_3, rf_5_4, rf_5_5, rf_5_6, rf_5_7, rf_47_0, rf_141_0, rf_144_0, rf_144_1, kd_3, kd_6, kd_8, kd_10, kd_12, kd_14, kd_16, kd_18, kd_20, kd_22, kd_142, kd_145, kd_147, kd_24, row_get R_ow, rg_n hd4]; rfl
    · simp only [en4, s4_0, s4_52, s4_53, s4_56, s4_57, s4_60, s4_61, s4_62, s4_65, s4_66, s4_69, s4_70, s4_71, s4_74, s4_75, s4_78, s4_79, s4_80, s4_83, s4_84, s4_87, s4_88, s4_89, s4_90, s4_93, s4_94, s4_95, s4_96, s4_99, s4_100, s4_101, s4_104, s4_105, s4_108, s4_109, s4_110, s4_113, s4_114, s4_117, s4_118, s4_119, s4_122, s4_123, s4_126, s4_127, s4_128, s4_1_8, cont_some, rl_some, rl_none, if_true, if_false, kd_0, kd_1, kd_2, kd_5, kd_47, kd_141, kd_144, rf_0_0, rf_0_1, rf_0_2, rf_0_3, rf_0_4, rf_1_0, rf_1_1, rf_1_2, rf_2_0, rf_5_0, rf_5_1, rf_5_2, rf_5_3, rf_5_4, rf_5_5, rf_5_6, rf_5_7, rf_47_0, rf_141_0, rf_144_0, rf_144_1, kd_3, kd_6, kd_8, kd_10, kd_12, kd_14, kd_16, kd_18, kd_20, kd_22, kd_142, kd_145, kd_147, kd_24, row_get R_dr, rg_n hd4]; rfl
end Crew3
