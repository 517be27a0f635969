/-! ===== Pad ===== -/
section Pad
variable {M : Mem} {P : PMem} {L : Nat}
theorem pd_len : evM 59 [Rf 141] (Hp M P) = some (some (I (M 141 1)), Hp M P) := by
  simp only [en59, s59_0, s59_1, s59_4, cont_some, rl_some, rl_none, if_true, if_false, kd_0, kd_1, kd_2, kd_5, kd_47, kd_141, kd_144, rf_0_0, rf_0_1, rf_0_2, rf_0_3, rf_0_4, rf_1_0, rf_1_1, rf_1_2, rf_2_0, rf_5_0, rf_5_1, rf_5_2, rf_5_3, rf_5_4, rf_5_5, rf_5_6, rf_5_7, rf_47_0, rf_141_0, rf_144_0, rf_144_1, kd_3, kd_6, kd_8, kd_10, kd_12, kd_14, kd_16, kd_18, kd_20, kd_22, kd_142, kd_145, kd_147, kd_24]
theorem pd_at {k : Nat} (h : k < 60) : evM 60 [Rf 141, I (k : Int)] (Hp M P) = some (some (I (M 143 k)), Hp M P) := by
  simp only [en60, s60_0, s60_1, s60_4, s60_5, s60_8, cont_some, rl_some, rl_none, if_true, if_false, kd_0, kd_1, kd_2, kd_5, kd_47, kd_141, kd_144, rf_0_0, rf_0_1, rf_0_2, rf_0_3, rf_0_4, rf_1_0, rf_1_1, rf_1_2, rf_2_0, rf_5_0, rf_5_1, rf_5_2, rf_5_3, rf_5_4, rf_5_5, rf_5_6, rf_5_7, rf_47_0, rf_141_0, rf_144_0, rf_144_1, kd_3, kd_6, kd_8, kd_10, kd_12, kd_14, kd_16, kd_18, kd_20, kd_22, kd_142, kd_145, kd_147, kd_24, row_get R_pad, rg_n h]
theorem pd_at' {x : Int} : evM 60 [Rf 141, I x] (Hp M P) = some (some (I (rg M 143 60 x)), Hp M P) := by
  simp only [en60, s60_0, s60_1, s60_4, s60_5, s60_8, cont_some, rl_some, rl_none, if_true, if_false, kd_0, kd_1, kd_2, kd_5, kd_47, kd_141, kd_144, rf_0_0, rf_0_1, rf_0_2, rf_0_3, rf_0_4, rf_1_0, rf_1_1, rf_1_2, rf_2_0, rf_5_0, rf_5_1, rf_5_2, rf_5_3, rf_5_4, rf_5_5, rf_5_6, rf_5_7, rf_47_0, rf_141_0, rf_144_0, rf_144_1, kd_3, kd_6, kd_8, kd_10, kd_12, kd_14, kd_16, kd_18, kd_20, kd_22, kd_142, kd_145, kd_147, kd_24, row_get R_pad]
theorem pd_full (hL : M 141 1 = 60) {c : Int} : evM 61 [Rf 141, I c] (Hp M P) = some (some (I (-3)), Hp M P) := by
  have h1 : ¬ (60 : Int) < 60 := by omega
  simp only [en61, s61_0, s61_1, s61_4, s61_6, s61_9, s61_11, s61_12, s61_13, s61_16, s61_17, s61_20, s61_21, s61_24, s61_25, s61_26, s61_29, s61_30, s61_31, s61_34, s61_35, s61_38, cont_some, rl_some, rl_none, if_true, if_false, kd_0, kd_1, kd_2, kd_5, kd_47, kd_141, kd_144, rf_0_0, rf_0_1, rf_0_2, rf_0_3, rf_0_4, rf_1_0, rf_1_1, rf_1_2, rf_2_0, rf_5_0, rf_5_1, rf_5_2, rf_5_3, rf_5_4, rf_5_5, rf_5_6, rf_5_7, rf_47_0, rf_141_0, rf_144_0, rf_144_1, kd_3, kd_6, kd_8, kd_10, kd_12, kd_14, kd_16, kd_18, kd_20, kd_22, kd_142, kd_145, kd_147, kd_24, hL, h1]
theorem pd_write (hL : M 141 1 = (L : Int)) (h6 : L < 60) {c : Int} : evM 61 [Rf 141, I c] (Hp M P) = some (some (I ((L + 1 : Nat) : Int)), Hp (wr (wr M 143 L c) 141 1 ((L + 1 : Nat) : Int)) P) := by
  have h1 : (L : Int) < 60 := by omega
  have e1 : wr M 143 L c 141 1 = (L : Int) := by rw [wr_app, if_neg (by omega)]; exact hL
  have e2 : wr (wr M 143 L c) 141 1 ((L + 1 : Nat) : Int) 141 1 = ((L + 1 : Nat) : Int) := by rw [wr_app, if_pos ⟨rfl, rfl⟩]
  simp only [en61, s61_0, s61_1, s61_4, s61_6, s61_9, s61_11, s61_12, s61_13, s61_16, s61_17, s61_20, s61_21, s61_24, s61_25, s61_26, s61_29, s61_30, s61_31, s61_34, s61_35, s61_38, cont_some, rl_some, rl_none, if_true, if_false, kd_0, kd_1, kd_2, kd_5, kd_47, kd_141, kd_144, rf_0_0, rf_0_1, rf_0_2, rf_0_3, rf_0_4, rf_1_0, rf_1_1, rf_1_2, rf_2_0, rf_5_0, rf_5_1, rf_5_2, rf_5_3, rf_5_4, rf_5_5, rf_5_6, rf_5_7, rf_47_0, rf_141_0, rf_144_0, rf_144_1, kd_3, kd_6, kd_8, kd_10, kd_12, kd_14, kd_16, kd_18, kd_20, kd_22, kd_142, kd_145, kd_147, kd_24, hL, h1, row_set R_pad, rs_n h6, e1, ad_n L (by omega), e2]
theorem pd_wipe : evM 62 [Rf 141] (Hp M P) = some (some (I (M 141 1)), Hp (wr M 141 1 0) P) := by
  simp only [en62, s62_0, s62_1, s62_4, s62_5, s62_6, s62_7, s62_10, s62_11, cont_some, rl_some, rl_none, if_true, if_false, kd_0, kd_1, kd_2, kd_5, kd_47, kd_141, kd_144, rf_0_0, rf_0_1, rf_0_2, rf_0_3, rf_0_4, rf_1_0, rf_1_1, rf_1_2, rf_2_0, rf_5_0, rf_5_1, rf_5_2, rf_5_3, rf_5_4, rf_5_5, rf_5_6, rf_5_7, rf_47_0, rf_141_0, rf_144_0, rf_144_1, kd_3, kd_6, kd_8, kd_10, kd_12, kd_14, kd_16, kd_18, kd_20, kd_22, kd_142, kd_145, kd_147, kd_24]
def dB (due lt : Int) : Int := if due = 1 then (if lt = 100 ∨ lt = 117 then 2 else 0) else if due = 3 then (if 48 ≤ lt ∧ lt ≤ 53 then 1 else 0) else if lt = 108 then 3 else if lt = 116 ∨ lt = 110 then 1 else 0
theorem pd_due {due lt : Int} {h : AH} : evM 64 [I due, I lt] h = some (some (I (dB due lt)), h) := by
  unfold dB
  by_cases c1 : due = 1
  · by_cases c2 : lt = 100
    · simp only [en64, s64_0, s64_1, s64_2, s64_5, s64_6, s64_8, s64_11, s64_12, s64_14, s64_17, s64_18, s64_21, s64_22, s64_23, s64_24, s64_25, s64_28, s64_29, s64_31, s64_34, s64_35, s64_37, s64_40, s64_41, s64_44, s64_45, s64_46, s64_47, s64_49, s64_52, s64_53, s64_54, s64_55, s64_57, s64_60, s64_61, s64_63, s64_66, s64_67, s64_70, s64_71, cont_some, rl_some, rl_none, if_true, if_false, kd_0, kd_1, kd_2, kd_5, kd_47, kd_141, kd_144, rf_0_0, rf_0_1, rf_0_2, rf_0_3, rf_0_4, rf_1_0, rf_1_1, rf_1_2, rf_2_0, rf_5_0, rf_5_1, rf_5_2, rf_5_3, rf_5_4, rf_5_5, rf_5_6, rf_5_7, rf_47_0, rf_141_0, rf_144_0, rf_144_1, kd_3, kd_6, kd_8, kd_10, kd_12, kd_14, kd_16, kd_18, kd_20, kd_22, kd_142, kd_145, kd_147, kd_24, c1, c2, true_or]
    · by_cases c3 : lt = 117
      · have d0 : ¬ (117 : Int) = 100 := by omega
        simp only [en64, s64_0, s64_1, s64_2, s64_5, s64_6, s64_8, s64_11, s64_12, s64_14, s64_17, s64_18, s64_21, s64_22, s64_23, s64_24, s64_25, s64_28, s64_29, s64_31, s64_34, s64_35, s64_37, s64_40, s64_41, s64_44, s64_45, s64_46, s64_47, s64_49, s64_52, s64_53, s64_54, s64_55, s64_57, s64_60, s64_61, s64_63, s64_66, s64_67, s64_70, s64_71, cont_some, rl_some, rl_none, if_true, if_false, kd_0, kd_1, kd_2, kd_5, kd_47, kd_141, kd_144, rf_0_0, rf_0_1, rf_0_2, rf_0_3, rf_0_4, rf_1_0, rf_1_1, rf_1_2, rf_2_0, rf_5_0, rf_5_1, rf_5_2, rf_5_3, rf_5_4, rf_5_5, rf_5_6, rf_5_7, rf_47_0, rf_141_0, rf_144_0, rf_144_1, kd_3, kd_6, kd_8, kd_10, kd_12, kd_14, kd_16, kd_18, kd_20, kd_22, kd_142, kd_145, kd_147, kd_24, c1, c2, c3, d0, or_true]
      · simp only [en64, s64_0, s64_1, s64_2, s64_5, s64_6, s64_8, s64_11, s64_12, s64_14, s64_17, s64_18, s64_21, s64_22, s64_23, s64_24, s64_25, s64_28, s64_29, s64_31, s64_34, s64_35, s64_37, s64_40, s64_41, s64_44, s64_45, s64_46, s64_47, s64_49, s64_52, s64_53, s64_54, s64_55, s64_57, s64_60, s64_61, s64_63, s64_66, s64_67, s64_70, s64_71, cont_some, rl_some, rl_none, if_true, if_false, kd_0, kd_1, kd_2, kd_5, kd_47, kd_141, kd_144, rf_0_0, rf_0_1, rf_0_2, rf_0_3, rf_0_4, rf_1_0, rf_1_1, rf_1_2, rf_2_0, rf_5_0, rf_5_1, rf_5_2, rf_5_3, rf_5_4, rf_5_5, rf_5_6, rf_5_7, rf_47_0, rf_141_0, rf_144_0, rf_144_1, kd_3, kd_6, kd_8, kd_10, kd_12, kd_14, kd_16, kd_18, kd_20, kd_22, kd_142, kd_145, kd_147, kd_24, c1, c2, c3, or_false]
  · by_cases c2 : due = 3
    · have d1 : ¬ (3 : Int) = 1 := by omega
      by_cases c3 : lt < 48
      · have c4 : ¬ (48 ≤ lt ∧ lt ≤ 53) := by omega
        simp only [en64, s64_0, s64_1, s64_2, s64_5, s64_6, s64_8, s64_11, s64_12, s64_14, s64_17, s64_18, s64_21, s64_22, s64_23, s64_24, s64_25, s64_28, s64_29, s64_31, s64_34, s64_35, s64_37, s64_40, s64_41, s64_44, s64_45, s64_46, s64_47, s64_49, s64_52, s64_53, s64_54, s64_55, s64_57, s64_60, s64_61, s64_63, s64_66, s64_67, s64_70, s64_71, cont_some, rl_some, rl_none, if_true, if_false, kd_0, kd_1, kd_2, kd_5, kd_47, kd_141, kd_144, rf_0_0, rf_0_1, rf_0_2, rf_0_3, rf_0_4, rf_1_0, rf_1_1, rf_1_2, rf_2_0, rf_5_0, rf_5_1, rf_5_2, rf_5_3, rf_5_4, rf_5_5, rf_5_6, rf_5_7, rf_47_0, rf_141_0, rf_144_0, rf_144_1, kd_3, kd_6, kd_8, kd_10, kd_12, kd_14, kd_16, kd_18, kd_20, kd_22, kd_142, kd_145, kd_147, kd_24, d1, c2, c3, c4]
      · by_cases c5 : 53 < lt
        · have c4 : ¬ (48 ≤ lt ∧ lt ≤ 53) := by omega
          simp only [en64, s64_0, s64_1, s64_2, s64_5, s64_6, s64_8, s64_11, s64_12, s64_14, s64_17, s64_18, s64_21, s64_22, s64_23, s64_24, s64_25, s64_28, s64_29, s64_31, s64_34, s64_35, s64_37, s64_40, s64_41, s64_44, s64_45, s64_46, s64_47, s64_49, s64_52, s64_53, s64_54, s64_55, s64_57, s64_60, s64_61, s64_63, s64_66, s64_67, s64_70, s64_71, cont_some, rl_some, rl_none, if_true, if_false, kd_0, kd_1, kd_2, kd_5, kd_47, kd_141, kd_144, rf_0_0, rf_0_1, rf_0_2, rf_0_3, rf_0_4, rf_1_0, rf_1_1, rf_1_2, rf_2_0, rf_5_0, rf_5_1, rf_5_2, rf_5_3, rf_5_4, rf_5_5, rf_5_6, rf_5_7, rf_47_0, rf_141_0, rf_144_0, rf_144_1, kd_3, kd_6, kd_8, kd_10, kd_12, kd_14, kd_16, kd_18, kd_20, kd_22, kd_142, kd_145, kd_147, kd_24, d1, c2, c3, c4, c5]
        · have c4 : 48 ≤ lt ∧ lt ≤ 53 := by omega
          simp only [en64, s64_0, s64_1, s64_2, s64_5, s64_6, s64_8, s64_11, s64_12, s64_14, s64_17, s64_18, s64_21, s64_22, s64_23, s64_24, s64_25, s64_28, s64_29, s64_31, s64_34, s64_35, s64_37, s64_40, s64_41, s64_44, s64_45, s64_46, s64_47, s64_49, s64_52, s64_53, s64_54, s64_55, s64_57, s64_60, s64_61, s64_63, s64_66, s64_67, s64_70, s64_71, cont_some, rl_some, rl_none, if_true, if_false, kd_0, kd_1, kd_2, kd_5, kd_47, kd_141, kd_144, rf_0_0, rf_0_1, rf_0_2, rf_0_3, rf_0_4, rf_1_0, rf_1_1, rf_1_2, rf_2_0, rf_5_0, rf_5_1, rf_5_2, rf_5_3, rf_5_4, rf_5_5, rf_5_6, rf_5_7, rf_47_0, rf_141_0, rf_144_0, rf_144_1, kd_3, kd_6, kd_8, kd_10, kd_12, kd_14, kd_16, kd_18, kd_20, kd_22, kd_142, kd_145, kd_147, kd_24, d1, c2, c3, c4, c5, and_self]
    · by_cases c3 : lt = 108
      · simp only [en64, s64_0, s64_1, s64_2, s64_5, s64_6, s64_8, s64_11, s64_12, s64_14, s64_17, s64_18, s64_21, s64_22, s64_23, s64_24, s64_25, s64_28, s64_29, s64_31, s64_34, s64_35, s64_37, s64_40, s64_41, s64_44, s64_45, s64_46, s64_47, s64_49, s64_52, s64_53, s64_54, s64_55, s64_57, s64_60, s64_61, s64_63, s64_66, s64_67, s64_70, s64_71, cont_some, rl_some, rl_none, if_true, if_false, kd_0, kd_1, kd_2, kd_5, kd_47, kd_141, kd_144, rf_0_0, rf_0_1, rf_0_2, rf_0_3, rf_0_4, rf_1_0, rf_1_1, rf_1_2, rf_2_0, rf_5_0, rf_5_1, rf_5_2, rf_5_3, rf_5_4, rf_5_5, rf_5_6, rf_5_7, rf_47_0, rf_141_0, rf_144_0, rf_144_1, kd_3, kd_6, kd_8, kd_10, kd_12, kd_14, kd_16, kd_18, kd_20, kd_22, kd_142, kd_145, kd_147, kd_24, c1, c2, c3]
      · by_cases c4 : lt = 116
        · have d1 : ¬ (116 : Int) = 108 := by omega
          simp only [en64, s64_0, s64_1, s64_2, s64_5, s64_6, s64_8, s64_11, s64_12, s64_14, s64_17, s64_18, s64_21, s64_22, s64_23, s64_24, s64_25, s64_28, s64_29, s64_31, s64_34, s64_35, s64_37, s64_40, s64_41, s64_44, s64_45, s64_46, s64_47, s64_49, s64_52, s64_53, s64_54, s64_55, s64_57, s64_60, s64_61, s64_63, s64_66, s64_67, s64_70, s64_71, cont_some, rl_some, rl_none, if_true, if_false, kd_0, kd_1, kd_2, kd_5, kd_47, kd_141, kd_144, rf_0_0, rf_0_1, rf_0_2, rf_0_3, rf_0_4, rf_1_0, rf_1_1, rf_1_2, rf_2_0, rf_5_0, rf_5_1, rf_5_2, rf_5_3, rf_5_4, rf_5_5, rf_5_6, rf_5_7, rf_47_0, rf_141_0, rf_144_0, rf_144_1, kd_3, kd_6, kd_8, kd_10, kd_12, kd_14, kd_16, kd_18, kd_20, kd_22, kd_142, kd_145, kd_147, kd_24, c1, c2, c4, d1, true_or]
        · by_cases c5 : lt = 110
          · have d1 : ¬ (110 : Int) = 108 := by omega
            have d2 : ¬ (110 : Int) = 116 := by omega
            simp only [en64, s64_0, s64_1, s64_2, s64_5, s64_6, s64_8, s64_11, s64_12, s64_14, s64_17, s64_18, s64_21, s64_22, s64_23, s64_24, s64_25, s64_28, s64_29, s64_31, s64_34, s64_35, s64_37, s64_40, s64_41, s64_44, s64_45, s64_46, s64_47, s64_49, s64_52, s64_53, s64_54, s64_55, s64_57, s64_60, s64_61, s64_63, s64_66, s64_67, s64_70, s64_71, cont_some, rl_some, rl_none, if_true, if_false, kd_0, kd_1, kd_2, kd_5, kd_47, kd_141, kd_144, rf_0_0, rf_0_1, rf_0_2, rf_0_3, rf_0_4, rf_1_0, rf_1_1, rf_1_2, rf_2_0, rf_5_0, rf_5_1, rf_5_2, rf_5_3, rf_5_4, rf_5_5, rf_5_6, rf_5_7, rf_47_0, rf_141_0, rf_144_0, rf_144_1, kd_3, kd_6, kd_8, kd_10, kd_12, kd_14, kd_16, kd_18, kd_20, kd_22, kd_142, kd_145, kd_147, kd_24, c1, c2, c5, d1, d2, or_true]
          · simp only [en64, s64_0, s64_1, s64_2, s64_5, s64_6, s64_8, s64_11, s64_12, s64_14, s64_17, s64_18, s64_21, s64_22, s64_23, s64_24, s64_25, s64_28, s64_29, s64_31, s64_34, s64_35, s64_37, s64_40, s64_41, s64_44, s64_45, s64_46, s64_47, s64_49, s64_52, s64_53, s64_54, s64_55, s64_57, s64_60, s64_61, s64_63, s64_66, s64_67, s64_70, s64_71, cont_some, rl_some, rl_none, if_true, if_false, kd_0, kd_1, kd_2, kd_5, kd_47, kd_141, kd_144, rf_0_0, rf_0_1, rf_0_2, rf_0_3, rf_0_4, rf_1_0, rf_1_1, rf_1_2, rf_2_0, rf_5_0, rf_5_1, rf_5_2, rf_5_3, rf_5_4, rf_5_5, rf_5_6, rf_5_7, rf_47_0, rf_141_0, rf_144_0, rf_144_1, kd_3, kd_6, kd_8, kd_10, kd_12, kd_14, kd_16, kd_18, kd_20, kd_22, kd_142, kd_145, kd_147, kd_24, c1, c2, c3, c4, c5, or_false]
/-- the fault of the letters f, L of them: m left, from position k on, due there -/
def ffF (f : Nat → Int) (L : Nat) : Nat → Nat → Int → Int
  | 0, _, due => if 0 < L ∧ due = 1 then -4 else L
  | m + 1, k, due => if dB due (f k) = 0 then (k : Int) else ffF f L m (k + 1) (dB due (f k))
theorem pd_ff_loop (hL : M 141 1 = (L : Int)) (h6 : L ≤ 60) : ∀ (m k : Nat), k + m = L → ∀ due : Int, evL 63 4 [Rf 141, I due, I (k : Int)] [] (Hp M P) = some (some (I (ffF (M 143) L m k due)), Hp M P) := by
  intro m
  induction m with
  | zero =>
    intro k hk due
    have e : k = L := by omega
    subst e
    have c1 : (k : Int) ≤ (k : Int) := by omega
    rw [s63_4]
    unfold ffF
    by_cases c2 : 0 < k
    · have c3 : ¬ (k : Int) ≤ 0 := by omega
      by_cases c4 : due = 1
      · simp only [en63, s63_0, s63_1, s63_2, s63_3, s63_5, s63_6, s63_9, s63_12, s63_13, s63_14, s63_17, s63_18, s63_21, s63_24, s63_25, s63_26, s63_29, s63_30, s63_31, s63_34, s63_37, s63_38, s63_41, s63_44, s63_45, s63_46, s63_49, s63_51, s63_54, s63_55, s63_58, cont_some, rl_some, rl_none, if_true, if_false, kd_0, kd_1, kd_2, kd_5, kd_47, kd_141, kd_144, rf_0_0, rf_0_1, rf_0_2, rf_0_3, rf_0_4, rf_1_0, rf_1_1, rf_1_2, rf_2_0, rf_5_0, rf_5_1, rf_5_2, rf_5_3, rf_5_4, rf_5_5, rf_5_6, rf_5_7, rf_47_0, rf_141_0, rf_144_0, rf_144_1, kd_3, kd_6, kd_8, kd_10, kd_12, kd_14, kd_16, kd_18, kd_20, kd_22, kd_142, kd_145, kd_147, kd_24, hL, c1, c2, c3, c4, and_self]
      · simp only [en63, s63_0, s63_1, s63_2, s63_3, s63_5, s63_6, s63_9, s63_12, s63_13, s63_14, s63_17, s63_18, s63_21, s63_24, s63_25, s63_26, s63_29, s63_30, s63_31, s63_34, s63_37, s63_38, s63_41, s63_44, s63_45, s63_46, s63_49, s63_51, s63_54, s63_55, s63_58, cont_some, rl_some, rl_none, if_true, if_false, kd_0, kd_1, kd_2, kd_5, kd_47, kd_141, kd_144, rf_0_0, rf_0_1, rf_0_2, rf_0_3, rf_0_4, rf_1_0, rf_1_1, rf_1_2, rf_2_0, rf_5_0, rf_5_1, rf_5_2, rf_5_3, rf_5_4, rf_5_5, rf_5_6, rf_5_7, rf_47_0, rf_141_0, rf_144_0, rf_144_1, kd_3, kd_6, kd_8, kd_10, kd_12, kd_14, kd_16, kd_18, kd_20, kd_22, kd_142, kd_145, kd_147, kd_24, hL, c1, c2, c3, c4, and_false]
    · have c3 : (k : Int) ≤ 0 := by omega
      simp only [en63, s63_0, s63_1, s63_2, s63_3, s63_5, s63_6, s63_9, s63_12, s63_13, s63_14, s63_17, s63_18, s63_21, s63_24, s63_25, s63_26, s63_29, s63_30, s63_31, s63_34, s63_37, s63_38, s63_41, s63_44, s63_45, s63_46, s63_49, s63_51, s63_54, s63_55, s63_58, cont_some, rl_some, rl_none, if_true, if_false, kd_0, kd_1, kd_2, kd_5, kd_47, kd_141, kd_144, rf_0_0, rf_0_1, rf_0_2, rf_0_3, rf_0_4, rf_1_0, rf_1_1, rf_1_2, rf_2_0, rf_5_0, rf_5_1, rf_5_2, rf_5_3, rf_5_4, rf_5_5, rf_5_6, rf_5_7, rf_47_0, rf_141_0, rf_144_0, rf_144_1, kd_3, kd_6, kd_8, kd_10, kd_12, kd_14, kd_16, kd_18, kd_20, kd_22, kd_142, kd_145, kd_147, kd_24, hL, c1, c2, c3, false_and]
  | succ m ih =>
    intro k hk due
    have c1 : ¬ (L : Int) ≤ (k : Int) := by omega
    rw [s63_4]
    unfold ffF
    by_cases c2 : dB due (M 143 k) = 0
    · simp only [en63, s63_0, s63_1, s63_2, s63_3, s63_5, s63_6, s63_9, s63_12, s63_13, s63_14, s63_17, s63_18, s63_21, s63_24, s63_25, s63_26, s63_29, s63_30, s63_31, s63_34, s63_37, s63_38, s63_41, s63_44, s63_45, s63_46, s63_49, s63_51, s63_54, s63_55, s63_58, cont_some, rl_some, rl_none, if_true, if_false, kd_0, kd_1, kd_2, kd_5, kd_47, kd_141, kd_144, rf_0_0, rf_0_1, rf_0_2, rf_0_3, rf_0_4, rf_1_0, rf_1_1, rf_1_2, rf_2_0, rf_5_0, rf_5_1, rf_5_2, rf_5_3, rf_5_4, rf_5_5, rf_5_6, rf_5_7, rf_47_0, rf_141_0, rf_144_0, rf_144_1, kd_3, kd_6, kd_8, kd_10, kd_12, kd_14, kd_16, kd_18, kd_20, kd_22, kd_142, kd_145, kd_147, kd_24, hL, c1, row_get R_pad, rg_n (show k < 60 by omega), pd_due, c2]
    · simp only [en63, s63_0, s63_1, s63_2, s63_3, s63_5, s63_6, s63_9, s63_12, s63_13, s63_14, s63_17, s63_18, s63_21, s63_24, s63_25, s63_26, s63_29, s63_30, s63_31, s63_34, s63_37, s63_38, s63_41, s63_44, s63_45, s63_46, s63_49, s63_51, s63_54, s63_55, s63_58, cont_some, rl_some, rl_none, if_true, if_false, kd_0, kd_1, kd_2, kd_5, kd_47, kd_141, kd_144, rf_0_0, rf_0_1, rf_0_2, rf_0_3, rf_0_4, rf_1_0, rf_1_1, rf_1_2, rf_2_0, rf_5_0, rf_5_1, rf_5_2, rf_5_3, rf_5_4, rf_5_5, rf_5_6, rf_5_7, rf_47_0, rf_141_0, rf_144_0, rf_144_1, kd_3, kd_6, kd_8, kd_10, kd_12, kd_14, kd_16, kd_18, kd_20, kd_22, kd_142, kd_145, kd_147, kd_24, hL, c1, row_get R_pad, rg_n (show k < 60 by omega), pd_due, c2, ad_n k (by omega)]
      exact ih (k + 1) (by omega) _
theorem pd_ff (hL : M 141 1 = (L : Int)) (h6 : L ≤ 60) : evM 63 [Rf 141] (Hp M P) = some (some (I (ffF (M 143) L L 0 1)), Hp M P) := by
  simp only [en63, s63_0, s63_1, s63_2, s63_3, s63_5, s63_6, s63_9, s63_12, s63_13, s63_14, s63_17, s63_18, s63_21, s63_24, s63_25, s63_26, s63_29, s63_30, s63_31, s63_34, s63_37, s63_38, s63_41, s63_44, s63_45, s63_46, s63_49, s63_51, s63_54, s63_55, s63_58]
  exact pd_ff_loop hL h6 L 0 (by omega) 1
end Pad
/-! ===== Odds ===== -/
section Odds
variable {M : Mem} {P : PMem} {n sp t : Nat}
def tsh (s : Nat) : Int := if s = 4 then 3 else if s = 3 ∨ s = 5 then 2 else 1
theorem o_tsh {s : Nat} {h : AH} (h2 : 2 ≤ s) (h6 : s ≤ 6) : evM 55 [I (s : Int)] h = some (some (I (tsh s)), h) := by
  have e1 : sb (s : Int) 3 = (s : Int) - 3 := sb_eq (by omega) (by omega)
  have e2 : sb ((s : Int) - 3) 1 = (s : Int) - 4 := by rw [sb_eq (by omega) (by omega)]; omega
  simp only [en55, s55_0, s55_1, s55_2, s55_3, s55_4, s55_5, s55_6, s55_9, s55_10, e1, e2]
  by_cases c : 0 ≤ (s : Int) - 4
  · rw [if_pos c, sb_eq (by omega) (by omega)]
    unfold tsh
    congr 3
    congr 1
    split
    · omega
    · split <;> omega
  · rw [if_neg c, sb_eq (x := 0) (by omega) (by omega), sb_eq (by omega) (by omega)]
    unfold tsh
    congr 3
    congr 1
    split
    · omega
    · split <;> omega
/-- where the dice lead -/
def lnd (M : Mem) (n sp t h : Nat) (up : Bool) (q s : Nat) : Nat := landF (M 7) n t sp up ((s : Int) - h).toNat q
def ind (M : Mem) (n sp t h : Nat) (up : Bool) (q : Nat) (pl : Int) (s : Nat) : Int := if (lnd M n sp t h up q s : Int) = pl then 1 else 0
theorem ind_b (h : Nat) (up : Bool) (q : Nat) (pl : Int) (s : Nat) : 0 ≤ ind M n sp t h up q pl s ∧ ind M n sp t h up q pl s ≤ 1 := by unfold ind; split <;> omega
/-- of nine throws, how many lead there -/
def chF (M : Mem) (n sp t h : Nat) (up : Bool) (q : Nat) (pl : Int) : Int := ind M n sp t h up q pl 2 + 2 * ind M n sp t h up q pl 3 + 3 * ind M n sp t h up q pl 4 + 2 * ind M n sp t h up q pl 5 + ind M n sp t h up q pl 6
theorem b2i_01 (b : Bool) : (if b = true then (1 : Int) else 0) = 0 ∨ (if b = true then (1 : Int) else 0) = 1 := by cases b <;> simp
theorem land_b (h1 : CN M n) (hs : CS M sp) (ht : M 1 5 = (t : Int)) (h4 : t < 4) {h : Nat} (hh : M 13 t = (h : Int)) (h6 : h ≤ 6) {q : Nat} (hq : q ≤ sp) (up : Bool) {s : Nat} (h2 : s ≤ 50) : evM 37 [Rf 1, I (q : Int), I (if up = true then 1 else 0), I (s : Int)] (Hp M P) = some (some (I (lnd M n sp t h up q s : Int)), Hp M P) := by
  have e := g_land (P := P) h1 hs ht h4 hh h6 hq (up := if up = true then 1 else 0) (di := (s : Int)) (by omega) (by omega)
  rw [e]
  unfold lnd
  cases up <;> rfl
section Ways
/-- the throws of one first die -/
def inn (e : Nat → Int) (a : Nat) : Nat → Nat → Int
  | 0, _ => 0
  | m + 1, b => e (a + b) + inn e a m (b + 1)
theorem o_in_loop (h1 : CN M n) (hs : CS M sp) (ht : M 1 5 = (t : Int)) (h4 : t < 4) {h : Nat} (hh : M 13 t = (h : Int)) (h6 : h ≤ 6) {q : Nat} (hq : M 7 t = (q : Int)) (hqs : q ≤ sp) {pl : Int} {l3 : AV} {up : Bool} {a : Nat} (ha : a ≤ 3) : ∀ (m b : Nat), b + m = 4 → ∀ L : Int, 0 ≤ L → L + m ≤ 20 → evL 53 33 [Rf 144, Rf 1, I pl, l3, I (if up = true then 1 else 0), I L, I (a : Int), I (b : Int)] [] (Hp M P) = evL 53 24 [Rf 144, Rf 1, I pl, l3, I (if up = true then 1 else 0), I (L + inn (ind M n sp t h up q pl) a m b), I ((a + 1 : Nat) : Int), I 4] [] (Hp M P) := by
  intro m
  induction m with
  | zero =>
    intro b hb L _ _
    have e : b = 4 := by omega
    subst e
    have c1 : (3 : Int) < ((4 : Nat) : Int) := by omega
    rw [s53_33]
    simp only [en53, s53_0, s53_1, s53_4, s53_5, s53_8, s53_11, s53_12, s53_15, s53_16, s53_18, s53_19, s53_21, s53_22, s53_26, s53_27, s53_30, s53_31, s53_35, s53_36, s53_39, s53_40, s53_41, s53_44, s53_46, s53_48, s53_50, s53_51, s53_54, s53_55, s53_58, s53_61, s53_64, s53_67, s53_70, s53_73, s53_75, cont_some, rl_some, rl_none, if_true, if_false, kd_0, kd_1, kd_2, kd_5, kd_47, kd_141, kd_144, rf_0_0, rf_0_1, rf_0_2, rf_0_3, rf_0_4, rf_1_0, rf_1_1, rf_1_2, rf_2_0, rf_5_0, rf_5_1, rf_5_2, rf_5_3, rf_5_4, rf_5_5, rf_5_6, rf_5_7, rf_47_0, rf_141_0, rf_144_0, rf_144_1, kd_3, kd_6, kd_8, kd_10, kd_12, kd_14, kd_16, kd_18, kd_20, kd_22, kd_142, kd_145, kd_147, kd_24, c1, ad_n a (by omega), inn, Int.add_zero]
    rfl
  | succ m ih =>
    intro b hb L l0 l9
    have c1 : ¬ (3 : Int) < (b : Int) := by omega
    have e1 : ad (a : Int) (b : Int) = ((a + b : Nat) : Int) := by rw [ad_eq (by omega) (by omega)]; omega
    have e2 := land_b (P := P) h1 hs ht h4 hh h6 hqs up (s := a + b) (by omega)
    have e3 : ad L 1 = L + 1 := ad_eq (by omega) (by omega)
    have hi : ind M n sp t h up q pl (a + b) = if (lnd M n sp t h up q (a + b) : Int) = pl then 1 else 0 := rfl
    have ei : inn (ind M n sp t h up q pl) a (m + 1) b = ind M n sp t h up q pl (a + b) + inn (ind M n sp t h up q pl) a m (b + 1) := rfl
    rw [s53_33]
    by_cases c2 : (lnd M n sp t h up q (a + b) : Int) = pl
    · rw [if_pos c2] at hi
      have e4 : L + 1 + inn (ind M n sp t h up q pl) a m (b + 1) = L + inn (ind M n sp t h up q pl) a (m + 1) b := by rw [ei, hi]; omega
      simp only [en53, s53_0, s53_1, s53_4, s53_5, s53_8, s53_11, s53_12, s53_15, s53_16, s53_18, s53_19, s53_21, s53_22, s53_26, s53_27, s53_30, s53_31, s53_35, s53_36, s53_39, s53_40, s53_41, s53_44, s53_46, s53_48, s53_50, s53_51, s53_54, s53_55, s53_58, s53_61, s53_64, s53_67, s53_70, s53_73, s53_75, cont_some, rl_some, rl_none, if_true, if_false, kd_0, kd_1, kd_2, kd_5, kd_47, kd_141, kd_144, rf_0_0, rf_0_1, rf_0_2, rf_0_3, rf_0_4, rf_1_0, rf_1_1, rf_1_2, rf_2_0, rf_5_0, rf_5_1, rf_5_2, rf_5_3, rf_5_4, rf_5_5, rf_5_6, rf_5_7, rf_47_0, rf_141_0, rf_144_0, rf_144_1, kd_3, kd_6, kd_8, kd_10, kd_12, kd_14, kd_16, kd_18, kd_20, kd_22, kd_142, kd_145, kd_147, kd_24, c1, e1, g_place ht h4, hq, e2, c2, e3, ad_n b (by omega)]
      rw [ih (b + 1) (by omega) (L + 1) (by omega) (by omega), e4]
    · rw [if_neg c2] at hi
      have e4 : L + inn (ind M n sp t h up q pl) a m (b + 1) = L + inn (ind M n sp t h up q pl) a (m + 1) b := by rw [ei, hi]; omega
      simp only [en53, s53_0, s53_1, s53_4, s53_5, s53_8, s53_11, s53_12, s53_15, s53_16, s53_18, s53_19, s53_21, s53_22, s53_26, s53_27, s53_30, s53_31, s53_35, s53_36, s53_39, s53_40, s53_41, s53_44, s53_46, s53_48, s53_50, s53_51, s53_54, s53_55, s53_58, s53_61, s53_64, s53_67, s53_70, s53_73, s53_75, cont_some, rl_some, rl_none, if_true, if_false, kd_0, kd_1, kd_2, kd_5, kd_47, kd_141, kd_144, rf_0_0, rf_0_1, rf_0_2, rf_0_3, rf_0_4, rf_1_0, rf_1_1, rf_1_2, rf_2_0, rf_5_0, rf_5_1, rf_5_2, rf_5_3, rf_5_4, rf_5_5, rf_5_6, rf_5_7, rf_47_0, rf_141_0, rf_144_0, rf_144_1, kd_3, kd_6, kd_8, kd_10, kd_12, kd_14, kd_16, kd_18, kd_20, kd_22, kd_142, kd_145, kd_147, kd_24, c1, e1, g_place ht h4, hq, e2, c2, ad_n b (by omega)]
      rw [ih (b + 1) (by omega) L l0 (by omega), e4]
theorem inn_b {e : Nat → Int} (he : ∀ s, 0 ≤ e s ∧ e s ≤ 1) (a : Nat) : ∀ m b, 0 ≤ inn e a m b ∧ inn e a m b ≤ m := by
  intro m
  induction m with
  | zero => intro b; exact ⟨Int.le_refl _, Int.le_refl _⟩
  | succ m ih =>
    intro b
    have h1 := ih (b + 1)
    have h2 := he (a + b)
    unfold inn
    omega
def out (e : Nat → Int) : Nat → Nat → Int
  | 0, _ => 0
  | m + 1, a => inn e a 3 1 + out e m (a + 1)
theorem o_out_loop (h1 : CN M n) (hs : CS M sp) (ht : M 1 5 = (t : Int)) (h4 : t < 4) {h : Nat} (hh : M 13 t = (h : Int)) (h6 : h ≤ 6) {q : Nat} (hq : M 7 t = (q : Int)) (hqs : q ≤ sp) {pl : Int} {l3 : AV} {up : Bool} : ∀ (m a : Nat), a + m = 4 → ∀ (L : Int) (l7 : AV), 0 ≤ L → L + 3 * m ≤ 9 → evL 53 24 [Rf 144, Rf 1, I pl, l3, I (if up = true then 1 else 0), I L, I (a : Int), l7] [] (Hp M P) = some (some (I (L + out (ind M n sp t h up q pl) m a)), Hp M P) := by
  intro m
  induction m with
  | zero =>
    intro a ha L l7 _ _
    have e : a = 4 := by omega
    subst e
    have c1 : (3 : Int) < ((4 : Nat) : Int) := by omega
    rw [s53_24]
    simp only [en53, s53_0, s53_1, s53_4, s53_5, s53_8, s53_11, s53_12, s53_15, s53_16, s53_18, s53_19, s53_21, s53_22, s53_26, s53_27, s53_30, s53_31, s53_35, s53_36, s53_39, s53_40, s53_41, s53_44, s53_46, s53_48, s53_50, s53_51, s53_54, s53_55, s53_58, s53_61, s53_64, s53_67, s53_70, s53_73, s53_75, cont_some, rl_some, rl_none, if_true, if_false, kd_0, kd_1, kd_2, kd_5, kd_47, kd_141, kd_144, rf_0_0, rf_0_1, rf_0_2, rf_0_3, rf_0_4, rf_1_0, rf_1_1, rf_1_2, rf_2_0, rf_5_0, rf_5_1, rf_5_2, rf_5_3, rf_5_4, rf_5_5, rf_5_6, rf_5_7, rf_47_0, rf_141_0, rf_144_0, rf_144_1, kd_3, kd_6, kd_8, kd_10, kd_12, kd_14, kd_16, kd_18, kd_20, kd_22, kd_142, kd_145, kd_147, kd_24, c1, out, Int.add_zero]
  | succ m ih =>
    intro a ha L l7 l0 l9
    have c1 : ¬ (3 : Int) < (a : Int) := by omega
    have hb := inn_b (e := ind M n sp t h up q pl) (fun s => ind_b h up q pl s) a 3 1
    have hl := o_in_loop (P := P) h1 hs ht h4 hh h6 hq hqs (pl := pl) (l3 := l3) (up := up) (show a ≤ 3 by omega) 3 1 (by omega) L l0 (by omega)
    have e1 : ((1 : Nat) : Int) = 1 := rfl
    rw [e1] at hl
    rw [s53_24]
    simp only [en53, s53_0, s53_1, s53_4, s53_5, s53_8, s53_11, s53_12, s53_15, s53_16, s53_18, s53_19, s53_21, s53_22, s53_26, s53_27, s53_30, s53_31, s53_35, s53_36, s53_39, s53_40, s53_41, s53_44, s53_46, s53_48, s53_50, s53_51, s53_54, s53_55, s53_58, s53_61, s53_64, s53_67, s53_70, s53_73, s53_75, cont_some, rl_some, rl_none, if_true, if_false, kd_0, kd_1, kd_2, kd_5, kd_47, kd_141, kd_144, rf_0_0, rf_0_1, rf_0_2, rf_0_3, rf_0_4, rf_1_0, rf_1_1, rf_1_2, rf_2_0, rf_5_0, rf_5_1, rf_5_2, rf_5_3, rf_5_4, rf_5_5, rf_5_6, rf_5_7, rf_47_0, rf_141_0, rf_144_0, rf_144_1, kd_3, kd_6, kd_8, kd_10, kd_12, kd_14, kd_16, kd_18, kd_20, kd_22, kd_142, kd_145, kd_147, kd_24, c1]
    rw [hl, ih (a + 1) (by omega) _ _ (by omega) (by omega)]
    have e4 : L + inn (ind M n sp t h up q pl) a 3 1 + out (ind M n sp t h up q pl) m (a + 1) = L + out (ind M n sp t h up q pl) (m + 1) a := by unfold out; rw [Int.add_assoc]; cases m <;> rfl
    rw [e4]
theorem o_thr (h1 : CN M n) (hs : CS M sp) (ht : M 1 5 = (t : Int)) (h4 : t < 4) {h : Nat} (hh : M 13 t = (h : Int)) (h6 : h ≤ 6) {q : Nat} (hq : M 7 t = (q : Int)) (hqs : q ≤ sp) {pl back : Int} : evM 53 [Rf 144, Rf 1, I pl, I back] (Hp M P) = some (some (I (chF M n sp t h (decide (back ≠ 0 ∨ M 9 t = 1)) q pl)), Hp M P) := by
  have hl := fun l3 => o_out_loop (P := P) h1 hs ht h4 hh h6 hq hqs (pl := pl) (l3 := l3) (up := decide (back ≠ 0 ∨ M 9 t = 1)) 3 1 (by omega) 0 (Db 0) (by omega) (by omega)
  have e1 : ((1 : Nat) : Int) = 1 := rfl
  have eo : (0 : Int) + out (ind M n sp t h (decide (back ≠ 0 ∨ M 9 t = 1)) q pl) 3 1 = chF M n sp t h (decide (back ≠ 0 ∨ M 9 t = 1)) q pl := by
    simp only [out, inn, chF]
    show (0 : Int) + ((ind M n sp t h _ q pl 2 + (ind M n sp t h _ q pl 3 + (ind M n sp t h _ q pl 4 + 0))) + ((ind M n sp t h _ q pl 3 + (ind M n sp t h _ q pl 4 + (ind M n sp t h _ q pl 5 + 0))) + ((ind M n sp t h _ q pl 4 + (ind M n sp t h _ q pl 5 + (ind M n sp t h _ q pl 6 + 0))) + 0))) = _
    omega
  rw [e1, eo] at hl
  by_cases c1 : back = 0
  · by_cases c2 : M 9 t = 1
    · have ed : (if (decide (back ≠ 0 ∨ M 9 t = 1)) = true then (1 : Int) else 0) = 1 := by simp [c2]
      rw [ed] at hl
      subst c1
      simp only [en53, s53_0, s53_1, s53_4, s53_5, s53_8, s53_11, s53_12, s53_15, s53_16, s53_18, s53_19, s53_21, s53_22, s53_26, s53_27, s53_30, s53_31, s53_33, s53_35, s53_36, s53_39, s53_40, s53_41, s53_44, s53_46, s53_48, s53_50, s53_51, s53_54, s53_55, s53_58, s53_61, s53_64, s53_67, s53_70, s53_73, s53_75, cont_some, rl_some, rl_none, if_true, if_false, kd_0, kd_1, kd_2, kd_5, kd_47, kd_141, kd_144, rf_0_0, rf_0_1, rf_0_2, rf_0_3, rf_0_4, rf_1_0, rf_1_1, rf_1_2, rf_2_0, rf_5_0, rf_5_1, rf_5_2, rf_5_3, rf_5_4, rf_5_5, rf_5_6, rf_5_7, rf_47_0, rf_141_0, rf_144_0, rf_144_1, kd_3, kd_6, kd_8, kd_10, kd_12, kd_14, kd_16, kd_18, kd_20, kd_22, kd_142, kd_145, kd_147, kd_24, g_up ht h4, c2, Int.one_ne_zero]
      rw [c2] at hl
      exact hl _
    · have ed : (if (decide (back ≠ 0 ∨ M 9 t = 1)) = true then (1 : Int) else 0) = 0 := by simp [c1, c2]
      rw [ed] at hl
      subst c1
      simp only [en53, s53_0, s53_1, s53_4, s53_5, s53_8, s53_11, s53_12, s53_15, s53_16, s53_18, s53_19, s53_21, s53_22, s53_26, s53_27, s53_30, s53_31, s53_33, s53_35, s53_36, s53_39, s53_40, s53_41, s53_44, s53_46, s53_48, s53_50, s53_51, s53_54, s53_55, s53_58, s53_61, s53_64, s53_67, s53_70, s53_73, s53_75, cont_some, rl_some, rl_none, if_true, if_false, kd_0, kd_1, kd_2, kd_5, kd_47, kd_141, kd_144, rf_0_0, rf_0_1, rf_0_2, rf_0_3, rf_0_4, rf_1_0, rf_1_1, rf_1_2, rf_2_0, rf_5_0, rf_5_1, rf_5_2, rf_5_3, rf_5_4, rf_5_5, rf_5_6, rf_5_7, rf_47_0, rf_141_0, rf_144_0, rf_144_1, kd_3, kd_6, kd_8, kd_10, kd_12, kd_14, kd_16, kd_18, kd_20, kd_22, kd_142, kd_145, kd_147, kd_24, g_up ht h4, c2]
      simp only [c2] at hl
      exact hl _
  · have ed : (if (decide (back ≠ 0 ∨ M 9 t = 1)) = true then (1 : Int) else 0) = 1 := by simp [c1]
    rw [ed] at hl
    simp only [en53, s53_0, s53_1, s53_4, s53_5, s53_8, s53_11, s53_12, s53_15, s53_16, s53_18, s53_19, s53_21, s53_22, s53_26, s53_27, s53_30, s53_31, s53_33, s53_35, s53_36, s53_39, s53_40, s53_41, s53_44, s53_46, s53_48, s53_50, s53_51, s53_54, s53_55, s53_58, s53_61, s53_64, s53_67, s53_70, s53_73, s53_75, cont_some, rl_some, rl_none, if_true, if_false, kd_0, kd_1, kd_2, kd_5, kd_47, kd_141, kd_144, rf_0_0, rf_0_1, rf_0_2, rf_0_3, rf_0_4, rf_1_0, rf_1_1, rf_1_2, rf_2_0, rf_5_0, rf_5_1, rf_5_2, rf_5_3, rf_5_4, rf_5_5, rf_5_6, rf_5_7, rf_47_0, rf_141_0, rf_144_0, rf_144_1, kd_3, kd_6, kd_8, kd_10, kd_12, kd_14, kd_16, kd_18, kd_20, kd_22, kd_142, kd_145, kd_147, kd_24, c1]
    exact hl _
theorem o_sum (h1 : CN M n) (hs : CS M sp) (ht : M 1 5 = (t : Int)) (h4 : t < 4) {h : Nat} (hh : M 13 t = (h : Int)) (h6 : h ≤ 6) {q : Nat} (hq : M 7 t = (q : Int)) (hqs : q ≤ sp) {pl back : Int} : evM 54 [Rf 144, Rf 1, I pl, I back] (Hp M P) = some (some (I (chF M n sp t h (decide (back ≠ 0 ∨ M 9 t = 1)) q pl)), Hp M P) := by
  have step : ∀ (up : Bool) (l3 : AV) (s : Nat) (L : Int), 2 ≤ s → s ≤ 6 → 0 ≤ L → L ≤ 20 → evL 54 24 [Rf 144, Rf 1, I pl, l3, I (if up = true then 1 else 0), I L, I (s : Int)] [] (Hp M P) = evL 54 24 [Rf 144, Rf 1, I pl, l3, I (if up = true then 1 else 0), I (L + tsh s * ind M n sp t h up q pl s), I ((s + 1 : Nat) : Int)] [] (Hp M P) := by
    intro up l3 s L s2 s6 l0 l9
    have c1 : ¬ (6 : Int) < (s : Int) := by omega
    have e2 := land_b (P := P) h1 hs ht h4 hh h6 hqs up (s := s) (by omega)
    have hi : ind M n sp t h up q pl s = if (lnd M n sp t h up q s : Int) = pl then 1 else 0 := rfl
    have htb : 1 ≤ tsh s ∧ tsh s ≤ 3 := by unfold tsh; split <;> (try split) <;> omega
    have e3 : ad L (tsh s) = L + tsh s := ad_eq (by omega) (by omega)
    rw [s54_24]
    by_cases c2 : (lnd M n sp t h up q s : Int) = pl
    · rw [if_pos c2] at hi
      simp only [en54, s54_0, s54_1, s54_4, s54_5, s54_8, s54_11, s54_12, s54_15, s54_16, s54_18, s54_19, s54_21, s54_22, s54_26, s54_28, s54_31, s54_32, s54_33, s54_36, s54_38, s54_40, s54_43, s54_44, s54_47, s54_49, s54_51, s54_54, s54_55, s54_57, s54_60, s54_63, s54_65, cont_some, rl_some, rl_none, if_true, if_false, kd_0, kd_1, kd_2, kd_5, kd_47, kd_141, kd_144, rf_0_0, rf_0_1, rf_0_2, rf_0_3, rf_0_4, rf_1_0, rf_1_1, rf_1_2, rf_2_0, rf_5_0, rf_5_1, rf_5_2, rf_5_3, rf_5_4, rf_5_5, rf_5_6, rf_5_7, rf_47_0, rf_141_0, rf_144_0, rf_144_1, kd_3, kd_6, kd_8, kd_10, kd_12, kd_14, kd_16, kd_18, kd_20, kd_22, kd_142, kd_145, kd_147, kd_24, c1, g_place ht h4, hq, e2, c2, o_tsh s2 s6, e3, ad_n s (by omega), hi, Int.mul_one]
    · rw [if_neg c2] at hi
      simp only [en54, s54_0, s54_1, s54_4, s54_5, s54_8, s54_11, s54_12, s54_15, s54_16, s54_18, s54_19, s54_21, s54_22, s54_26, s54_28, s54_31, s54_32, s54_33, s54_36, s54_38, s54_40, s54_43, s54_44, s54_47, s54_49, s54_51, s54_54, s54_55, s54_57, s54_60, s54_63, s54_65, cont_some, rl_some, rl_none, if_true, if_false, kd_0, kd_1, kd_2, kd_5, kd_47, kd_141, kd_144, rf_0_0, rf_0_1, rf_0_2, rf_0_3, rf_0_4, rf_1_0, rf_1_1, rf_1_2, rf_2_0, rf_5_0, rf_5_1, rf_5_2, rf_5_3, rf_5_4, rf_5_5, rf_5_6, rf_5_7, rf_47_0, rf_141_0, rf_144_0, rf_144_1, kd_3, kd_6, kd_8, kd_10, kd_12, kd_14, kd_16, kd_18, kd_20, kd_22, kd_142, kd_145, kd_147, kd_24, c1, g_place ht h4, hq, e2, c2, ad_n s (by omega), hi, Int.mul_zero, Int.add_zero]
  have whole : ∀ (up : Bool) (l3 : AV), evL 54 24 [Rf 144, Rf 1, I pl, l3, I (if up = true then 1 else 0), I 0, I 2] [] (Hp M P) = some (some (I (chF M n sp t h up q pl)), Hp M P) := by
    intro up l3
    have b2 := ind_b (M := M) (n := n) (sp := sp) (t := t) h up q pl 2
    have b3 := ind_b (M := M) (n := n) (sp := sp) (t := t) h up q pl 3
    have b4 := ind_b (M := M) (n := n) (sp := sp) (t := t) h up q pl 4
    have b5 := ind_b (M := M) (n := n) (sp := sp) (t := t) h up q pl 5
    have b6 := ind_b (M := M) (n := n) (sp := sp) (t := t) h up q pl 6
    have t2 : tsh 2 = 1 := rfl
    have t3 : tsh 3 = 2 := rfl
    have t4 : tsh 4 = 3 := rfl
    have t5 : tsh 5 = 2 := rfl
    have t6 : tsh 6 = 1 := rfl
    have a2 := step up l3 2 0 (by omega) (by omega) (by omega) (by omega)
    have a3 := fun L => step up l3 3 L (by omega) (by omega)
    have a4 := fun L => step up l3 4 L (by omega) (by omega)
    have a5 := fun L => step up l3 5 L (by omega) (by omega)
    have a6 := fun L => step up l3 6 L (by omega) (by omega)
    rw [t2] at a2
    rw [t3] at a3
    rw [t4] at a4
    rw [t5] at a5
    rw [t6] at a6
    have c1 : (6 : Int) < ((7 : Nat) : Int) := by omega
    refine (a2.trans ((a3 _ (by omega) (by omega)).trans ((a4 _ (by omega) (by omega)).trans ((a5 _ (by omega) (by omega)).trans ((a6 _ (by omega) (by omega)).trans ?_)))))
    rw [s54_24]
    have c2 : ((6 + 1 : Nat) : Int) = 7 := rfl
    have c3 : (6 : Int) < 7 := by omega
    simp only [en54, s54_0, s54_1, s54_4, s54_5, s54_8, s54_11, s54_12, s54_15, s54_16, s54_18, s54_19, s54_21, s54_22, s54_26, s54_28, s54_31, s54_32, s54_33, s54_36, s54_38, s54_40, s54_43, s54_44, s54_47, s54_49, s54_51, s54_54, s54_55, s54_57, s54_60, s54_63, s54_65, cont_some, rl_some, rl_none, if_true, if_false, kd_0, kd_1, kd_2, kd_5, kd_47, kd_141, kd_144, rf_0_0, rf_0_1, rf_0_2, rf_0_3, rf_0_4, rf_1_0, rf_1_1, rf_1_2, rf_2_0, rf_5_0, rf_5_1, rf_5_2, rf_5_3, rf_5_4, rf_5_5, rf_5_6, rf_5_7, rf_47_0, rf_141_0, rf_144_0, rf_144_1, kd_3, kd_6, kd_8, kd_10, kd_12, kd_14, kd_16, kd_18, kd_20, kd_22, kd_142, kd_145, kd_147, kd_24, c2, c3]
    congr 4
    unfold chF
    omega
  have hl := fun l3 => whole (decide (back ≠ 0 ∨ M 9 t = 1)) l3
  by_cases c1 : back = 0
  · by_cases c2 : M 9 t = 1
    · have ed : (if (decide (back ≠ 0 ∨ M 9 t = 1)) = true then (1 : Int) else 0) = 1 := by simp [c2]
      rw [ed] at hl
      subst c1
      simp only [en54, s54_0, s54_1, s54_4, s54_5, s54_8, s54_11, s54_12, s54_15, s54_16, s54_18, s54_19, s54_21, s54_22, s54_26, s54_28, s54_31, s54_32, s54_33, s54_36, s54_38, s54_40, s54_43, s54_44, s54_47, s54_49, s54_51, s54_54, s54_55, s54_57, s54_60, s54_63, s54_65, cont_some, rl_some, rl_none, if_true, if_false, kd_0, kd_1, kd_2, kd_5, kd_47, kd_141, kd_144, rf_0_0, rf_0_1, rf_0_2, rf_0_3, rf_0_4, rf_1_0, rf_1_1, rf_1_2, rf_2_0, rf_5_0, rf_5_1, rf_5_2, rf_5_3, rf_5_4, rf_5_5, rf_5_6, rf_5_7, rf_47_0, rf_141_0, rf_144_0, rf_144_1, kd_3, kd_6, kd_8, kd_10, kd_12, kd_14, kd_16, kd_18, kd_20, kd_22, kd_142, kd_145, kd_147, kd_24, g_up ht h4, c2, Int.one_ne_zero]
      rw [c2] at hl
      exact hl _
    · have ed : (if (decide (back ≠ 0 ∨ M 9 t = 1)) = true then (1 : Int) else 0) = 0 := by simp [c1, c2]
      rw [ed] at hl
      subst c1
      simp only [en54, s54_0, s54_1, s54_4, s54_5, s54_8, s54_11, s54_12, s54_15, s54_16, s54_18, s54_19, s54_21, s54_22, s54_26, s54_28, s54_31, s54_32, s54_33, s54_36, s54_38, s54_40, s54_43, s54_44, s54_47, s54_49, s54_51, s54_54, s54_55, s54_57, s54_60, s54_63, s54_65, cont_some, rl_some, rl_none, if_true, if_false, kd_0, kd_1, kd_2, kd_5, kd_47, kd_141, kd_144, rf_0_0, rf_0_1, rf_0_2, rf_0_3, rf_0_4, rf_1_0, rf_1_1, rf_1_2, rf_2_0, rf_5_0, rf_5_1, rf_5_2, rf_5_3, rf_5_4, rf_5_5, rf_5_6, rf_5_7, rf_47_0, rf_141_0, rf_144_0, rf_144_1, kd_3, kd_6, kd_8, kd_10, kd_12, kd_14, kd_16, kd_18, kd_20, kd_22, kd_142, kd_145, kd_147, kd_24, g_up ht h4, c2]
      simp only [c2] at hl
      exact hl _
  · have ed : (if (decide (back ≠ 0 ∨ M 9 t = 1)) = true then (1 : Int) else 0) = 1 := by simp [c1]
    rw [ed] at hl
    simp only [en54, s54_0, s54_1, s54_4, s54_5, s54_8, s54_11, s54_12, s54_15, s54_16, s54_18, s54_19, s54_21, s54_22, s54_26, s54_28, s54_31, s54_32, s54_33, s54_36, s54_38, s54_40, s54_43, s54_44, s54_47, s54_49, s54_51, s54_54, s54_55, s54_57, s54_60, s54_63, s54_65, cont_some, rl_some, rl_none, if_true, if_false, kd_0, kd_1, kd_2, kd_5, kd_47, kd_141, kd_144, rf_0_0, rf_0_1, rf_0_2, rf_0_3, rf_0_4, rf_1_0, rf_1_1, rf_1_2, rf_2_0, rf_5_0, rf_5_1, rf_5_2, rf_5_3, rf_5_4, rf_5_5, rf_5_6, rf_5_7, rf_47_0, rf_141_0, rf_144_0, rf_144_1, kd_3, kd_6, kd_8, kd_10, kd_12, kd_14, kd_16, kd_18, kd_20, kd_22, kd_142, kd_145, kd_147, kd_24, c1]
    exact hl _
end Ways
/-! homeward -/
def up1 (Q : Nat → Int) (l : Nat) (v : Int) : Nat → Int := fun x => if x = l then ad (Q x) v else Q x
def aW (G : Nat → Nat) (w : Int) : Nat → Nat → (Nat → Int) → (Nat → Int)
  | 0, _, Q => Q
  | m + 1, s, Q => aW G w m (s + 1) (up1 Q (G s) (ml w (tsh s)))
def mU (F : Nat → Nat → Nat) (W : Nat → Int) : Nat → Nat → (Nat → Int) → (Nat → Int)
  | 0, _, Q => Q
  | m + 1, p, Q => mU F W m (p + 1) (if 0 < W p then aW (F p) (W p) 5 2 Q else Q)
def sU (W : Nat → Int) : Nat → Int := fun x => if x = 0 then ml (W 0) 9 else 0
def hm (F : Nat → Nat → Nat) (sp : Nat) : Nat → (Nat → Int) → (Nat → Int)
  | 0, W => W
  | k + 1, W => hm F sp k (mU F W sp 1 (sU W))
theorem aW_congr {G G' : Nat → Nat} {w : Int} {x : Nat} : ∀ (m s : Nat) (Q Q' : Nat → Int), (∀ i, s ≤ i → i < s + m → G i = G' i) → Q x = Q' x → aW G w m s Q x = aW G' w m s Q' x := by
  intro m
  induction m with
  | zero => intro s Q Q' _ h; exact h
  | succ m ih =>
    intro s Q Q' hG h
    apply ih
    · intro i a b; exact hG i (by omega) (by omega)
    · unfold up1; rw [hG s (by omega) (by omega), h]
theorem mU_congr {F F' : Nat → Nat → Nat} {W W' : Nat → Int} {x : Nat} : ∀ (m p : Nat) (Q Q' : Nat → Int), (∀ q, p ≤ q → q < p + m → W q = W' q ∧ (0 < W q → ∀ s, 2 ≤ s → s < 7 → F q s = F' q s)) → Q x = Q' x → mU F W m p Q x = mU F' W' m p Q' x := by
  intro m
  induction m with
  | zero => intro p Q Q' _ h; exact h
  | succ m ih =>
    intro p Q Q' hW h
    obtain ⟨w1, w2⟩ := hW p (by omega) (by omega)
    apply ih
    · intro i a b; exact hW i (by omega) (by omega)
    · rw [← w1]
      by_cases c : 0 < W p
      · rw [if_pos c, if_pos c]
        exact aW_congr 5 2 _ _ (fun i a b => w2 c i a (by omega)) h
      · rw [if_neg c, if_neg c]; exact h
theorem aW_far {G : Nat → Nat} {w : Int} {x : Nat} : ∀ (m s : Nat) (Q : Nat → Int), (∀ i, s ≤ i → i < s + m → G i ≠ x) → aW G w m s Q x = Q x := by
  intro m
  induction m with
  | zero => intro s Q _; rfl
  | succ m ih =>
    intro s Q hG
    unfold aW
    rw [ih _ _ (fun i a b => hG i (by omega) (by omega))]
    unfold up1
    rw [if_neg (fun e => hG s (by omega) (by omega) e.symm)]
theorem mU_far {F : Nat → Nat → Nat} {W : Nat → Int} {x : Nat} : ∀ (m p : Nat) (Q : Nat → Int), (∀ q, p ≤ q → q < p + m → ∀ s, F q s ≠ x) → mU F W m p Q x = Q x := by
  intro m
  induction m with
  | zero => intro p Q _; rfl
  | succ m ih =>
    intro p Q hW
    unfold mU
    rw [ih _ _ (fun i a b => hW i (by omega) (by omega))]
    split
    · exact aW_far _ _ _ (fun i _ _ => hW p (by omega) (by omega) i)
    · rfl
theorem mU_zero {F : Nat → Nat → Nat} {W : Nat → Int} : ∀ (m p : Nat) (Q : Nat → Int), (∀ q, p ≤ q → q < p + m → W q = 0) → mU F W m p Q = Q := by
  intro m
  induction m with
  | zero => intro p Q _; rfl
  | succ m ih =>
    intro p Q hW
    unfold mU
    rw [hW p (by omega) (by omega), if_neg (by omega)]
    exact ih _ _ (fun i a b => hW i (by omega) (by omega))
theorem mU_split {F : Nat → Nat → Nat} {W : Nat → Int} : ∀ (a b p : Nat) (Q : Nat → Int), mU F W (a + b) p Q = mU F W b (p + a) (mU F W a p Q) := by
  intro a
  induction a with
  | zero => intro b p Q; rw [Nat.zero_add]; rfl
  | succ a ih =>
    intro b p Q
    rw [show a + 1 + b = (a + b) + 1 by omega]
    show mU F W (a + b) (p + 1) _ = mU F W b (p + (a + 1)) (mU F W a (p + 1) _)
    rw [ih, show p + 1 + a = p + (a + 1) by omega]
def w148 (M : Mem) (Q : Nat → Int) : Mem := fun a b => if a = 148 then Q b else M a b
theorem w148_wr {M : Mem} {Q : Nat → Int} {l : Nat} {v : Int} : wr (w148 M Q) 148 l v = w148 M (fun x => if x = l then v else Q x) := by
  funext a b
  unfold wr w148
  by_cases ha : a = 148
  · subst ha; by_cases hb : b = l <;> simp [hb]
  · simp [ha]
theorem w148_add {M : Mem} {Q : Nat → Int} {l : Nat} {v : Int} (hl : l < 17) : rs (w148 M Q) 148 17 (l : Int) (ad (rg (w148 M Q) 148 17 (l : Int)) v) = w148 M (up1 Q l v) := by
  rw [rs_n hl, rg_n hl, w148_wr]
  unfold up1 w148
  funext a b
  simp only []
  split
  · by_cases hb : b = l <;> simp [hb]
  · rfl
theorem w148_CN {M : Mem} {Q : Nat → Int} (h : CN M n) : CN (w148 M Q) n := h
theorem w148_CS {M : Mem} {Q : Nat → Int} (h : CS M sp) : CS (w148 M Q) sp := h
theorem up_in (h1 : CN M n) (hs : CS M sp) (ht : M 1 5 = (t : Int)) (h4 : t < 4) {h : Nat} (hh : M 13 t = (h : Int)) (h6 : h ≤ 6) {p : Nat} (hp : p ≤ sp) {w : Int} (hw : 0 < w) : ∀ (m s : Nat), s + m = 7 → 2 ≤ s → ∀ Q : Nat → Int, evL 57 51 [Rf 144, Rf 1, I (p : Int), I w, I (s : Int)] [] (Hp (w148 M Q) P) = evL 57 28 [Rf 144, Rf 1, I ((p + 1 : Nat) : Int), I w, I 7] [] (Hp (w148 M (aW (lnd M n sp t h true p) w m s Q)) P) := by
  intro m
  induction m with
  | zero =>
    intro s hs2 _ Q
    have e : s = 7 := by omega
    subst e
    have c1 : (6 : Int) < ((7 : Nat) : Int) := by omega
    have h16 := hs.2
    rw [s57_51]
    simp only [en57, s57_0, s57_1, s57_4, s57_7, s57_8, s57_11, s57_12, s57_13, s57_16, s57_17, s57_20, s57_22, s57_23, s57_26, s57_27, s57_29, s57_30, s57_33, s57_36, s57_39, s57_40, s57_43, s57_44, s57_47, s57_48, s57_49, s57_53, s57_55, s57_58, s57_59, s57_62, s57_63, s57_66, s57_67, s57_68, s57_69, s57_71, s57_74, s57_75, s57_77, s57_80, s57_81, s57_84, s57_87, s57_90, s57_93, s57_96, s57_97, s57_100, s57_101, s57_104, s57_107, cont_some, rl_some, rl_none, if_true, if_false, kd_0, kd_1, kd_2, kd_5, kd_47, kd_141, kd_144, rf_0_0, rf_0_1, rf_0_2, rf_0_3, rf_0_4, rf_1_0, rf_1_1, rf_1_2, rf_2_0, rf_5_0, rf_5_1, rf_5_2, rf_5_3, rf_5_4, rf_5_5, rf_5_6, rf_5_7, rf_47_0, rf_141_0, rf_144_0, rf_144_1, kd_3, kd_6, kd_8, kd_10, kd_12, kd_14, kd_16, kd_18, kd_20, kd_22, kd_142, kd_145, kd_147, kd_24, c1, ad_n p (by omega), aW]
    rfl
  | succ m ih =>
    intro s hs2 hs3 Q
    have c1 : ¬ (6 : Int) < (s : Int) := by omega
    have c2 : ¬ w ≤ 0 := by omega
    have h16 := hs.2
    have e2 := land_b (P := P) (M := w148 M Q) (w148_CN h1) (w148_CS hs) (t := t) ht h4 (h := h) hh h6 hp true (s := s) (by omega)
    rw [if_pos rfl] at e2
    have e3 : lnd (w148 M Q) n sp t h true p s = lnd M n sp t h true p s := rfl
    have l16 : lnd M n sp t h true p s ≤ sp := landF_le _ _ hp
    rw [e3] at e2
    rw [s57_51]
    simp only [en57, s57_0, s57_1, s57_4, s57_7, s57_8, s57_11, s57_12, s57_13, s57_16, s57_17, s57_20, s57_22, s57_23, s57_26, s57_27, s57_29, s57_30, s57_33, s57_36, s57_39, s57_40, s57_43, s57_44, s57_47, s57_48, s57_49, s57_53, s57_55, s57_58, s57_59, s57_62, s57_63, s57_66, s57_67, s57_68, s57_69, s57_71, s57_74, s57_75, s57_77, s57_80, s57_81, s57_84, s57_87, s57_90, s57_93, s57_96, s57_97, s57_100, s57_101, s57_104, s57_107, cont_some, rl_some, rl_none, if_true, if_false, kd_0, kd_1, kd_2, kd_5, kd_47, kd_141, kd_144, rf_0_0, rf_0_1, rf_0_2, rf_0_3, rf_0_4, rf_1_0, rf_1_1, rf_1_2, rf_2_0, rf_5_0, rf_5_1, rf_5_2, rf_5_3, rf_5_4, rf_5_5, rf_5_6, rf_5_7, rf_47_0, rf_141_0, rf_144_0, rf_144_1, kd_3, kd_6, kd_8, kd_10, kd_12, kd_14, kd_16, kd_18, kd_20, kd_22, kd_142, kd_145, kd_147, kd_24, c1, c2, e2, o_tsh hs3 (show s ≤ 6 by omega), row_add R_nxt, w148_add (show lnd M n sp t h true p s < 17 by omega), ad_n s (by omega)]
    exact ih (s + 1) (by omega) (by omega) _
theorem up_out (h1 : CN M n) (hs : CS M sp) (ht : M 1 5 = (t : Int)) (h4 : t < 4) {h : Nat} (hh : M 13 t = (h : Int)) (h6 : h ≤ 6) : ∀ (m p : Nat), p + m = sp + 1 → ∀ (Q : Nat → Int) (l3 l4 : AV), evL 57 28 [Rf 144, Rf 1, I (p : Int), l3, l4] [] (Hp (w148 M Q) P) = some (none, Hp (cpR (w148 M (mU (lnd M n sp t h true) (M 146) m p Q)) 146 17 148 17) P) := by
  intro m
  induction m with
  | zero =>
    intro p hp Q l3 l4
    have c1 : (sp : Int) < (p : Int) := by omega
    have e1 : w148 M Q 2 1 = (sp : Int) := hs.1
    rw [s57_28]
    simp only [en57, s57_0, s57_1, s57_4, s57_7, s57_8, s57_11, s57_12, s57_13, s57_16, s57_17, s57_20, s57_22, s57_23, s57_26, s57_27, s57_29, s57_30, s57_33, s57_36, s57_39, s57_40, s57_43, s57_44, s57_47, s57_48, s57_49, s57_53, s57_55, s57_58, s57_59, s57_62, s57_63, s57_66, s57_67, s57_68, s57_69, s57_71, s57_74, s57_75, s57_77, s57_80, s57_81, s57_84, s57_87, s57_90, s57_93, s57_96, s57_97, s57_100, s57_101, s57_104, s57_107, cont_some, rl_some, rl_none, if_true, if_false, kd_0, kd_1, kd_2, kd_5, kd_47, kd_141, kd_144, rf_0_0, rf_0_1, rf_0_2, rf_0_3, rf_0_4, rf_1_0, rf_1_1, rf_1_2, rf_2_0, rf_5_0, rf_5_1, rf_5_2, rf_5_3, rf_5_4, rf_5_5, rf_5_6, rf_5_7, rf_47_0, rf_141_0, rf_144_0, rf_144_1, kd_3, kd_6, kd_8, kd_10, kd_12, kd_14, kd_16, kd_18, kd_20, kd_22, kd_142, kd_145, kd_147, kd_24, e1, c1, row_copy R_now R_nxt (by decide), mU]
  | succ m ih =>
    intro p hp Q l3 l4
    have c1 : ¬ (sp : Int) < (p : Int) := by omega
    have e1 : w148 M Q 2 1 = (sp : Int) := hs.1
    have h16 := hs.2
    have e2 : w148 M Q 146 p = M 146 p := rfl
    rw [s57_28]
    by_cases c2 : 0 < M 146 p
    · have hi := up_in (P := P) h1 hs ht h4 hh h6 (show p ≤ sp by omega) c2 5 2 (by omega) (by omega) Q
      have e3 : ((2 : Nat) : Int) = 2 := rfl
      rw [e3] at hi
      simp only [en57, s57_0, s57_1, s57_4, s57_7, s57_8, s57_11, s57_12, s57_13, s57_16, s57_17, s57_20, s57_22, s57_23, s57_26, s57_27, s57_29, s57_30, s57_33, s57_36, s57_39, s57_40, s57_43, s57_44, s57_47, s57_48, s57_49, s57_53, s57_55, s57_58, s57_59, s57_62, s57_63, s57_66, s57_67, s57_68, s57_69, s57_71, s57_74, s57_75, s57_77, s57_80, s57_81, s57_84, s57_87, s57_90, s57_93, s57_96, s57_97, s57_100, s57_101, s57_104, s57_107, cont_some, rl_some, rl_none, if_true, if_false, kd_0, kd_1, kd_2, kd_5, kd_47, kd_141, kd_144, rf_0_0, rf_0_1, rf_0_2, rf_0_3, rf_0_4, rf_1_0, rf_1_1, rf_1_2, rf_2_0, rf_5_0, rf_5_1, rf_5_2, rf_5_3, rf_5_4, rf_5_5, rf_5_6, rf_5_7, rf_47_0, rf_141_0, rf_144_0, rf_144_1, kd_3, kd_6, kd_8, kd_10, kd_12, kd_14, kd_16, kd_18, kd_20, kd_22, kd_142, kd_145, kd_147, kd_24, e1, c1, row_get R_now, rg_n (show p < 17 by omega), e2]
      rw [hi, ih (p + 1) (by omega)]
      simp only [mU, c2, if_true]
    · have c3 : M 146 p ≤ 0 := by omega
      have c4 : ¬ (6 : Int) < 2 := by omega
      have hz := ih (p + 1) (by omega) Q (I (M 146 p)) (I 2)
      simp only [en57, s57_0, s57_1, s57_4, s57_7, s57_8, s57_11, s57_12, s57_13, s57_16, s57_17, s57_20, s57_22, s57_23, s57_26, s57_27, s57_29, s57_30, s57_33, s57_36, s57_39, s57_40, s57_43, s57_44, s57_47, s57_48, s57_49, s57_53, s57_55, s57_58, s57_59, s57_62, s57_63, s57_66, s57_67, s57_68, s57_69, s57_71, s57_74, s57_75, s57_77, s57_80, s57_81, s57_84, s57_87, s57_90, s57_93, s57_96, s57_97, s57_100, s57_101, s57_104, s57_107, cont_some, rl_some, rl_none, if_true, if_false, kd_0, kd_1, kd_2, kd_5, kd_47, kd_141, kd_144, rf_0_0, rf_0_1, rf_0_2, rf_0_3, rf_0_4, rf_1_0, rf_1_1, rf_1_2, rf_2_0, rf_5_0, rf_5_1, rf_5_2, rf_5_3, rf_5_4, rf_5_5, rf_5_6, rf_5_7, rf_47_0, rf_141_0, rf_144_0, rf_144_1, kd_3, kd_6, kd_8, kd_10, kd_12, kd_14, kd_16, kd_18, kd_20, kd_22, kd_142, kd_145, kd_147, kd_24, e1, c1, row_get R_now, rg_n (show p < 17 by omega), e2]
      rw [s57_51]
      simp only [en57, s57_0, s57_1, s57_4, s57_7, s57_8, s57_11, s57_12, s57_13, s57_16, s57_17, s57_20, s57_22, s57_23, s57_26, s57_27, s57_29, s57_30, s57_33, s57_36, s57_39, s57_40, s57_43, s57_44, s57_47, s57_48, s57_49, s57_53, s57_55, s57_58, s57_59, s57_62, s57_63, s57_66, s57_67, s57_68, s57_69, s57_71, s57_74, s57_75, s57_77, s57_80, s57_81, s57_84, s57_87, s57_90, s57_93, s57_96, s57_97, s57_100, s57_101, s57_104, s57_107, cont_some, rl_some, rl_none, if_true, if_false, kd_0, kd_1, kd_2, kd_5, kd_47, kd_141, kd_144, rf_0_0, rf_0_1, rf_0_2, rf_0_3, rf_0_4, rf_1_0, rf_1_1, rf_1_2, rf_2_0, rf_5_0, rf_5_1, rf_5_2, rf_5_3, rf_5_4, rf_5_5, rf_5_6, rf_5_7, rf_47_0, rf_141_0, rf_144_0, rf_144_1, kd_3, kd_6, kd_8, kd_10, kd_12, kd_14, kd_16, kd_18, kd_20, kd_22, kd_142, kd_145, kd_147, kd_24, c3, c4, ad_n p (by omega)]
      rw [hz]
      simp only [mU, c2, if_false]
theorem o_up (h1 : CN M n) (hs : CS M sp) (ht : M 1 5 = (t : Int)) (h4 : t < 4) {h : Nat} (hh : M 13 t = (h : Int)) (h6 : h ≤ 6) : ∃ N, evM 57 [Rf 144, Rf 1] (Hp M P) = some (none, Hp N P) ∧ (∀ a b, a ≠ 146 → a ≠ 148 → N a b = M a b) ∧ ∀ x, x < 17 → N 146 x = mU (lnd M n sp t h true) (M 146) sp 1 (sU (M 146)) x := by
  have e0 : rs (wp M 148 17) 148 17 0 (ml (M 146 0) 9) = w148 M (fun x => if x < 17 then sU (M 146) x else M 148 x) := by
    have := rs_n (M := wp M 148 17) (j := 148) (n := 17) (k := 0) (v := ml (M 146 0) 9) (by omega)
    have e3 : ((0 : Nat) : Int) = 0 := rfl
    rw [e3] at this
    rw [this]
    funext a b
    unfold wr wp w148 sU
    by_cases ha : a = 148
    · subst ha
      by_cases hb : b = 0
      · subst hb; simp
      · simp [hb]
    · simp [ha]
  have e4 : rg (wp M 148 17) 146 17 0 = M 146 0 := rfl
  have e5 : ((1 : Nat) : Int) = 1 := rfl
  refine ⟨cpR (w148 M (mU (lnd M n sp t h true) (M 146) sp 1 (fun x => if x < 17 then sU (M 146) x else M 148 x))) 146 17 148 17, ?_, ?_, ?_⟩
  · have hl2 := fun l3 l4 => up_out (P := P) h1 hs ht h4 hh h6 sp 1 (by omega) (fun x => if x < 17 then sU (M 146) x else M 148 x) l3 l4
    rw [e5] at hl2
    simp only [en57, s57_0, s57_1, s57_4, s57_7, s57_8, s57_11, s57_12, s57_13, s57_16, s57_17, s57_20, s57_22, s57_23, s57_26, s57_27, s57_29, s57_30, s57_33, s57_36, s57_39, s57_40, s57_43, s57_44, s57_47, s57_48, s57_49, s57_53, s57_55, s57_58, s57_59, s57_62, s57_63, s57_66, s57_67, s57_68, s57_69, s57_71, s57_74, s57_75, s57_77, s57_80, s57_81, s57_84, s57_87, s57_90, s57_93, s57_96, s57_97, s57_100, s57_101, s57_104, s57_107, cont_some, rl_some, rl_none, if_true, if_false, kd_0, kd_1, kd_2, kd_5, kd_47, kd_141, kd_144, rf_0_0, rf_0_1, rf_0_2, rf_0_3, rf_0_4, rf_1_0, rf_1_1, rf_1_2, rf_2_0, rf_5_0, rf_5_1, rf_5_2, rf_5_3, rf_5_4, rf_5_5, rf_5_6, rf_5_7, rf_47_0, rf_141_0, rf_144_0, rf_144_1, kd_3, kd_6, kd_8, kd_10, kd_12, kd_14, kd_16, kd_18, kd_20, kd_22, kd_142, kd_145, kd_147, kd_24, row_wipe R_nxt, row_get R_now, e4, row_set R_nxt, e0]
    exact hl2 _ _
  · intro a b ha hb
    unfold cpR w148
    simp [ha, hb]
  · intro x hx
    unfold cpR
    rw [if_pos ⟨rfl, hx⟩, rg_n hx]
    show mU _ _ _ _ _ x = _
    exact mU_congr _ _ _ _ (fun q _ _ => ⟨rfl, fun _ _ _ _ => rfl⟩) (by show (if x < 17 then _ else _) = _; rw [if_pos hx])
theorem lnd_congr {N : Mem} {h : Nat} (e : ∀ b, N 7 b = M 7 b) : lnd N n sp t h = lnd M n sp t h := by
  have : N 7 = M 7 := funext e
  unfold lnd
  rw [this]
theorem o_home_loop (h4 : t < 4) {h : Nat} (h6 : h ≤ 6) {F : Nat → Nat → Nat} {K : Nat} (hK : K ≤ 100) : ∀ (m k : Nat), k + m = K → ∀ (M : Mem) (W : Nat → Int), CN M n → CS M sp → M 1 5 = (t : Int) → M 13 t = (h : Int) → lnd M n sp t h true = F → (∀ x, x < 17 → M 146 x = W x) → ∃ N, evL 56 21 [Rf 144, Rf 1, I (K : Int), I (k : Int)] [] (Hp M P) = some (some (I (hm F sp m W 0)), Hp N P) ∧ (∀ a b, a ≠ 146 → a ≠ 148 → N a b = M a b) := by
  intro m
  induction m with
  | zero =>
    intro k hk M W h1 hs ht hh hF hW
    refine ⟨M, ?_, fun a b _ _ => rfl⟩
    have c1 : (K : Int) ≤ (k : Int) := by omega
    have e1 : rg M 146 17 0 = W 0 := hW 0 (by omega)
    rw [s56_21]
    simp only [en56, s56_0, s56_1, s56_4, s56_7, s56_8, s56_11, s56_12, s56_15, s56_16, s56_19, s56_20, s56_22, s56_23, s56_26, s56_27, s56_28, s56_31, s56_34, s56_37, s56_38, s56_41, s56_42, s56_45, cont_some, rl_some, rl_none, if_true, if_false, kd_0, kd_1, kd_2, kd_5, kd_47, kd_141, kd_144, rf_0_0, rf_0_1, rf_0_2, rf_0_3, rf_0_4, rf_1_0, rf_1_1, rf_1_2, rf_2_0, rf_5_0, rf_5_1, rf_5_2, rf_5_3, rf_5_4, rf_5_5, rf_5_6, rf_5_7, rf_47_0, rf_141_0, rf_144_0, rf_144_1, kd_3, kd_6, kd_8, kd_10, kd_12, kd_14, kd_16, kd_18, kd_20, kd_22, kd_142, kd_145, kd_147, kd_24, c1, row_get R_now, e1, hm]
  | succ m ih =>
    intro k hk M W h1 hs ht hh hF hW
    obtain ⟨N, n1, n2, n3⟩ := o_up (P := P) h1 hs ht h4 hh h6
    have c1 : ¬ (K : Int) ≤ (k : Int) := by omega
    have h16 := hs.2
    have g (a b : Nat) (h1 : a ≠ 146) (h2 : a ≠ 148) := n2 a b h1 h2
    obtain ⟨N2, k1, k2⟩ := ih (k + 1) (by omega) N (mU F W sp 1 (sU W)) (by have := h1; unfold CN at *; rw [g _ _ (by omega) (by omega)]; exact this) (by have := hs; unfold CS at *; rw [g _ _ (by omega) (by omega)]; exact this) (by rw [g _ _ (by omega) (by omega)]; exact ht) (by rw [g _ _ (by omega) (by omega)]; exact hh) (by rw [← hF]; exact congrFun (lnd_congr (fun b => g _ _ (by omega) (by omega))) true) (by
      intro x hx
      rw [n3 x hx, hF]
      exact mU_congr _ _ _ _ (fun q a b => ⟨hW q (by omega), fun _ _ _ _ => rfl⟩) (by unfold sU; rw [hW 0 (by omega)]))
    refine ⟨N2, ?_, fun a b ha hb => by rw [k2 a b ha hb, n2 a b ha hb]⟩
    rw [s56_21]
    simp only [en56, s56_0, s56_1, s56_4, s56_7, s56_8, s56_11, s56_12, s56_15, s56_16, s56_19, s56_20, s56_22, s56_23, s56_26, s56_27, s56_28, s56_31, s56_34, s56_37, s56_38, s56_41, s56_42, s56_45, cont_some, rl_some, rl_none, if_true, if_false, kd_0, kd_1, kd_2, kd_5, kd_47, kd_141, kd_144, rf_0_0, rf_0_1, rf_0_2, rf_0_3, rf_0_4, rf_1_0, rf_1_1, rf_1_2, rf_2_0, rf_5_0, rf_5_1, rf_5_2, rf_5_3, rf_5_4, rf_5_5, rf_5_6, rf_5_7, rf_47_0, rf_141_0, rf_144_0, rf_144_1, kd_3, kd_6, kd_8, kd_10, kd_12, kd_14, kd_16, kd_18, kd_20, kd_22, kd_142, kd_145, kd_147, kd_24, c1, n1, ad_n k (by omega), hm]
    exact k1
theorem o_home (h1 : CN M n) (hs : CS M sp) (ht : M 1 5 = (t : Int)) (h4 : t < 4) {h : Nat} (hh : M 13 t = (h : Int)) (h6 : h ≤ 6) {q : Nat} (hq : M 7 t = (q : Int)) (hqs : q ≤ sp) {K : Nat} (hK : K ≤ 100) : ∃ N, evM 56 [Rf 144, Rf 1, I (K : Int)] (Hp M P) = some (some (I (hm (lnd M n sp t h true) sp K (fun x => if x = q then 1 else 0) 0)), Hp N P) ∧ (∀ a b, a ≠ 146 → a ≠ 148 → N a b = M a b) := by
  have h16 := hs.2
  have e0 : rs (wp M 146 17) 146 17 (q : Int) 1 = wr (wp M 146 17) 146 q 1 := rs_n (by omega)
  have e1 : evM 31 [Rf 1] (Hp (wp M 146 17) P) = some (some (I (q : Int)), Hp (wp M 146 17) P) := by
    rw [g_place (M := wp M 146 17) (t := t) ht h4]
    show some (some (I (M 7 t)), _) = _
    rw [hq]
  obtain ⟨N, k1, k2⟩ := o_home_loop (P := P) (n := n) (sp := sp) h4 h6 (F := lnd M n sp t h true) hK K 0 (by omega) (wr (wp M 146 17) 146 q 1) (fun x => if x = q then 1 else 0) h1 hs ht hh rfl (by
    intro x hx
    unfold wr wp
    by_cases c : x = q
    · simp [c]
    · simp [c, hx])
  refine ⟨N, ?_, ?_⟩
  · have e3 : ((0 : Nat) : Int) = 0 := rfl
    rw [e3] at k1
    simp only [en56, s56_0, s56_1, s56_4, s56_7, s56_8, s56_11, s56_12, s56_15, s56_16, s56_19, s56_20, s56_22, s56_23, s56_26, s56_27, s56_28, s56_31, s56_34, s56_37, s56_38, s56_41, s56_42, s56_45, cont_some, rl_some, rl_none, if_true, if_false, kd_0, kd_1, kd_2, kd_5, kd_47, kd_141, kd_144, rf_0_0, rf_0_1, rf_0_2, rf_0_3, rf_0_4, rf_1_0, rf_1_1, rf_1_2, rf_2_0, rf_5_0, rf_5_1, rf_5_2, rf_5_3, rf_5_4, rf_5_5, rf_5_6, rf_5_7, rf_47_0, rf_141_0, rf_144_0, rf_144_1, kd_3, kd_6, kd_8, kd_10, kd_12, kd_14, kd_16, kd_18, kd_20, kd_22, kd_142, kd_145, kd_147, kd_24, row_wipe R_now, e1, row_set R_now, e0]
    exact k1
  · intro a b ha hb
    rw [k2 a b ha hb]
    unfold wr wp
    simp [ha]
end Odds
