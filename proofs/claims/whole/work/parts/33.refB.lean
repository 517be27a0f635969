section Ref2
variable {M : Mem} {P : PMem} {c : Mem} {n sp t : Nat} {hl : Nat → Nat}
theorem va1_m (M : Mem) (hl : Nat → Nat) {d : Nat} (h : hl d ≤ 6) : 0 ≤ va1 M hl d ∧ va1 M hl d ≤ 270 := by
  have hb := sumN_b (f := fun i => psum (M 15 (6 * d + i))) (B := 45) (hl d) (fun j _ => psum_b _)
  unfold va1
  omega
theorem m_way_loop (h : MN M n) (hH : MH M n hl) (hK : MK c M n hl) : ∀ (m d : Nat), d + m = n → evL 125 4 [Rf 149, I (sumN (va1 c hl) d), I (d : Int)] [] (Hp M P) = some (some (I (sumN (va1 c hl) n)), Hp M P) := by
  obtain ⟨h1, h2⟩ := h
  intro m
  induction m with
  | zero =>
    intro d hd
    have e : d = n := by omega
    subst e
    have c1 : (d : Int) ≤ (d : Int) := by omega
    rw [s125_4]
    simp only [en125, s125_0, s125_1, s125_2, s125_3, s125_5, s125_6, s125_9, s125_10, s125_11, s125_14, s125_15, s125_16, s125_17, s125_20, s125_21, s125_22, s125_25, s125_28, s125_29, cont_some, rl_some, rl_none, if_true, if_false, kd_149, rf_149_0, rf_149_1, rf_149_3, rf_149_5, rf_149_9, rf_149_16, rf_149_17, kd_150, kd_151, kd_152, kd_153, kd_154, kd_155, kd_156, ln_150, ln_151, ln_152, ln_153, ln_154, ln_155, ln_156, Int.reduceLE, Int.reduceLT, Int.reduceToNat, Nat.reduceLT, Int.toNat_natCast, Int.natCast_nonneg, true_or, Int.one_ne_zero, ite_self, h1, c1]
  | succ m ih =>
    intro d hd
    have c1 : ¬ (n : Int) ≤ (d : Int) := by omega
    have hb := sumN_b (f := va1 c hl) (B := 270) d (fun j hj => va1_m c hl (hH j (by omega)).1)
    have hp := va1_m c hl (hH d (by omega)).1
    have e2 : ad (sumN (va1 c hl) d) (va1 c hl d) = sumN (va1 c hl) (d + 1) := by
      rw [ad_eq (by omega) (by omega)]; rfl
    rw [s125_4]
    simp only [en125, s125_0, s125_1, s125_2, s125_3, s125_5, s125_6, s125_9, s125_10, s125_11, s125_14, s125_15, s125_16, s125_17, s125_20, s125_21, s125_22, s125_25, s125_28, s125_29, cont_some, rl_some, rl_none, if_true, if_false, kd_149, rf_149_0, rf_149_1, rf_149_3, rf_149_5, rf_149_9, rf_149_16, rf_149_17, kd_150, kd_151, kd_152, kd_153, kd_154, kd_155, kd_156, ln_150, ln_151, ln_152, ln_153, ln_154, ln_155, ln_156, Int.reduceLE, Int.reduceLT, Int.reduceToNat, Nat.reduceLT, Int.toNat_natCast, Int.natCast_nonneg, true_or, Int.one_ne_zero, ite_self, h1, c1, m_vals hH hK h2 (show d < n by omega), e2, ad_n d (by omega)]
    exact ih (d + 1) (by omega)
theorem m_way (h : MN M n) (hH : MH M n hl) (hK : MK c M n hl) : evM 125 [Rf 149] (Hp M P) = some (some (I (sumN (va1 c hl) n)), Hp M P) := by
  simp only [en125, s125_0, s125_1, s125_2, s125_3, s125_5, s125_6, s125_9, s125_10, s125_11, s125_14, s125_15, s125_16, s125_17, s125_20, s125_21, s125_22, s125_25, s125_28, s125_29]
  exact m_way_loop h hH hK n 0 (by omega)
def mSc (M : Mem) (d : Nat) : Int := M 150 (sl d 10)
theorem m_all_loop (h : MN M n) : ∀ (m d : Nat), d + m = n → evL 126 4 [Rf 149, I (sumA (mSc M) d), I (d : Int)] [] (Hp M P) = some (some (I (sumA (mSc M) n)), Hp M P) := by
  obtain ⟨h1, h2⟩ := h
  intro m
  induction m with
  | zero =>
    intro d hd
    have e : d = n := by omega
    subst e
    have c1 : (d : Int) ≤ (d : Int) := by omega
    rw [s126_4]
    simp only [en126, s126_0, s126_1, s126_2, s126_3, s126_5, s126_6, s126_9, s126_10, s126_11, s126_14, s126_15, s126_16, s126_17, s126_19, s126_22, s126_23, s126_24, s126_27, s126_30, s126_31, cont_some, rl_some, rl_none, if_true, if_false, kd_149, rf_149_0, rf_149_1, rf_149_3, rf_149_5, rf_149_9, rf_149_16, rf_149_17, kd_150, kd_151, kd_152, kd_153, kd_154, kd_155, kd_156, ln_150, ln_151, ln_152, ln_153, ln_154, ln_155, ln_156, Int.reduceLE, Int.reduceLT, Int.reduceToNat, Nat.reduceLT, Int.toNat_natCast, Int.natCast_nonneg, true_or, Int.one_ne_zero, ite_self, h1, c1]
  | succ m ih =>
    intro d hd
    have c1 : ¬ (n : Int) ≤ (d : Int) := by omega
    have e2 : ad (sumA (mSc M) d) (M 150 (sl d 10)) = sumA (mSc M) (d + 1) := rfl
    rw [s126_4]
    simp only [en126, s126_0, s126_1, s126_2, s126_3, s126_5, s126_6, s126_9, s126_10, s126_11, s126_14, s126_15, s126_16, s126_17, s126_19, s126_22, s126_23, s126_24, s126_27, s126_30, s126_31, cont_some, rl_some, rl_none, if_true, if_false, kd_149, rf_149_0, rf_149_1, rf_149_3, rf_149_5, rf_149_9, rf_149_16, rf_149_17, kd_150, kd_151, kd_152, kd_153, kd_154, kd_155, kd_156, ln_150, ln_151, ln_152, ln_153, ln_154, ln_155, ln_156, Int.reduceLE, Int.reduceLT, Int.reduceToNat, Nat.reduceLT, Int.toNat_natCast, Int.natCast_nonneg, true_or, Int.one_ne_zero, ite_self, h1, c1, m_of10 (show d < 4 by omega), e2, ad_n d (by omega)]
    exact ih (d + 1) (by omega)
theorem m_all (h : MN M n) : evM 126 [Rf 149] (Hp M P) = some (some (I (sumA (mSc M) n)), Hp M P) := by
  simp only [en126, s126_0, s126_1, s126_2, s126_3, s126_5, s126_6, s126_9, s126_10, s126_11, s126_14, s126_15, s126_16, s126_17, s126_19, s126_22, s126_23, s126_24, s126_27, s126_30, s126_31]
  exact m_all_loop h n 0 (by omega)
theorem m_draw (h0 : 0 ≤ M 150 5) (h1 : M 150 5 ≤ 9999) : evM 127 [Rf 149] (Hp M P) = some (some (I (ltF (M 150 5))), Hp (wr M 150 5 (ltF (M 150 5))) P) := by
  have c : ¬ (10000 : Int) = 0 := by omega
  have e2 : wr M 150 5 (ltF (M 150 5)) 150 5 = ltF (M 150 5) := by rw [wr_app, if_pos ⟨rfl, rfl⟩]
  simp only [en127, s127_0, s127_1, s127_4, s127_5, s127_8, s127_9, s127_12, s127_13, s127_14, s127_15, s127_18, s127_19, s127_22, s127_23, s127_24, s127_25, s127_28, s127_29, s127_30, cont_some, rl_some, rl_none, if_true, if_false, kd_149, rf_149_0, rf_149_1, rf_149_3, rf_149_5, rf_149_9, rf_149_16, rf_149_17, kd_150, kd_151, kd_152, kd_153, kd_154, kd_155, kd_156, ln_150, ln_151, ln_152, ln_153, ln_154, ln_155, ln_156, Int.reduceLE, Int.reduceLT, Int.reduceToNat, Nat.reduceLT, Int.toNat_natCast, Int.natCast_nonneg, true_or, Int.one_ne_zero, ite_self, lot_eq h0 h1, c, e2, ne_eq, not_false_eq_true]
/-- all cells of the divers d' with 13 d' + k' < x and k' < 10 are 0 -/
def bgP (M : Mem) (x : Nat) : Mem := fun a b => if a = 150 ∧ 25 ≤ b ∧ b - 25 < x ∧ (b - 25) % 13 < 10 then 0 else M a b
theorem bgP_wr {M : Mem} {d k : Nat} (hk : k < 10) : wr (bgP M (13 * d + k)) 150 (sl d k) 0 = bgP M (13 * d + (k + 1)) := by
  funext a b
  unfold wr bgP sl
  by_cases ha : a = 150
  · subst ha
    by_cases hb : b = 25 + 13 * d + k
    · rw [if_pos ⟨rfl, hb⟩, if_pos ⟨rfl, by omega, by omega, by omega⟩]
    · rw [if_neg (by omega)]
      by_cases hc : 25 ≤ b ∧ b - 25 < 13 * d + k ∧ (b - 25) % 13 < 10
      · rw [if_pos ⟨rfl, hc⟩, if_pos ⟨rfl, by omega⟩]
      · rw [if_neg (by omega), if_neg (by omega)]
  · rw [if_neg (by omega), if_neg (by omega), if_neg (by omega)]
theorem bgP_up {M : Mem} {d : Nat} : bgP M (13 * d + 10) = bgP M (13 * (d + 1)) := by
  funext a b
  unfold bgP
  by_cases hc : a = 150 ∧ 25 ≤ b ∧ b - 25 < 13 * d + 10 ∧ (b - 25) % 13 < 10
  · rw [if_pos hc, if_pos (by omega)]
  · rw [if_neg hc, if_neg (by omega)]
theorem bgP_0 {M : Mem} : bgP M 0 = M := by
  funext a b
  unfold bgP
  rw [if_neg (by omega)]
theorem bg_in {d : Nat} (hd : d < 4) : ∀ (m k : Nat), k + m = 10 → evL 128 22 [Rf 149, I (d : Int), I (k : Int)] [] (Hp (bgP M (13 * d + k)) P) = evL 128 10 [Rf 149, I ((d + 1 : Nat) : Int), I 10] [] (Hp (bgP M (13 * (d + 1))) P) := by
  intro m
  induction m with
  | zero =>
    intro k hk
    have e : k = 10 := by omega
    subst e
    have c1 : (10 : Int) ≤ ((10 : Nat) : Int) := by omega
    rw [s128_22]
    simp only [en128, s128_0, s128_1, s128_4, s128_5, s128_7, s128_8, s128_9, s128_11, s128_12, s128_15, s128_16, s128_17, s128_20, s128_21, s128_23, s128_25, s128_28, s128_29, s128_30, s128_31, s128_32, s128_35, s128_38, s128_41, s128_44, s128_47, cont_some, rl_some, rl_none, if_true, if_false, kd_149, rf_149_0, rf_149_1, rf_149_3, rf_149_5, rf_149_9, rf_149_16, rf_149_17, kd_150, kd_151, kd_152, kd_153, kd_154, kd_155, kd_156, ln_150, ln_151, ln_152, ln_153, ln_154, ln_155, ln_156, Int.reduceLE, Int.reduceLT, Int.reduceToNat, Nat.reduceLT, Int.toNat_natCast, Int.natCast_nonneg, true_or, Int.one_ne_zero, ite_self, c1, ad_n d (by omega), bgP_up]
    rfl
  | succ m ih =>
    intro k hk
    have c1 : ¬ (10 : Int) ≤ (k : Int) := by omega
    rw [s128_22]
    simp only [en128, s128_0, s128_1, s128_4, s128_5, s128_7, s128_8, s128_9, s128_11, s128_12, s128_15, s128_16, s128_17, s128_20, s128_21, s128_23, s128_25, s128_28, s128_29, s128_30, s128_31, s128_32, s128_35, s128_38, s128_41, s128_44, s128_47, cont_some, rl_some, rl_none, if_true, if_false, kd_149, rf_149_0, rf_149_1, rf_149_3, rf_149_5, rf_149_9, rf_149_16, rf_149_17, kd_150, kd_151, kd_152, kd_153, kd_154, kd_155, kd_156, ln_150, ln_151, ln_152, ln_153, ln_154, ln_155, ln_156, Int.reduceLE, Int.reduceLT, Int.reduceToNat, Nat.reduceLT, Int.toNat_natCast, Int.natCast_nonneg, true_or, Int.one_ne_zero, ite_self, c1, m_lay (w := k) hd (by omega), bgP_wr (show k < 10 by omega), ad_n k (by omega)]
    exact ih (k + 1) (by omega)
theorem bg_out (h : MN M n) {l2 : AV} : ∀ (m d : Nat) (l2 : AV), d + m = n → evL 128 10 [Rf 149, I (d : Int), l2] [] (Hp (bgP M (13 * d)) P) = some (none, Hp (bgP M (13 * n)) P) := by
  obtain ⟨h1, h2⟩ := h
  have e0 (x : Nat) : bgP M x 150 0 = (n : Int) := by unfold bgP; rw [if_neg (by omega)]; exact h1
  intro m
  induction m with
  | zero =>
    intro d l2 hd
    have e : d = n := by omega
    subst e
    have c1 : (d : Int) ≤ (d : Int) := by omega
    rw [s128_10]
    simp only [en128, s128_0, s128_1, s128_4, s128_5, s128_7, s128_8, s128_9, s128_11, s128_12, s128_15, s128_16, s128_17, s128_20, s128_21, s128_23, s128_25, s128_28, s128_29, s128_30, s128_31, s128_32, s128_35, s128_38, s128_41, s128_44, s128_47, cont_some, rl_some, rl_none, if_true, if_false, kd_149, rf_149_0, rf_149_1, rf_149_3, rf_149_5, rf_149_9, rf_149_16, rf_149_17, kd_150, kd_151, kd_152, kd_153, kd_154, kd_155, kd_156, ln_150, ln_151, ln_152, ln_153, ln_154, ln_155, ln_156, Int.reduceLE, Int.reduceLT, Int.reduceToNat, Nat.reduceLT, Int.toNat_natCast, Int.natCast_nonneg, true_or, Int.one_ne_zero, ite_self, e0, c1]
  | succ m ih =>
    intro d l2 hd
    have c1 : ¬ (n : Int) ≤ (d : Int) := by omega
    have hi := bg_in (M := M) (P := P) (show d < 4 by omega) 10 0 (by omega)
    have e3 : ((0 : Nat) : Int) = 0 := rfl
    rw [e3, Nat.add_zero] at hi
    rw [s128_10]
    simp only [en128, s128_0, s128_1, s128_4, s128_5, s128_7, s128_8, s128_9, s128_11, s128_12, s128_15, s128_16, s128_17, s128_20, s128_21, s128_23, s128_25, s128_28, s128_29, s128_30, s128_31, s128_32, s128_35, s128_38, s128_41, s128_44, s128_47, cont_some, rl_some, rl_none, if_true, if_false, kd_149, rf_149_0, rf_149_1, rf_149_3, rf_149_5, rf_149_9, rf_149_16, rf_149_17, kd_150, kd_151, kd_152, kd_153, kd_154, kd_155, kd_156, ln_150, ln_151, ln_152, ln_153, ln_154, ln_155, ln_156, Int.reduceLE, Int.reduceLT, Int.reduceToNat, Nat.reduceLT, Int.toNat_natCast, Int.natCast_nonneg, true_or, Int.one_ne_zero, ite_self, e0, c1]
    rw [hi]
    exact ih (d + 1) _ (by omega)
def bgR (M : Mem) (n : Nat) : Mem := bgP (wr M 150 4 25) (13 * n)
theorem m_bg (h : MN M n) : evM 128 [Rf 149] (Hp M P) = some (none, Hp (bgR M n) P) := by
  have h' : MN (wr M 150 4 25) n := h
  have := bg_out (P := P) h' (l2 := I 0) n 0
  rw [Nat.mul_zero, bgP_0] at this
  simp only [en128, s128_0, s128_1, s128_4, s128_5, s128_7, s128_8, s128_9, s128_11, s128_12, s128_15, s128_16, s128_17, s128_20, s128_21, s128_23, s128_25, s128_28, s128_29, s128_30, s128_31, s128_32, s128_35, s128_38, s128_41, s128_44, s128_47, cont_some, rl_some, rl_none, if_true, if_false, kd_149, rf_149_0, rf_149_1, rf_149_3, rf_149_5, rf_149_9, rf_149_16, rf_149_17, kd_150, kd_151, kd_152, kd_153, kd_154, kd_155, kd_156, ln_150, ln_151, ln_152, ln_153, ln_154, ln_155, ln_156, Int.reduceLE, Int.reduceLT, Int.reduceToNat, Nat.reduceLT, Int.toNat_natCast, Int.natCast_nonneg, true_or, Int.one_ne_zero, ite_self]
  exact this _ (by omega)
theorem m_refuses {r : Int} : evM 130 [Rf 149, I r] (Hp M P) = some (some (I r), Hp (wr M 150 7 (ad (M 150 7) 1)) P) := by
  simp only [en130, s130_0, s130_1, s130_4, s130_6, s130_7, s130_8, s130_9, s130_10, s130_11, s130_12, cont_some, rl_some, rl_none, if_true, if_false, kd_149, rf_149_0, rf_149_1, rf_149_3, rf_149_5, rf_149_9, rf_149_16, rf_149_17, kd_150, kd_151, kd_152, kd_153, kd_154, kd_155, kd_156, ln_150, ln_151, ln_152, ln_153, ln_154, ln_155, ln_156, Int.reduceLE, Int.reduceLT, Int.reduceToNat, Nat.reduceLT, Int.toNat_natCast, Int.natCast_nonneg, true_or, Int.one_ne_zero, ite_self]
def rmR (M : Mem) (t : Nat) (back : Int) : Int := if M 150 3 = 2 then 1 else if M 150 3 = 1 then 3 else if back = 0 then 0 else if M 150 (sl t 1) = 1 ∨ M 150 (sl t 0) = 0 then 4 else 0
theorem m_reasonM (ht : M 150 2 = (t : Int)) (h4 : t < 4) {back : Int} : evM 131 [Rf 149, I back] (Hp M P) = some (some (I (rmR M t back)), Hp M P) := by
  unfold rmR
  by_cases c1 : M 150 3 = 2
  · simp only [en131, s131_0, s131_1, s131_4, s131_5, s131_6, s131_7, s131_8, s131_11, s131_12, s131_13, s131_14, s131_17, s131_18, s131_21, s131_22, s131_25, s131_26, s131_27, s131_28, s131_31, s131_32, s131_35, s131_36, s131_39, s131_40, s131_41, s131_42, s131_45, s131_46, s131_49, s131_50, s131_51, s131_52, s131_55, s131_58, s131_59, s131_62, s131_63, cont_some, rl_some, rl_none, if_true, if_false, kd_149, rf_149_0, rf_149_1, rf_149_3, rf_149_5, rf_149_9, rf_149_16, rf_149_17, kd_150, kd_151, kd_152, kd_153, kd_154, kd_155, kd_156, ln_150, ln_151, ln_152, ln_153, ln_154, ln_155, ln_156, Int.reduceLE, Int.reduceLT, Int.reduceToNat, Nat.reduceLT, Int.toNat_natCast, Int.natCast_nonneg, true_or, Int.one_ne_zero, ite_self, ht, c1]
  · by_cases c2 : M 150 3 = 1
    · have d1 : ¬ (1 : Int) = 2 := by omega
      simp only [en131, s131_0, s131_1, s131_4, s131_5, s131_6, s131_7, s131_8, s131_11, s131_12, s131_13, s131_14, s131_17, s131_18, s131_21, s131_22, s131_25, s131_26, s131_27, s131_28, s131_31, s131_32, s131_35, s131_36, s131_39, s131_40, s131_41, s131_42, s131_45, s131_46, s131_49, s131_50, s131_51, s131_52, s131_55, s131_58, s131_59, s131_62, s131_63, cont_some, rl_some, rl_none, if_true, if_false, kd_149, rf_149_0, rf_149_1, rf_149_3, rf_149_5, rf_149_9, rf_149_16, rf_149_17, kd_150, kd_151, kd_152, kd_153, kd_154, kd_155, kd_156, ln_150, ln_151, ln_152, ln_153, ln_154, ln_155, ln_156, Int.reduceLE, Int.reduceLT, Int.reduceToNat, Nat.reduceLT, Int.toNat_natCast, Int.natCast_nonneg, true_or, Int.one_ne_zero, ite_self, ht, c1, c2, d1]
    · by_cases c3 : back = 0
      · simp only [en131, s131_0, s131_1, s131_4, s131_5, s131_6, s131_7, s131_8, s131_11, s131_12, s131_13, s131_14, s131_17, s131_18, s131_21, s131_22, s131_25, s131_26, s131_27, s131_28, s131_31, s131_32, s131_35, s131_36, s131_39, s131_40, s131_41, s131_42, s131_45, s131_46, s131_49, s131_50, s131_51, s131_52, s131_55, s131_58, s131_59, s131_62, s131_63, cont_some, rl_some, rl_none, if_true, if_false, kd_149, rf_149_0, rf_149_1, rf_149_3, rf_149_5, rf_149_9, rf_149_16, rf_149_17, kd_150, kd_151, kd_152, kd_153, kd_154, kd_155, kd_156, ln_150, ln_151, ln_152, ln_153, ln_154, ln_155, ln_156, Int.reduceLE, Int.reduceLT, Int.reduceToNat, Nat.reduceLT, Int.toNat_natCast, Int.natCast_nonneg, true_or, Int.one_ne_zero, ite_self, ht, c1, c2, c3]
      · by_cases c4 : M 150 (sl t 1) = 1
        · simp only [en131, s131_0, s131_1, s131_4, s131_5, s131_6, s131_7, s131_8, s131_11, s131_12, s131_13, s131_14, s131_17, s131_18, s131_21, s131_22, s131_25, s131_26, s131_27, s131_28, s131_31, s131_32, s131_35, s131_36, s131_39, s131_40, s131_41, s131_42, s131_45, s131_46, s131_49, s131_50, s131_51, s131_52, s131_55, s131_58, s131_59, s131_62, s131_63, cont_some, rl_some, rl_none, if_true, if_false, kd_149, rf_149_0, rf_149_1, rf_149_3, rf_149_5, rf_149_9, rf_149_16, rf_149_17, kd_150, kd_151, kd_152, kd_153, kd_154, kd_155, kd_156, ln_150, ln_151, ln_152, ln_153, ln_154, ln_155, ln_156, Int.reduceLE, Int.reduceLT, Int.reduceToNat, Nat.reduceLT, Int.toNat_natCast, Int.natCast_nonneg, true_or, Int.one_ne_zero, ite_self, ht, c1, c2, c3, m_of1 h4, c4]
        · by_cases c5 : M 150 (sl t 0) = 0
          · simp only [en131, s131_0, s131_1, s131_4, s131_5, s131_6, s131_7, s131_8, s131_11, s131_12, s131_13, s131_14, s131_17, s131_18, s131_21, s131_22, s131_25, s131_26, s131_27, s131_28, s131_31, s131_32, s131_35, s131_36, s131_39, s131_40, s131_41, s131_42, s131_45, s131_46, s131_49, s131_50, s131_51, s131_52, s131_55, s131_58, s131_59, s131_62, s131_63, cont_some, rl_some, rl_none, if_true, if_false, kd_149, rf_149_0, rf_149_1, rf_149_3, rf_149_5, rf_149_9, rf_149_16, rf_149_17, kd_150, kd_151, kd_152, kd_153, kd_154, kd_155, kd_156, ln_150, ln_151, ln_152, ln_153, ln_154, ln_155, ln_156, Int.reduceLE, Int.reduceLT, Int.reduceToNat, Nat.reduceLT, Int.toNat_natCast, Int.natCast_nonneg, true_or, Int.one_ne_zero, ite_self, ht, c1, c2, c3, m_of1 h4, c4, m_of0 h4, c5, or_true]
          · simp only [en131, s131_0, s131_1, s131_4, s131_5, s131_6, s131_7, s131_8, s131_11, s131_12, s131_13, s131_14, s131_17, s131_18, s131_21, s131_22, s131_25, s131_26, s131_27, s131_28, s131_31, s131_32, s131_35, s131_36, s131_39, s131_40, s131_41, s131_42, s131_45, s131_46, s131_49, s131_50, s131_51, s131_52, s131_55, s131_58, s131_59, s131_62, s131_63, cont_some, rl_some, rl_none, if_true, if_false, kd_149, rf_149_0, rf_149_1, rf_149_3, rf_149_5, rf_149_9, rf_149_16, rf_149_17, kd_150, kd_151, kd_152, kd_153, kd_154, kd_155, kd_156, ln_150, ln_151, ln_152, ln_153, ln_154, ln_155, ln_156, Int.reduceLE, Int.reduceLT, Int.reduceToNat, Nat.reduceLT, Int.toNat_natCast, Int.natCast_nonneg, true_or, Int.one_ne_zero, ite_self, ht, c1, c2, c3, m_of1 h4, c4, m_of0 h4, c5, or_false]
theorem m_steps {d h : Nat} (hd : d < 4) (hh : M 150 (sl d 3) = (h : Int)) (h6 : h ≤ 6) {s : Int} (s0 : 0 ≤ s) (s1 : s ≤ 50) : evM 133 [Rf 149, I (d : Int), I s] (Hp M P) = some (some (I (((s - h).toNat : Nat) : Int)), Hp M P) := by
  by_cases c1 : s ≤ (h : Int)
  · have e : (((s - h).toNat : Nat) : Int) = 0 := by omega
    rw [e]
    simp only [en133, s133_0, s133_1, s133_2, s133_3, s133_4, s133_7, s133_10, s133_11, s133_12, s133_13, s133_14, s133_17, s133_18, s133_21, s133_22, cont_some, rl_some, rl_none, if_true, if_false, kd_149, rf_149_0, rf_149_1, rf_149_3, rf_149_5, rf_149_9, rf_149_16, rf_149_17, kd_150, kd_151, kd_152, kd_153, kd_154, kd_155, kd_156, ln_150, ln_151, ln_152, ln_153, ln_154, ln_155, ln_156, Int.reduceLE, Int.reduceLT, Int.reduceToNat, Nat.reduceLT, Int.toNat_natCast, Int.natCast_nonneg, true_or, Int.one_ne_zero, ite_self, m_of3 hd, hh, c1]
  · have e : sb s (h : Int) = (((s - h).toNat : Nat) : Int) := by rw [sb_eq (by omega) (by omega)]; omega
    simp only [en133, s133_0, s133_1, s133_2, s133_3, s133_4, s133_7, s133_10, s133_11, s133_12, s133_13, s133_14, s133_17, s133_18, s133_21, s133_22, cont_some, rl_some, rl_none, if_true, if_false, kd_149, rf_149_0, rf_149_1, rf_149_3, rf_149_5, rf_149_9, rf_149_16, rf_149_17, kd_150, kd_151, kd_152, kd_153, kd_154, kd_155, kd_156, ln_150, ln_151, ln_152, ln_153, ln_154, ln_155, ln_156, Int.reduceLE, Int.reduceLT, Int.reduceToNat, Nat.reduceLT, Int.toNat_natCast, Int.natCast_nonneg, true_or, Int.one_ne_zero, ite_self, m_of3 hd, hh, c1, e]
def rdR (M : Mem) : Int := if M 150 3 = 2 then 1 else if M 150 3 = 0 then 2 else 0
theorem m_reasonD : evM 135 [Rf 149] (Hp M P) = some (some (I (rdR M)), Hp M P) := by
  unfold rdR
  by_cases c1 : M 150 3 = 2
  · simp only [en135, s135_0, s135_1, s135_4, s135_5, s135_6, s135_7, s135_10, s135_11, s135_14, s135_15, s135_18, s135_19, s135_20, s135_23, s135_24, s135_27, s135_28, cont_some, rl_some, rl_none, if_true, if_false, kd_149, rf_149_0, rf_149_1, rf_149_3, rf_149_5, rf_149_9, rf_149_16, rf_149_17, kd_150, kd_151, kd_152, kd_153, kd_154, kd_155, kd_156, ln_150, ln_151, ln_152, ln_153, ln_154, ln_155, ln_156, Int.reduceLE, Int.reduceLT, Int.reduceToNat, Nat.reduceLT, Int.toNat_natCast, Int.natCast_nonneg, true_or, Int.one_ne_zero, ite_self, c1]
  · by_cases c2 : M 150 3 = 0
    · have d1 : ¬ (0 : Int) = 2 := by omega
      simp only [en135, s135_0, s135_1, s135_4, s135_5, s135_6, s135_7, s135_10, s135_11, s135_14, s135_15, s135_18, s135_19, s135_20, s135_23, s135_24, s135_27, s135_28, cont_some, rl_some, rl_none, if_true, if_false, kd_149, rf_149_0, rf_149_1, rf_149_3, rf_149_5, rf_149_9, rf_149_16, rf_149_17, kd_150, kd_151, kd_152, kd_153, kd_154, kd_155, kd_156, ln_150, ln_151, ln_152, ln_153, ln_154, ln_155, ln_156, Int.reduceLE, Int.reduceLT, Int.reduceToNat, Nat.reduceLT, Int.toNat_natCast, Int.natCast_nonneg, true_or, Int.one_ne_zero, ite_self, c1, c2, d1]
    · simp only [en135, s135_0, s135_1, s135_4, s135_5, s135_6, s135_7, s135_10, s135_11, s135_14, s135_15, s135_18, s135_19, s135_20, s135_23, s135_24, s135_27, s135_28, cont_some, rl_some, rl_none, if_true, if_false, kd_149, rf_149_0, rf_149_1, rf_149_3, rf_149_5, rf_149_9, rf_149_16, rf_149_17, kd_150, kd_151, kd_152, kd_153, kd_154, kd_155, kd_156, ln_150, ln_151, ln_152, ln_153, ln_154, ln_155, ln_156, Int.reduceLE, Int.reduceLT, Int.reduceToNat, Nat.reduceLT, Int.toNat_natCast, Int.natCast_nonneg, true_or, Int.one_ne_zero, ite_self, c1, c2]
def alH (f : Nat → Int) : Nat → Int
  | 0 => 1
  | k + 1 => if alH f k = 0 then 0 else if f k = 1 then 1 else 0
def mHo (M : Mem) (d : Nat) : Int := M 150 (sl d 2)
theorem alH_01 (f : Nat → Int) (k : Nat) : alH f k = 0 ∨ alH f k = 1 := by
  cases k with
  | zero => exact Or.inr rfl
  | succ k => unfold alH; split
              · exact Or.inl rfl
              · split
                · exact Or.inr rfl
                · exact Or.inl rfl
theorem m_home_loop (h : MN M n) : ∀ (m d : Nat), d + m = n → evL 136 4 [Rf 149, I (alH (mHo M) d), I (d : Int)] [] (Hp M P) = some (some (I (alH (mHo M) n)), Hp M P) := by
  obtain ⟨h1, h2⟩ := h
  intro m
  induction m with
  | zero =>
    intro d hd
    have e : d = n := by omega
    subst e
    have c1 : (d : Int) ≤ (d : Int) := by omega
    have hz := alH_01 (mHo M) d
    rw [s136_4]
    simp only [en136, s136_0, s136_1, s136_2, s136_3, s136_5, s136_6, s136_9, s136_10, s136_11, s136_14, s136_15, s136_18, s136_19, s136_20, s136_21, s136_24, s136_25, s136_28, s136_29, s136_32, s136_33, s136_34, s136_37, s136_40, s136_41, cont_some, rl_some, rl_none, if_true, if_false, kd_149, rf_149_0, rf_149_1, rf_149_3, rf_149_5, rf_149_9, rf_149_16, rf_149_17, kd_150, kd_151, kd_152, kd_153, kd_154, kd_155, kd_156, ln_150, ln_151, ln_152, ln_153, ln_154, ln_155, ln_156, Int.reduceLE, Int.reduceLT, Int.reduceToNat, Nat.reduceLT, Int.toNat_natCast, Int.natCast_nonneg, true_or, Int.one_ne_zero, ite_self, h1, c1, hz]
  | succ m ih =>
    intro d hd
    have c1 : ¬ (n : Int) ≤ (d : Int) := by omega
    have ih' := ih (d + 1) (by omega)
    rw [s136_4]
    by_cases c2 : alH (mHo M) d = 0
    · have e2 : alH (mHo M) (d + 1) = 0 := by unfold alH; rw [if_pos c2]
      rw [e2] at ih'
      simp only [en136, s136_0, s136_1, s136_2, s136_3, s136_5, s136_6, s136_9, s136_10, s136_11, s136_14, s136_15, s136_18, s136_19, s136_20, s136_21, s136_24, s136_25, s136_28, s136_29, s136_32, s136_33, s136_34, s136_37, s136_40, s136_41, cont_some, rl_some, rl_none, if_true, if_false, kd_149, rf_149_0, rf_149_1, rf_149_3, rf_149_5, rf_149_9, rf_149_16, rf_149_17, kd_150, kd_151, kd_152, kd_153, kd_154, kd_155, kd_156, ln_150, ln_151, ln_152, ln_153, ln_154, ln_155, ln_156, Int.reduceLE, Int.reduceLT, Int.reduceToNat, Nat.reduceLT, Int.toNat_natCast, Int.natCast_nonneg, true_or, Int.one_ne_zero, ite_self, h1, c1, c2, ad_n d (by omega)]
      exact ih'
    · by_cases c3 : mHo M d = 1
      · have e2 : alH (mHo M) (d + 1) = 1 := by unfold alH; rw [if_neg c2, if_pos c3]
        have c3' : M 150 (sl d 2) = 1 := c3
        rw [e2] at ih'
        simp only [en136, s136_0, s136_1, s136_2, s136_3, s136_5, s136_6, s136_9, s136_10, s136_11, s136_14, s136_15, s136_18, s136_19, s136_20, s136_21, s136_24, s136_25, s136_28, s136_29, s136_32, s136_33, s136_34, s136_37, s136_40, s136_41, cont_some, rl_some, rl_none, if_true, if_false, kd_149, rf_149_0, rf_149_1, rf_149_3, rf_149_5, rf_149_9, rf_149_16, rf_149_17, kd_150, kd_151, kd_152, kd_153, kd_154, kd_155, kd_156, ln_150, ln_151, ln_152, ln_153, ln_154, ln_155, ln_156, Int.reduceLE, Int.reduceLT, Int.reduceToNat, Nat.reduceLT, Int.toNat_natCast, Int.natCast_nonneg, true_or, Int.one_ne_zero, ite_self, h1, c1, c2, m_of2 (show d < 4 by omega), c3', ad_n d (by omega)]
        exact ih'
      · have e2 : alH (mHo M) (d + 1) = 0 := by unfold alH; rw [if_neg c2, if_neg c3]
        have c3' : ¬ M 150 (sl d 2) = 1 := c3
        rw [e2] at ih'
        simp only [en136, s136_0, s136_1, s136_2, s136_3, s136_5, s136_6, s136_9, s136_10, s136_11, s136_14, s136_15, s136_18, s136_19, s136_20, s136_21, s136_24, s136_25, s136_28, s136_29, s136_32, s136_33, s136_34, s136_37, s136_40, s136_41, cont_some, rl_some, rl_none, if_true, if_false, kd_149, rf_149_0, rf_149_1, rf_149_3, rf_149_5, rf_149_9, rf_149_16, rf_149_17, kd_150, kd_151, kd_152, kd_153, kd_154, kd_155, kd_156, ln_150, ln_151, ln_152, ln_153, ln_154, ln_155, ln_156, Int.reduceLE, Int.reduceLT, Int.reduceToNat, Nat.reduceLT, Int.toNat_natCast, Int.natCast_nonneg, true_or, Int.one_ne_zero, ite_self, h1, c1, c2, m_of2 (show d < 4 by omega), c3', ad_n d (by omega)]
        exact ih'
theorem m_allHome (h : MN M n) : evM 136 [Rf 149] (Hp M P) = some (some (I (alH (mHo M) n)), Hp M P) := by
  simp only [en136, s136_0, s136_1, s136_2, s136_3, s136_5, s136_6, s136_9, s136_10, s136_11, s136_14, s136_15, s136_18, s136_19, s136_20, s136_21, s136_24, s136_25, s136_28, s136_29, s136_32, s136_33, s136_34, s136_37, s136_40, s136_41]
  exact m_home_loop h n 0 (by omega)
/-! the place behind some steps -/
theorem land_stay {f : Nat → Int} {up : Bool} {p : Nat} (h : go1 f n t sp up p = p) : ∀ k, landF f n t sp up k p = p := by
  intro k
  induction k with
  | zero => rfl
  | succ k ih => rw [landF, h]; exact ih
theorem bh_up (h : MN M n) (hS : MS M sp) (hL : ML c M n) (hu : UQ c n) {fr st go p k : Int} {l1 : Nat} : ∀ x : Nat, x ≤ sp → ∀ l8 : AV, evL 132 38 [Rf 149, I (l1 : Int), I fr, I 1, I st, I p, I go, I k, I (x : Int)] [] (Hp M P) = evL 132 82 [Rf 149, I (l1 : Int), I fr, I 1, I st, I p, I go, I k, I (stU (c 7) n l1 x : Int)] [] (Hp M P) := by
  obtain ⟨h1, h2⟩ := hS
  intro x
  induction x with
  | zero =>
    intro _ l8
    have c1 : ((0 : Nat) : Int) ≤ 0 := by omega
    rw [s132_38]
    simp only [en132, s132_0, s132_1, s132_3, s132_4, s132_6, s132_7, s132_11, s132_13, s132_16, s132_18, s132_21, s132_22, s132_25, s132_27, s132_28, s132_29, s132_32, s132_34, s132_35, s132_36, s132_40, s132_43, s132_45, s132_46, s132_49, s132_51, s132_52, s132_55, s132_56, s132_58, s132_59, s132_62, s132_65, s132_67, s132_68, s132_71, s132_72, s132_75, s132_76, s132_77, s132_79, s132_84, s132_85, s132_88, s132_90, s132_91, s132_94, s132_95, s132_98, s132_100, s132_103, s132_104, s132_107, s132_108, s132_110, s132_112, s132_113, s132_116, s132_118, s132_119, s132_122, s132_124, s132_127, s132_129, s132_131, s132_134, s132_137, s132_139, cont_some, rl_some, rl_none, if_true, if_false, kd_149, rf_149_0, rf_149_1, rf_149_3, rf_149_5, rf_149_9, rf_149_16, rf_149_17, kd_150, kd_151, kd_152, kd_153, kd_154, kd_155, kd_156, ln_150, ln_151, ln_152, ln_153, ln_154, ln_155, ln_156, Int.reduceLE, Int.reduceLT, Int.reduceToNat, Nat.reduceLT, Int.toNat_natCast, Int.natCast_nonneg, true_or, Int.one_ne_zero, ite_self, c1, stU]
  | succ x ih =>
    intro hx l8
    have c1 : ¬ ((x + 1 : Nat) : Int) ≤ 0 := by omega
    have c2 : ¬ (sp : Int) < ((x + 1 : Nat) : Int) := by omega
    have hf := m_free (P := P) h hL hu (s := ((x + 1 : Nat) : Int)) (by omega) (d := l1)
    have e1 : ad ((x + 1 : Nat) : Int) (-1) = (x : Int) := by rw [ad_eq (by omega) (by omega)]; omega
    rw [s132_38]
    by_cases c3 : occ (c 7) l1 ((x + 1 : Nat) : Int) n 0 = true
    · rw [if_pos c3] at hf
      simp only [en132, s132_0, s132_1, s132_3, s132_4, s132_6, s132_7, s132_11, s132_13, s132_16, s132_18, s132_21, s132_22, s132_25, s132_27, s132_28, s132_29, s132_32, s132_34, s132_35, s132_36, s132_40, s132_43, s132_45, s132_46, s132_49, s132_51, s132_52, s132_55, s132_56, s132_58, s132_59, s132_62, s132_65, s132_67, s132_68, s132_71, s132_72, s132_75, s132_76, s132_77, s132_79, s132_84, s132_85, s132_88, s132_90, s132_91, s132_94, s132_95, s132_98, s132_100, s132_103, s132_104, s132_107, s132_108, s132_110, s132_112, s132_113, s132_116, s132_118, s132_119, s132_122, s132_124, s132_127, s132_129, s132_131, s132_134, s132_137, s132_139, cont_some, rl_some, rl_none, if_true, if_false, kd_149, rf_149_0, rf_149_1, rf_149_3, rf_149_5, rf_149_9, rf_149_16, rf_149_17, kd_150, kd_151, kd_152, kd_153, kd_154, kd_155, kd_156, ln_150, ln_151, ln_152, ln_153, ln_154, ln_155, ln_156, Int.reduceLE, Int.reduceLT, Int.reduceToNat, Nat.reduceLT, Int.toNat_natCast, Int.natCast_nonneg, true_or, Int.one_ne_zero, ite_self, c1, c2, h1, hf, e1, Int.one_ne_zero]
      rw [ih (by omega) l8, stU, if_pos c3]
    · rw [if_neg c3] at hf
      simp only [en132, s132_0, s132_1, s132_3, s132_4, s132_6, s132_7, s132_11, s132_13, s132_16, s132_18, s132_21, s132_22, s132_25, s132_27, s132_28, s132_29, s132_32, s132_34, s132_35, s132_36, s132_40, s132_43, s132_45, s132_46, s132_49, s132_51, s132_52, s132_55, s132_56, s132_58, s132_59, s132_62, s132_65, s132_67, s132_68, s132_71, s132_72, s132_75, s132_76, s132_77, s132_79, s132_84, s132_85, s132_88, s132_90, s132_91, s132_94, s132_95, s132_98, s132_100, s132_103, s132_104, s132_107, s132_108, s132_110, s132_112, s132_113, s132_116, s132_118, s132_119, s132_122, s132_124, s132_127, s132_129, s132_131, s132_134, s132_137, s132_139, cont_some, rl_some, rl_none, if_true, if_false, kd_149, rf_149_0, rf_149_1, rf_149_3, rf_149_5, rf_149_9, rf_149_16, rf_149_17, kd_150, kd_151, kd_152, kd_153, kd_154, kd_155, kd_156, ln_150, ln_151, ln_152, ln_153, ln_154, ln_155, ln_156, Int.reduceLE, Int.reduceLT, Int.reduceToNat, Nat.reduceLT, Int.toNat_natCast, Int.natCast_nonneg, true_or, Int.one_ne_zero, ite_self, c1, c2, h1, hf, e1, Int.one_ne_zero]
      rw [stU, if_neg c3]
theorem bh_dn (h : MN M n) (hS : MS M sp) (hL : ML c M n) (hu : UQ c n) {fr st go p k : Int} {l1 y : Nat} : ∀ m x : Nat, x + m = sp + 1 → 1 ≤ x → ∃ z : Nat, evL 132 38 [Rf 149, I (l1 : Int), I fr, I 0, I st, I p, I go, I k, I (x : Int)] [] (Hp M P) = evL 132 82 [Rf 149, I (l1 : Int), I fr, I 0, I st, I p, I go, I k, I (z : Int)] [] (Hp M P) ∧ 1 ≤ z ∧ z ≤ sp + 1 ∧ stD (c 7) n l1 y m x = (if z ≤ sp then z else y) := by
  obtain ⟨h1, h2⟩ := hS
  intro m
  induction m with
  | zero =>
    intro x hx h0
    refine ⟨x, ?_, by omega, by omega, by rw [if_neg (by omega)]; rfl⟩
    have c1 : ¬ (x : Int) ≤ 0 := by omega
    have c2 : (sp : Int) < (x : Int) := by omega
    rw [s132_38]
    simp only [en132, s132_0, s132_1, s132_3, s132_4, s132_6, s132_7, s132_11, s132_13, s132_16, s132_18, s132_21, s132_22, s132_25, s132_27, s132_28, s132_29, s132_32, s132_34, s132_35, s132_36, s132_40, s132_43, s132_45, s132_46, s132_49, s132_51, s132_52, s132_55, s132_56, s132_58, s132_59, s132_62, s132_65, s132_67, s132_68, s132_71, s132_72, s132_75, s132_76, s132_77, s132_79, s132_84, s132_85, s132_88, s132_90, s132_91, s132_94, s132_95, s132_98, s132_100, s132_103, s132_104, s132_107, s132_108, s132_110, s132_112, s132_113, s132_116, s132_118, s132_119, s132_122, s132_124, s132_127, s132_129, s132_131, s132_134, s132_137, s132_139, cont_some, rl_some, rl_none, if_true, if_false, kd_149, rf_149_0, rf_149_1, rf_149_3, rf_149_5, rf_149_9, rf_149_16, rf_149_17, kd_150, kd_151, kd_152, kd_153, kd_154, kd_155, kd_156, ln_150, ln_151, ln_152, ln_153, ln_154, ln_155, ln_156, Int.reduceLE, Int.reduceLT, Int.reduceToNat, Nat.reduceLT, Int.toNat_natCast, Int.natCast_nonneg, true_or, Int.one_ne_zero, ite_self, c1, h1, c2]
  | succ m ih =>
    intro x hx h0
    have c1 : ¬ (x : Int) ≤ 0 := by omega
    have c2 : ¬ (sp : Int) < (x : Int) := by omega
    have hf := m_free (P := P) h hL hu (s := (x : Int)) (by omega) (d := l1)
    by_cases c3 : occ (c 7) l1 (x : Int) n 0 = true
    · obtain ⟨z, z1, z2, z3, z4⟩ := ih (x + 1) (by omega) (by omega)
      refine ⟨z, ?_, z2, z3, by rw [stD, if_pos c3]; exact z4⟩
      rw [if_pos c3] at hf
      rw [s132_38]
      simp only [en132, s132_0, s132_1, s132_3, s132_4, s132_6, s132_7, s132_11, s132_13, s132_16, s132_18, s132_21, s132_22, s132_25, s132_27, s132_28, s132_29, s132_32, s132_34, s132_35, s132_36, s132_40, s132_43, s132_45, s132_46, s132_49, s132_51, s132_52, s132_55, s132_56, s132_58, s132_59, s132_62, s132_65, s132_67, s132_68, s132_71, s132_72, s132_75, s132_76, s132_77, s132_79, s132_84, s132_85, s132_88, s132_90, s132_91, s132_94, s132_95, s132_98, s132_100, s132_103, s132_104, s132_107, s132_108, s132_110, s132_112, s132_113, s132_116, s132_118, s132_119, s132_122, s132_124, s132_127, s132_129, s132_131, s132_134, s132_137, s132_139, cont_some, rl_some, rl_none, if_true, if_false, kd_149, rf_149_0, rf_149_1, rf_149_3, rf_149_5, rf_149_9, rf_149_16, rf_149_17, kd_150, kd_151, kd_152, kd_153, kd_154, kd_155, kd_156, ln_150, ln_151, ln_152, ln_153, ln_154, ln_155, ln_156, Int.reduceLE, Int.reduceLT, Int.reduceToNat, Nat.reduceLT, Int.toNat_natCast, Int.natCast_nonneg, true_or, Int.one_ne_zero, ite_self, c1, c2, h1, hf, ad_n x (by omega)]
      exact z1
    · refine ⟨x, ?_, by omega, by omega, by rw [stD, if_neg c3, if_pos (by omega)]⟩
      rw [if_neg c3] at hf
      rw [s132_38]
      simp only [en132, s132_0, s132_1, s132_3, s132_4, s132_6, s132_7, s132_11, s132_13, s132_16, s132_18, s132_21, s132_22, s132_25, s132_27, s132_28, s132_29, s132_32, s132_34, s132_35, s132_36, s132_40, s132_43, s132_45, s132_46, s132_49, s132_51, s132_52, s132_55, s132_56, s132_58, s132_59, s132_62, s132_65, s132_67, s132_68, s132_71, s132_72, s132_75, s132_76, s132_77, s132_79, s132_84, s132_85, s132_88, s132_90, s132_91, s132_94, s132_95, s132_98, s132_100, s132_103, s132_104, s132_107, s132_108, s132_110, s132_112, s132_113, s132_116, s132_118, s132_119, s132_122, s132_124, s132_127, s132_129, s132_131, s132_134, s132_137, s132_139, cont_some, rl_some, rl_none, if_true, if_false, kd_149, rf_149_0, rf_149_1, rf_149_3, rf_149_5, rf_149_9, rf_149_16, rf_149_17, kd_150, kd_151, kd_152, kd_153, kd_154, kd_155, kd_156, ln_150, ln_151, ln_152, ln_153, ln_154, ln_155, ln_156, Int.reduceLE, Int.reduceLT, Int.reduceToNat, Nat.reduceLT, Int.toNat_natCast, Int.natCast_nonneg, true_or, Int.one_ne_zero, ite_self, c1, c2, h1, hf, Int.one_ne_zero]
theorem bh_loop (h : MN M n) (hS : MS M sp) (hL : ML c M n) (hu : UQ c n) {fr : Int} {d st : Nat} {up : Bool} (hst : st ≤ 100) : ∀ (m k p : Nat) (l8 : AV), k + m = st → p ≤ sp → (up = true → 1 ≤ p) → evL 132 9 [Rf 149, I (d : Int), I fr, I (if up = true then 1 else 0), I (st : Int), I (p : Int), I 1, I (k : Int), l8] [] (Hp M P) = some (some (I (landF (c 7) n d sp up m p : Int)), Hp M P) := by
  have h1 := hS.1
  have h2 := hS.2
  intro m
  induction m with
  | zero =>
    intro k p l8 hk hp h0
    have c1 : (st : Int) ≤ (k : Int) := by omega
    rw [s132_9]
    simp only [en132, s132_0, s132_1, s132_3, s132_4, s132_6, s132_7, s132_11, s132_13, s132_16, s132_18, s132_21, s132_22, s132_25, s132_27, s132_28, s132_29, s132_32, s132_34, s132_35, s132_36, s132_40, s132_43, s132_45, s132_46, s132_49, s132_51, s132_52, s132_55, s132_56, s132_58, s132_59, s132_62, s132_65, s132_67, s132_68, s132_71, s132_72, s132_75, s132_76, s132_77, s132_79, s132_84, s132_85, s132_88, s132_90, s132_91, s132_94, s132_95, s132_98, s132_100, s132_103, s132_104, s132_107, s132_108, s132_110, s132_112, s132_113, s132_116, s132_118, s132_119, s132_122, s132_124, s132_127, s132_129, s132_131, s132_134, s132_137, s132_139, cont_some, rl_some, rl_none, if_true, if_false, kd_149, rf_149_0, rf_149_1, rf_149_3, rf_149_5, rf_149_9, rf_149_16, rf_149_17, kd_150, kd_151, kd_152, kd_153, kd_154, kd_155, kd_156, ln_150, ln_151, ln_152, ln_153, ln_154, ln_155, ln_156, Int.reduceLE, Int.reduceLT, Int.reduceToNat, Nat.reduceLT, Int.toNat_natCast, Int.natCast_nonneg, true_or, Int.one_ne_zero, ite_self, c1, landF]
  | succ m ih =>
    intro k p l8 hk hp h0
    have c1 : ¬ (st : Int) ≤ (k : Int) := by omega
    rw [s132_9]
    cases up with
    | true =>
      have h0' := h0 rfl
      have e1 : sb (p : Int) 1 = ((p - 1 : Nat) : Int) := by rw [sb_eq (by omega) (by omega)]; omega
      have hl := stU_le (c 7) n d (p - 1)
      simp only [en132, s132_0, s132_1, s132_3, s132_4, s132_6, s132_7, s132_11, s132_13, s132_16, s132_18, s132_21, s132_22, s132_25, s132_27, s132_28, s132_29, s132_32, s132_34, s132_35, s132_36, s132_40, s132_43, s132_45, s132_46, s132_49, s132_51, s132_52, s132_55, s132_56, s132_58, s132_59, s132_62, s132_65, s132_67, s132_68, s132_71, s132_72, s132_75, s132_76, s132_77, s132_79, s132_84, s132_85, s132_88, s132_90, s132_91, s132_94, s132_95, s132_98, s132_100, s132_103, s132_104, s132_107, s132_108, s132_110, s132_112, s132_113, s132_116, s132_118, s132_119, s132_122, s132_124, s132_127, s132_129, s132_131, s132_134, s132_137, s132_139, cont_some, rl_some, rl_none, if_true, if_false, kd_149, rf_149_0, rf_149_1, rf_149_3, rf_149_5, rf_149_9, rf_149_16, rf_149_17, kd_150, kd_151, kd_152, kd_153, kd_154, kd_155, kd_156, ln_150, ln_151, ln_152, ln_153, ln_154, ln_155, ln_156, Int.reduceLE, Int.reduceLT, Int.reduceToNat, Nat.reduceLT, Int.toNat_natCast, Int.natCast_nonneg, true_or, Int.one_ne_zero, ite_self, c1, e1, Int.one_ne_zero]
      rw [bh_up h hS hL hu (p - 1) (by omega) (I 0), s132_82]
      have c2 : ¬ (sp : Int) < (stU (c 7) n d (p - 1) : Int) := by omega
      have c0 : ¬ (sp : Int) < 0 := by omega
      have e5 : landF (c 7) n d sp true (m + 1) p = landF (c 7) n d sp true m (stU (c 7) n d (p - 1)) := rfl
      rw [e5]
      by_cases c3 : (stU (c 7) n d (p - 1) : Int) = 0
      · simp only [en132, s132_0, s132_1, s132_3, s132_4, s132_6, s132_7, s132_11, s132_13, s132_16, s132_18, s132_21, s132_22, s132_25, s132_27, s132_28, s132_29, s132_32, s132_34, s132_35, s132_36, s132_40, s132_43, s132_45, s132_46, s132_49, s132_51, s132_52, s132_55, s132_56, s132_58, s132_59, s132_62, s132_65, s132_67, s132_68, s132_71, s132_72, s132_75, s132_76, s132_77, s132_79, s132_84, s132_85, s132_88, s132_90, s132_91, s132_94, s132_95, s132_98, s132_100, s132_103, s132_104, s132_107, s132_108, s132_110, s132_112, s132_113, s132_116, s132_118, s132_119, s132_122, s132_124, s132_127, s132_129, s132_131, s132_134, s132_137, s132_139, cont_some, rl_some, rl_none, if_true, if_false, kd_149, rf_149_0, rf_149_1, rf_149_3, rf_149_5, rf_149_9, rf_149_16, rf_149_17, kd_150, kd_151, kd_152, kd_153, kd_154, kd_155, kd_156, ln_150, ln_151, ln_152, ln_153, ln_154, ln_155, ln_156, Int.reduceLE, Int.reduceLT, Int.reduceToNat, Nat.reduceLT, Int.toNat_natCast, Int.natCast_nonneg, true_or, Int.one_ne_zero, ite_self, h1, c0, c2, c3, ad_n k (by omega), Int.one_ne_zero]
        have e6 : stU (c 7) n d (p - 1) = 0 := by omega
        rw [s132_9, e6, land_stay (f := c 7) (p := 0) (by rfl)]
        by_cases c4 : (st : Int) ≤ ((k + 1 : Nat) : Int)
        · simp only [en132, s132_0, s132_1, s132_3, s132_4, s132_6, s132_7, s132_11, s132_13, s132_16, s132_18, s132_21, s132_22, s132_25, s132_27, s132_28, s132_29, s132_32, s132_34, s132_35, s132_36, s132_40, s132_43, s132_45, s132_46, s132_49, s132_51, s132_52, s132_55, s132_56, s132_58, s132_59, s132_62, s132_65, s132_67, s132_68, s132_71, s132_72, s132_75, s132_76, s132_77, s132_79, s132_84, s132_85, s132_88, s132_90, s132_91, s132_94, s132_95, s132_98, s132_100, s132_103, s132_104, s132_107, s132_108, s132_110, s132_112, s132_113, s132_116, s132_118, s132_119, s132_122, s132_124, s132_127, s132_129, s132_131, s132_134, s132_137, s132_139, cont_some, rl_some, rl_none, if_true, if_false, kd_149, rf_149_0, rf_149_1, rf_149_3, rf_149_5, rf_149_9, rf_149_16, rf_149_17, kd_150, kd_151, kd_152, kd_153, kd_154, kd_155, kd_156, ln_150, ln_151, ln_152, ln_153, ln_154, ln_155, ln_156, Int.reduceLE, Int.reduceLT, Int.reduceToNat, Nat.reduceLT, Int.toNat_natCast, Int.natCast_nonneg, true_or, Int.one_ne_zero, ite_self, c0, c4]
          rfl
        · simp only [en132, s132_0, s132_1, s132_3, s132_4, s132_6, s132_7, s132_11, s132_13, s132_16, s132_18, s132_21, s132_22, s132_25, s132_27, s132_28, s132_29, s132_32, s132_34, s132_35, s132_36, s132_40, s132_43, s132_45, s132_46, s132_49, s132_51, s132_52, s132_55, s132_56, s132_58, s132_59, s132_62, s132_65, s132_67, s132_68, s132_71, s132_72, s132_75, s132_76, s132_77, s132_79, s132_84, s132_85, s132_88, s132_90, s132_91, s132_94, s132_95, s132_98, s132_100, s132_103, s132_104, s132_107, s132_108, s132_110, s132_112, s132_113, s132_116, s132_118, s132_119, s132_122, s132_124, s132_127, s132_129, s132_131, s132_134, s132_137, s132_139, cont_some, rl_some, rl_none, if_true, if_false, kd_149, rf_149_0, rf_149_1, rf_149_3, rf_149_5, rf_149_9, rf_149_16, rf_149_17, kd_150, kd_151, kd_152, kd_153, kd_154, kd_155, kd_156, ln_150, ln_151, ln_152, ln_153, ln_154, ln_155, ln_156, Int.reduceLE, Int.reduceLT, Int.reduceToNat, Nat.reduceLT, Int.toNat_natCast, Int.natCast_nonneg, true_or, Int.one_ne_zero, ite_self, c0, c4]
          rfl
      · simp only [en132, s132_0, s132_1, s132_3, s132_4, s132_6, s132_7, s132_11, s132_13, s132_16, s132_18, s132_21, s132_22, s132_25, s132_27, s132_28, s132_29, s132_32, s132_34, s132_35, s132_36, s132_40, s132_43, s132_45, s132_46, s132_49, s132_51, s132_52, s132_55, s132_56, s132_58, s132_59, s132_62, s132_65, s132_67, s132_68, s132_71, s132_72, s132_75, s132_76, s132_77, s132_79, s132_84, s132_85, s132_88, s132_90, s132_91, s132_94, s132_95, s132_98, s132_100, s132_103, s132_104, s132_107, s132_108, s132_110, s132_112, s132_113, s132_116, s132_118, s132_119, s132_122, s132_124, s132_127, s132_129, s132_131, s132_134, s132_137, s132_139, cont_some, rl_some, rl_none, if_true, if_false, kd_149, rf_149_0, rf_149_1, rf_149_3, rf_149_5, rf_149_9, rf_149_16, rf_149_17, kd_150, kd_151, kd_152, kd_153, kd_154, kd_155, kd_156, ln_150, ln_151, ln_152, ln_153, ln_154, ln_155, ln_156, Int.reduceLE, Int.reduceLT, Int.reduceToNat, Nat.reduceLT, Int.toNat_natCast, Int.natCast_nonneg, true_or, Int.one_ne_zero, ite_self, h1, c0, c2, c3, ad_n k (by omega), Int.one_ne_zero]
        have := ih (k + 1) (stU (c 7) n d (p - 1)) (I (stU (c 7) n d (p - 1) : Int)) (by omega) (by omega) (fun _ => by omega)
        rw [if_pos rfl] at this
        exact this
    | false =>
      have e1 := ad_n p (by omega)
      obtain ⟨z, z1, z2, z3, z4⟩ := bh_dn (P := P) h hS hL hu (fr := fr) (st := (st : Int)) (go := 1) (p := (p : Int)) (k := (k : Int)) (l1 := d) (y := p) (sp - p) (p + 1) (by omega) (by omega)
      have e5 : landF (c 7) n d sp false (m + 1) p = landF (c 7) n d sp false m (if z ≤ sp then z else p) := by rw [← z4]; rfl
      simp only [en132, s132_0, s132_1, s132_3, s132_4, s132_6, s132_7, s132_11, s132_13, s132_16, s132_18, s132_21, s132_22, s132_25, s132_27, s132_28, s132_29, s132_32, s132_34, s132_35, s132_36, s132_40, s132_43, s132_45, s132_46, s132_49, s132_51, s132_52, s132_55, s132_56, s132_58, s132_59, s132_62, s132_65, s132_67, s132_68, s132_71, s132_72, s132_75, s132_76, s132_77, s132_79, s132_84, s132_85, s132_88, s132_90, s132_91, s132_94, s132_95, s132_98, s132_100, s132_103, s132_104, s132_107, s132_108, s132_110, s132_112, s132_113, s132_116, s132_118, s132_119, s132_122, s132_124, s132_127, s132_129, s132_131, s132_134, s132_137, s132_139, cont_some, rl_some, rl_none, if_true, if_false, kd_149, rf_149_0, rf_149_1, rf_149_3, rf_149_5, rf_149_9, rf_149_16, rf_149_17, kd_150, kd_151, kd_152, kd_153, kd_154, kd_155, kd_156, ln_150, ln_151, ln_152, ln_153, ln_154, ln_155, ln_156, Int.reduceLE, Int.reduceLT, Int.reduceToNat, Nat.reduceLT, Int.toNat_natCast, Int.natCast_nonneg, true_or, Int.one_ne_zero, ite_self, c1, e1, Bool.false_eq_true]
      rw [z1, s132_82, e5]
      by_cases c2 : z ≤ sp
      · have c3 : ¬ (sp : Int) < (z : Int) := by omega
        rw [if_pos c2]
        simp only [en132, s132_0, s132_1, s132_3, s132_4, s132_6, s132_7, s132_11, s132_13, s132_16, s132_18, s132_21, s132_22, s132_25, s132_27, s132_28, s132_29, s132_32, s132_34, s132_35, s132_36, s132_40, s132_43, s132_45, s132_46, s132_49, s132_51, s132_52, s132_55, s132_56, s132_58, s132_59, s132_62, s132_65, s132_67, s132_68, s132_71, s132_72, s132_75, s132_76, s132_77, s132_79, s132_84, s132_85, s132_88, s132_90, s132_91, s132_94, s132_95, s132_98, s132_100, s132_103, s132_104, s132_107, s132_108, s132_110, s132_112, s132_113, s132_116, s132_118, s132_119, s132_122, s132_124, s132_127, s132_129, s132_131, s132_134, s132_137, s132_139, cont_some, rl_some, rl_none, if_true, if_false, kd_149, rf_149_0, rf_149_1, rf_149_3, rf_149_5, rf_149_9, rf_149_16, rf_149_17, kd_150, kd_151, kd_152, kd_153, kd_154, kd_155, kd_156, ln_150, ln_151, ln_152, ln_153, ln_154, ln_155, ln_156, Int.reduceLE, Int.reduceLT, Int.reduceToNat, Nat.reduceLT, Int.toNat_natCast, Int.natCast_nonneg, true_or, Int.one_ne_zero, ite_self, h1, c3, ad_n k (by omega)]
        have := ih (k + 1) z (I (z : Int)) (by omega) (by omega) (fun h => by cases h)
        simp only [Bool.false_eq_true, if_false] at this
        exact this
      · have c3 : (sp : Int) < (z : Int) := by omega
        have e6 : go1 (c 7) n d sp false p = p := by
          show stD (c 7) n d p (sp - p) (p + 1) = p
          rw [z4, if_neg c2]
        rw [if_neg c2, land_stay e6]
        simp only [en132, s132_0, s132_1, s132_3, s132_4, s132_6, s132_7, s132_11, s132_13, s132_16, s132_18, s132_21, s132_22, s132_25, s132_27, s132_28, s132_29, s132_32, s132_34, s132_35, s132_36, s132_40, s132_43, s132_45, s132_46, s132_49, s132_51, s132_52, s132_55, s132_56, s132_58, s132_59, s132_62, s132_65, s132_67, s132_68, s132_71, s132_72, s132_75, s132_76, s132_77, s132_79, s132_84, s132_85, s132_88, s132_90, s132_91, s132_94, s132_95, s132_98, s132_100, s132_103, s132_104, s132_107, s132_108, s132_110, s132_112, s132_113, s132_116, s132_118, s132_119, s132_122, s132_124, s132_127, s132_129, s132_131, s132_134, s132_137, s132_139, cont_some, rl_some, rl_none, if_true, if_false, kd_149, rf_149_0, rf_149_1, rf_149_3, rf_149_5, rf_149_9, rf_149_16, rf_149_17, kd_150, kd_151, kd_152, kd_153, kd_154, kd_155, kd_156, ln_150, ln_151, ln_152, ln_153, ln_154, ln_155, ln_156, Int.reduceLE, Int.reduceLT, Int.reduceToNat, Nat.reduceLT, Int.toNat_natCast, Int.natCast_nonneg, true_or, Int.one_ne_zero, ite_self, h1, c3, ad_n k (by omega)]
        rw [s132_9]
        by_cases c4 : (st : Int) ≤ ((k + 1 : Nat) : Int)
        · simp only [en132, s132_0, s132_1, s132_3, s132_4, s132_6, s132_7, s132_11, s132_13, s132_16, s132_18, s132_21, s132_22, s132_25, s132_27, s132_28, s132_29, s132_32, s132_34, s132_35, s132_36, s132_40, s132_43, s132_45, s132_46, s132_49, s132_51, s132_52, s132_55, s132_56, s132_58, s132_59, s132_62, s132_65, s132_67, s132_68, s132_71, s132_72, s132_75, s132_76, s132_77, s132_79, s132_84, s132_85, s132_88, s132_90, s132_91, s132_94, s132_95, s132_98, s132_100, s132_103, s132_104, s132_107, s132_108, s132_110, s132_112, s132_113, s132_116, s132_118, s132_119, s132_122, s132_124, s132_127, s132_129, s132_131, s132_134, s132_137, s132_139, cont_some, rl_some, rl_none, if_true, if_false, kd_149, rf_149_0, rf_149_1, rf_149_3, rf_149_5, rf_149_9, rf_149_16, rf_149_17, kd_150, kd_151, kd_152, kd_153, kd_154, kd_155, kd_156, ln_150, ln_151, ln_152, ln_153, ln_154, ln_155, ln_156, Int.reduceLE, Int.reduceLT, Int.reduceToNat, Nat.reduceLT, Int.toNat_natCast, Int.natCast_nonneg, true_or, Int.one_ne_zero, ite_self, c4]
        · simp only [en132, s132_0, s132_1, s132_3, s132_4, s132_6, s132_7, s132_11, s132_13, s132_16, s132_18, s132_21, s132_22, s132_25, s132_27, s132_28, s132_29, s132_32, s132_34, s132_35, s132_36, s132_40, s132_43, s132_45, s132_46, s132_49, s132_51, s132_52, s132_55, s132_56, s132_58, s132_59, s132_62, s132_65, s132_67, s132_68, s132_71, s132_72, s132_75, s132_76, s132_77, s132_79, s132_84, s132_85, s132_88, s132_90, s132_91, s132_94, s132_95, s132_98, s132_100, s132_103, s132_104, s132_107, s132_108, s132_110, s132_112, s132_113, s132_116, s132_118, s132_119, s132_122, s132_124, s132_127, s132_129, s132_131, s132_134, s132_137, s132_139, cont_some, rl_some, rl_none, if_true, if_false, kd_149, rf_149_0, rf_149_1, rf_149_3, rf_149_5, rf_149_9, rf_149_16, rf_149_17, kd_150, kd_151, kd_152, kd_153, kd_154, kd_155, kd_156, ln_150, ln_151, ln_152, ln_153, ln_154, ln_155, ln_156, Int.reduceLE, Int.reduceLT, Int.reduceToNat, Nat.reduceLT, Int.toNat_natCast, Int.natCast_nonneg, true_or, Int.one_ne_zero, ite_self, c4]
theorem m_behind (h : MN M n) (hS : MS M sp) (hL : ML c M n) (hu : UQ c n) {d st p : Nat} {up : Bool} (hst : st ≤ 100) (hp : p ≤ sp) (h0 : up = true → 1 ≤ p) : evM 132 [Rf 149, I (d : Int), I (p : Int), I (if up = true then 1 else 0), I (st : Int)] (Hp M P) = some (some (I (landF (c 7) n d sp up st p : Int)), Hp M P) := by
  have hb := fun l8 => bh_loop (P := P) h hS hL hu (fr := (p : Int)) (d := d) (up := up) hst st 0 p l8 (by omega) hp h0
  simp only [en132, s132_0, s132_1, s132_3, s132_4, s132_6, s132_7, s132_11, s132_13, s132_16, s132_18, s132_21, s132_22, s132_25, s132_27, s132_28, s132_29, s132_32, s132_34, s132_35, s132_36, s132_40, s132_43, s132_45, s132_46, s132_49, s132_51, s132_52, s132_55, s132_56, s132_58, s132_59, s132_62, s132_65, s132_67, s132_68, s132_71, s132_72, s132_75, s132_76, s132_77, s132_79, s132_84, s132_85, s132_88, s132_90, s132_91, s132_94, s132_95, s132_98, s132_100, s132_103, s132_104, s132_107, s132_108, s132_110, s132_112, s132_113, s132_116, s132_118, s132_119, s132_122, s132_124, s132_127, s132_129, s132_131, s132_134, s132_137, s132_139, cont_some, rl_some, rl_none, if_true, if_false, kd_149, rf_149_0, rf_149_1, rf_149_3, rf_149_5, rf_149_9, rf_149_16, rf_149_17, kd_150, kd_151, kd_152, kd_153, kd_154, kd_155, kd_156, ln_150, ln_151, ln_152, ln_153, ln_154, ln_155, ln_156, Int.reduceLE, Int.reduceLT, Int.reduceToNat, Nat.reduceLT, Int.toNat_natCast, Int.natCast_nonneg, true_or, Int.one_ne_zero, ite_self]
  exact hb _
end Ref2
