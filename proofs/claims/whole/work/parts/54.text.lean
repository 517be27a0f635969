section Text
variable {M N : Mem} {P : PMem} {L p : Nat}
theorem P_append (h : R M P) (c : Int) : ∃ (v : Int) (N : Mem) (P' : PMem) (N' : Mem), evM 92 [Rf 0, I c] (Hp M P) = some (some (I v), Hp N P') ∧ evM 151 [Rf 149, I c] (Hp N P') = some (some (I v), Hp N' P') ∧ R N' P' := by
  have hR := h
  obtain ⟨hM, ⟨K, hK⟩, hS, ⟨L, l1, l2, l3, l4⟩, hW⟩ := h
  by_cases c1 : c < 33
  · refine ⟨-1, M, P, M, ?_, ?_, hR⟩
    · simp only [en92, s92_0, s92_1, s92_3, s92_6, s92_7, s92_9, s92_12, s92_13, s92_14, s92_15, s92_18, s92_19, s92_22, cont_some, rl_some, rl_none, if_true, if_false, kd_0, kd_1, kd_2, kd_5, kd_47, kd_141, kd_144, kd_149, rf_0_0, rf_0_1, rf_0_2, rf_0_3, rf_0_4, rf_1_0, rf_1_1, rf_1_2, rf_2_0, rf_5_0, rf_5_1, rf_5_2, rf_5_3, rf_5_4, rf_5_5, rf_5_6, rf_5_7, rf_47_0, rf_141_0, rf_144_0, rf_144_1, rf_149_0, rf_149_1, rf_149_3, rf_149_5, rf_149_9, rf_149_16, rf_149_17, kd_3, kd_6, kd_8, kd_10, kd_12, kd_14, kd_16, kd_18, kd_20, kd_22, kd_142, kd_145, kd_147, kd_24, c1]
    · have m1 : (if 33 ≤ c ∧ c ≤ 126 then (1 : Int) else 0) = 0 := if_neg (by omega)
      simp only [en151, s151_0, s151_1, s151_3, s151_5, s151_8, s151_11, s151_12, s151_13, s151_14, s151_17, s151_19, s151_22, s151_24, s151_25, s151_26, s151_29, s151_30, s151_33, s151_34, s151_35, s151_36, s151_37, s151_40, s151_41, s151_42, s151_45, s151_46, s151_49, cont_some, rl_some, rl_none, if_true, if_false, kd_149, rf_149_0, rf_149_1, rf_149_3, rf_149_5, rf_149_9, rf_149_16, rf_149_17, kd_150, kd_151, kd_152, kd_153, kd_154, kd_155, kd_156, ln_150, ln_151, ln_152, ln_153, ln_154, ln_155, ln_156, Int.reduceLE, Int.reduceLT, Int.reduceToNat, Nat.reduceLT, Int.toNat_natCast, Int.natCast_nonneg, true_or, Int.one_ne_zero, ite_self, m_in, m1]
  · by_cases c2 : ¬ c ≤ 126
    · refine ⟨-1, M, P, M, ?_, ?_, hR⟩
      · simp only [en92, s92_0, s92_1, s92_3, s92_6, s92_7, s92_9, s92_12, s92_13, s92_14, s92_15, s92_18, s92_19, s92_22, cont_some, rl_some, rl_none, if_true, if_false, kd_0, kd_1, kd_2, kd_5, kd_47, kd_141, kd_144, kd_149, rf_0_0, rf_0_1, rf_0_2, rf_0_3, rf_0_4, rf_1_0, rf_1_1, rf_1_2, rf_2_0, rf_5_0, rf_5_1, rf_5_2, rf_5_3, rf_5_4, rf_5_5, rf_5_6, rf_5_7, rf_47_0, rf_141_0, rf_144_0, rf_144_1, rf_149_0, rf_149_1, rf_149_3, rf_149_5, rf_149_9, rf_149_16, rf_149_17, kd_3, kd_6, kd_8, kd_10, kd_12, kd_14, kd_16, kd_18, kd_20, kd_22, kd_142, kd_145, kd_147, kd_24, c1, c2]
      · have m1 : (if 33 ≤ c ∧ c ≤ 126 then (1 : Int) else 0) = 0 := if_neg (by omega)
        simp only [en151, s151_0, s151_1, s151_3, s151_5, s151_8, s151_11, s151_12, s151_13, s151_14, s151_17, s151_19, s151_22, s151_24, s151_25, s151_26, s151_29, s151_30, s151_33, s151_34, s151_35, s151_36, s151_37, s151_40, s151_41, s151_42, s151_45, s151_46, s151_49, cont_some, rl_some, rl_none, if_true, if_false, kd_149, rf_149_0, rf_149_1, rf_149_3, rf_149_5, rf_149_9, rf_149_16, rf_149_17, kd_150, kd_151, kd_152, kd_153, kd_154, kd_155, kd_156, ln_150, ln_151, ln_152, ln_153, ln_154, ln_155, ln_156, Int.reduceLE, Int.reduceLT, Int.reduceToNat, Nat.reduceLT, Int.toNat_natCast, Int.natCast_nonneg, true_or, Int.one_ne_zero, ite_self, m_in, m1]
    · have c2 : c ≤ 126 := by omega
      have m1 : (if 33 ≤ c ∧ c ≤ 126 then (1 : Int) else 0) = 1 := if_pos (by omega)
      by_cases c3 : L < 60
      · have hw := pd_write (P := P) l2 c3 (c := c)
        obtain ⟨N, eN⟩ : ∃ N, N = wr (wr M 143 L c) 141 1 ((L + 1 : Nat) : Int) := ⟨_, rfl⟩
        rw [← eN] at hw
        have nO : ∀ a b, a ≠ 143 → a ≠ 141 → N a b = M a b := fun a b x y => by rw [eN, wr_app, if_neg (by omega), wr_app, if_neg (by omega)]
        have n6 : N 149 6 = (L : Int) := by rw [nO _ _ (by omega) (by omega)]; exact l3
        have c4 : ¬ (L : Int) = 60 := by omega
        obtain ⟨F, eF⟩ : ∃ F, F = wr (wr N 153 L c) 149 6 ((L + 1 : Nat) : Int) := ⟨_, rfl⟩
        have w6 : wr N 153 L c 149 6 = (L : Int) := by rw [wr_app, if_neg (by omega)]; exact n6
        have f6 : F 149 6 = ((L + 1 : Nat) : Int) := by rw [eF, wr_app, if_pos ⟨rfl, rfl⟩]
        have fO : ∀ a b, a ≠ 153 → (a ≠ 149 ∨ b ≠ 6) → F a b = N a b := fun a b x y => by rw [eF, wr_app, if_neg (by omega), wr_app, if_neg (by omega)]
        refine ⟨((L + 1 : Nat) : Int), N, P, F, ?_, ?_, RG_cast hM ?_ ?_, ⟨K, RH_cast hK ?_⟩, RSn_cast hS ?_, ⟨L + 1, by omega, ?_, f6, ?_⟩, RWh_cast hW ?_⟩
        · simp only [en92, s92_0, s92_1, s92_3, s92_6, s92_7, s92_9, s92_12, s92_13, s92_14, s92_15, s92_18, s92_19, s92_22, cont_some, rl_some, rl_none, if_true, if_false, kd_0, kd_1, kd_2, kd_5, kd_47, kd_141, kd_144, kd_149, rf_0_0, rf_0_1, rf_0_2, rf_0_3, rf_0_4, rf_1_0, rf_1_1, rf_1_2, rf_2_0, rf_5_0, rf_5_1, rf_5_2, rf_5_3, rf_5_4, rf_5_5, rf_5_6, rf_5_7, rf_47_0, rf_141_0, rf_144_0, rf_144_1, rf_149_0, rf_149_1, rf_149_3, rf_149_5, rf_149_9, rf_149_16, rf_149_17, kd_3, kd_6, kd_8, kd_10, kd_12, kd_14, kd_16, kd_18, kd_20, kd_22, kd_142, kd_145, kd_147, kd_24, c1, c2, hw]
        · simp only [en151, s151_0, s151_1, s151_3, s151_5, s151_8, s151_11, s151_12, s151_13, s151_14, s151_17, s151_19, s151_22, s151_24, s151_25, s151_26, s151_29, s151_30, s151_33, s151_34, s151_35, s151_36, s151_37, s151_40, s151_41, s151_42, s151_45, s151_46, s151_49, cont_some, rl_some, rl_none, if_true, if_false, kd_149, rf_149_0, rf_149_1, rf_149_3, rf_149_5, rf_149_9, rf_149_16, rf_149_17, kd_150, kd_151, kd_152, kd_153, kd_154, kd_155, kd_156, ln_150, ln_151, ln_152, ln_153, ln_154, ln_155, ln_156, Int.reduceLE, Int.reduceLT, Int.reduceToNat, Nat.reduceLT, Int.toNat_natCast, Int.natCast_nonneg, true_or, Int.one_ne_zero, ite_self, m_in, m1, n6, c4, c3, w6, ad_n L (by omega), ← eF, f6]
        · intro a b x y
          rw [fO a b (by omega) (by omega), nO a b (by omega) (by omega)]
        · intro b
          rw [fO 150 b (by omega) (by omega), nO 150 b (by omega) (by omega)]
        · intro a b x
          rw [fO a b (by omega) (by omega), nO a b (by omega) (by omega)]
        · intro a b x
          rw [fO a b (by omega) (by omega), nO a b (by omega) (by omega)]
        · rw [fO 141 1 (by omega) (by omega), eN, wr_app, if_pos ⟨rfl, rfl⟩]
        · intro j hj
          rw [fO 143 j (by omega) (by omega), eF, wr_app, if_neg (by omega), eN, wr_app, if_neg (by omega), wr_app, wr_app]
          by_cases e : j = L
          · rw [if_pos ⟨rfl, e⟩, if_pos ⟨rfl, e⟩]
            exact ⟨rfl, by omega, by omega⟩
          · rw [if_neg (fun z => e z.2), if_neg (fun z => e z.2), wr_app, if_neg (by omega), wr_app, if_neg (by omega)]
            exact l4 j (by omega)
        · intro a b x
          rw [fO a b (by omega) (by omega), nO a b (by omega) (by omega)]
      · have e60 : L = 60 := by omega
        have l2' : M 141 1 = 60 := by rw [l2, e60]; rfl
        have l3' : M 149 6 = 60 := by rw [l3, e60]; rfl
        refine ⟨-3, M, P, M, ?_, ?_, hR⟩
        · simp only [en92, s92_0, s92_1, s92_3, s92_6, s92_7, s92_9, s92_12, s92_13, s92_14, s92_15, s92_18, s92_19, s92_22, cont_some, rl_some, rl_none, if_true, if_false, kd_0, kd_1, kd_2, kd_5, kd_47, kd_141, kd_144, kd_149, rf_0_0, rf_0_1, rf_0_2, rf_0_3, rf_0_4, rf_1_0, rf_1_1, rf_1_2, rf_2_0, rf_5_0, rf_5_1, rf_5_2, rf_5_3, rf_5_4, rf_5_5, rf_5_6, rf_5_7, rf_47_0, rf_141_0, rf_144_0, rf_144_1, rf_149_0, rf_149_1, rf_149_3, rf_149_5, rf_149_9, rf_149_16, rf_149_17, kd_3, kd_6, kd_8, kd_10, kd_12, kd_14, kd_16, kd_18, kd_20, kd_22, kd_142, kd_145, kd_147, kd_24, c1, c2, pd_full l2']
        · simp only [en151, s151_0, s151_1, s151_3, s151_5, s151_8, s151_11, s151_12, s151_13, s151_14, s151_17, s151_19, s151_22, s151_24, s151_25, s151_26, s151_29, s151_30, s151_33, s151_34, s151_35, s151_36, s151_37, s151_40, s151_41, s151_42, s151_45, s151_46, s151_49, cont_some, rl_some, rl_none, if_true, if_false, kd_149, rf_149_0, rf_149_1, rf_149_3, rf_149_5, rf_149_9, rf_149_16, rf_149_17, kd_150, kd_151, kd_152, kd_153, kd_154, kd_155, kd_156, ln_150, ln_151, ln_152, ln_153, ln_154, ln_155, ln_156, Int.reduceLE, Int.reduceLT, Int.reduceToNat, Nat.reduceLT, Int.toNat_natCast, Int.natCast_nonneg, true_or, Int.one_ne_zero, ite_self, m_in, m1, l3']
theorem P_clear (h : R M P) : ∃ (v : Int) (N : Mem) (P' : PMem) (N' : Mem), evM 93 [Rf 0] (Hp M P) = some (some (I v), Hp N P') ∧ evM 152 [Rf 149] (Hp N P') = some (some (I v), Hp N' P') ∧ R N' P' := by
  obtain ⟨hM, ⟨K, hK⟩, hS, ⟨L, l1, l2, l3, l4⟩, hW⟩ := h
  have n6 : wr M 141 1 0 149 6 = (L : Int) := by rw [wr_app, if_neg (by omega)]; exact l3
  have fO : ∀ a b, a ≠ 141 → (a ≠ 149 ∨ b ≠ 6) → wr (wr M 141 1 0) 149 6 0 a b = M a b := fun a b x y => by rw [wr_app, if_neg (by omega), wr_app, if_neg (by omega)]
  refine ⟨(L : Int), wr M 141 1 0, P, wr (wr M 141 1 0) 149 6 0, ?_, ?_, RG_cast hM ?_ ?_, ⟨K, RH_cast hK ?_⟩, RSn_cast hS ?_, ⟨0, by omega, ?_, ?_, fun j hj => by omega⟩, RWh_cast hW ?_⟩
  · simp only [en93, s93_0, s93_1, s93_4, s93_7, cont_some, rl_some, rl_none, if_true, if_false, kd_0, kd_1, kd_2, kd_5, kd_47, kd_141, kd_144, kd_149, rf_0_0, rf_0_1, rf_0_2, rf_0_3, rf_0_4, rf_1_0, rf_1_1, rf_1_2, rf_2_0, rf_5_0, rf_5_1, rf_5_2, rf_5_3, rf_5_4, rf_5_5, rf_5_6, rf_5_7, rf_47_0, rf_141_0, rf_144_0, rf_144_1, rf_149_0, rf_149_1, rf_149_3, rf_149_5, rf_149_9, rf_149_16, rf_149_17, kd_3, kd_6, kd_8, kd_10, kd_12, kd_14, kd_16, kd_18, kd_20, kd_22, kd_142, kd_145, kd_147, kd_24, pd_wipe, l2]
  · simp only [en152, s152_0, s152_1, s152_4, s152_5, s152_6, s152_7, s152_10, s152_11, cont_some, rl_some, rl_none, if_true, if_false, kd_149, rf_149_0, rf_149_1, rf_149_3, rf_149_5, rf_149_9, rf_149_16, rf_149_17, kd_150, kd_151, kd_152, kd_153, kd_154, kd_155, kd_156, ln_150, ln_151, ln_152, ln_153, ln_154, ln_155, ln_156, Int.reduceLE, Int.reduceLT, Int.reduceToNat, Nat.reduceLT, Int.toNat_natCast, Int.natCast_nonneg, true_or, Int.one_ne_zero, ite_self, n6]
  · intro a b x y
    exact fO a b (by omega) (by omega)
  · intro b
    exact fO 150 b (by omega) (by omega)
  · intro a b x
    exact fO a b (by omega) (by omega)
  · intro a b x
    exact fO a b (by omega) (by omega)
  · rw [wr_app, if_neg (by omega), wr_app, if_pos ⟨rfl, rfl⟩]; rfl
  · rw [wr_app, if_pos ⟨rfl, rfl⟩]; rfl
  · intro a b x
    exact fO a b (by omega) (by omega)
/-! the reference reads a turn -/
def hrF (M : Mem) : Int := if M 149 11 < M 149 6 then M 153 (M 149 11).toNat else 0
theorem m_here (h0 : 0 ≤ M 149 11) (h6 : M 149 6 ≤ 60) : evM 153 [Rf 149] (Hp M P) = some (some (I (hrF M)), Hp M P) := by
  unfold hrF
  by_cases c : M 149 11 < M 149 6
  · have c1 : ¬ M 149 6 ≤ M 149 11 := by omega
    have c2 : (M 149 11).toNat < 60 := by omega
    rw [if_pos c]
    simp only [en153, s153_0, s153_1, s153_4, s153_5, s153_8, s153_11, s153_12, s153_15, s153_16, s153_19, s153_20, s153_23, s153_24, cont_some, rl_some, rl_none, if_true, if_false, kd_149, rf_149_0, rf_149_1, rf_149_3, rf_149_5, rf_149_9, rf_149_16, rf_149_17, kd_150, kd_151, kd_152, kd_153, kd_154, kd_155, kd_156, ln_150, ln_151, ln_152, ln_153, ln_154, ln_155, ln_156, Int.reduceLE, Int.reduceLT, Int.reduceToNat, Nat.reduceLT, Int.toNat_natCast, Int.natCast_nonneg, true_or, Int.one_ne_zero, ite_self, c1, h0, c2]
  · have c1 : M 149 6 ≤ M 149 11 := by omega
    rw [if_neg c]
    simp only [en153, s153_0, s153_1, s153_4, s153_5, s153_8, s153_11, s153_12, s153_15, s153_16, s153_19, s153_20, s153_23, s153_24, cont_some, rl_some, rl_none, if_true, if_false, kd_149, rf_149_0, rf_149_1, rf_149_3, rf_149_5, rf_149_9, rf_149_16, rf_149_17, kd_150, kd_151, kd_152, kd_153, kd_154, kd_155, kd_156, ln_150, ln_151, ln_152, ln_153, ln_154, ln_155, ln_156, Int.reduceLE, Int.reduceLT, Int.reduceToNat, Nat.reduceLT, Int.toNat_natCast, Int.natCast_nonneg, true_or, Int.one_ne_zero, ite_self, c1]
def tkP (M : Mem) (may : Int) : Mem := if M 149 12 = 0 ∨ may = 0 then wr (wr M 149 12 0) 149 11 (ad (M 149 11) 0) else wr (wr M 149 12 1) 149 11 (ad (M 149 11) 1)
theorem m_takes {may : Int} : evM 154 [Rf 149, I may] (Hp M P) = some (none, Hp (tkP M may) P) := by
  have e12 (v : Int) : wr M 149 12 v 149 12 = v := by rw [wr_app, if_pos ⟨rfl, rfl⟩]
  have e11 (v : Int) : wr M 149 12 v 149 11 = M 149 11 := by rw [wr_app, if_neg (by omega)]
  unfold tkP
  by_cases c1 : M 149 12 = 0
  · rw [if_pos (Or.inl c1)]
    simp only [en154, s154_0, s154_1, s154_2, s154_5, s154_8, s154_9, s154_12, s154_13, s154_16, s154_17, s154_20, s154_21, s154_22, s154_25, s154_26, s154_29, s154_32, s154_33, s154_36, s154_37, s154_38, s154_41, cont_some, rl_some, rl_none, if_true, if_false, kd_149, rf_149_0, rf_149_1, rf_149_3, rf_149_5, rf_149_9, rf_149_16, rf_149_17, kd_150, kd_151, kd_152, kd_153, kd_154, kd_155, kd_156, ln_150, ln_151, ln_152, ln_153, ln_154, ln_155, ln_156, Int.reduceLE, Int.reduceLT, Int.reduceToNat, Nat.reduceLT, Int.toNat_natCast, Int.natCast_nonneg, true_or, Int.one_ne_zero, ite_self, c1, e12, e11]
  · by_cases c2 : may = 0
    · rw [if_pos (Or.inr c2)]
      simp only [en154, s154_0, s154_1, s154_2, s154_5, s154_8, s154_9, s154_12, s154_13, s154_16, s154_17, s154_20, s154_21, s154_22, s154_25, s154_26, s154_29, s154_32, s154_33, s154_36, s154_37, s154_38, s154_41, cont_some, rl_some, rl_none, if_true, if_false, kd_149, rf_149_0, rf_149_1, rf_149_3, rf_149_5, rf_149_9, rf_149_16, rf_149_17, kd_150, kd_151, kd_152, kd_153, kd_154, kd_155, kd_156, ln_150, ln_151, ln_152, ln_153, ln_154, ln_155, ln_156, Int.reduceLE, Int.reduceLT, Int.reduceToNat, Nat.reduceLT, Int.toNat_natCast, Int.natCast_nonneg, true_or, Int.one_ne_zero, ite_self, c1, c2, e12, e11]
    · rw [if_neg (by rintro (h | h); exact c1 h; exact c2 h)]
      simp only [en154, s154_0, s154_1, s154_2, s154_5, s154_8, s154_9, s154_12, s154_13, s154_16, s154_17, s154_20, s154_21, s154_22, s154_25, s154_26, s154_29, s154_32, s154_33, s154_36, s154_37, s154_38, s154_41, cont_some, rl_some, rl_none, if_true, if_false, kd_149, rf_149_0, rf_149_1, rf_149_3, rf_149_5, rf_149_9, rf_149_16, rf_149_17, kd_150, kd_151, kd_152, kd_153, kd_154, kd_155, kd_156, ln_150, ln_151, ln_152, ln_153, ln_154, ln_155, ln_156, Int.reduceLE, Int.reduceLT, Int.reduceToNat, Nat.reduceLT, Int.toNat_natCast, Int.natCast_nonneg, true_or, Int.one_ne_zero, ite_self, c1, c2, e12, e11, or_true]
def k1F (a : Int) : Int := if a = 100 ∨ a = 117 then 1 else 0
def k2F (a : Int) : Int := if a = 116 ∨ a = 110 ∨ a = 108 then 1 else 0
def k3F (a : Int) : Int := if 0 ≤ a ∧ a ≤ 5 then 1 else 0
def tuA (M : Mem) : Mem := tkP (wr M 149 13 (hrF M)) (k1F (hrF M))
def tuB (M : Mem) : Mem := tkP (wr M 149 14 (hrF M)) (k2F (hrF M))
def tuC (M : Mem) : Mem := wr M 149 15 (sb (hrF M) 48)
def tuM (M : Mem) : Mem := if tuC (tuB (tuA M)) 149 14 = 108 then tkP (tuC (tuB (tuA M))) (k3F (tuC (tuB (tuA M)) 149 15)) else tuC (tuB (tuA M))
theorem tkP_o {may : Int} {a b : Nat} (h : a ≠ 149 ∨ (b ≠ 11 ∧ b ≠ 12)) : tkP M may a b = M a b := by
  unfold tkP
  split
  · rw [wr_app, if_neg (by omega), wr_app, if_neg (by omega)]
  · rw [wr_app, if_neg (by omega), wr_app, if_neg (by omega)]
theorem tkP_11 {may : Int} {p : Nat} (h : M 149 11 = (p : Int)) (hp : p ≤ 1000) : tkP M may 149 11 = if M 149 12 = 0 ∨ may = 0 then (p : Int) else ((p + 1 : Nat) : Int) := by
  unfold tkP
  split
  · rw [wr_app, if_pos ⟨rfl, rfl⟩, h, ad_eq (by omega) (by omega), Int.add_zero]
  · rw [wr_app, if_pos ⟨rfl, rfl⟩, h, ad_n p (by omega)]
theorem tkP_12 {may : Int} : tkP M may 149 12 = if M 149 12 = 0 ∨ may = 0 then 0 else 1 := by
  unfold tkP
  split
  · rw [wr_app, if_neg (by omega), wr_app, if_pos ⟨rfl, rfl⟩]
  · rw [wr_app, if_neg (by omega), wr_app, if_pos ⟨rfl, rfl⟩]
theorem m_turn0 (hs : M 149 11 = (p : Int)) (hp : p ≤ 100) (h6 : M 149 6 ≤ 60) : evM 155 [Rf 149] (Hp M P) = some (none, Hp (tuM M) P) := by
  obtain ⟨A1, a1⟩ : ∃ A, A = wr M 149 13 (hrF M) := ⟨_, rfl⟩
  have a11 : A1 149 11 = (p : Int) := by rw [a1, wr_app, if_neg (by omega)]; exact hs
  have a13 : A1 149 13 = hrF M := by rw [a1, wr_app, if_pos ⟨rfl, rfl⟩]
  obtain ⟨A2, a2⟩ : ∃ A, A = tkP A1 (k1F (hrF M)) := ⟨_, rfl⟩
  have b11 : 0 ≤ A2 149 11 ∧ A2 149 11 ≤ 101 := by rw [a2, tkP_11 a11 (by omega)]; split <;> omega
  have b6 : A2 149 6 = M 149 6 := by rw [a2, tkP_o (by omega), a1, wr_app, if_neg (by omega)]
  obtain ⟨A3, a3⟩ : ∃ A, A = wr A2 149 14 (hrF A2) := ⟨_, rfl⟩
  have c14 : A3 149 14 = hrF A2 := by rw [a3, wr_app, if_pos ⟨rfl, rfl⟩]
  obtain ⟨q, eq⟩ : ∃ q : Nat, A2 149 11 = (q : Int) := ⟨(A2 149 11).toNat, by omega⟩
  have c11 : A3 149 11 = (q : Int) := by rw [a3, wr_app, if_neg (by omega)]; exact eq
  obtain ⟨A4, a4⟩ : ∃ A, A = tkP A3 (k2F (hrF A2)) := ⟨_, rfl⟩
  have d11 : 0 ≤ A4 149 11 := by rw [a4, tkP_11 c11 (by omega)]; split <;> omega
  have d6 : A4 149 6 = M 149 6 := by rw [a4, tkP_o (by omega), a3, wr_app, if_neg (by omega)]; exact b6
  obtain ⟨A5, a5⟩ : ∃ A, A = wr A4 149 15 (sb (hrF A4) 48) := ⟨_, rfl⟩
  have f15 : A5 149 15 = sb (hrF A4) 48 := by rw [a5, wr_app, if_pos ⟨rfl, rfl⟩]
  have e1 := m_here (M := M) (P := P) (by omega) h6
  have e2 := m_here (M := A2) (P := P) b11.1 (by omega)
  have e3 := m_here (M := A4) (P := P) d11 (by omega)
  have hA : tuC (tuB (tuA M)) = A5 := by rw [a5, a4, a3, a2, a1]; rfl
  have t1 : ∀ x, x = k1F (hrF M) → evM 154 [Rf 149, I x] (Hp A1 P) = some (none, Hp A2 P) := fun x hx => by rw [hx, a2]; exact m_takes
  have t2 : ∀ x, x = k2F (hrF A2) → evM 154 [Rf 149, I x] (Hp A3 P) = some (none, Hp A4 P) := fun x hx => by rw [hx, a4]; exact m_takes
  have s1 : evM 155 [Rf 149] (Hp M P) = evL 155 35 [Rf 149] [] (Hp A2 P) := by
    by_cases c1 : hrF M = 100
    · have := t1 1 (by unfold k1F; rw [if_pos (Or.inl c1)])
      rw [c1] at a1 a13
      simp only [en155, s155_0, s155_1, s155_2, s155_5, s155_8, s155_9, s155_10, s155_13, s155_15, s155_18, s155_19, s155_22, s155_24, s155_27, s155_28, s155_31, s155_32, s155_36, s155_37, s155_40, s155_43, s155_44, s155_45, s155_48, s155_50, s155_53, s155_54, s155_57, s155_59, s155_62, s155_63, s155_66, s155_68, s155_71, s155_72, s155_75, s155_76, s155_79, s155_80, s155_81, s155_84, s155_86, s155_87, s155_90, s155_91, s155_94, s155_96, s155_99, s155_100, s155_101, s155_104, s155_105, s155_106, s155_109, s155_112, cont_some, rl_some, rl_none, if_true, if_false, kd_149, rf_149_0, rf_149_1, rf_149_3, rf_149_5, rf_149_9, rf_149_16, rf_149_17, kd_150, kd_151, kd_152, kd_153, kd_154, kd_155, kd_156, ln_150, ln_151, ln_152, ln_153, ln_154, ln_155, ln_156, Int.reduceLE, Int.reduceLT, Int.reduceToNat, Nat.reduceLT, Int.toNat_natCast, Int.natCast_nonneg, true_or, Int.one_ne_zero, ite_self, e1, c1, ← a1, a13, this]
    · by_cases c2 : hrF M = 117
      · have := t1 1 (by unfold k1F; rw [if_pos (Or.inr c2)])
        have d1 : ¬ (117 : Int) = 100 := by omega
        rw [c2] at a1 a13
        simp only [en155, s155_0, s155_1, s155_2, s155_5, s155_8, s155_9, s155_10, s155_13, s155_15, s155_18, s155_19, s155_22, s155_24, s155_27, s155_28, s155_31, s155_32, s155_36, s155_37, s155_40, s155_43, s155_44, s155_45, s155_48, s155_50, s155_53, s155_54, s155_57, s155_59, s155_62, s155_63, s155_66, s155_68, s155_71, s155_72, s155_75, s155_76, s155_79, s155_80, s155_81, s155_84, s155_86, s155_87, s155_90, s155_91, s155_94, s155_96, s155_99, s155_100, s155_101, s155_104, s155_105, s155_106, s155_109, s155_112, cont_some, rl_some, rl_none, if_true, if_false, kd_149, rf_149_0, rf_149_1, rf_149_3, rf_149_5, rf_149_9, rf_149_16, rf_149_17, kd_150, kd_151, kd_152, kd_153, kd_154, kd_155, kd_156, ln_150, ln_151, ln_152, ln_153, ln_154, ln_155, ln_156, Int.reduceLE, Int.reduceLT, Int.reduceToNat, Nat.reduceLT, Int.toNat_natCast, Int.natCast_nonneg, true_or, Int.one_ne_zero, ite_self, e1, c2, ← a1, a13, d1, this]
      · have := t1 0 (by unfold k1F; rw [if_neg (by omega)])
        simp only [en155, s155_0, s155_1, s155_2, s155_5, s155_8, s155_9, s155_10, s155_13, s155_15, s155_18, s155_19, s155_22, s155_24, s155_27, s155_28, s155_31, s155_32, s155_36, s155_37, s155_40, s155_43, s155_44, s155_45, s155_48, s155_50, s155_53, s155_54, s155_57, s155_59, s155_62, s155_63, s155_66, s155_68, s155_71, s155_72, s155_75, s155_76, s155_79, s155_80, s155_81, s155_84, s155_86, s155_87, s155_90, s155_91, s155_94, s155_96, s155_99, s155_100, s155_101, s155_104, s155_105, s155_106, s155_109, s155_112, cont_some, rl_some, rl_none, if_true, if_false, kd_149, rf_149_0, rf_149_1, rf_149_3, rf_149_5, rf_149_9, rf_149_16, rf_149_17, kd_150, kd_151, kd_152, kd_153, kd_154, kd_155, kd_156, ln_150, ln_151, ln_152, ln_153, ln_154, ln_155, ln_156, Int.reduceLE, Int.reduceLT, Int.reduceToNat, Nat.reduceLT, Int.toNat_natCast, Int.natCast_nonneg, true_or, Int.one_ne_zero, ite_self, e1, ← a1, a13, c1, c2, this]
  have s2 : evL 155 35 [Rf 149] [] (Hp A2 P) = evL 155 79 [Rf 149] [] (Hp A4 P) := by
    rw [s155_35]
    by_cases c1 : hrF A2 = 116
    · have := t2 1 (by unfold k2F; rw [if_pos (Or.inl c1)])
      rw [c1] at a3 c14
      simp only [en155, s155_0, s155_1, s155_2, s155_5, s155_8, s155_9, s155_10, s155_13, s155_15, s155_18, s155_19, s155_22, s155_24, s155_27, s155_28, s155_31, s155_32, s155_36, s155_37, s155_40, s155_43, s155_44, s155_45, s155_48, s155_50, s155_53, s155_54, s155_57, s155_59, s155_62, s155_63, s155_66, s155_68, s155_71, s155_72, s155_75, s155_76, s155_80, s155_81, s155_84, s155_86, s155_87, s155_90, s155_91, s155_94, s155_96, s155_99, s155_100, s155_101, s155_104, s155_105, s155_106, s155_109, s155_112, cont_some, rl_some, rl_none, if_true, if_false, kd_149, rf_149_0, rf_149_1, rf_149_3, rf_149_5, rf_149_9, rf_149_16, rf_149_17, kd_150, kd_151, kd_152, kd_153, kd_154, kd_155, kd_156, ln_150, ln_151, ln_152, ln_153, ln_154, ln_155, ln_156, Int.reduceLE, Int.reduceLT, Int.reduceToNat, Nat.reduceLT, Int.toNat_natCast, Int.natCast_nonneg, true_or, Int.one_ne_zero, ite_self, e2, c1, ← a3, c14, this]
    · by_cases c2 : hrF A2 = 110
      · have := t2 1 (by unfold k2F; rw [if_pos (Or.inr (Or.inl c2))])
        have d1 : ¬ (110 : Int) = 116 := by omega
        rw [c2] at a3 c14
        simp only [en155, s155_0, s155_1, s155_2, s155_5, s155_8, s155_9, s155_10, s155_13, s155_15, s155_18, s155_19, s155_22, s155_24, s155_27, s155_28, s155_31, s155_32, s155_36, s155_37, s155_40, s155_43, s155_44, s155_45, s155_48, s155_50, s155_53, s155_54, s155_57, s155_59, s155_62, s155_63, s155_66, s155_68, s155_71, s155_72, s155_75, s155_76, s155_80, s155_81, s155_84, s155_86, s155_87, s155_90, s155_91, s155_94, s155_96, s155_99, s155_100, s155_101, s155_104, s155_105, s155_106, s155_109, s155_112, cont_some, rl_some, rl_none, if_true, if_false, kd_149, rf_149_0, rf_149_1, rf_149_3, rf_149_5, rf_149_9, rf_149_16, rf_149_17, kd_150, kd_151, kd_152, kd_153, kd_154, kd_155, kd_156, ln_150, ln_151, ln_152, ln_153, ln_154, ln_155, ln_156, Int.reduceLE, Int.reduceLT, Int.reduceToNat, Nat.reduceLT, Int.toNat_natCast, Int.natCast_nonneg, true_or, Int.one_ne_zero, ite_self, e2, c2, ← a3, c14, d1, this]
      · by_cases c3 : hrF A2 = 108
        · have := t2 1 (by unfold k2F; rw [if_pos (Or.inr (Or.inr c3))])
          have d1 : ¬ (108 : Int) = 116 := by omega
          have d2 : ¬ (108 : Int) = 110 := by omega
          rw [c3] at a3 c14
          simp only [en155, s155_0, s155_1, s155_2, s155_5, s155_8, s155_9, s155_10, s155_13, s155_15, s155_18, s155_19, s155_22, s155_24, s155_27, s155_28, s155_31, s155_32, s155_36, s155_37, s155_40, s155_43, s155_44, s155_45, s155_48, s155_50, s155_53, s155_54, s155_57, s155_59, s155_62, s155_63, s155_66, s155_68, s155_71, s155_72, s155_75, s155_76, s155_80, s155_81, s155_84, s155_86, s155_87, s155_90, s155_91, s155_94, s155_96, s155_99, s155_100, s155_101, s155_104, s155_105, s155_106, s155_109, s155_112, cont_some, rl_some, rl_none, if_true, if_false, kd_149, rf_149_0, rf_149_1, rf_149_3, rf_149_5, rf_149_9, rf_149_16, rf_149_17, kd_150, kd_151, kd_152, kd_153, kd_154, kd_155, kd_156, ln_150, ln_151, ln_152, ln_153, ln_154, ln_155, ln_156, Int.reduceLE, Int.reduceLT, Int.reduceToNat, Nat.reduceLT, Int.toNat_natCast, Int.natCast_nonneg, true_or, Int.one_ne_zero, ite_self, e2, c3, ← a3, c14, d1, d2, this]
        · have := t2 0 (by unfold k2F; rw [if_neg (by omega)])
          simp only [en155, s155_0, s155_1, s155_2, s155_5, s155_8, s155_9, s155_10, s155_13, s155_15, s155_18, s155_19, s155_22, s155_24, s155_27, s155_28, s155_31, s155_32, s155_36, s155_37, s155_40, s155_43, s155_44, s155_45, s155_48, s155_50, s155_53, s155_54, s155_57, s155_59, s155_62, s155_63, s155_66, s155_68, s155_71, s155_72, s155_75, s155_76, s155_80, s155_81, s155_84, s155_86, s155_87, s155_90, s155_91, s155_94, s155_96, s155_99, s155_100, s155_101, s155_104, s155_105, s155_106, s155_109, s155_112, cont_some, rl_some, rl_none, if_true, if_false, kd_149, rf_149_0, rf_149_1, rf_149_3, rf_149_5, rf_149_9, rf_149_16, rf_149_17, kd_150, kd_151, kd_152, kd_153, kd_154, kd_155, kd_156, ln_150, ln_151, ln_152, ln_153, ln_154, ln_155, ln_156, Int.reduceLE, Int.reduceLT, Int.reduceToNat, Nat.reduceLT, Int.toNat_natCast, Int.natCast_nonneg, true_or, Int.one_ne_zero, ite_self, e2, ← a3, c14, c1, c2, c3, this]
  rw [s1, s2, s155_79]
  unfold tuM
  rw [hA]
  by_cases c : A5 149 14 = 108
  · rw [if_pos c]
    have k3 : (if 0 ≤ A5 149 15 ∧ A5 149 15 ≤ 5 then (1 : Int) else 0) = k3F (A5 149 15) := rfl
    simp only [en155, s155_0, s155_1, s155_2, s155_5, s155_8, s155_9, s155_10, s155_13, s155_15, s155_18, s155_19, s155_22, s155_24, s155_27, s155_28, s155_31, s155_32, s155_36, s155_37, s155_40, s155_43, s155_44, s155_45, s155_48, s155_50, s155_53, s155_54, s155_57, s155_59, s155_62, s155_63, s155_66, s155_68, s155_71, s155_72, s155_75, s155_76, s155_80, s155_81, s155_84, s155_86, s155_87, s155_90, s155_91, s155_94, s155_96, s155_99, s155_100, s155_101, s155_104, s155_105, s155_106, s155_109, s155_112, cont_some, rl_some, rl_none, if_true, if_false, kd_149, rf_149_0, rf_149_1, rf_149_3, rf_149_5, rf_149_9, rf_149_16, rf_149_17, kd_150, kd_151, kd_152, kd_153, kd_154, kd_155, kd_156, ln_150, ln_151, ln_152, ln_153, ln_154, ln_155, ln_156, Int.reduceLE, Int.reduceLT, Int.reduceToNat, Nat.reduceLT, Int.toNat_natCast, Int.natCast_nonneg, true_or, Int.one_ne_zero, ite_self, e3, ← a5, c, m_in, k3, m_takes]
  · rw [if_neg c]
    simp only [en155, s155_0, s155_1, s155_2, s155_5, s155_8, s155_9, s155_10, s155_13, s155_15, s155_18, s155_19, s155_22, s155_24, s155_27, s155_28, s155_31, s155_32, s155_36, s155_37, s155_40, s155_43, s155_44, s155_45, s155_48, s155_50, s155_53, s155_54, s155_57, s155_59, s155_62, s155_63, s155_66, s155_68, s155_71, s155_72, s155_75, s155_76, s155_80, s155_81, s155_84, s155_86, s155_87, s155_90, s155_91, s155_94, s155_96, s155_99, s155_100, s155_101, s155_104, s155_105, s155_106, s155_109, s155_112, cont_some, rl_some, rl_none, if_true, if_false, kd_149, rf_149_0, rf_149_1, rf_149_3, rf_149_5, rf_149_9, rf_149_16, rf_149_17, kd_150, kd_151, kd_152, kd_153, kd_154, kd_155, kd_156, ln_150, ln_151, ln_152, ln_153, ln_154, ln_155, ln_156, Int.reduceLE, Int.reduceLT, Int.reduceToNat, Nat.reduceLT, Int.toNat_natCast, Int.natCast_nonneg, true_or, Int.one_ne_zero, ite_self, e3, ← a5, c]
end Text
