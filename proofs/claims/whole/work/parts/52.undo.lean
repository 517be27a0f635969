section Undo
variable {M E : Mem} {P : PMem} {K : Nat}
theorem RSn_cast (h : RSn M) (e : ∀ a b, a = 0 ∨ (24 ≤ a ∧ a < 47) ∨ a = 152 ∨ (a = 149 ∧ b = 4) → E a b = M a b) : RSn E := by
  unfold RSn at *
  rw [e 0 5 (by omega), e 149 4 (by omega)]
  refine ⟨h.1, ?_⟩
  rcases h.2 with x | ⟨x, y⟩
  · exact Or.inl x
  · refine Or.inr ⟨x, RG_castS y ?_ ?_⟩
    · intro o b hcs
      have ho := cS_sm _ _ hcs
      rw [blk_e (by omega), blk_e (by omega), e (24 + o) b (by omega)]
    · intro b hb
      unfold sli
      rw [e 152 (0 + b) (by omega)]
theorem RPd_cast (h : RPd M) (e : ∀ a b, a = 141 ∨ a = 143 ∨ a = 153 ∨ (a = 149 ∧ b = 6) → E a b = M a b) : RPd E := by
  obtain ⟨L, l1, l2, l3, l4⟩ := h
  refine ⟨L, l1, by rw [e 141 1 (by omega)]; exact l2, by rw [e 149 6 (by omega)]; exact l3, fun j hj => ?_⟩
  rw [e 143 j (by omega), e 153 j (by omega)]
  exact l4 j hj
theorem RWh_cast (h : RWh M) (e : ∀ a b, (a = 0 ∧ (b = 6 ∨ b = 7)) ∨ (a = 149 ∧ (b = 7 ∨ b = 8)) → E a b = M a b) : RWh E := by
  unfold RWh at *
  rw [e 0 6 (by omega), e 149 7 (by omega), e 0 7 (by omega), e 149 8 (by omega)]
  exact h
theorem RH_cast (h : RH M P K) (e : ∀ a b, (47 ≤ a ∧ a < 141) ∨ a = 151 ∨ (a = 149 ∧ b = 2) → E a b = M a b) : RH E P K := by
  obtain ⟨k1, k2, k4, hP, hI, hA⟩ := h
  refine ⟨by rw [e 47 1 (by omega)]; exact k1, by rw [e 149 2 (by omega)]; exact k2, k4, hP, hI, fun j hj => RG_castS (hA j hj) ?_ ?_⟩
  · intro o b hcs
    have ho := cS_sm _ _ hcs
    have a := hP j (by omega)
    unfold hB at a
    rw [blk_e (by omega), blk_e (by omega), e (P j + o) b (by omega)]
  · intro b hb
    unfold sli
    rw [e 151 _ (by omega)]
/-- the number of states known, made less -/
theorem RH_less (h : RH M P (K + 1)) (e : ∀ a b, (48 ≤ a ∧ a < 141) ∨ a = 151 → E a b = M a b) (h1 : E 47 1 = (K : Int)) (h2 : E 149 2 = (K : Int)) : RH E P K := by
  obtain ⟨k1, k2, k4, hP, hI, hA⟩ := h
  refine ⟨h1, h2, by omega, hP, hI, fun j hj => RG_castS (hA j (by omega)) ?_ ?_⟩
  · intro o b hcs
    have ho := cS_sm _ _ hcs
    have a := hP j (by omega)
    unfold hB at a
    rw [blk_e (by omega), blk_e (by omega), e (P j + o) b (by omega)]
  · intro b hb
    unfold sli
    rw [e 151 _ (by omega)]
theorem P_undo (h : R M P) : ∃ (v : Int) (N : Mem) (P' : PMem) (N' : Mem), evM 106 [Rf 0] (Hp M P) = some (some (I v), Hp N P') ∧ evM 172 [Rf 149] (Hp N P') = some (some (I v), Hp N' P') ∧ R N' P' := by
  have hR := h
  obtain ⟨hM, ⟨K, hK⟩, hS, hPd, hW⟩ := h
  have hK' := hK
  obtain ⟨k1, k2, k4, hP, hI, hA⟩ := hK'
  cases K with
  | zero =>
    refine ⟨-2, M, P, M, ?_, ?_, hR⟩
    · have k1' : M 47 1 = 0 := k1
      simp only [en106, s106_0, s106_1, s106_4, s106_5, s106_8, s106_11, cont_some, rl_some, rl_none, if_true, if_false, kd_0, kd_1, kd_2, kd_5, kd_47, kd_141, kd_144, kd_149, rf_0_0, rf_0_1, rf_0_2, rf_0_3, rf_0_4, rf_1_0, rf_1_1, rf_1_2, rf_2_0, rf_5_0, rf_5_1, rf_5_2, rf_5_3, rf_5_4, rf_5_5, rf_5_6, rf_5_7, rf_47_0, rf_141_0, rf_144_0, rf_144_1, rf_149_0, rf_149_1, rf_149_3, rf_149_5, rf_149_9, rf_149_16, rf_149_17, kd_3, kd_6, kd_8, kd_10, kd_12, kd_14, kd_16, kd_18, kd_20, kd_22, kd_142, kd_145, kd_147, kd_24, h_back0 k1']
    · have k2' : M 149 2 = 0 := k2
      simp only [en172, s172_0, s172_1, s172_4, s172_7, s172_9, s172_10, s172_11, s172_12, s172_15, s172_16, s172_17, s172_20, s172_21, s172_24, s172_26, s172_27, s172_30, s172_31, s172_32, s172_35, s172_36, s172_39, s172_40, s172_43, cont_some, rl_some, rl_none, if_true, if_false, kd_149, rf_149_0, rf_149_1, rf_149_3, rf_149_5, rf_149_9, rf_149_16, rf_149_17, kd_150, kd_151, kd_152, kd_153, kd_154, kd_155, kd_156, ln_150, ln_151, ln_152, ln_153, ln_154, ln_155, ln_156, Int.reduceLE, Int.reduceLT, Int.reduceToNat, Nat.reduceLT, Int.toNat_natCast, Int.natCast_nonneg, true_or, Int.one_ne_zero, ite_self, k2']
  | succ k =>
    have hb := hP k (by omega)
    have hG := hA k (by omega)
    have z6 := RG_16 hG
    have b1 : 1 ≤ P k := by unfold hB at hb; omega
    have e6 : blk M (P k) 1 6 = M (P k) 6 := by have := blk_e (A := M) (o := 0) (k := 6) b1; exact this
    rw [e6] at z6
    have hc := h_back (M := M) hP k1 (by omega) z6
    obtain ⟨N, eN⟩ : ∃ N, N = wr (cpG M 1 (P k)) 47 1 (k : Int) := ⟨_, rfl⟩
    rw [← eN] at hc
    have nO : ∀ a b, (a = 0 ∨ 24 ≤ a) → (a ≠ 47 ∨ b ≠ 1) → N a b = M a b := by
      intro a b x y
      rw [eN, wr_app, if_neg (by omega), cpG_out (by omega)]
    have n2 : N 149 2 = ((k + 1 : Nat) : Int) := by rw [nO 149 2 (by omega) (by omega)]; exact k2
    have c1 : ¬ ((k + 1 : Nat) : Int) = 0 := by omega
    have s1 : sb ((k + 1 : Nat) : Int) 1 = (k : Int) := by rw [sb_eq (by omega) (by omega)]; omega
    have s2 : ml 77 (k : Int) = ((77 * k : Nat) : Int) := by rw [ml_eq (by omega) (by omega)]; omega
    have w2 : wr N 149 2 (k : Int) 149 2 = (k : Int) := by rw [wr_app, if_pos ⟨rfl, rfl⟩]
    have ec := m_copies (M := wr N 149 2 (k : Int)) (P := P) (f := 151) (at' := 77 * k) (to := 150) (b' := 0) kd_151 kd_150 (by rw [ln_151]; omega) (by rw [ln_150]; omega) (by omega) (by omega) (by omega)
    have e9 : ((0 : Nat) : Int) = 0 := rfl
    rw [e9] at ec
    obtain ⟨F, eF⟩ : ∃ F, F = cpY (wr N 149 2 (k : Int)) 151 (77 * k) 150 0 77 := ⟨_, rfl⟩
    rw [← eF] at ec
    have f2 : F 149 2 = (k : Int) := by rw [eF]; unfold cpY; rw [if_neg (by omega)]; exact w2
    have fO : ∀ a b, a ≠ 150 → (a ≠ 149 ∨ b ≠ 2) → F a b = N a b := by
      intro a b x y
      rw [eF]; unfold cpY; rw [if_neg (by omega), wr_app, if_neg (by omega)]
    refine ⟨(k : Int), N, P, F, ?_, ?_, ?_, ⟨k, RH_less hK ?_ ?_ f2⟩, RSn_cast hS ?_, RPd_cast hPd ?_, RWh_cast hW ?_⟩
    · simp only [en106, s106_0, s106_1, s106_4, s106_5, s106_8, s106_11, cont_some, rl_some, rl_none, if_true, if_false, kd_0, kd_1, kd_2, kd_5, kd_47, kd_141, kd_144, kd_149, rf_0_0, rf_0_1, rf_0_2, rf_0_3, rf_0_4, rf_1_0, rf_1_1, rf_1_2, rf_2_0, rf_5_0, rf_5_1, rf_5_2, rf_5_3, rf_5_4, rf_5_5, rf_5_6, rf_5_7, rf_47_0, rf_141_0, rf_144_0, rf_144_1, rf_149_0, rf_149_1, rf_149_3, rf_149_5, rf_149_9, rf_149_16, rf_149_17, kd_3, kd_6, kd_8, kd_10, kd_12, kd_14, kd_16, kd_18, kd_20, kd_22, kd_142, kd_145, kd_147, kd_24, hc]
    · simp only [en172, s172_0, s172_1, s172_4, s172_7, s172_9, s172_10, s172_11, s172_12, s172_15, s172_16, s172_17, s172_20, s172_21, s172_24, s172_26, s172_27, s172_30, s172_31, s172_32, s172_35, s172_36, s172_39, s172_40, s172_43, cont_some, rl_some, rl_none, if_true, if_false, kd_149, rf_149_0, rf_149_1, rf_149_3, rf_149_5, rf_149_9, rf_149_16, rf_149_17, kd_150, kd_151, kd_152, kd_153, kd_154, kd_155, kd_156, ln_150, ln_151, ln_152, ln_153, ln_154, ln_155, ln_156, Int.reduceLE, Int.reduceLT, Int.reduceToNat, Nat.reduceLT, Int.toNat_natCast, Int.natCast_nonneg, true_or, Int.one_ne_zero, ite_self, n2, c1, s1, w2, s2, ec, f2]
    · apply RG_castS hG
      · intro o b hcs
        have ho := cS_sm _ _ hcs
        rw [blk_e b1, fO (o + 1) b (by omega) (by omega), eN, wr_app, if_neg (by omega), Nat.add_comm o 1, cpG_in hcs]
      · intro b hb
        unfold sli
        rw [eF]; unfold cpY
        rw [if_pos ⟨rfl, by omega, by omega⟩, wr_app, if_neg (by omega), nO 151 _ (by omega) (by omega), show 77 * k + (b - 0) = 77 * k + b by omega]
    · intro a b x
      rw [fO a b (by omega) (by omega), nO a b (by omega) (by omega)]
    · rw [fO 47 1 (by omega) (by omega), eN, wr_app, if_pos ⟨rfl, rfl⟩]
    · intro a b x
      rw [fO a b (by omega) (by omega), nO a b (by omega) (by omega)]
    · intro a b x
      rw [fO a b (by omega) (by omega), nO a b (by omega) (by omega)]
    · intro a b x
      rw [fO a b (by omega) (by omega), nO a b (by omega) (by omega)]
end Undo
