section Save
variable {M : Mem} {P : PMem}
theorem RG_rd {C D : Mem} (h : RG C D) : D 150 1 = C 1 4 := by
  obtain ⟨n, sp, t, hl, h1, _⟩ := h
  exact h1.rd
theorem P_save (h : R M P) : ∃ (v : Int) (N : Mem) (P' : PMem) (N' : Mem), evM 107 [Rf 0] (Hp M P) = some (some (I v), Hp N P') ∧ evM 173 [Rf 149] (Hp N P') = some (some (I v), Hp N' P') ∧ R N' P' := by
  obtain ⟨hM, ⟨K, hK⟩, hS, hPd, hW⟩ := h
  have hc := cp_game (M := M) (P := P) (b := 24) (b2 := 1) (Or.inr (Or.inl rfl)) (Or.inl rfl) (by unfold far; omega) (RG_16 hM)
  obtain ⟨N, eN⟩ : ∃ N, N = wr (cpG M 24 1) 0 5 1 := ⟨_, rfl⟩
  have nO : ∀ a b, (a < 24 ∨ 47 ≤ a) → (a ≠ 0 ∨ b ≠ 5) → N a b = M a b := by
    intro a b x y
    rw [eN, wr_app, if_neg (by omega), cpG_out (by omega)]
  have n14 : N 1 4 = M 1 4 := nO 1 4 (by omega) (by omega)
  have ec := m_copies (M := N) (P := P) (f := 150) (at' := 0) (to := 152) (b' := 0) kd_150 kd_152 (by rw [ln_150]; omega) (by rw [ln_152]; omega) (by omega) (by omega) (by omega)
  have e9 : ((0 : Nat) : Int) = 0 := rfl
  rw [e9] at ec
  obtain ⟨F, eF⟩ : ∃ F, F = wr (cpY N 150 0 152 0 77) 149 4 1 := ⟨_, rfl⟩
  have fO : ∀ a b, a ≠ 152 → (a ≠ 149 ∨ b ≠ 4) → F a b = N a b := by
    intro a b x y
    rw [eF, wr_app, if_neg (by omega)]; unfold cpY; rw [if_neg (by omega)]
  have f1 : F 150 1 = M 1 4 := by rw [fO 150 1 (by omega) (by omega), nO 150 1 (by omega) (by omega)]; exact RG_rd hM
  have eN' := eN
  have eF' := eF
  refine ⟨M 1 4, N, P, F, ?_, ?_, RG_cast hM ?_ ?_, ⟨K, RH_cast hK ?_⟩, ⟨?_, Or.inr ⟨?_, RG_castS hM ?_ ?_⟩⟩, RPd_cast hPd ?_, RWh_cast hW ?_⟩
  · simp only [en107, s107_0, s107_1, s107_4, s107_5, s107_8, s107_11, s107_12, s107_13, s107_16, s107_17, s107_20, s107_23, cont_some, rl_some, rl_none, if_true, if_false, kd_0, kd_1, kd_2, kd_5, kd_47, kd_141, kd_144, kd_149, rf_0_0, rf_0_1, rf_0_2, rf_0_3, rf_0_4, rf_1_0, rf_1_1, rf_1_2, rf_2_0, rf_5_0, rf_5_1, rf_5_2, rf_5_3, rf_5_4, rf_5_5, rf_5_6, rf_5_7, rf_47_0, rf_141_0, rf_144_0, rf_144_1, rf_149_0, rf_149_1, rf_149_3, rf_149_5, rf_149_9, rf_149_16, rf_149_17, kd_3, kd_6, kd_8, kd_10, kd_12, kd_14, kd_16, kd_18, kd_20, kd_22, kd_142, kd_145, kd_147, kd_24, hc, or_true, ← eN, n14]
  · simp only [en173, s173_0, s173_1, s173_4, s173_5, s173_6, s173_9, s173_10, s173_13, s173_14, s173_15, s173_18, s173_19, s173_22, s173_23, s173_24, cont_some, rl_some, rl_none, if_true, if_false, kd_149, rf_149_0, rf_149_1, rf_149_3, rf_149_5, rf_149_9, rf_149_16, rf_149_17, kd_150, kd_151, kd_152, kd_153, kd_154, kd_155, kd_156, ln_150, ln_151, ln_152, ln_153, ln_154, ln_155, ln_156, Int.reduceLE, Int.reduceLT, Int.reduceToNat, Nat.reduceLT, Int.toNat_natCast, Int.natCast_nonneg, true_or, Int.one_ne_zero, ite_self, ec, or_true, ← eF, f1]
  · intro a b x y
    rw [fO a b (by omega) (by omega), nO a b (by omega) (by omega)]
  · intro b
    rw [fO 150 b (by omega) (by omega), nO 150 b (by omega) (by omega)]
  · intro a b x
    rw [fO a b (by omega) (by omega), nO a b (by omega) (by omega)]
  · rw [fO 0 5 (by omega) (by omega), eN, wr_app, if_pos ⟨rfl, rfl⟩, eF, wr_app, if_pos ⟨rfl, rfl⟩]
  · rw [eF, wr_app, if_pos ⟨rfl, rfl⟩]
  · intro o b hcs
    have ho := cS_sm _ _ hcs
    rw [blk_e (by omega), fO (24 + o) b (by omega) (by omega), eN, wr_app, if_neg (by omega), cpG_in hcs, Nat.add_comm 1 o]
  · intro b hb
    unfold sli
    rw [eF, wr_app, if_neg (by omega)]
    unfold cpY
    rw [if_pos ⟨rfl, by omega, by omega⟩, show 0 + (0 + b - 0) = b by omega, nO 150 b (by omega) (by omega)]
  · intro a b x
    rw [fO a b (by omega) (by omega), nO a b (by omega) (by omega)]
  · intro a b x
    rw [fO a b (by omega) (by omega), nO a b (by omega) (by omega)]
theorem P_restore (h : R M P) : ∃ (v : Int) (N : Mem) (P' : PMem) (N' : Mem), evM 108 [Rf 0] (Hp M P) = some (some (I v), Hp N P') ∧ evM 174 [Rf 149] (Hp N P') = some (some (I v), Hp N' P') ∧ R N' P' := by
  have hR := h
  obtain ⟨hM, _, hS, hPd, hW⟩ := h
  obtain ⟨s1, s2⟩ := hS
  rcases s2 with s2 | ⟨s2, s3⟩
  · have s1' : M 0 5 = 0 := by rw [s1, s2]
    refine ⟨-2, M, P, M, ?_, ?_, hR⟩
    · simp only [en108, s108_0, s108_1, s108_4, s108_7, s108_9, s108_10, s108_11, s108_14, s108_15, s108_18, s108_21, s108_22, s108_25, s108_26, s108_29, s108_32, s108_33, s108_36, s108_39, cont_some, rl_some, rl_none, if_true, if_false, kd_0, kd_1, kd_2, kd_5, kd_47, kd_141, kd_144, kd_149, rf_0_0, rf_0_1, rf_0_2, rf_0_3, rf_0_4, rf_1_0, rf_1_1, rf_1_2, rf_2_0, rf_5_0, rf_5_1, rf_5_2, rf_5_3, rf_5_4, rf_5_5, rf_5_6, rf_5_7, rf_47_0, rf_141_0, rf_144_0, rf_144_1, rf_149_0, rf_149_1, rf_149_3, rf_149_5, rf_149_9, rf_149_16, rf_149_17, kd_3, kd_6, kd_8, kd_10, kd_12, kd_14, kd_16, kd_18, kd_20, kd_22, kd_142, kd_145, kd_147, kd_24, s1']
    · simp only [en174, s174_0, s174_1, s174_4, s174_7, s174_9, s174_10, s174_11, s174_14, s174_15, s174_18, s174_19, s174_20, s174_23, s174_24, s174_27, s174_28, s174_31, s174_32, s174_33, cont_some, rl_some, rl_none, if_true, if_false, kd_149, rf_149_0, rf_149_1, rf_149_3, rf_149_5, rf_149_9, rf_149_16, rf_149_17, kd_150, kd_151, kd_152, kd_153, kd_154, kd_155, kd_156, ln_150, ln_151, ln_152, ln_153, ln_154, ln_155, ln_156, Int.reduceLE, Int.reduceLT, Int.reduceToNat, Nat.reduceLT, Int.toNat_natCast, Int.natCast_nonneg, true_or, Int.one_ne_zero, ite_self, s2]
  · have s1' : M 0 5 = 1 := by rw [s1, s2]
    obtain ⟨K, hK, e1, hG, hrec⟩ := rec_go hR
    obtain ⟨k1, k2, k4, hP, hI, hA⟩ := hK
    have hK : RH M P K := ⟨k1, k2, k4, hP, hI, hA⟩
    have r0 : ∀ b, rcM M P K 0 b = M 0 b := fun b => rcM_o hP k4 (by omega)
    have r24 : ∀ o b, o < 23 → rcM M P K (24 + o) b = M (24 + o) b := fun o b ho => rcM_o hP k4 (by omega)
    have z6 := RG_16 s3
    have e6 : blk M 24 1 6 = M 24 6 := rfl
    rw [e6] at z6
    have r246 : rcM M P K 24 6 = M 24 6 := r24 0 6 (by omega)
    have hc := cp_game (M := rcM M P K) (P := rcP P K) (b := 1) (b2 := 24) (Or.inl rfl) (Or.inr (Or.inl rfl)) (by unfold far; omega) (by rw [r246]; exact z6)
    obtain ⟨C', eC⟩ : ∃ C', C' = cpG (rcM M P K) 1 24 := ⟨_, rfl⟩
    rw [← eC] at hc
    have hfr : frC (rcM M P K) C' := by
      intro a b x
      rw [eC, cpG_out (by omega)]
    obtain ⟨q1, q2⟩ := hrec C' hfr
    have ec := m_copies (M := rdM C' K) (P := rcP P K) (f := 152) (at' := 0) (to := 150) (b' := 0) kd_152 kd_150 (by rw [ln_152]; omega) (by rw [ln_150]; omega) (by omega) (by omega) (by omega)
    have e9 : ((0 : Nat) : Int) = 0 := rfl
    rw [e9] at ec
    obtain ⟨E, eE⟩ : ∃ E, E = cpY (rdM C' K) 152 0 150 0 77 := ⟨_, rfl⟩
    rw [← eE] at ec
    have hfd : frD (rdM C' K) E := by
      intro a b x y z
      rw [eE]; unfold cpY; rw [if_neg (by omega)]
    have hGE : RG C' E := by
      apply RG_castS s3
      · intro o b hcs
        have ho := cS_sm _ _ hcs
        rw [blk_e (by omega), eC, Nat.add_comm o 1, cpG_in hcs, r24 o b ho]
      · intro b hb
        unfold sli
        rw [eE]; unfold cpY
        rw [if_pos ⟨rfl, by omega, by omega⟩, rdM_o (by omega) (by omega), hfr 152 _ (by omega), rcM_o hP k4 (by omega), Nat.sub_zero]
    have hrd := RG_rd hGE
    have c0 : ¬ (1 : Int) = 0 := by omega
    refine ⟨C' 1 4, C', rcP P K, E, ?_, ?_, rec_R hR hK hfr hfd hGE⟩
    · simp only [en108, s108_0, s108_1, s108_4, s108_7, s108_9, s108_10, s108_11, s108_14, s108_15, s108_18, s108_21, s108_22, s108_25, s108_26, s108_29, s108_32, s108_33, s108_36, s108_39, cont_some, rl_some, rl_none, if_true, if_false, kd_0, kd_1, kd_2, kd_5, kd_47, kd_141, kd_144, kd_149, rf_0_0, rf_0_1, rf_0_2, rf_0_3, rf_0_4, rf_1_0, rf_1_1, rf_1_2, rf_2_0, rf_5_0, rf_5_1, rf_5_2, rf_5_3, rf_5_4, rf_5_5, rf_5_6, rf_5_7, rf_47_0, rf_141_0, rf_144_0, rf_144_1, rf_149_0, rf_149_1, rf_149_3, rf_149_5, rf_149_9, rf_149_16, rf_149_17, kd_3, kd_6, kd_8, kd_10, kd_12, kd_14, kd_16, kd_18, kd_20, kd_22, kd_142, kd_145, kd_147, kd_24, s1', c0, e1, hc]
    · have k0 : C' 149 4 = 1 := by rw [hfr 149 4 (by omega), rcM_o hP k4 (by omega)]; exact s2
      simp only [en174, s174_0, s174_1, s174_4, s174_7, s174_9, s174_10, s174_11, s174_14, s174_15, s174_18, s174_19, s174_20, s174_23, s174_24, s174_27, s174_28, s174_31, s174_32, s174_33, cont_some, rl_some, rl_none, if_true, if_false, kd_149, rf_149_0, rf_149_1, rf_149_3, rf_149_5, rf_149_9, rf_149_16, rf_149_17, kd_150, kd_151, kd_152, kd_153, kd_154, kd_155, kd_156, ln_150, ln_151, ln_152, ln_153, ln_154, ln_155, ln_156, Int.reduceLE, Int.reduceLT, Int.reduceToNat, Nat.reduceLT, Int.toNat_natCast, Int.natCast_nonneg, true_or, Int.one_ne_zero, ite_self, k0, c0, q1, ec, hrd]
end Save
