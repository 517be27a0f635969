section Pub1
variable {M : Mem} {P : PMem}
theorem RG_16 {C D : Mem} (h : RG C D) : C 1 6 = 0 ∨ C 1 6 = 1 := by
  obtain ⟨n, sp, t, hl, h1, h2⟩ := h
  rcases h2 with x | x
  · rcases x.2.2.2.2 with y | y
    · exact Or.inr y
    · exact Or.inl y.1
  · exact Or.inl x.2.2.2
/-- what is ready for a change that is recorded -/
theorem rec_go (h : R M P) : ∃ K, RH M P K ∧ evM 48 [Rf 47, Rf 1] (Hp M P) = some (none, Hp (rcM M P K) (rcP P K)) ∧ RG (rcM M P K) M ∧ ∀ C', frC (rcM M P K) C' → evM 112 [Rf 149] (Hp C' (rcP P K)) = some (none, Hp (rdM C' K) (rcP P K)) ∧ ∀ b, rdM C' K 150 b = M 150 b := by
  obtain ⟨hM, ⟨K, hK⟩, hS, hPd, hW⟩ := h
  have hK' := hK
  obtain ⟨k1, k2, k4, hP, hI, hA⟩ := hK'
  refine ⟨K, hK, h_rec hP k1 k4 (RG_16 hM), RG_cast hM (fun a b x y => rcM_o hP k4 (by omega)) (fun _ => rfl), fun C' hC => ⟨?_, fun b => ?_⟩⟩
  · apply m_records _ k4
    rw [hC 149 2 (by omega), rcM_o hP k4 (by omega)]
    exact k2
  · rw [rdM_o (by omega) (by omega), hC 150 b (by omega), rcM_o hP k4 (by omega)]
theorem P_move (h : R M P) (back : Int) (hb : back = 0 ∨ back = 1) : ∃ (v : Int) (N : Mem) (P' : PMem) (N' : Mem), evM 88 [Rf 0, I back] (Hp M P) = some (some (I v), Hp N P') ∧ evM 147 [Rf 149, I back] (Hp N P') = some (some (I v), Hp N' P') ∧ R N' P' := by
  obtain ⟨K, hK, e1, hG, hrec⟩ := rec_go h
  obtain ⟨v, C', g1, g2, g3, g4⟩ := G_move hG (rcP P K) back
  obtain ⟨r1, r2⟩ := hrec C' g2
  obtain ⟨E, x1, x2, x3⟩ := g4 (rdM C' K) r2
  refine ⟨v, C', rcP P K, E, ?_, ?_, rec_R h hK g2 x3 x2⟩
  · simp only [en88, s88_0, s88_1, s88_4, s88_5, s88_8, s88_11, s88_12, s88_15, s88_16, s88_19, cont_some, rl_some, rl_none, if_true, if_false, kd_0, kd_1, kd_2, kd_5, kd_47, kd_141, kd_144, kd_149, rf_0_0, rf_0_1, rf_0_2, rf_0_3, rf_0_4, rf_1_0, rf_1_1, rf_1_2, rf_2_0, rf_5_0, rf_5_1, rf_5_2, rf_5_3, rf_5_4, rf_5_5, rf_5_6, rf_5_7, rf_47_0, rf_141_0, rf_144_0, rf_144_1, rf_149_0, rf_149_1, rf_149_3, rf_149_5, rf_149_9, rf_149_16, rf_149_17, kd_3, kd_6, kd_8, kd_10, kd_12, kd_14, kd_16, kd_18, kd_20, kd_22, kd_142, kd_145, kd_147, kd_24, e1, g1]
  · simp only [en147, s147_0, s147_1, s147_4, s147_5, s147_6, s147_9, cont_some, rl_some, rl_none, if_true, if_false, kd_149, rf_149_0, rf_149_1, rf_149_3, rf_149_5, rf_149_9, rf_149_16, rf_149_17, kd_150, kd_151, kd_152, kd_153, kd_154, kd_155, kd_156, ln_150, ln_151, ln_152, ln_153, ln_154, ln_155, ln_156, Int.reduceLE, Int.reduceLT, Int.reduceToNat, Nat.reduceLT, Int.toNat_natCast, Int.natCast_nonneg, true_or, Int.one_ne_zero, ite_self, r1, x1]
theorem P_take (h : R M P) : ∃ (v : Int) (N : Mem) (P' : PMem) (N' : Mem), evM 89 [Rf 0] (Hp M P) = some (some (I v), Hp N P') ∧ evM 148 [Rf 149] (Hp N P') = some (some (I v), Hp N' P') ∧ R N' P' := by
  obtain ⟨K, hK, e1, hG, hrec⟩ := rec_go h
  obtain ⟨v, C', g1, g2, g3, g4⟩ := G_take hG (rcP P K) 0
  obtain ⟨r1, r2⟩ := hrec C' g2
  obtain ⟨E, x1, x2, x3⟩ := g4 (rdM C' K) r2
  refine ⟨v, C', rcP P K, E, ?_, ?_, rec_R h hK g2 x3 x2⟩
  · simp only [en89, s89_0, s89_1, s89_4, s89_5, s89_8, s89_11, s89_12, s89_15, s89_17, s89_18, s89_21, cont_some, rl_some, rl_none, if_true, if_false, kd_0, kd_1, kd_2, kd_5, kd_47, kd_141, kd_144, kd_149, rf_0_0, rf_0_1, rf_0_2, rf_0_3, rf_0_4, rf_1_0, rf_1_1, rf_1_2, rf_2_0, rf_5_0, rf_5_1, rf_5_2, rf_5_3, rf_5_4, rf_5_5, rf_5_6, rf_5_7, rf_47_0, rf_141_0, rf_144_0, rf_144_1, rf_149_0, rf_149_1, rf_149_3, rf_149_5, rf_149_9, rf_149_16, rf_149_17, kd_3, kd_6, kd_8, kd_10, kd_12, kd_14, kd_16, kd_18, kd_20, kd_22, kd_142, kd_145, kd_147, kd_24, e1, g1]
  · simp only [en148, s148_0, s148_1, s148_4, s148_5, s148_8, cont_some, rl_some, rl_none, if_true, if_false, kd_149, rf_149_0, rf_149_1, rf_149_3, rf_149_5, rf_149_9, rf_149_16, rf_149_17, kd_150, kd_151, kd_152, kd_153, kd_154, kd_155, kd_156, ln_150, ln_151, ln_152, ln_153, ln_154, ln_155, ln_156, Int.reduceLE, Int.reduceLT, Int.reduceToNat, Nat.reduceLT, Int.toNat_natCast, Int.natCast_nonneg, true_or, Int.one_ne_zero, ite_self, r1, x1]
theorem P_lay (h : R M P) (st : Int) : ∃ (v : Int) (N : Mem) (P' : PMem) (N' : Mem), evM 90 [Rf 0, I st] (Hp M P) = some (some (I v), Hp N P') ∧ evM 149 [Rf 149, I st] (Hp N P') = some (some (I v), Hp N' P') ∧ R N' P' := by
  obtain ⟨K, hK, e1, hG, hrec⟩ := rec_go h
  obtain ⟨v, C', g1, g2, g3, g4⟩ := G_lay hG (rcP P K) st
  obtain ⟨r1, r2⟩ := hrec C' g2
  obtain ⟨E, x1, x2, x3⟩ := g4 (rdM C' K) r2
  refine ⟨v, C', rcP P K, E, ?_, ?_, rec_R h hK g2 x3 x2⟩
  · simp only [en90, s90_0, s90_1, s90_4, s90_5, s90_8, s90_11, s90_12, s90_15, s90_17, s90_18, s90_21, cont_some, rl_some, rl_none, if_true, if_false, kd_0, kd_1, kd_2, kd_5, kd_47, kd_141, kd_144, kd_149, rf_0_0, rf_0_1, rf_0_2, rf_0_3, rf_0_4, rf_1_0, rf_1_1, rf_1_2, rf_2_0, rf_5_0, rf_5_1, rf_5_2, rf_5_3, rf_5_4, rf_5_5, rf_5_6, rf_5_7, rf_47_0, rf_141_0, rf_144_0, rf_144_1, rf_149_0, rf_149_1, rf_149_3, rf_149_5, rf_149_9, rf_149_16, rf_149_17, kd_3, kd_6, kd_8, kd_10, kd_12, kd_14, kd_16, kd_18, kd_20, kd_22, kd_142, kd_145, kd_147, kd_24, e1, g1]
  · simp only [en149, s149_0, s149_1, s149_4, s149_5, s149_6, s149_9, cont_some, rl_some, rl_none, if_true, if_false, kd_149, rf_149_0, rf_149_1, rf_149_3, rf_149_5, rf_149_9, rf_149_16, rf_149_17, kd_150, kd_151, kd_152, kd_153, kd_154, kd_155, kd_156, ln_150, ln_151, ln_152, ln_153, ln_154, ln_155, ln_156, Int.reduceLE, Int.reduceLT, Int.reduceToNat, Nat.reduceLT, Int.toNat_natCast, Int.natCast_nonneg, true_or, Int.one_ne_zero, ite_self, r1, x1]
theorem P_noth (h : R M P) : ∃ (v : Int) (N : Mem) (P' : PMem) (N' : Mem), evM 91 [Rf 0] (Hp M P) = some (some (I v), Hp N P') ∧ evM 150 [Rf 149] (Hp N P') = some (some (I v), Hp N' P') ∧ R N' P' := by
  obtain ⟨K, hK, e1, hG, hrec⟩ := rec_go h
  obtain ⟨v, C', g1, g2, g3, g4⟩ := G_noth hG (rcP P K) 0
  obtain ⟨r1, r2⟩ := hrec C' g2
  obtain ⟨E, x1, x2, x3⟩ := g4 (rdM C' K) r2
  refine ⟨v, C', rcP P K, E, ?_, ?_, rec_R h hK g2 x3 x2⟩
  · simp only [en91, s91_0, s91_1, s91_4, s91_5, s91_8, s91_11, s91_12, s91_15, s91_17, s91_18, s91_21, cont_some, rl_some, rl_none, if_true, if_false, kd_0, kd_1, kd_2, kd_5, kd_47, kd_141, kd_144, kd_149, rf_0_0, rf_0_1, rf_0_2, rf_0_3, rf_0_4, rf_1_0, rf_1_1, rf_1_2, rf_2_0, rf_5_0, rf_5_1, rf_5_2, rf_5_3, rf_5_4, rf_5_5, rf_5_6, rf_5_7, rf_47_0, rf_141_0, rf_144_0, rf_144_1, rf_149_0, rf_149_1, rf_149_3, rf_149_5, rf_149_9, rf_149_16, rf_149_17, kd_3, kd_6, kd_8, kd_10, kd_12, kd_14, kd_16, kd_18, kd_20, kd_22, kd_142, kd_145, kd_147, kd_24, e1, g1]
  · simp only [en150, s150_0, s150_1, s150_4, s150_5, s150_8, cont_some, rl_some, rl_none, if_true, if_false, kd_149, rf_149_0, rf_149_1, rf_149_3, rf_149_5, rf_149_9, rf_149_16, rf_149_17, kd_150, kd_151, kd_152, kd_153, kd_154, kd_155, kd_156, ln_150, ln_151, ln_152, ln_153, ln_154, ln_155, ln_156, Int.reduceLE, Int.reduceLT, Int.reduceToNat, Nat.reduceLT, Int.toNat_natCast, Int.natCast_nonneg, true_or, Int.one_ne_zero, ite_self, r1, x1]
theorem P_begin (h : R M P) (d x : Int) : ∃ (v : Int) (N : Mem) (P' : PMem) (N' : Mem), evM 87 [Rf 0, I d, I x] (Hp M P) = some (some (I v), Hp N P') ∧ evM 146 [Rf 149, I d, I x] (Hp N P') = some (some (I v), Hp N' P') ∧ R N' P' := by
  by_cases hc : (2 ≤ d ∧ d ≤ 4) ∧ (0 ≤ x ∧ x ≤ 9999)
  · obtain ⟨⟨d2, d4⟩, x0, x9⟩ := hc
    obtain ⟨n, en⟩ : ∃ n : Nat, d = (n : Int) := ⟨d.toNat, by omega⟩
    subst en
    obtain ⟨K, hK, e1, hG, hrec⟩ := rec_go h
    obtain ⟨v, C', g1, g1b, g2, g4⟩ := G_begin (n := n) hG (rcP P K) (by omega) (by omega) x0 x9
    obtain ⟨r1, r2⟩ := hrec C' g2
    obtain ⟨E, x1, x2, x3⟩ := g4 (rdM C' K) r2
    have c1 : ¬ (n : Int) < 2 := by omega
    have c2 : ¬ (4 : Int) < (n : Int) := by omega
    have c3 : ¬ x < 0 := by omega
    have c4 : x < 10000 := by omega
    have m1 : (if 2 ≤ (n : Int) ∧ (n : Int) ≤ 4 then (1 : Int) else 0) = 1 := if_pos ⟨d2, d4⟩
    have m2 : (if 0 ≤ x ∧ x ≤ 9999 then (1 : Int) else 0) = 1 := if_pos ⟨x0, x9⟩
    refine ⟨v, C', rcP P K, E, ?_, ?_, rec_R h hK g2 x3 x2⟩
    · simp only [en87, s87_0, s87_1, s87_2, s87_5, s87_6, s87_7, s87_10, s87_11, s87_14, s87_15, s87_18, s87_21, s87_22, s87_23, s87_24, s87_27, s87_28, s87_31, s87_34, s87_35, s87_38, s87_39, s87_40, s87_43, s87_44, s87_47, s87_50, cont_some, rl_some, rl_none, if_true, if_false, kd_0, kd_1, kd_2, kd_5, kd_47, kd_141, kd_144, kd_149, rf_0_0, rf_0_1, rf_0_2, rf_0_3, rf_0_4, rf_1_0, rf_1_1, rf_1_2, rf_2_0, rf_5_0, rf_5_1, rf_5_2, rf_5_3, rf_5_4, rf_5_5, rf_5_6, rf_5_7, rf_47_0, rf_141_0, rf_144_0, rf_144_1, rf_149_0, rf_149_1, rf_149_3, rf_149_5, rf_149_9, rf_149_16, rf_149_17, kd_3, kd_6, kd_8, kd_10, kd_12, kd_14, kd_16, kd_18, kd_20, kd_22, kd_142, kd_145, kd_147, kd_24, c1, c2, c3, c4, e1, g1, g1b]
    · simp only [en146, s146_0, s146_1, s146_2, s146_3, s146_6, s146_9, s146_10, s146_11, s146_14, s146_17, s146_20, s146_21, s146_22, s146_23, s146_26, s146_27, s146_28, s146_29, s146_32, cont_some, rl_some, rl_none, if_true, if_false, kd_149, rf_149_0, rf_149_1, rf_149_3, rf_149_5, rf_149_9, rf_149_16, rf_149_17, kd_150, kd_151, kd_152, kd_153, kd_154, kd_155, kd_156, ln_150, ln_151, ln_152, ln_153, ln_154, ln_155, ln_156, Int.reduceLE, Int.reduceLT, Int.reduceToNat, Nat.reduceLT, Int.toNat_natCast, Int.natCast_nonneg, true_or, Int.one_ne_zero, ite_self, m_in, m1, m2, r1, x1]
  · refine ⟨-1, M, P, M, ?_, ?_, h⟩
    · by_cases c1 : d < 2
      · simp only [en87, s87_0, s87_1, s87_2, s87_5, s87_6, s87_7, s87_10, s87_11, s87_14, s87_15, s87_18, s87_21, s87_22, s87_23, s87_24, s87_27, s87_28, s87_31, s87_34, s87_35, s87_38, s87_39, s87_40, s87_43, s87_44, s87_47, s87_50, cont_some, rl_some, rl_none, if_true, if_false, kd_0, kd_1, kd_2, kd_5, kd_47, kd_141, kd_144, kd_149, rf_0_0, rf_0_1, rf_0_2, rf_0_3, rf_0_4, rf_1_0, rf_1_1, rf_1_2, rf_2_0, rf_5_0, rf_5_1, rf_5_2, rf_5_3, rf_5_4, rf_5_5, rf_5_6, rf_5_7, rf_47_0, rf_141_0, rf_144_0, rf_144_1, rf_149_0, rf_149_1, rf_149_3, rf_149_5, rf_149_9, rf_149_16, rf_149_17, kd_3, kd_6, kd_8, kd_10, kd_12, kd_14, kd_16, kd_18, kd_20, kd_22, kd_142, kd_145, kd_147, kd_24, c1]
      · by_cases c2 : 4 < d
        · simp only [en87, s87_0, s87_1, s87_2, s87_5, s87_6, s87_7, s87_10, s87_11, s87_14, s87_15, s87_18, s87_21, s87_22, s87_23, s87_24, s87_27, s87_28, s87_31, s87_34, s87_35, s87_38, s87_39, s87_40, s87_43, s87_44, s87_47, s87_50, cont_some, rl_some, rl_none, if_true, if_false, kd_0, kd_1, kd_2, kd_5, kd_47, kd_141, kd_144, kd_149, rf_0_0, rf_0_1, rf_0_2, rf_0_3, rf_0_4, rf_1_0, rf_1_1, rf_1_2, rf_2_0, rf_5_0, rf_5_1, rf_5_2, rf_5_3, rf_5_4, rf_5_5, rf_5_6, rf_5_7, rf_47_0, rf_141_0, rf_144_0, rf_144_1, rf_149_0, rf_149_1, rf_149_3, rf_149_5, rf_149_9, rf_149_16, rf_149_17, kd_3, kd_6, kd_8, kd_10, kd_12, kd_14, kd_16, kd_18, kd_20, kd_22, kd_142, kd_145, kd_147, kd_24, c1, c2]
        · by_cases c3 : x < 0
          · simp only [en87, s87_0, s87_1, s87_2, s87_5, s87_6, s87_7, s87_10, s87_11, s87_14, s87_15, s87_18, s87_21, s87_22, s87_23, s87_24, s87_27, s87_28, s87_31, s87_34, s87_35, s87_38, s87_39, s87_40, s87_43, s87_44, s87_47, s87_50, cont_some, rl_some, rl_none, if_true, if_false, kd_0, kd_1, kd_2, kd_5, kd_47, kd_141, kd_144, kd_149, rf_0_0, rf_0_1, rf_0_2, rf_0_3, rf_0_4, rf_1_0, rf_1_1, rf_1_2, rf_2_0, rf_5_0, rf_5_1, rf_5_2, rf_5_3, rf_5_4, rf_5_5, rf_5_6, rf_5_7, rf_47_0, rf_141_0, rf_144_0, rf_144_1, rf_149_0, rf_149_1, rf_149_3, rf_149_5, rf_149_9, rf_149_16, rf_149_17, kd_3, kd_6, kd_8, kd_10, kd_12, kd_14, kd_16, kd_18, kd_20, kd_22, kd_142, kd_145, kd_147, kd_24, c1, c2, c3]
          · have c4 : ¬ x < 10000 := by omega
            simp only [en87, s87_0, s87_1, s87_2, s87_5, s87_6, s87_7, s87_10, s87_11, s87_14, s87_15, s87_18, s87_21, s87_22, s87_23, s87_24, s87_27, s87_28, s87_31, s87_34, s87_35, s87_38, s87_39, s87_40, s87_43, s87_44, s87_47, s87_50, cont_some, rl_some, rl_none, if_true, if_false, kd_0, kd_1, kd_2, kd_5, kd_47, kd_141, kd_144, kd_149, rf_0_0, rf_0_1, rf_0_2, rf_0_3, rf_0_4, rf_1_0, rf_1_1, rf_1_2, rf_2_0, rf_5_0, rf_5_1, rf_5_2, rf_5_3, rf_5_4, rf_5_5, rf_5_6, rf_5_7, rf_47_0, rf_141_0, rf_144_0, rf_144_1, rf_149_0, rf_149_1, rf_149_3, rf_149_5, rf_149_9, rf_149_16, rf_149_17, kd_3, kd_6, kd_8, kd_10, kd_12, kd_14, kd_16, kd_18, kd_20, kd_22, kd_142, kd_145, kd_147, kd_24, c1, c2, c3, c4]
    · by_cases c1 : 2 ≤ d ∧ d ≤ 4
      · have m1 : (if 2 ≤ d ∧ d ≤ 4 then (1 : Int) else 0) = 1 := if_pos c1
        have m2 : (if 0 ≤ x ∧ x ≤ 9999 then (1 : Int) else 0) = 0 := if_neg (fun z => hc ⟨c1, z⟩)
        simp only [en146, s146_0, s146_1, s146_2, s146_3, s146_6, s146_9, s146_10, s146_11, s146_14, s146_17, s146_20, s146_21, s146_22, s146_23, s146_26, s146_27, s146_28, s146_29, s146_32, cont_some, rl_some, rl_none, if_true, if_false, kd_149, rf_149_0, rf_149_1, rf_149_3, rf_149_5, rf_149_9, rf_149_16, rf_149_17, kd_150, kd_151, kd_152, kd_153, kd_154, kd_155, kd_156, ln_150, ln_151, ln_152, ln_153, ln_154, ln_155, ln_156, Int.reduceLE, Int.reduceLT, Int.reduceToNat, Nat.reduceLT, Int.toNat_natCast, Int.natCast_nonneg, true_or, Int.one_ne_zero, ite_self, m_in, m1, m2]
      · have m1 : (if 2 ≤ d ∧ d ≤ 4 then (1 : Int) else 0) = 0 := if_neg c1
        simp only [en146, s146_0, s146_1, s146_2, s146_3, s146_6, s146_9, s146_10, s146_11, s146_14, s146_17, s146_20, s146_21, s146_22, s146_23, s146_26, s146_27, s146_28, s146_29, s146_32, cont_some, rl_some, rl_none, if_true, if_false, kd_149, rf_149_0, rf_149_1, rf_149_3, rf_149_5, rf_149_9, rf_149_16, rf_149_17, kd_150, kd_151, kd_152, kd_153, kd_154, kd_155, kd_156, ln_150, ln_151, ln_152, ln_153, ln_154, ln_155, ln_156, Int.reduceLE, Int.reduceLT, Int.reduceToNat, Nat.reduceLT, Int.toNat_natCast, Int.natCast_nonneg, true_or, Int.one_ne_zero, ite_self, m_in, m1]
end Pub1
