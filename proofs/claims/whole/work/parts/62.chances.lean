section Chances
variable {M N C D : Mem} {P : PMem} {n sp t : Nat} {hl : Nat → Nat}
/-! brought -/
theorem dv_num {x : UInt64} (h : FP.Core.dIsNaN x = false) : x &&& 0x7fffffffffffffff ≤ 0x7ff0000000000000 := by
  have h2 : ¬ (9218868437227405312 < x.toNat % 2 ^ 63) := by
    rw [← FP.Core.isNaN_bits, h]
    intro q
    cases q
  rw [UInt64.le_iff_toNat_le, UInt64.toNat_and]
  show x.toNat &&& (2 ^ 63 - 1) ≤ 9218868437227405312
  rw [Nat.and_two_pow_sub_one_eq_mod]
  omega
theorem dv_ok {a b : Int32} (hb : b ≠ 0) : FP.ddiv (FP.i2d a) (FP.i2d b) &&& 0x7fffffffffffffff ≤ 0x7ff0000000000000 :=
  dv_num (FP.Core.ddiv_out (FP.Core.DFin.notNaN (FP.Core.i2d_fin a)) (FP.Core.i2d_fin b) (by rw [FP.Core.zero_bits2]; exact FP.Core.i2d_ne_zero hb))
theorem dv_0 : (FP.dconst0 : UInt64) &&& 0x7fffffffffffffff ≤ 0x7ff0000000000000 := by decide
theorem i32_ne {z : Int} (h : inr z) (h0 : z ≠ 0) : i32 z ≠ 0 := by
  intro q
  have h1 : (i32 z).toInt = z := w_toInt h.1 h.2
  rw [q] at h1
  exact h0 h1.symm
theorem P_brought (h : R M P) : ∃ (x : UInt64) (N : Mem) (P' : PMem) (N' : Mem), evM 105 [Rf 0] (Hp M P) = some (some (Db x), Hp N P') ∧ evM 171 [Rf 149] (Hp N P') = some (some (Db x), Hp N' P') ∧ R N' P' ∧ x &&& 0x7fffffffffffffff ≤ 0x7ff0000000000000 := by
  have hR := h
  obtain ⟨⟨n, sp, t, hl, hB, hT⟩, -⟩ := h
  have h4 := hB.cN.2
  have h16 := hB.cS.2
  obtain ⟨a1, a2⟩ := sumN_b (f := fun s => psum (M 4 (s + 1))) (B := 45) sp (fun i _ => psum_b _)
  obtain ⟨b1, b2⟩ := sumN_b (f := va1 M hl) (B := 270) n (fun i hi => va1_m M hl (hB.ch i hi).1)
  have e1 : ad (sumN (fun s => psum (M 4 (s + 1))) sp) (sumN (va1 M hl) n) = sumN (fun s => psum (M 4 (s + 1))) sp + sumN (va1 M hl) n := ad_eq (by omega) (by omega)
  have e2 := own_same hB
  have ga := g_allV (P := P) hB.cN hB.ch hB.cpi hB.cS hB.cpa
  obtain ⟨s1, es1⟩ : ∃ s1, s1 = sumN (fun s => psum (M 4 (s + 1))) sp + sumN (va1 M hl) n := ⟨_, rfl⟩
  obtain ⟨s2, es2⟩ : ∃ s2, s2 = sumA (mSc M) n := ⟨_, rfl⟩
  rw [← es1, e2, ← es2] at ga
  have ma := m_all (P := P) hB.mN
  rw [← es2] at ma
  have co := c_owned (M := M) (P := P)
  rw [e2, ← es2] at co
  by_cases c : ad s1 s2 = 0
  · refine ⟨FP.dconst0, M, P, M, ?_, ?_, hR, dv_0⟩
    · simp only [en105, s105_0, s105_1, s105_4, s105_7, s105_8, s105_9, s105_12, s105_13, s105_16, s105_17, s105_20, s105_23, s105_26, s105_27, s105_28, s105_29, s105_30, cont_some, rl_some, rl_none, if_true, if_false, kd_0, kd_1, kd_2, kd_5, kd_47, kd_141, kd_144, kd_149, rf_0_0, rf_0_1, rf_0_2, rf_0_3, rf_0_4, rf_1_0, rf_1_1, rf_1_2, rf_2_0, rf_5_0, rf_5_1, rf_5_2, rf_5_3, rf_5_4, rf_5_5, rf_5_6, rf_5_7, rf_47_0, rf_141_0, rf_144_0, rf_144_1, rf_149_0, rf_149_1, rf_149_3, rf_149_5, rf_149_9, rf_149_16, rf_149_17, kd_3, kd_6, kd_8, kd_10, kd_12, kd_14, kd_16, kd_18, kd_20, kd_22, kd_142, kd_145, kd_147, kd_24, ga, c]
    · simp only [en171, s171_0, s171_1, s171_4, s171_5, s171_8, s171_9, s171_10, s171_13, s171_14, s171_15, s171_16, s171_19, s171_20, s171_23, s171_24, s171_27, s171_28, s171_29, s171_30, s171_31, cont_some, rl_some, rl_none, if_true, if_false, kd_149, rf_149_0, rf_149_1, rf_149_3, rf_149_5, rf_149_9, rf_149_16, rf_149_17, kd_150, kd_151, kd_152, kd_153, kd_154, kd_155, kd_156, ln_150, ln_151, ln_152, ln_153, ln_154, ln_155, ln_156, Int.reduceLE, Int.reduceLT, Int.reduceToNat, Nat.reduceLT, Int.toNat_natCast, Int.natCast_nonneg, true_or, Int.one_ne_zero, ite_self, m_path hB.mS hB.pa, m_way hB.mN hB.mh hB.ks, e1, ← es1, ma, c]
  · have hn := dv_ok (a := i32 s2) (i32_ne (ad_inr s1 s2) c)
    refine ⟨FP.ddiv (FP.i2d (i32 s2)) (FP.i2d (i32 (ad s1 s2))), M, P, M, ?_, ?_, hR, hn⟩
    · simp only [en105, s105_0, s105_1, s105_4, s105_7, s105_8, s105_9, s105_12, s105_13, s105_16, s105_17, s105_20, s105_23, s105_26, s105_27, s105_28, s105_29, s105_30, cont_some, rl_some, rl_none, if_true, if_false, kd_0, kd_1, kd_2, kd_5, kd_47, kd_141, kd_144, kd_149, rf_0_0, rf_0_1, rf_0_2, rf_0_3, rf_0_4, rf_1_0, rf_1_1, rf_1_2, rf_2_0, rf_5_0, rf_5_1, rf_5_2, rf_5_3, rf_5_4, rf_5_5, rf_5_6, rf_5_7, rf_47_0, rf_141_0, rf_144_0, rf_144_1, rf_149_0, rf_149_1, rf_149_3, rf_149_5, rf_149_9, rf_149_16, rf_149_17, kd_3, kd_6, kd_8, kd_10, kd_12, kd_14, kd_16, kd_18, kd_20, kd_22, kd_142, kd_145, kd_147, kd_24, ga, c, co, hn]
    · simp only [en171, s171_0, s171_1, s171_4, s171_5, s171_8, s171_9, s171_10, s171_13, s171_14, s171_15, s171_16, s171_19, s171_20, s171_23, s171_24, s171_27, s171_28, s171_29, s171_30, s171_31, cont_some, rl_some, rl_none, if_true, if_false, kd_149, rf_149_0, rf_149_1, rf_149_3, rf_149_5, rf_149_9, rf_149_16, rf_149_17, kd_150, kd_151, kd_152, kd_153, kd_154, kd_155, kd_156, ln_150, ln_151, ln_152, ln_153, ln_154, ln_155, ln_156, Int.reduceLE, Int.reduceLT, Int.reduceToNat, Nat.reduceLT, Int.toNat_natCast, Int.natCast_nonneg, true_or, Int.one_ne_zero, ite_self, m_path hB.mS hB.pa, m_way hB.mN hB.mh hB.ks, e1, ← es1, ma, c, hn]
/-! chances -/
theorem m_thr {s : Nat} {h : AH} : evM 167 [I (s : Int)] h = some (some (I (tsh s)), h) := by
  unfold tsh
  by_cases c1 : s = 4
  · subst c1
    rw [if_pos rfl]
    have e : ((4 : Nat) : Int) = 4 := rfl
    simp only [en167, s167_0, s167_1, s167_2, s167_5, s167_6, s167_9, s167_10, s167_11, s167_14, s167_15, s167_16, s167_19, s167_20, s167_23, s167_24, cont_some, rl_some, rl_none, if_true, if_false, kd_149, rf_149_0, rf_149_1, rf_149_3, rf_149_5, rf_149_9, rf_149_16, rf_149_17, kd_150, kd_151, kd_152, kd_153, kd_154, kd_155, kd_156, ln_150, ln_151, ln_152, ln_153, ln_154, ln_155, ln_156, Int.reduceLE, Int.reduceLT, Int.reduceToNat, Nat.reduceLT, Int.toNat_natCast, Int.natCast_nonneg, true_or, Int.one_ne_zero, ite_self, e]
  · have d1 : ¬ (s : Int) = 4 := by omega
    rw [if_neg c1]
    by_cases c2 : s = 3
    · subst c2
      rw [if_pos (Or.inl rfl)]
      have e : ((3 : Nat) : Int) = 3 := rfl
      rw [e] at d1
      simp only [en167, s167_0, s167_1, s167_2, s167_5, s167_6, s167_9, s167_10, s167_11, s167_14, s167_15, s167_16, s167_19, s167_20, s167_23, s167_24, cont_some, rl_some, rl_none, if_true, if_false, kd_149, rf_149_0, rf_149_1, rf_149_3, rf_149_5, rf_149_9, rf_149_16, rf_149_17, kd_150, kd_151, kd_152, kd_153, kd_154, kd_155, kd_156, ln_150, ln_151, ln_152, ln_153, ln_154, ln_155, ln_156, Int.reduceLE, Int.reduceLT, Int.reduceToNat, Nat.reduceLT, Int.toNat_natCast, Int.natCast_nonneg, true_or, Int.one_ne_zero, ite_self, e, d1]
    · have d2 : ¬ (s : Int) = 3 := by omega
      by_cases c3 : s = 5
      · subst c3
        rw [if_pos (Or.inr rfl)]
        have e : ((5 : Nat) : Int) = 5 := rfl
        rw [e] at d1 d2
        simp only [en167, s167_0, s167_1, s167_2, s167_5, s167_6, s167_9, s167_10, s167_11, s167_14, s167_15, s167_16, s167_19, s167_20, s167_23, s167_24, cont_some, rl_some, rl_none, if_true, if_false, kd_149, rf_149_0, rf_149_1, rf_149_3, rf_149_5, rf_149_9, rf_149_16, rf_149_17, kd_150, kd_151, kd_152, kd_153, kd_154, kd_155, kd_156, ln_150, ln_151, ln_152, ln_153, ln_154, ln_155, ln_156, Int.reduceLE, Int.reduceLT, Int.reduceToNat, Nat.reduceLT, Int.toNat_natCast, Int.natCast_nonneg, true_or, Int.one_ne_zero, ite_self, e, d1, d2]
      · have d3 : ¬ (s : Int) = 5 := by omega
        rw [if_neg (by omega)]
        simp only [en167, s167_0, s167_1, s167_2, s167_5, s167_6, s167_9, s167_10, s167_11, s167_14, s167_15, s167_16, s167_19, s167_20, s167_23, s167_24, cont_some, rl_some, rl_none, if_true, if_false, kd_149, rf_149_0, rf_149_1, rf_149_3, rf_149_5, rf_149_9, rf_149_16, rf_149_17, kd_150, kd_151, kd_152, kd_153, kd_154, kd_155, kd_156, ln_150, ln_151, ln_152, ln_153, ln_154, ln_155, ln_156, Int.reduceLE, Int.reduceLT, Int.reduceToNat, Nat.reduceLT, Int.toNat_natCast, Int.natCast_nonneg, true_or, Int.one_ne_zero, ite_self, d1, d2, d3]
theorem ch_step (h : RB M M n sp t hl) {q : Nat} (hq : M 7 t = (q : Int)) (hqs : q ≤ sp) {back : Int} (h0 : back ≠ 0 ∨ M 9 t = 1 → 1 ≤ q) {pl : Int} {l3 l7 : AV} {s : Nat} (h2 : 2 ≤ s) (h7 : s < 7) {x : Int} : ∃ l7' : AV, evL 168 51 [Rf 149, I pl, I back, l3, I (t : Int), I x, I (s : Int), l7] [] (Hp M P) = evL 168 51 [Rf 149, I pl, I back, l3, I (t : Int), I (ad x (if (lnd M n sp t (hl t) (decide (back ≠ 0 ∨ M 9 t = 1)) q s : Int) = pl then tsh s else 0)), I ((s + 1 : Nat) : Int), l7'] [] (Hp M P) := by
  have htn := h.tn
  have h4 := h.cN.2
  have ht4 : t < 4 := by omega
  have hh := h.ch t htn
  have c1 : ¬ (7 : Int) ≤ (s : Int) := by omega
  have d0 : ¬ (1 : Int) = 0 := by omega
  have hst := m_steps (M := M) (P := P) (s := (s : Int)) ht4 (h.mh t htn).2 hh.1 (by omega) (by omega)
  have eq0 : M 150 (sl t 0) = (q : Int) := by rw [h.ml t htn]; exact hq
  have hbe := m_behind (P := P) (st := ((s : Int) - (hl t : Int)).toNat) (up := decide (back ≠ 0 ∨ M 9 t = 1)) h.mN h.mS h.ml h.uq (d := t) (by omega) hqs (fun z => h0 (of_decide_eq_true z))
  obtain ⟨V, eV⟩ : ∃ V, V = landF (M 7) n t sp (decide (back ≠ 0 ∨ M 9 t = 1)) ((s : Int) - (hl t : Int)).toNat q := ⟨_, rfl⟩
  have eV2 : lnd M n sp t (hl t) (decide (back ≠ 0 ∨ M 9 t = 1)) q s = V := eV.symm
  rw [← eV] at hbe
  rw [eV2]
  have e1 : M 150 (sl t 1) = M 9 t := h.up t htn
  rw [s168_51]
  by_cases c2 : back = 0
  · by_cases c3 : M 9 t = 1
    · have ed : (if (decide (back ≠ 0 ∨ M 9 t = 1)) = true then (1 : Int) else 0) = 1 := by simp [c3]
      rw [ed] at hbe
      by_cases c4 : (V : Int) = pl
      · rw [if_pos c4]
        refine ⟨I 1, ?_⟩
        simp only [en168, s168_0, s168_1, s168_2, s168_3, s168_6, s168_8, s168_9, s168_12, s168_15, s168_16, s168_17, s168_18, s168_21, s168_24, s168_25, s168_26, s168_27, s168_28, s168_31, s168_34, s168_36, s168_37, s168_38, s168_41, s168_42, s168_43, s168_45, s168_46, s168_48, s168_49, s168_53, s168_55, s168_58, s168_59, s168_61, s168_62, s168_64, s168_65, s168_68, s168_69, s168_72, s168_73, s168_75, s168_76, s168_79, s168_80, s168_83, s168_84, s168_87, s168_88, s168_89, s168_91, s168_93, s168_96, s168_99, s168_100, s168_103, s168_104, s168_107, s168_108, s168_110, s168_112, s168_114, s168_117, s168_119, s168_122, s168_125, s168_126, s168_127, s168_129, s168_132, s168_137, cont_some, rl_some, rl_none, if_true, if_false, kd_149, rf_149_0, rf_149_1, rf_149_3, rf_149_5, rf_149_9, rf_149_16, rf_149_17, kd_150, kd_151, kd_152, kd_153, kd_154, kd_155, kd_156, ln_150, ln_151, ln_152, ln_153, ln_154, ln_155, ln_156, Int.reduceLE, Int.reduceLT, Int.reduceToNat, Nat.reduceLT, Int.toNat_natCast, Int.natCast_nonneg, true_or, Int.one_ne_zero, ite_self, c1, m_of0 ht4, m_of1 ht4, eq0, e1, c2, c3, hst, hbe, c4, m_thr, d0, ad_n s (by omega)]
      · rw [if_neg c4]
        refine ⟨I 0, ?_⟩
        simp only [en168, s168_0, s168_1, s168_2, s168_3, s168_6, s168_8, s168_9, s168_12, s168_15, s168_16, s168_17, s168_18, s168_21, s168_24, s168_25, s168_26, s168_27, s168_28, s168_31, s168_34, s168_36, s168_37, s168_38, s168_41, s168_42, s168_43, s168_45, s168_46, s168_48, s168_49, s168_53, s168_55, s168_58, s168_59, s168_61, s168_62, s168_64, s168_65, s168_68, s168_69, s168_72, s168_73, s168_75, s168_76, s168_79, s168_80, s168_83, s168_84, s168_87, s168_88, s168_89, s168_91, s168_93, s168_96, s168_99, s168_100, s168_103, s168_104, s168_107, s168_108, s168_110, s168_112, s168_114, s168_117, s168_119, s168_122, s168_125, s168_126, s168_127, s168_129, s168_132, s168_137, cont_some, rl_some, rl_none, if_true, if_false, kd_149, rf_149_0, rf_149_1, rf_149_3, rf_149_5, rf_149_9, rf_149_16, rf_149_17, kd_150, kd_151, kd_152, kd_153, kd_154, kd_155, kd_156, ln_150, ln_151, ln_152, ln_153, ln_154, ln_155, ln_156, Int.reduceLE, Int.reduceLT, Int.reduceToNat, Nat.reduceLT, Int.toNat_natCast, Int.natCast_nonneg, true_or, Int.one_ne_zero, ite_self, c1, m_of0 ht4, m_of1 ht4, eq0, e1, c2, c3, hst, hbe, c4, d0, ad_n s (by omega)]
    · have ed : (if (decide (back ≠ 0 ∨ M 9 t = 1)) = true then (1 : Int) else 0) = 0 := by simp [c2, c3]
      rw [ed] at hbe
      by_cases c4 : (V : Int) = pl
      · rw [if_pos c4]
        refine ⟨I 1, ?_⟩
        simp only [en168, s168_0, s168_1, s168_2, s168_3, s168_6, s168_8, s168_9, s168_12, s168_15, s168_16, s168_17, s168_18, s168_21, s168_24, s168_25, s168_26, s168_27, s168_28, s168_31, s168_34, s168_36, s168_37, s168_38, s168_41, s168_42, s168_43, s168_45, s168_46, s168_48, s168_49, s168_53, s168_55, s168_58, s168_59, s168_61, s168_62, s168_64, s168_65, s168_68, s168_69, s168_72, s168_73, s168_75, s168_76, s168_79, s168_80, s168_83, s168_84, s168_87, s168_88, s168_89, s168_91, s168_93, s168_96, s168_99, s168_100, s168_103, s168_104, s168_107, s168_108, s168_110, s168_112, s168_114, s168_117, s168_119, s168_122, s168_125, s168_126, s168_127, s168_129, s168_132, s168_137, cont_some, rl_some, rl_none, if_true, if_false, kd_149, rf_149_0, rf_149_1, rf_149_3, rf_149_5, rf_149_9, rf_149_16, rf_149_17, kd_150, kd_151, kd_152, kd_153, kd_154, kd_155, kd_156, ln_150, ln_151, ln_152, ln_153, ln_154, ln_155, ln_156, Int.reduceLE, Int.reduceLT, Int.reduceToNat, Nat.reduceLT, Int.toNat_natCast, Int.natCast_nonneg, true_or, Int.one_ne_zero, ite_self, c1, m_of0 ht4, m_of1 ht4, eq0, e1, c2, c3, hst, hbe, c4, m_thr, d0, ad_n s (by omega)]
      · rw [if_neg c4]
        refine ⟨I 0, ?_⟩
        simp only [en168, s168_0, s168_1, s168_2, s168_3, s168_6, s168_8, s168_9, s168_12, s168_15, s168_16, s168_17, s168_18, s168_21, s168_24, s168_25, s168_26, s168_27, s168_28, s168_31, s168_34, s168_36, s168_37, s168_38, s168_41, s168_42, s168_43, s168_45, s168_46, s168_48, s168_49, s168_53, s168_55, s168_58, s168_59, s168_61, s168_62, s168_64, s168_65, s168_68, s168_69, s168_72, s168_73, s168_75, s168_76, s168_79, s168_80, s168_83, s168_84, s168_87, s168_88, s168_89, s168_91, s168_93, s168_96, s168_99, s168_100, s168_103, s168_104, s168_107, s168_108, s168_110, s168_112, s168_114, s168_117, s168_119, s168_122, s168_125, s168_126, s168_127, s168_129, s168_132, s168_137, cont_some, rl_some, rl_none, if_true, if_false, kd_149, rf_149_0, rf_149_1, rf_149_3, rf_149_5, rf_149_9, rf_149_16, rf_149_17, kd_150, kd_151, kd_152, kd_153, kd_154, kd_155, kd_156, ln_150, ln_151, ln_152, ln_153, ln_154, ln_155, ln_156, Int.reduceLE, Int.reduceLT, Int.reduceToNat, Nat.reduceLT, Int.toNat_natCast, Int.natCast_nonneg, true_or, Int.one_ne_zero, ite_self, c1, m_of0 ht4, m_of1 ht4, eq0, e1, c2, c3, hst, hbe, c4, d0, ad_n s (by omega)]
  · have ed : (if (decide (back ≠ 0 ∨ M 9 t = 1)) = true then (1 : Int) else 0) = 1 := by simp [c2]
    rw [ed] at hbe
    by_cases c4 : (V : Int) = pl
    · rw [if_pos c4]
      refine ⟨I 1, ?_⟩
      simp only [en168, s168_0, s168_1, s168_2, s168_3, s168_6, s168_8, s168_9, s168_12, s168_15, s168_16, s168_17, s168_18, s168_21, s168_24, s168_25, s168_26, s168_27, s168_28, s168_31, s168_34, s168_36, s168_37, s168_38, s168_41, s168_42, s168_43, s168_45, s168_46, s168_48, s168_49, s168_53, s168_55, s168_58, s168_59, s168_61, s168_62, s168_64, s168_65, s168_68, s168_69, s168_72, s168_73, s168_75, s168_76, s168_79, s168_80, s168_83, s168_84, s168_87, s168_88, s168_89, s168_91, s168_93, s168_96, s168_99, s168_100, s168_103, s168_104, s168_107, s168_108, s168_110, s168_112, s168_114, s168_117, s168_119, s168_122, s168_125, s168_126, s168_127, s168_129, s168_132, s168_137, cont_some, rl_some, rl_none, if_true, if_false, kd_149, rf_149_0, rf_149_1, rf_149_3, rf_149_5, rf_149_9, rf_149_16, rf_149_17, kd_150, kd_151, kd_152, kd_153, kd_154, kd_155, kd_156, ln_150, ln_151, ln_152, ln_153, ln_154, ln_155, ln_156, Int.reduceLE, Int.reduceLT, Int.reduceToNat, Nat.reduceLT, Int.toNat_natCast, Int.natCast_nonneg, true_or, Int.one_ne_zero, ite_self, c1, m_of0 ht4, m_of1 ht4, eq0, e1, c2, hst, hbe, c4, m_thr, d0, ad_n s (by omega)]
    · rw [if_neg c4]
      refine ⟨I 0, ?_⟩
      simp only [en168, s168_0, s168_1, s168_2, s168_3, s168_6, s168_8, s168_9, s168_12, s168_15, s168_16, s168_17, s168_18, s168_21, s168_24, s168_25, s168_26, s168_27, s168_28, s168_31, s168_34, s168_36, s168_37, s168_38, s168_41, s168_42, s168_43, s168_45, s168_46, s168_48, s168_49, s168_53, s168_55, s168_58, s168_59, s168_61, s168_62, s168_64, s168_65, s168_68, s168_69, s168_72, s168_73, s168_75, s168_76, s168_79, s168_80, s168_83, s168_84, s168_87, s168_88, s168_89, s168_91, s168_93, s168_96, s168_99, s168_100, s168_103, s168_104, s168_107, s168_108, s168_110, s168_112, s168_114, s168_117, s168_119, s168_122, s168_125, s168_126, s168_127, s168_129, s168_132, s168_137, cont_some, rl_some, rl_none, if_true, if_false, kd_149, rf_149_0, rf_149_1, rf_149_3, rf_149_5, rf_149_9, rf_149_16, rf_149_17, kd_150, kd_151, kd_152, kd_153, kd_154, kd_155, kd_156, ln_150, ln_151, ln_152, ln_153, ln_154, ln_155, ln_156, Int.reduceLE, Int.reduceLT, Int.reduceToNat, Nat.reduceLT, Int.toNat_natCast, Int.natCast_nonneg, true_or, Int.one_ne_zero, ite_self, c1, m_of0 ht4, m_of1 ht4, eq0, e1, c2, hst, hbe, c4, d0, ad_n s (by omega)]
theorem ch_add {x y : Int} (hx : 0 ≤ x ∧ x ≤ 20) (hy : 0 ≤ y ∧ y ≤ 3) : ad x y = x + y := ad_eq (by omega) (by omega)
theorem m_chances (h : RB M M n sp t hl) {q : Nat} (hq : M 7 t = (q : Int)) (hqs : q ≤ sp) {back : Int} (h0 : back ≠ 0 ∨ M 9 t = 1 → 1 ≤ q) {pl : Int} {l3 l7 : AV} : evL 168 51 [Rf 149, I pl, I back, l3, I (t : Int), I 0, I 2, l7] [] (Hp M P) = some (some (I (chF M n sp t (hl t) (decide (back ≠ 0 ∨ M 9 t = 1)) q pl)), Hp M P) := by
  obtain ⟨e, he⟩ : ∃ e : Nat → Int, e = fun s => ind M n sp t (hl t) (decide (back ≠ 0 ∨ M 9 t = 1)) q pl s := ⟨_, rfl⟩
  have hb : ∀ s, 0 ≤ e s ∧ e s ≤ 1 := fun s => by rw [he]; exact ind_b _ _ _ _ _
  have hi : ∀ s : Nat, (if (lnd M n sp t (hl t) (decide (back ≠ 0 ∨ M 9 t = 1)) q s : Int) = pl then tsh s else 0) = e s * tsh s := by
    intro s
    rw [he]
    show _ = ind M n sp t (hl t) (decide (back ≠ 0 ∨ M 9 t = 1)) q pl s * tsh s
    unfold ind
    split
    · rw [Int.one_mul]
    · rw [Int.zero_mul]
  have st := fun (l7 : AV) (x : Int) (s : Nat) (h2 : 2 ≤ s) (h7 : s < 7) => ch_step (P := P) h hq hqs h0 (pl := pl) (l3 := l3) (l7 := l7) (x := x) h2 h7
  simp only [hi] at st
  have t2 : tsh 2 = 1 := by decide
  have t3 : tsh 3 = 2 := by decide
  have t4 : tsh 4 = 3 := by decide
  have t5 : tsh 5 = 2 := by decide
  have t6 : tsh 6 = 1 := by decide
  have g2 := hb 2
  have g3 := hb 3
  have g4 := hb 4
  have g5 := hb 5
  have g6 := hb 6
  obtain ⟨k2, r2⟩ := st l7 0 2 (by omega) (by omega)
  obtain ⟨k3, r3⟩ := st k2 (e 2) 3 (by omega) (by omega)
  obtain ⟨k4, r4⟩ := st k3 (e 2 + 2 * e 3) 4 (by omega) (by omega)
  obtain ⟨k5, r5⟩ := st k4 (e 2 + 2 * e 3 + 3 * e 4) 5 (by omega) (by omega)
  obtain ⟨k6, r6⟩ := st k5 (e 2 + 2 * e 3 + 3 * e 4 + 2 * e 5) 6 (by omega) (by omega)
  have a2 : ad 0 (e 2 * tsh 2) = e 2 := by rw [t2, ch_add (by omega) (by omega)]; omega
  have a3 : ad (e 2) (e 3 * tsh 3) = e 2 + 2 * e 3 := by rw [t3, ch_add (by omega) (by omega)]; omega
  have a4 : ad (e 2 + 2 * e 3) (e 4 * tsh 4) = e 2 + 2 * e 3 + 3 * e 4 := by rw [t4, ch_add (by omega) (by omega)]; omega
  have a5 : ad (e 2 + 2 * e 3 + 3 * e 4) (e 5 * tsh 5) = e 2 + 2 * e 3 + 3 * e 4 + 2 * e 5 := by rw [t5, ch_add (by omega) (by omega)]; omega
  have a6 : ad (e 2 + 2 * e 3 + 3 * e 4 + 2 * e 5) (e 6 * tsh 6) = e 2 + 2 * e 3 + 3 * e 4 + 2 * e 5 + e 6 := by rw [t6, ch_add (by omega) (by omega)]; omega
  rw [a2] at r2
  rw [a3] at r3
  rw [a4] at r4
  rw [a5] at r5
  rw [a6] at r6
  have ce : chF M n sp t (hl t) (decide (back ≠ 0 ∨ M 9 t = 1)) q pl = e 2 + 2 * e 3 + 3 * e 4 + 2 * e 5 + e 6 := by rw [he]; rfl
  have last : ∀ (x : Int) (l7 : AV), evL 168 51 [Rf 149, I pl, I back, l3, I (t : Int), I x, I ((6 + 1 : Nat) : Int), l7] [] (Hp M P) = some (some (I x), Hp M P) := by
    intro x l7
    have c : (7 : Int) ≤ ((6 + 1 : Nat) : Int) := by omega
    rw [s168_51]
    simp only [en168, s168_0, s168_1, s168_2, s168_3, s168_6, s168_8, s168_9, s168_12, s168_15, s168_16, s168_17, s168_18, s168_21, s168_24, s168_25, s168_26, s168_27, s168_28, s168_31, s168_34, s168_36, s168_37, s168_38, s168_41, s168_42, s168_43, s168_45, s168_46, s168_48, s168_49, s168_53, s168_55, s168_58, s168_59, s168_61, s168_62, s168_64, s168_65, s168_68, s168_69, s168_72, s168_73, s168_75, s168_76, s168_79, s168_80, s168_83, s168_84, s168_87, s168_88, s168_89, s168_91, s168_93, s168_96, s168_99, s168_100, s168_103, s168_104, s168_107, s168_108, s168_110, s168_112, s168_114, s168_117, s168_119, s168_122, s168_125, s168_126, s168_127, s168_129, s168_132, s168_135, s168_137, cont_some, rl_some, rl_none, if_true, if_false, kd_149, rf_149_0, rf_149_1, rf_149_3, rf_149_5, rf_149_9, rf_149_16, rf_149_17, kd_150, kd_151, kd_152, kd_153, kd_154, kd_155, kd_156, ln_150, ln_151, ln_152, ln_153, ln_154, ln_155, ln_156, Int.reduceLE, Int.reduceLT, Int.reduceToNat, Nat.reduceLT, Int.toNat_natCast, Int.natCast_nonneg, true_or, Int.one_ne_zero, ite_self, c]
  rw [ce]
  exact r2.trans (r3.trans (r4.trans (r5.trans (r6.trans (last _ _)))))
theorem P_chances (h : R M P) (pl back w : Int) : ∃ (v : Int) (N : Mem) (P' : PMem) (N' : Mem), evM 102 [Rf 0, I pl, I back, I w] (Hp M P) = some (some (I v), Hp N P') ∧ evM 168 [Rf 149, I pl, I back, I w] (Hp N P') = some (some (I v), Hp N' P') ∧ R N' P' := by
  have hR := h
  obtain ⟨⟨n, sp, t, hl, hB, hT⟩, -⟩ := h
  have htn := hB.tn
  have h4 := hB.cN.2
  have ht4 : t < 4 := by omega
  have h2 := hB.cS.1
  have h8 := hB.mS.1
  have d0 : ¬ (1 : Int) = 0 := by omega
  by_cases c1 : 0 ≤ pl ∧ pl ≤ (sp : Int)
  · have mi := m_inY (h := Hp M P) c1
    have c1' : ¬ pl < 0 := by omega
    have c1'' : ¬ (sp : Int) < pl := by omega
    by_cases c2 : 0 ≤ w ∧ w ≤ 1
    · have mj := m_inY (h := Hp M P) c2
      have c2' : ¬ w < 0 := by omega
      have gw := g_whyM (P := P) (back := back) hB.tt ht4
      by_cases c3 : rsM M t back = 0
      · have h3 : M 1 4 < 3 := by
          unfold rsM at c3
          by_cases z : (3 : Int) ≤ M 1 4
          · rw [if_pos z] at c3; omega
          · omega
        have hRl := RT_l hT h3
        have mr := m_reasonM (P := P) (back := back) hRl.2.2.1 ht4
        rw [← rs_same hB hT h3, c3] at mr
        have h16 : M 1 6 = 0 := by
          rcases hRl.2.2.2.2 with z | z
          · unfold rsM at c3
            rw [if_neg (by omega), if_neg (by omega)] at c3
            omega
          · exact z.1
        have h11 : M 11 t = 0 := by
          rcases hRl.2.2.2.2 with z | z
          · omega
          · exact z.2
        obtain ⟨q, hqs, hq⟩ := hB.pl t htn
        have h0 : back ≠ 0 ∨ M 9 t = 1 → 1 ≤ q := by
          intro z
          rcases Nat.eq_zero_or_pos q with y | y
          · exfalso
            subst y
            have e7 : M 7 t = 0 := hq
            by_cases z1 : M 9 t = 1
            · have := hB.uh t htn z1 e7
              omega
            · have z2 : back ≠ 0 := by
                rcases z with z | z
                · exact z
                · exact absurd z z1
              unfold rsM at c3
              rw [if_neg (by omega), if_pos h16, if_neg z2, if_pos (Or.inr e7)] at c3
              omega
          · exact y
        rw [c3] at gw
        have hh := hB.ch t htn
        have x1 := o_thr (P := P) (pl := pl) (back := back) hB.cN hB.cS hB.tt ht4 hh.2 hh.1 hq hqs
        have x2 := o_sum (P := P) (pl := pl) (back := back) hB.cN hB.cS hB.tt ht4 hh.2 hh.1 hq hqs
        have x3 := fun l3 l7 => m_chances (P := P) hB hq hqs h0 (pl := pl) (l3 := l3) (l7 := l7)
        refine ⟨chF M n sp t (hl t) (decide (back ≠ 0 ∨ M 9 t = 1)) q pl, M, P, M, ?_, ?_, hR⟩
        · by_cases c4 : w = 0
          · subst c4
            have d1 : (0 : Int) ≤ 1 := by omega
            have d2 : ¬ (0 : Int) < 0 := by omega
            simp only [en102, s102_0, s102_1, s102_4, s102_5, s102_6, s102_9, s102_12, s102_15, s102_18, s102_19, s102_22, s102_23, s102_24, s102_27, s102_28, s102_29, s102_30, s102_33, s102_34, s102_37, s102_40, s102_42, s102_43, s102_44, s102_47, s102_48, s102_51, s102_52, s102_55, s102_56, s102_57, s102_60, s102_63, s102_64, s102_67, s102_68, s102_71, s102_72, s102_73, s102_76, cont_some, rl_some, rl_none, if_true, if_false, kd_0, kd_1, kd_2, kd_5, kd_47, kd_141, kd_144, kd_149, rf_0_0, rf_0_1, rf_0_2, rf_0_3, rf_0_4, rf_1_0, rf_1_1, rf_1_2, rf_2_0, rf_5_0, rf_5_1, rf_5_2, rf_5_3, rf_5_4, rf_5_5, rf_5_6, rf_5_7, rf_47_0, rf_141_0, rf_144_0, rf_144_1, rf_149_0, rf_149_1, rf_149_3, rf_149_5, rf_149_9, rf_149_16, rf_149_17, kd_3, kd_6, kd_8, kd_10, kd_12, kd_14, kd_16, kd_18, kd_20, kd_22, kd_142, kd_145, kd_147, kd_24, h2, c1', c1'', d1, d2, gw, x1]
          · simp only [en102, s102_0, s102_1, s102_4, s102_5, s102_6, s102_9, s102_12, s102_15, s102_18, s102_19, s102_22, s102_23, s102_24, s102_27, s102_28, s102_29, s102_30, s102_33, s102_34, s102_37, s102_40, s102_42, s102_43, s102_44, s102_47, s102_48, s102_51, s102_52, s102_55, s102_56, s102_57, s102_60, s102_63, s102_64, s102_67, s102_68, s102_71, s102_72, s102_73, s102_76, cont_some, rl_some, rl_none, if_true, if_false, kd_0, kd_1, kd_2, kd_5, kd_47, kd_141, kd_144, kd_149, rf_0_0, rf_0_1, rf_0_2, rf_0_3, rf_0_4, rf_1_0, rf_1_1, rf_1_2, rf_2_0, rf_5_0, rf_5_1, rf_5_2, rf_5_3, rf_5_4, rf_5_5, rf_5_6, rf_5_7, rf_47_0, rf_141_0, rf_144_0, rf_144_1, rf_149_0, rf_149_1, rf_149_3, rf_149_5, rf_149_9, rf_149_16, rf_149_17, kd_3, kd_6, kd_8, kd_10, kd_12, kd_14, kd_16, kd_18, kd_20, kd_22, kd_142, kd_145, kd_147, kd_24, h2, c1', c1'', c2', c2, gw, c4, x2]
        · simp only [en168, s168_0, s168_1, s168_2, s168_3, s168_6, s168_8, s168_9, s168_12, s168_15, s168_16, s168_17, s168_18, s168_21, s168_24, s168_25, s168_26, s168_27, s168_28, s168_31, s168_34, s168_36, s168_37, s168_38, s168_41, s168_42, s168_43, s168_45, s168_46, s168_48, s168_49, s168_53, s168_55, s168_58, s168_59, s168_61, s168_62, s168_64, s168_65, s168_68, s168_69, s168_72, s168_73, s168_75, s168_76, s168_79, s168_80, s168_83, s168_84, s168_87, s168_88, s168_89, s168_91, s168_93, s168_96, s168_99, s168_100, s168_103, s168_104, s168_107, s168_108, s168_110, s168_112, s168_114, s168_117, s168_119, s168_122, s168_125, s168_126, s168_127, s168_129, s168_132, s168_135, s168_137, cont_some, rl_some, rl_none, if_true, if_false, kd_149, rf_149_0, rf_149_1, rf_149_3, rf_149_5, rf_149_9, rf_149_16, rf_149_17, kd_150, kd_151, kd_152, kd_153, kd_154, kd_155, kd_156, ln_150, ln_151, ln_152, ln_153, ln_154, ln_155, ln_156, Int.reduceLE, Int.reduceLT, Int.reduceToNat, Nat.reduceLT, Int.toNat_natCast, Int.natCast_nonneg, true_or, Int.one_ne_zero, ite_self, h8, mi, mj, d0, mr, hRl.2.2.1, x3]
      · refine ⟨-2, M, P, M, ?_, ?_, hR⟩
        · simp only [en102, s102_0, s102_1, s102_4, s102_5, s102_6, s102_9, s102_12, s102_15, s102_18, s102_19, s102_22, s102_23, s102_24, s102_27, s102_28, s102_29, s102_30, s102_33, s102_34, s102_37, s102_40, s102_42, s102_43, s102_44, s102_47, s102_48, s102_51, s102_52, s102_55, s102_56, s102_57, s102_60, s102_63, s102_64, s102_67, s102_68, s102_71, s102_72, s102_73, s102_76, cont_some, rl_some, rl_none, if_true, if_false, kd_0, kd_1, kd_2, kd_5, kd_47, kd_141, kd_144, kd_149, rf_0_0, rf_0_1, rf_0_2, rf_0_3, rf_0_4, rf_1_0, rf_1_1, rf_1_2, rf_2_0, rf_5_0, rf_5_1, rf_5_2, rf_5_3, rf_5_4, rf_5_5, rf_5_6, rf_5_7, rf_47_0, rf_141_0, rf_144_0, rf_144_1, rf_149_0, rf_149_1, rf_149_3, rf_149_5, rf_149_9, rf_149_16, rf_149_17, kd_3, kd_6, kd_8, kd_10, kd_12, kd_14, kd_16, kd_18, kd_20, kd_22, kd_142, kd_145, kd_147, kd_24, h2, c1', c1'', c2', c2, gw, c3]
        · by_cases h3 : M 1 4 < 3
          · have hRl := RT_l hT h3
            have mr := m_reasonM (P := P) (back := back) hRl.2.2.1 ht4
            have hb := rsM_b M t back
            rw [← rs_same hB hT h3] at mr
            have c4 : ¬ rsM M t back ≤ 0 := by omega
            simp only [en168, s168_0, s168_1, s168_2, s168_3, s168_6, s168_8, s168_9, s168_12, s168_15, s168_16, s168_17, s168_18, s168_21, s168_24, s168_25, s168_26, s168_27, s168_28, s168_31, s168_34, s168_36, s168_37, s168_38, s168_41, s168_42, s168_43, s168_45, s168_46, s168_48, s168_49, s168_53, s168_55, s168_58, s168_59, s168_61, s168_62, s168_64, s168_65, s168_68, s168_69, s168_72, s168_73, s168_75, s168_76, s168_79, s168_80, s168_83, s168_84, s168_87, s168_88, s168_89, s168_91, s168_93, s168_96, s168_99, s168_100, s168_103, s168_104, s168_107, s168_108, s168_110, s168_112, s168_114, s168_117, s168_119, s168_122, s168_125, s168_126, s168_127, s168_129, s168_132, s168_135, s168_137, cont_some, rl_some, rl_none, if_true, if_false, kd_149, rf_149_0, rf_149_1, rf_149_3, rf_149_5, rf_149_9, rf_149_16, rf_149_17, kd_150, kd_151, kd_152, kd_153, kd_154, kd_155, kd_156, ln_150, ln_151, ln_152, ln_153, ln_154, ln_155, ln_156, Int.reduceLE, Int.reduceLT, Int.reduceToNat, Nat.reduceLT, Int.toNat_natCast, Int.natCast_nonneg, true_or, Int.one_ne_zero, ite_self, h8, mi, mj, d0, mr, c4]
          · obtain ⟨r1, r2⟩ := RT_3 hT h3
            have mr := m_reasonM (P := P) (back := back) r2 (by omega)
            rw [(rs_over hT r1).2 0] at mr
            have c4 : ¬ (1 : Int) ≤ 0 := by omega
            simp only [en168, s168_0, s168_1, s168_2, s168_3, s168_6, s168_8, s168_9, s168_12, s168_15, s168_16, s168_17, s168_18, s168_21, s168_24, s168_25, s168_26, s168_27, s168_28, s168_31, s168_34, s168_36, s168_37, s168_38, s168_41, s168_42, s168_43, s168_45, s168_46, s168_48, s168_49, s168_53, s168_55, s168_58, s168_59, s168_61, s168_62, s168_64, s168_65, s168_68, s168_69, s168_72, s168_73, s168_75, s168_76, s168_79, s168_80, s168_83, s168_84, s168_87, s168_88, s168_89, s168_91, s168_93, s168_96, s168_99, s168_100, s168_103, s168_104, s168_107, s168_108, s168_110, s168_112, s168_114, s168_117, s168_119, s168_122, s168_125, s168_126, s168_127, s168_129, s168_132, s168_135, s168_137, cont_some, rl_some, rl_none, if_true, if_false, kd_149, rf_149_0, rf_149_1, rf_149_3, rf_149_5, rf_149_9, rf_149_16, rf_149_17, kd_150, kd_151, kd_152, kd_153, kd_154, kd_155, kd_156, ln_150, ln_151, ln_152, ln_153, ln_154, ln_155, ln_156, Int.reduceLE, Int.reduceLT, Int.reduceToNat, Nat.reduceLT, Int.toNat_natCast, Int.natCast_nonneg, true_or, Int.one_ne_zero, ite_self, h8, mi, mj, d0, mr, c4]
    · have mj := m_inN (h := Hp M P) c2
      refine ⟨-1, M, P, M, ?_, ?_, hR⟩
      · by_cases c3 : w < 0
        · simp only [en102, s102_0, s102_1, s102_4, s102_5, s102_6, s102_9, s102_12, s102_15, s102_18, s102_19, s102_22, s102_23, s102_24, s102_27, s102_28, s102_29, s102_30, s102_33, s102_34, s102_37, s102_40, s102_42, s102_43, s102_44, s102_47, s102_48, s102_51, s102_52, s102_55, s102_56, s102_57, s102_60, s102_63, s102_64, s102_67, s102_68, s102_71, s102_72, s102_73, s102_76, cont_some, rl_some, rl_none, if_true, if_false, kd_0, kd_1, kd_2, kd_5, kd_47, kd_141, kd_144, kd_149, rf_0_0, rf_0_1, rf_0_2, rf_0_3, rf_0_4, rf_1_0, rf_1_1, rf_1_2, rf_2_0, rf_5_0, rf_5_1, rf_5_2, rf_5_3, rf_5_4, rf_5_5, rf_5_6, rf_5_7, rf_47_0, rf_141_0, rf_144_0, rf_144_1, rf_149_0, rf_149_1, rf_149_3, rf_149_5, rf_149_9, rf_149_16, rf_149_17, kd_3, kd_6, kd_8, kd_10, kd_12, kd_14, kd_16, kd_18, kd_20, kd_22, kd_142, kd_145, kd_147, kd_24, h2, c1', c1'', c3]
        · have c4 : ¬ w ≤ 1 := by omega
          simp only [en102, s102_0, s102_1, s102_4, s102_5, s102_6, s102_9, s102_12, s102_15, s102_18, s102_19, s102_22, s102_23, s102_24, s102_27, s102_28, s102_29, s102_30, s102_33, s102_34, s102_37, s102_40, s102_42, s102_43, s102_44, s102_47, s102_48, s102_51, s102_52, s102_55, s102_56, s102_57, s102_60, s102_63, s102_64, s102_67, s102_68, s102_71, s102_72, s102_73, s102_76, cont_some, rl_some, rl_none, if_true, if_false, kd_0, kd_1, kd_2, kd_5, kd_47, kd_141, kd_144, kd_149, rf_0_0, rf_0_1, rf_0_2, rf_0_3, rf_0_4, rf_1_0, rf_1_1, rf_1_2, rf_2_0, rf_5_0, rf_5_1, rf_5_2, rf_5_3, rf_5_4, rf_5_5, rf_5_6, rf_5_7, rf_47_0, rf_141_0, rf_144_0, rf_144_1, rf_149_0, rf_149_1, rf_149_3, rf_149_5, rf_149_9, rf_149_16, rf_149_17, kd_3, kd_6, kd_8, kd_10, kd_12, kd_14, kd_16, kd_18, kd_20, kd_22, kd_142, kd_145, kd_147, kd_24, h2, c1', c1'', c3, c4]
      · simp only [en168, s168_0, s168_1, s168_2, s168_3, s168_6, s168_8, s168_9, s168_12, s168_15, s168_16, s168_17, s168_18, s168_21, s168_24, s168_25, s168_26, s168_27, s168_28, s168_31, s168_34, s168_36, s168_37, s168_38, s168_41, s168_42, s168_43, s168_45, s168_46, s168_48, s168_49, s168_53, s168_55, s168_58, s168_59, s168_61, s168_62, s168_64, s168_65, s168_68, s168_69, s168_72, s168_73, s168_75, s168_76, s168_79, s168_80, s168_83, s168_84, s168_87, s168_88, s168_89, s168_91, s168_93, s168_96, s168_99, s168_100, s168_103, s168_104, s168_107, s168_108, s168_110, s168_112, s168_114, s168_117, s168_119, s168_122, s168_125, s168_126, s168_127, s168_129, s168_132, s168_135, s168_137, cont_some, rl_some, rl_none, if_true, if_false, kd_149, rf_149_0, rf_149_1, rf_149_3, rf_149_5, rf_149_9, rf_149_16, rf_149_17, kd_150, kd_151, kd_152, kd_153, kd_154, kd_155, kd_156, ln_150, ln_151, ln_152, ln_153, ln_154, ln_155, ln_156, Int.reduceLE, Int.reduceLT, Int.reduceToNat, Nat.reduceLT, Int.toNat_natCast, Int.natCast_nonneg, true_or, Int.one_ne_zero, ite_self, h8, mi, mj, d0]
  · have mi := m_inN (h := Hp M P) c1
    refine ⟨-1, M, P, M, ?_, ?_, hR⟩
    · by_cases c3 : pl < 0
      · simp only [en102, s102_0, s102_1, s102_4, s102_5, s102_6, s102_9, s102_12, s102_15, s102_18, s102_19, s102_22, s102_23, s102_24, s102_27, s102_28, s102_29, s102_30, s102_33, s102_34, s102_37, s102_40, s102_42, s102_43, s102_44, s102_47, s102_48, s102_51, s102_52, s102_55, s102_56, s102_57, s102_60, s102_63, s102_64, s102_67, s102_68, s102_71, s102_72, s102_73, s102_76, cont_some, rl_some, rl_none, if_true, if_false, kd_0, kd_1, kd_2, kd_5, kd_47, kd_141, kd_144, kd_149, rf_0_0, rf_0_1, rf_0_2, rf_0_3, rf_0_4, rf_1_0, rf_1_1, rf_1_2, rf_2_0, rf_5_0, rf_5_1, rf_5_2, rf_5_3, rf_5_4, rf_5_5, rf_5_6, rf_5_7, rf_47_0, rf_141_0, rf_144_0, rf_144_1, rf_149_0, rf_149_1, rf_149_3, rf_149_5, rf_149_9, rf_149_16, rf_149_17, kd_3, kd_6, kd_8, kd_10, kd_12, kd_14, kd_16, kd_18, kd_20, kd_22, kd_142, kd_145, kd_147, kd_24, c3]
      · have c4 : (sp : Int) < pl := by omega
        simp only [en102, s102_0, s102_1, s102_4, s102_5, s102_6, s102_9, s102_12, s102_15, s102_18, s102_19, s102_22, s102_23, s102_24, s102_27, s102_28, s102_29, s102_30, s102_33, s102_34, s102_37, s102_40, s102_42, s102_43, s102_44, s102_47, s102_48, s102_51, s102_52, s102_55, s102_56, s102_57, s102_60, s102_63, s102_64, s102_67, s102_68, s102_71, s102_72, s102_73, s102_76, cont_some, rl_some, rl_none, if_true, if_false, kd_0, kd_1, kd_2, kd_5, kd_47, kd_141, kd_144, kd_149, rf_0_0, rf_0_1, rf_0_2, rf_0_3, rf_0_4, rf_1_0, rf_1_1, rf_1_2, rf_2_0, rf_5_0, rf_5_1, rf_5_2, rf_5_3, rf_5_4, rf_5_5, rf_5_6, rf_5_7, rf_47_0, rf_141_0, rf_144_0, rf_144_1, rf_149_0, rf_149_1, rf_149_3, rf_149_5, rf_149_9, rf_149_16, rf_149_17, kd_3, kd_6, kd_8, kd_10, kd_12, kd_14, kd_16, kd_18, kd_20, kd_22, kd_142, kd_145, kd_147, kd_24, h2, c3, c4]
    · simp only [en168, s168_0, s168_1, s168_2, s168_3, s168_6, s168_8, s168_9, s168_12, s168_15, s168_16, s168_17, s168_18, s168_21, s168_24, s168_25, s168_26, s168_27, s168_28, s168_31, s168_34, s168_36, s168_37, s168_38, s168_41, s168_42, s168_43, s168_45, s168_46, s168_48, s168_49, s168_53, s168_55, s168_58, s168_59, s168_61, s168_62, s168_64, s168_65, s168_68, s168_69, s168_72, s168_73, s168_75, s168_76, s168_79, s168_80, s168_83, s168_84, s168_87, s168_88, s168_89, s168_91, s168_93, s168_96, s168_99, s168_100, s168_103, s168_104, s168_107, s168_108, s168_110, s168_112, s168_114, s168_117, s168_119, s168_122, s168_125, s168_126, s168_127, s168_129, s168_132, s168_135, s168_137, cont_some, rl_some, rl_none, if_true, if_false, kd_149, rf_149_0, rf_149_1, rf_149_3, rf_149_5, rf_149_9, rf_149_16, rf_149_17, kd_150, kd_151, kd_152, kd_153, kd_154, kd_155, kd_156, ln_150, ln_151, ln_152, ln_153, ln_154, ln_155, ln_156, Int.reduceLE, Int.reduceLT, Int.reduceToNat, Nat.reduceLT, Int.toNat_natCast, Int.natCast_nonneg, true_or, Int.one_ne_zero, ite_self, h8, mi]
end Chances
