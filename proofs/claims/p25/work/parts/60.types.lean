/-! ===== the law's types ===== -/
section Types
variable {M N T : Mem} {P : PMem} {L p k n : Nat}
def ap (T : Mem) (L : Nat) (c : Int) : Mem := wr (wr T 143 L c) 141 1 ((L + 1 : Nat) : Int)
theorem ap_ev (hL : T 141 1 = (L : Int)) (h6 : L < 60) {c : Int} (h1 : 33 ≤ c) (h2 : c ≤ 126) : evM 92 [Rf 0, I c] (Hp T P) = some (some (I ((L + 1 : Nat) : Int)), Hp (ap T L c) P) := by
  have c1 : ¬ c < 33 := by omega
  have hw := pd_write (P := P) hL h6 (c := c)
  simp only [en92, s92_0, s92_1, s92_3, s92_6, s92_7, s92_9, s92_12, s92_13, s92_14, s92_15, s92_18, s92_19, s92_22, cont_some, rl_some, rl_none, if_true, if_false, kd_0, kd_1, kd_2, kd_5, kd_47, kd_141, kd_144, rf_0_0, rf_0_1, rf_0_2, rf_0_3, rf_0_4, rf_1_0, rf_1_1, rf_1_2, rf_2_0, rf_5_0, rf_5_1, rf_5_2, rf_5_3, rf_5_4, rf_5_5, rf_5_6, rf_5_7, rf_47_0, rf_141_0, rf_144_0, rf_144_1, kd_3, kd_6, kd_8, kd_10, kd_12, kd_14, kd_16, kd_18, kd_20, kd_22, kd_142, kd_145, kd_147, kd_24, c1, h2, hw]
  rfl
theorem ap_l {c : Int} : ap T L c 141 1 = ((L + 1 : Nat) : Int) := by unfold ap; rw [wr_at]
theorem ap_o {c : Int} {a b : Nat} (h : a ≠ 143) (h2 : a ≠ 141 ∨ b ≠ 1) : ap T L c a b = T a b := by unfold ap; rw [wr_ne (by omega), wr_ne (by omega)]
theorem ap_at {c : Int} : ap T L c 143 L = c := by unfold ap; rw [wr_ne (by omega), wr_at]
theorem ap_lt {c : Int} {j : Nat} (h : j ≠ L) : ap T L c 143 j = T 143 j := by unfold ap; rw [wr_ne (by omega), wr_ne (by omega)]
theorem clear_ev : evM 93 [Rf 0] (Hp M P) = some (some (I (M 141 1)), Hp (wr M 141 1 0) P) := by
  simp only [en93, s93_0, s93_1, s93_4, s93_7, cont_some, rl_some, rl_none, if_true, if_false, kd_0, kd_1, kd_2, kd_5, kd_47, kd_141, kd_144, rf_0_0, rf_0_1, rf_0_2, rf_0_3, rf_0_4, rf_1_0, rf_1_1, rf_1_2, rf_2_0, rf_5_0, rf_5_1, rf_5_2, rf_5_3, rf_5_4, rf_5_5, rf_5_6, rf_5_7, rf_47_0, rf_141_0, rf_144_0, rf_144_1, kd_3, kd_6, kd_8, kd_10, kd_12, kd_14, kd_16, kd_18, kd_20, kd_22, kd_142, kd_145, kd_147, kd_24, pd_wipe]
theorem ty_1 (hL : T 141 1 = (p : Int)) (h6 : p < 60) {x n : Int} {l5 l6 : AV} (hk : (k : Int) < n) : ∃ c y w : Int, (c = 100 ∨ c = 117) ∧ evL 112 23 [Rf 0, I x, I n, I 1, I (k : Int), l5, l6] [] (Hp T P) = evL 112 77 [Rf 0, I x, I n, I 1, I (k : Int), I y, I w] [] (Hp (ap T p c) P) := by
  have l1 := fun {v : Int} {h : AH} => low_ev (v := v) (h := h) (n := 7) (by omega)
  have l2 := fun {v : Int} {h : AH} => low_ev (v := v) (h := h) (n := 5) (by omega)
  have d0 : ¬ (1 : Int) = 0 := by omega
  have c1 : ¬ n ≤ (k : Int) := by omega
  have c2 : ¬ ((p + 1 : Nat) : Int) ≤ 0 := by omega
  by_cases c : lowF (shr x (ad 2 (ml 2 (k : Int)))) 5 = 0
  · refine ⟨117, shr x (ad 2 (ml 2 (k : Int))), lowF (shr (shr x (ad 2 (ml 2 (k : Int)))) 1) 7, Or.inr rfl, ?_⟩
    have e := ap_ev (P := P) hL h6 (c := 117) (by omega) (by omega)
    rw [s112_23]
    simp only [en112, s112_0, s112_1, s112_3, s112_6, s112_7, s112_8, s112_11, s112_14, s112_15, s112_18, s112_19, s112_20, s112_21, s112_25, s112_26, s112_29, s112_30, s112_31, s112_32, s112_34, s112_35, s112_36, s112_37, s112_39, s112_41, s112_42, s112_43, s112_45, s112_48, s112_50, s112_51, s112_54, s112_55, s112_57, s112_58, s112_61, s112_64, s112_66, s112_69, s112_71, s112_74, s112_78, s112_80, s112_81, s112_84, s112_86, s112_89, s112_91, s112_93, s112_96, s112_98, s112_101, s112_103, s112_106, s112_109, s112_111, s112_113, s112_116, s112_117, s112_119, s112_121, s112_122, s112_123, s112_124, s112_126, s112_127, s112_128, s112_131, s112_134, s112_136, s112_139, s112_141, s112_144, s112_145, s112_148, s112_151, s112_152, s112_155, s112_156, s112_157, s112_160, s112_163, s112_164, s112_167, s112_168, s112_170, s112_171, s112_172, s112_175, s112_178, s112_179, s112_181, s112_184, s112_187, s112_188, s112_191, s112_192, cont_some, rl_some, rl_none, if_true, if_false, kd_0, kd_1, kd_2, kd_5, kd_47, kd_141, kd_144, rf_0_0, rf_0_1, rf_0_2, rf_0_3, rf_0_4, rf_1_0, rf_1_1, rf_1_2, rf_2_0, rf_5_0, rf_5_1, rf_5_2, rf_5_3, rf_5_4, rf_5_5, rf_5_6, rf_5_7, rf_47_0, rf_141_0, rf_144_0, rf_144_1, kd_3, kd_6, kd_8, kd_10, kd_12, kd_14, kd_16, kd_18, kd_20, kd_22, kd_142, kd_145, kd_147, kd_24, c1, l1, d0, l2, c, e, c2]
  · refine ⟨100, shr x (ad 2 (ml 2 (k : Int))), lowF (shr (shr x (ad 2 (ml 2 (k : Int)))) 1) 7, Or.inl rfl, ?_⟩
    have e := ap_ev (P := P) hL h6 (c := 100) (by omega) (by omega)
    rw [s112_23]
    simp only [en112, s112_0, s112_1, s112_3, s112_6, s112_7, s112_8, s112_11, s112_14, s112_15, s112_18, s112_19, s112_20, s112_21, s112_25, s112_26, s112_29, s112_30, s112_31, s112_32, s112_34, s112_35, s112_36, s112_37, s112_39, s112_41, s112_42, s112_43, s112_45, s112_48, s112_50, s112_51, s112_54, s112_55, s112_57, s112_58, s112_61, s112_64, s112_66, s112_69, s112_71, s112_74, s112_78, s112_80, s112_81, s112_84, s112_86, s112_89, s112_91, s112_93, s112_96, s112_98, s112_101, s112_103, s112_106, s112_109, s112_111, s112_113, s112_116, s112_117, s112_119, s112_121, s112_122, s112_123, s112_124, s112_126, s112_127, s112_128, s112_131, s112_134, s112_136, s112_139, s112_141, s112_144, s112_145, s112_148, s112_151, s112_152, s112_155, s112_156, s112_157, s112_160, s112_163, s112_164, s112_167, s112_168, s112_170, s112_171, s112_172, s112_175, s112_178, s112_179, s112_181, s112_184, s112_187, s112_188, s112_191, s112_192, cont_some, rl_some, rl_none, if_true, if_false, kd_0, kd_1, kd_2, kd_5, kd_47, kd_141, kd_144, rf_0_0, rf_0_1, rf_0_2, rf_0_3, rf_0_4, rf_1_0, rf_1_1, rf_1_2, rf_2_0, rf_5_0, rf_5_1, rf_5_2, rf_5_3, rf_5_4, rf_5_5, rf_5_6, rf_5_7, rf_47_0, rf_141_0, rf_144_0, rf_144_1, kd_3, kd_6, kd_8, kd_10, kd_12, kd_14, kd_16, kd_18, kd_20, kd_22, kd_142, kd_145, kd_147, kd_24, c1, l1, d0, l2, c, e, c2]
theorem ty_2 (hL : T 141 1 = (p : Int)) (h6 : p < 60) {w : Int} {l1 l2 l3 l4 l5 : AV} : ∃ b : Int, ((w < 6 ∧ (b = 116 ∨ b = 110)) ∨ (6 ≤ w ∧ b = 108)) ∧ evL 112 77 [Rf 0, l1, l2, l3, l4, l5, I w] [] (Hp T P) = evL 112 109 [Rf 0, l1, l2, l3, l4, l5, I w] [] (Hp (ap T p b) P) := by
  have c2 : ¬ ((p + 1 : Nat) : Int) ≤ 0 := by omega
  by_cases c : 3 ≤ w
  · by_cases c3 : 6 ≤ w
    · refine ⟨108, Or.inr ⟨c3, rfl⟩, ?_⟩
      have e := ap_ev (P := P) hL h6 (c := 108) (by omega) (by omega)
      rw [s112_77]
      simp only [en112, s112_0, s112_1, s112_3, s112_6, s112_7, s112_8, s112_11, s112_14, s112_15, s112_18, s112_19, s112_20, s112_21, s112_25, s112_26, s112_29, s112_30, s112_31, s112_32, s112_34, s112_35, s112_36, s112_37, s112_39, s112_41, s112_42, s112_43, s112_45, s112_48, s112_50, s112_51, s112_54, s112_55, s112_57, s112_58, s112_61, s112_64, s112_66, s112_69, s112_71, s112_74, s112_78, s112_80, s112_81, s112_84, s112_86, s112_89, s112_91, s112_93, s112_96, s112_98, s112_101, s112_103, s112_106, s112_111, s112_113, s112_116, s112_117, s112_119, s112_121, s112_122, s112_123, s112_124, s112_126, s112_127, s112_128, s112_131, s112_134, s112_136, s112_139, s112_141, s112_144, s112_145, s112_148, s112_151, s112_152, s112_155, s112_156, s112_157, s112_160, s112_163, s112_164, s112_167, s112_168, s112_170, s112_171, s112_172, s112_175, s112_178, s112_179, s112_181, s112_184, s112_187, s112_188, s112_191, s112_192, cont_some, rl_some, rl_none, if_true, if_false, kd_0, kd_1, kd_2, kd_5, kd_47, kd_141, kd_144, rf_0_0, rf_0_1, rf_0_2, rf_0_3, rf_0_4, rf_1_0, rf_1_1, rf_1_2, rf_2_0, rf_5_0, rf_5_1, rf_5_2, rf_5_3, rf_5_4, rf_5_5, rf_5_6, rf_5_7, rf_47_0, rf_141_0, rf_144_0, rf_144_1, kd_3, kd_6, kd_8, kd_10, kd_12, kd_14, kd_16, kd_18, kd_20, kd_22, kd_142, kd_145, kd_147, kd_24, c, c3, e, c2]
    · refine ⟨110, Or.inl ⟨by omega, Or.inr rfl⟩, ?_⟩
      have e := ap_ev (P := P) hL h6 (c := 110) (by omega) (by omega)
      rw [s112_77]
      simp only [en112, s112_0, s112_1, s112_3, s112_6, s112_7, s112_8, s112_11, s112_14, s112_15, s112_18, s112_19, s112_20, s112_21, s112_25, s112_26, s112_29, s112_30, s112_31, s112_32, s112_34, s112_35, s112_36, s112_37, s112_39, s112_41, s112_42, s112_43, s112_45, s112_48, s112_50, s112_51, s112_54, s112_55, s112_57, s112_58, s112_61, s112_64, s112_66, s112_69, s112_71, s112_74, s112_78, s112_80, s112_81, s112_84, s112_86, s112_89, s112_91, s112_93, s112_96, s112_98, s112_101, s112_103, s112_106, s112_111, s112_113, s112_116, s112_117, s112_119, s112_121, s112_122, s112_123, s112_124, s112_126, s112_127, s112_128, s112_131, s112_134, s112_136, s112_139, s112_141, s112_144, s112_145, s112_148, s112_151, s112_152, s112_155, s112_156, s112_157, s112_160, s112_163, s112_164, s112_167, s112_168, s112_170, s112_171, s112_172, s112_175, s112_178, s112_179, s112_181, s112_184, s112_187, s112_188, s112_191, s112_192, cont_some, rl_some, rl_none, if_true, if_false, kd_0, kd_1, kd_2, kd_5, kd_47, kd_141, kd_144, rf_0_0, rf_0_1, rf_0_2, rf_0_3, rf_0_4, rf_1_0, rf_1_1, rf_1_2, rf_2_0, rf_5_0, rf_5_1, rf_5_2, rf_5_3, rf_5_4, rf_5_5, rf_5_6, rf_5_7, rf_47_0, rf_141_0, rf_144_0, rf_144_1, kd_3, kd_6, kd_8, kd_10, kd_12, kd_14, kd_16, kd_18, kd_20, kd_22, kd_142, kd_145, kd_147, kd_24, c, c3, e, c2]
  · refine ⟨116, Or.inl ⟨by omega, Or.inl rfl⟩, ?_⟩
    have e := ap_ev (P := P) hL h6 (c := 116) (by omega) (by omega)
    rw [s112_77]
    simp only [en112, s112_0, s112_1, s112_3, s112_6, s112_7, s112_8, s112_11, s112_14, s112_15, s112_18, s112_19, s112_20, s112_21, s112_25, s112_26, s112_29, s112_30, s112_31, s112_32, s112_34, s112_35, s112_36, s112_37, s112_39, s112_41, s112_42, s112_43, s112_45, s112_48, s112_50, s112_51, s112_54, s112_55, s112_57, s112_58, s112_61, s112_64, s112_66, s112_69, s112_71, s112_74, s112_78, s112_80, s112_81, s112_84, s112_86, s112_89, s112_91, s112_93, s112_96, s112_98, s112_101, s112_103, s112_106, s112_111, s112_113, s112_116, s112_117, s112_119, s112_121, s112_122, s112_123, s112_124, s112_126, s112_127, s112_128, s112_131, s112_134, s112_136, s112_139, s112_141, s112_144, s112_145, s112_148, s112_151, s112_152, s112_155, s112_156, s112_157, s112_160, s112_163, s112_164, s112_167, s112_168, s112_170, s112_171, s112_172, s112_175, s112_178, s112_179, s112_181, s112_184, s112_187, s112_188, s112_191, s112_192, cont_some, rl_some, rl_none, if_true, if_false, kd_0, kd_1, kd_2, kd_5, kd_47, kd_141, kd_144, rf_0_0, rf_0_1, rf_0_2, rf_0_3, rf_0_4, rf_1_0, rf_1_1, rf_1_2, rf_2_0, rf_5_0, rf_5_1, rf_5_2, rf_5_3, rf_5_4, rf_5_5, rf_5_6, rf_5_7, rf_47_0, rf_141_0, rf_144_0, rf_144_1, kd_3, kd_6, kd_8, kd_10, kd_12, kd_14, kd_16, kd_18, kd_20, kd_22, kd_142, kd_145, kd_147, kd_24, c, e, c2]
theorem ty_3 (hL : T 141 1 = (p : Int)) (h6 : p < 60) (hk : k ≤ 100) {x y w : Int} {l2 l3 : AV} : ∃ T' : Mem, ((w < 6 ∧ T' = T) ∨ (6 ≤ w ∧ ∃ c : Int, 48 ≤ c ∧ c ≤ 55 ∧ T' = ap T p c)) ∧ evL 112 109 [Rf 0, I x, l2, l3, I (k : Int), I y, I w] [] (Hp T P) = evL 112 23 [Rf 0, I x, l2, I 1, I ((k + 1 : Nat) : Int), I y, I w] [] (Hp T' P) := by
  have c2 : ¬ ((p + 1 : Nat) : Int) ≤ 0 := by omega
  have l1 := fun {v : Int} {h : AH} => low_ev (v := v) (h := h) (n := 5) (by omega)
  have l8 := fun {v : Int} {h : AH} => low_ev (v := v) (h := h) (n := 8) (by omega)
  have l6 := fun {v : Int} {h : AH} => low_ev (v := v) (h := h) (n := 6) (by omega)
  have b8 := lowF_b (v := shr y 3) (n := 8) (by omega) (by omega)
  have b6 := lowF_b (v := shr y 3) (n := 6) (by omega) (by omega)
  by_cases c : w < 6
  · refine ⟨T, Or.inl ⟨c, rfl⟩, ?_⟩
    rw [s112_109]
    simp only [en112, s112_0, s112_1, s112_3, s112_6, s112_7, s112_8, s112_11, s112_14, s112_15, s112_18, s112_19, s112_20, s112_21, s112_25, s112_26, s112_29, s112_30, s112_31, s112_32, s112_34, s112_35, s112_36, s112_37, s112_39, s112_41, s112_42, s112_43, s112_45, s112_48, s112_50, s112_51, s112_54, s112_55, s112_57, s112_58, s112_61, s112_64, s112_66, s112_69, s112_71, s112_74, s112_78, s112_80, s112_81, s112_84, s112_86, s112_89, s112_91, s112_93, s112_96, s112_98, s112_101, s112_103, s112_106, s112_111, s112_113, s112_116, s112_117, s112_119, s112_121, s112_122, s112_123, s112_124, s112_126, s112_127, s112_128, s112_131, s112_134, s112_136, s112_139, s112_141, s112_144, s112_145, s112_148, s112_151, s112_152, s112_155, s112_156, s112_157, s112_160, s112_163, s112_164, s112_167, s112_168, s112_170, s112_171, s112_172, s112_175, s112_178, s112_179, s112_181, s112_184, s112_187, s112_188, s112_191, s112_192, cont_some, rl_some, rl_none, if_true, if_false, kd_0, kd_1, kd_2, kd_5, kd_47, kd_141, kd_144, rf_0_0, rf_0_1, rf_0_2, rf_0_3, rf_0_4, rf_1_0, rf_1_1, rf_1_2, rf_2_0, rf_5_0, rf_5_1, rf_5_2, rf_5_3, rf_5_4, rf_5_5, rf_5_6, rf_5_7, rf_47_0, rf_141_0, rf_144_0, rf_144_1, kd_3, kd_6, kd_8, kd_10, kd_12, kd_14, kd_16, kd_18, kd_20, kd_22, kd_142, kd_145, kd_147, kd_24, c, ad_n k (by omega)]
  · by_cases c5 : lowF (shr x 22) 5 = 0
    · have a1 : ad 48 (lowF (shr y 3) 8) = 48 + lowF (shr y 3) 8 := ad_eq (by omega) (by omega)
      refine ⟨ap T p (48 + lowF (shr y 3) 8), Or.inr ⟨by omega, _, by omega, by omega, rfl⟩, ?_⟩
      have e := ap_ev (P := P) hL h6 (c := 48 + lowF (shr y 3) 8) (by omega) (by omega)
      rw [s112_109]
      simp only [en112, s112_0, s112_1, s112_3, s112_6, s112_7, s112_8, s112_11, s112_14, s112_15, s112_18, s112_19, s112_20, s112_21, s112_25, s112_26, s112_29, s112_30, s112_31, s112_32, s112_34, s112_35, s112_36, s112_37, s112_39, s112_41, s112_42, s112_43, s112_45, s112_48, s112_50, s112_51, s112_54, s112_55, s112_57, s112_58, s112_61, s112_64, s112_66, s112_69, s112_71, s112_74, s112_78, s112_80, s112_81, s112_84, s112_86, s112_89, s112_91, s112_93, s112_96, s112_98, s112_101, s112_103, s112_106, s112_111, s112_113, s112_116, s112_117, s112_119, s112_121, s112_122, s112_123, s112_124, s112_126, s112_127, s112_128, s112_131, s112_134, s112_136, s112_139, s112_141, s112_144, s112_145, s112_148, s112_151, s112_152, s112_155, s112_156, s112_157, s112_160, s112_163, s112_164, s112_167, s112_168, s112_170, s112_171, s112_172, s112_175, s112_178, s112_179, s112_181, s112_184, s112_187, s112_188, s112_191, s112_192, cont_some, rl_some, rl_none, if_true, if_false, kd_0, kd_1, kd_2, kd_5, kd_47, kd_141, kd_144, rf_0_0, rf_0_1, rf_0_2, rf_0_3, rf_0_4, rf_1_0, rf_1_1, rf_1_2, rf_2_0, rf_5_0, rf_5_1, rf_5_2, rf_5_3, rf_5_4, rf_5_5, rf_5_6, rf_5_7, rf_47_0, rf_141_0, rf_144_0, rf_144_1, kd_3, kd_6, kd_8, kd_10, kd_12, kd_14, kd_16, kd_18, kd_20, kd_22, kd_142, kd_145, kd_147, kd_24, c, l1, c5, l8, a1, e, c2, ad_n k (by omega)]
    · have a1 : ad 48 (lowF (shr y 3) 6) = 48 + lowF (shr y 3) 6 := ad_eq (by omega) (by omega)
      refine ⟨ap T p (48 + lowF (shr y 3) 6), Or.inr ⟨by omega, _, by omega, by omega, rfl⟩, ?_⟩
      have e := ap_ev (P := P) hL h6 (c := 48 + lowF (shr y 3) 6) (by omega) (by omega)
      rw [s112_109]
      simp only [en112, s112_0, s112_1, s112_3, s112_6, s112_7, s112_8, s112_11, s112_14, s112_15, s112_18, s112_19, s112_20, s112_21, s112_25, s112_26, s112_29, s112_30, s112_31, s112_32, s112_34, s112_35, s112_36, s112_37, s112_39, s112_41, s112_42, s112_43, s112_45, s112_48, s112_50, s112_51, s112_54, s112_55, s112_57, s112_58, s112_61, s112_64, s112_66, s112_69, s112_71, s112_74, s112_78, s112_80, s112_81, s112_84, s112_86, s112_89, s112_91, s112_93, s112_96, s112_98, s112_101, s112_103, s112_106, s112_111, s112_113, s112_116, s112_117, s112_119, s112_121, s112_122, s112_123, s112_124, s112_126, s112_127, s112_128, s112_131, s112_134, s112_136, s112_139, s112_141, s112_144, s112_145, s112_148, s112_151, s112_152, s112_155, s112_156, s112_157, s112_160, s112_163, s112_164, s112_167, s112_168, s112_170, s112_171, s112_172, s112_175, s112_178, s112_179, s112_181, s112_184, s112_187, s112_188, s112_191, s112_192, cont_some, rl_some, rl_none, if_true, if_false, kd_0, kd_1, kd_2, kd_5, kd_47, kd_141, kd_144, rf_0_0, rf_0_1, rf_0_2, rf_0_3, rf_0_4, rf_1_0, rf_1_1, rf_1_2, rf_2_0, rf_5_0, rf_5_1, rf_5_2, rf_5_3, rf_5_4, rf_5_5, rf_5_6, rf_5_7, rf_47_0, rf_141_0, rf_144_0, rf_144_1, kd_3, kd_6, kd_8, kd_10, kd_12, kd_14, kd_16, kd_18, kd_20, kd_22, kd_142, kd_145, kd_147, kd_24, c, l1, c5, l6, a1, e, c2, ad_n k (by omega)]
/-- the pad behind k blocks -/
def TY (M T : Mem) (k p : Nat) : Prop := (∀ a b, a ≠ 143 → (a ≠ 141 ∨ b ≠ 1) → T a b = M a b) ∧ T 141 1 = (p : Int) ∧ p ≤ 3 * k ∧ TBs (T 143) k p
theorem ty_loop (hn : n ≤ 10) {x : Int} : ∀ (m k : Nat) (T : Mem) (p : Nat) (l5 l6 : AV), k + m = n → TY M T k p → ∃ (T' : Mem) (p' : Nat) (l4' l5' l6' : AV), evL 112 23 [Rf 0, I x, I (n : Int), I 1, I (k : Int), l5, l6] [] (Hp T P) = evL 112 163 [Rf 0, I x, I (n : Int), I 1, l4', l5', l6'] [] (Hp T' P) ∧ TY M T' n p' := by
  intro m
  induction m with
  | zero =>
    intro k T p l5 l6 hk hT
    have e : k = n := by omega
    subst e
    have c1 : (k : Int) ≤ (k : Int) := by omega
    refine ⟨T, p, I (k : Int), l5, l6, ?_, hT⟩
    rw [s112_23]
    simp only [en112, s112_0, s112_1, s112_3, s112_6, s112_7, s112_8, s112_11, s112_14, s112_15, s112_18, s112_19, s112_20, s112_21, s112_25, s112_26, s112_29, s112_30, s112_31, s112_32, s112_34, s112_35, s112_36, s112_37, s112_39, s112_41, s112_42, s112_43, s112_45, s112_48, s112_50, s112_51, s112_54, s112_55, s112_57, s112_58, s112_61, s112_64, s112_66, s112_69, s112_71, s112_74, s112_78, s112_80, s112_81, s112_84, s112_86, s112_89, s112_91, s112_93, s112_96, s112_98, s112_101, s112_103, s112_106, s112_111, s112_113, s112_116, s112_117, s112_119, s112_121, s112_122, s112_123, s112_124, s112_126, s112_127, s112_128, s112_131, s112_134, s112_136, s112_139, s112_141, s112_144, s112_145, s112_148, s112_151, s112_152, s112_155, s112_156, s112_157, s112_160, s112_164, s112_167, s112_168, s112_170, s112_171, s112_172, s112_175, s112_178, s112_179, s112_181, s112_184, s112_187, s112_188, s112_191, s112_192, cont_some, rl_some, rl_none, if_true, if_false, kd_0, kd_1, kd_2, kd_5, kd_47, kd_141, kd_144, rf_0_0, rf_0_1, rf_0_2, rf_0_3, rf_0_4, rf_1_0, rf_1_1, rf_1_2, rf_2_0, rf_5_0, rf_5_1, rf_5_2, rf_5_3, rf_5_4, rf_5_5, rf_5_6, rf_5_7, rf_47_0, rf_141_0, rf_144_0, rf_144_1, kd_3, kd_6, kd_8, kd_10, kd_12, kd_14, kd_16, kd_18, kd_20, kd_22, kd_142, kd_145, kd_147, kd_24, c1]
  | succ m ih =>
    intro k T p l5 l6 hk hT
    obtain ⟨t1, t2, t3, t4⟩ := hT
    obtain ⟨c, y, w, hc, e1⟩ := ty_1 (P := P) (k := k) t2 (by omega) (x := x) (n := (n : Int)) (l5 := l5) (l6 := l6) (by omega)
    obtain ⟨b, hb, e2⟩ := ty_2 (T := ap T p c) (P := P) (p := p + 1) ap_l (by omega) (w := w) (l1 := I x) (l2 := I (n : Int)) (l3 := I 1) (l4 := I (k : Int)) (l5 := I y)
    obtain ⟨T3, h3, e3⟩ := ty_3 (T := ap (ap T p c) (p + 1) b) (P := P) (p := p + 2) (k := k) ap_l (by omega) (by omega) (x := x) (y := y) (w := w) (l2 := I (n : Int)) (l3 := I 1)
    have o2 : ∀ a b', a ≠ 143 → (a ≠ 141 ∨ b' ≠ 1) → ap (ap T p c) (p + 1) b a b' = M a b' := fun a b' x y => by rw [ap_o x y, ap_o x y, t1 a b' x y]
    have hY : ∃ p', TY M T3 (k + 1) p' := by
      rcases h3 with ⟨x1, rfl⟩ | ⟨x1, c3, x2, x3, rfl⟩
      · have hb' : b = 116 ∨ b = 110 := by omega
        refine ⟨p + 2, o2, ap_l, by omega, p, TBs_congr k p t4 (fun j hj => by rw [ap_lt (by omega), ap_lt (by omega)]), ?_, Or.inl ⟨?_, rfl⟩⟩
        · rw [ap_lt (by omega), ap_at]; exact hc
        · rw [ap_at]; exact hb'
      · have hb' : b = 108 := by omega
        refine ⟨p + 3, fun a b' y z => by rw [ap_o y z, o2 a b' y z], ap_l, by omega, p, TBs_congr k p t4 (fun j hj => by rw [ap_lt (by omega), ap_lt (by omega), ap_lt (by omega)]), ?_, Or.inr ⟨?_, ?_, ?_, rfl⟩⟩
        · rw [ap_lt (by omega), ap_lt (by omega), ap_at]; exact hc
        · rw [ap_lt (by omega), ap_at]; exact hb'
        · rw [ap_at]; exact x2
        · rw [ap_at]; exact x3
    obtain ⟨p', hY⟩ := hY
    obtain ⟨T', q, l4', l5', l6', i1, i2⟩ := ih (k + 1) T3 p' (I y) (I w) (by omega) hY
    exact ⟨T', q, l4', l5', l6', e1.trans (e2.trans (e3.trans i1)), i2⟩
/-- the law's text, on the pad -/
theorem types_ev (hp : PC M) (x : Int) : ∃ (n p L : Nat) (T : Mem), (n : Int) = lowF x 11 ∧ n ≤ 10 ∧ evM 112 [Rf 0, I x] (Hp M P) = some (some (I 1), Hp T P) ∧ (∀ a b, a ≠ 143 → (a ≠ 141 ∨ b ≠ 1) → T a b = M a b) ∧ T 141 1 = (L : Int) ∧ L ≤ 31 ∧ TBs (T 143) n p ∧ (L = p ∨ (L = p + 1 ∧ T 143 p = 100)) := by
  obtain ⟨L0, b1, b2⟩ := hp
  have lb := lowF_b (v := x) (n := 11) (by omega) (by omega)
  obtain ⟨n, en⟩ : ∃ n : Nat, (n : Int) = lowF x 11 := ⟨(lowF x 11).toNat, by omega⟩
  have l11 := fun {h : AH} => low_ev (v := x) (h := h) (n := 11) (by omega)
  have l5 := fun {v : Int} {h : AH} => low_ev (v := v) (h := h) (n := 5) (by omega)
  have b5 := lowF_b (v := shr x 25) (n := 5) (by omega) (by omega)
  have z0 : ((0 : Nat) : Int) = 0 := rfl
  have d0 : ¬ (1 : Int) = 0 := by omega
  have c0 : ¬ (L0 : Int) < 0 := by omega
  have ec := clear_ev (M := M) (P := P)
  rw [b2] at ec
  have hY0 : TY M (wr M 141 1 0) 0 0 := ⟨fun a b x y => by rw [wr_ne (by omega)], by rw [wr_at]; rfl, by omega, rfl⟩
  obtain ⟨T, p, l4', l5', l6', e1, t1, t2, t3, t4⟩ := ty_loop (P := P) (n := n) (by omega) (x := x) n 0 (wr M 141 1 0) 0 (Db 0) (Db 0) (by omega) hY0
  rw [z0] at e1
  have s1 : evM 112 [Rf 0, I x] (Hp M P) = evL 112 163 [Rf 0, I x, I (n : Int), I 1, l4', l5', l6'] [] (Hp T P) := by
    rw [← e1]
    simp only [en112, s112_0, s112_1, s112_3, s112_6, s112_7, s112_8, s112_11, s112_14, s112_15, s112_18, s112_19, s112_20, s112_21, s112_25, s112_26, s112_29, s112_30, s112_31, s112_32, s112_34, s112_35, s112_36, s112_37, s112_39, s112_41, s112_42, s112_43, s112_45, s112_48, s112_50, s112_51, s112_54, s112_55, s112_57, s112_58, s112_61, s112_64, s112_66, s112_69, s112_71, s112_74, s112_78, s112_80, s112_81, s112_84, s112_86, s112_89, s112_91, s112_93, s112_96, s112_98, s112_101, s112_103, s112_106, s112_111, s112_113, s112_116, s112_117, s112_119, s112_121, s112_122, s112_123, s112_124, s112_126, s112_127, s112_128, s112_131, s112_134, s112_136, s112_139, s112_141, s112_144, s112_145, s112_148, s112_151, s112_152, s112_155, s112_156, s112_157, s112_160, s112_164, s112_167, s112_168, s112_170, s112_171, s112_172, s112_175, s112_178, s112_179, s112_181, s112_184, s112_187, s112_188, s112_191, s112_192, cont_some, rl_some, rl_none, if_true, if_false, kd_0, kd_1, kd_2, kd_5, kd_47, kd_141, kd_144, rf_0_0, rf_0_1, rf_0_2, rf_0_3, rf_0_4, rf_1_0, rf_1_1, rf_1_2, rf_2_0, rf_5_0, rf_5_1, rf_5_2, rf_5_3, rf_5_4, rf_5_5, rf_5_6, rf_5_7, rf_47_0, rf_141_0, rf_144_0, rf_144_1, kd_3, kd_6, kd_8, kd_10, kd_12, kd_14, kd_16, kd_18, kd_20, kd_22, kd_142, kd_145, kd_147, kd_24, l11, ec, c0, en]
  by_cases c : 0 < lowF (shr x 25) 5
  · refine ⟨n, p, p, T, en, by omega, ?_, t1, t2, by omega, t4, Or.inl rfl⟩
    rw [s1, s112_163]
    simp only [en112, s112_0, s112_1, s112_3, s112_6, s112_7, s112_8, s112_11, s112_14, s112_15, s112_18, s112_19, s112_20, s112_21, s112_25, s112_26, s112_29, s112_30, s112_31, s112_32, s112_34, s112_35, s112_36, s112_37, s112_39, s112_41, s112_42, s112_43, s112_45, s112_48, s112_50, s112_51, s112_54, s112_55, s112_57, s112_58, s112_61, s112_64, s112_66, s112_69, s112_71, s112_74, s112_78, s112_80, s112_81, s112_84, s112_86, s112_89, s112_91, s112_93, s112_96, s112_98, s112_101, s112_103, s112_106, s112_111, s112_113, s112_116, s112_117, s112_119, s112_121, s112_122, s112_123, s112_124, s112_126, s112_127, s112_128, s112_131, s112_134, s112_136, s112_139, s112_141, s112_144, s112_145, s112_148, s112_151, s112_152, s112_155, s112_156, s112_157, s112_160, s112_164, s112_167, s112_168, s112_170, s112_171, s112_172, s112_175, s112_178, s112_179, s112_181, s112_184, s112_187, s112_188, s112_191, s112_192, cont_some, rl_some, rl_none, if_true, if_false, kd_0, kd_1, kd_2, kd_5, kd_47, kd_141, kd_144, rf_0_0, rf_0_1, rf_0_2, rf_0_3, rf_0_4, rf_1_0, rf_1_1, rf_1_2, rf_2_0, rf_5_0, rf_5_1, rf_5_2, rf_5_3, rf_5_4, rf_5_5, rf_5_6, rf_5_7, rf_47_0, rf_141_0, rf_144_0, rf_144_1, kd_3, kd_6, kd_8, kd_10, kd_12, kd_14, kd_16, kd_18, kd_20, kd_22, kd_142, kd_145, kd_147, kd_24, d0, l5, c, or_true]
  · refine ⟨n, p, p + 1, ap T p 100, en, by omega, ?_, fun a b y z => by rw [ap_o y z, t1 a b y z], ap_l, by omega, TBs_congr n p t4 (fun j hj => ap_lt (by omega)), Or.inr ⟨rfl, ap_at⟩⟩
    have e := ap_ev (P := P) t2 (by omega) (c := 100) (by omega) (by omega)
    have c2 : ¬ ((p + 1 : Nat) : Int) ≤ 0 := by omega
    rw [s1, s112_163]
    simp only [en112, s112_0, s112_1, s112_3, s112_6, s112_7, s112_8, s112_11, s112_14, s112_15, s112_18, s112_19, s112_20, s112_21, s112_25, s112_26, s112_29, s112_30, s112_31, s112_32, s112_34, s112_35, s112_36, s112_37, s112_39, s112_41, s112_42, s112_43, s112_45, s112_48, s112_50, s112_51, s112_54, s112_55, s112_57, s112_58, s112_61, s112_64, s112_66, s112_69, s112_71, s112_74, s112_78, s112_80, s112_81, s112_84, s112_86, s112_89, s112_91, s112_93, s112_96, s112_98, s112_101, s112_103, s112_106, s112_111, s112_113, s112_116, s112_117, s112_119, s112_121, s112_122, s112_123, s112_124, s112_126, s112_127, s112_128, s112_131, s112_134, s112_136, s112_139, s112_141, s112_144, s112_145, s112_148, s112_151, s112_152, s112_155, s112_156, s112_157, s112_160, s112_164, s112_167, s112_168, s112_170, s112_171, s112_172, s112_175, s112_178, s112_179, s112_181, s112_184, s112_187, s112_188, s112_191, s112_192, cont_some, rl_some, rl_none, if_true, if_false, kd_0, kd_1, kd_2, kd_5, kd_47, kd_141, kd_144, rf_0_0, rf_0_1, rf_0_2, rf_0_3, rf_0_4, rf_1_0, rf_1_1, rf_1_2, rf_2_0, rf_5_0, rf_5_1, rf_5_2, rf_5_3, rf_5_4, rf_5_5, rf_5_6, rf_5_7, rf_47_0, rf_141_0, rf_144_0, rf_144_1, kd_3, kd_6, kd_8, kd_10, kd_12, kd_14, kd_16, kd_18, kd_20, kd_22, kd_142, kd_145, kd_147, kd_24, d0, l5, c, e, c2, or_true]
end Types
