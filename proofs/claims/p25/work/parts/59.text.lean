/-! ===== texts: the fault of one, and what a well-formed one is ===== -/
section Text
variable {M N C T : Mem} {P : PMem} {L p k : Nat} {f g : Nat → Int}
theorem ffF_end {f : Nat → Int} {due : Int} {k : Nat} (hk : k = L) (hd : due ≠ 1) : ffF f L (L - k) k due = (k : Int) := by
  subst hk
  rw [Nat.sub_self]
  unfold ffF
  rw [if_neg (fun z => hd z.2)]
theorem ffF_one {f : Nat → Int} {due : Int} {k : Nat} (hk : k < L) : ffF f L (L - k) k due = if dB due (f k) = 0 then (k : Int) else ffF f L (L - (k + 1)) (k + 1) (dB due (f k)) := by
  obtain ⟨m, hm⟩ : ∃ m, L - k = m + 1 := ⟨L - k - 1, by omega⟩
  have h2 : L - (k + 1) = m := by omega
  rw [hm, h2]
  conv => lhs; unfold ffF
theorem dB1 (x : Int) : dB 1 x = if x = 100 ∨ x = 117 then 2 else 0 := by unfold dB; rw [if_pos rfl]
theorem dB2 (x : Int) : dB 2 x = if x = 108 then 3 else if x = 116 ∨ x = 110 then 1 else 0 := by unfold dB; rw [if_neg (by omega), if_neg (by omega)]
theorem dB3 (x : Int) : dB 3 x = if 48 ≤ x ∧ x ≤ 53 then 1 else 0 := by unfold dB; rw [if_neg (by omega), if_pos rfl]
theorem ffF_congr {f g : Nat → Int} : ∀ (m k : Nat) (due : Int), k + m = L → (∀ j, j < L → f j = g j) → ffF f L m k due = ffF g L m k due := by
  intro m
  induction m with
  | zero => intro k due _ _; rfl
  | succ m ih =>
    intro k due hk h
    unfold ffF
    rw [h k (by omega), ih (k + 1) _ (by omega) h]
theorem ffF_b {f : Nat → Int} : ∀ (m k : Nat) (due : Int), ffF f L m k due = -4 ∨ 0 ≤ ffF f L m k due := by
  intro m
  induction m with
  | zero =>
    intro k due
    unfold ffF
    split
    · exact Or.inl rfl
    · right; omega
  | succ m ih =>
    intro k due
    unfold ffF
    split
    · right; omega
    · exact ih _ _
theorem cl_stop (hL : C 0 6 ≠ 0 ∨ L ≤ p) {d : Int} {l4 l5 : AV} : evL 95 43 [Rf 0, I d, I (L : Int), I (p : Int), l4, l5] [] (Hp C P) = evL 95 172 [Rf 0, I d, I (L : Int), I (p : Int), l4, l5] [] (Hp C P) := by
  rw [s95_43]
  by_cases c : (L : Int) ≤ (p : Int)
  · simp only [en95, s95_0, s95_1, s95_4, s95_7, s95_9, s95_12, s95_14, s95_15, s95_16, s95_19, s95_20, s95_23, s95_26, s95_27, s95_28, s95_31, s95_32, s95_33, s95_34, s95_37, s95_40, s95_41, s95_42, s95_44, s95_45, s95_48, s95_49, s95_52, s95_55, s95_56, s95_59, s95_60, s95_63, s95_65, s95_67, s95_69, s95_72, s95_74, s95_76, s95_79, s95_82, s95_84, s95_86, s95_89, s95_91, s95_93, s95_96, s95_97, s95_100, s95_102, s95_104, s95_107, s95_108, s95_111, s95_112, s95_115, s95_118, s95_119, s95_122, s95_124, s95_125, s95_128, s95_129, s95_130, s95_131, s95_134, s95_136, s95_137, s95_140, s95_142, s95_144, s95_146, s95_149, s95_152, s95_155, s95_156, s95_158, s95_161, s95_162, s95_163, s95_166, s95_169, s95_173, s95_176, s95_179, s95_180, s95_181, cont_some, rl_some, rl_none, if_true, if_false, kd_0, kd_1, kd_2, kd_5, kd_47, kd_141, kd_144, rf_0_0, rf_0_1, rf_0_2, rf_0_3, rf_0_4, rf_1_0, rf_1_1, rf_1_2, rf_2_0, rf_5_0, rf_5_1, rf_5_2, rf_5_3, rf_5_4, rf_5_5, rf_5_6, rf_5_7, rf_47_0, rf_141_0, rf_144_0, rf_144_1, kd_3, kd_6, kd_8, kd_10, kd_12, kd_14, kd_16, kd_18, kd_20, kd_22, kd_142, kd_145, kd_147, kd_24, c]
  · have c2 : ¬ C 0 6 = 0 := by omega
    simp only [en95, s95_0, s95_1, s95_4, s95_7, s95_9, s95_12, s95_14, s95_15, s95_16, s95_19, s95_20, s95_23, s95_26, s95_27, s95_28, s95_31, s95_32, s95_33, s95_34, s95_37, s95_40, s95_41, s95_42, s95_44, s95_45, s95_48, s95_49, s95_52, s95_55, s95_56, s95_59, s95_60, s95_63, s95_65, s95_67, s95_69, s95_72, s95_74, s95_76, s95_79, s95_82, s95_84, s95_86, s95_89, s95_91, s95_93, s95_96, s95_97, s95_100, s95_102, s95_104, s95_107, s95_108, s95_111, s95_112, s95_115, s95_118, s95_119, s95_122, s95_124, s95_125, s95_128, s95_129, s95_130, s95_131, s95_134, s95_136, s95_137, s95_140, s95_142, s95_144, s95_146, s95_149, s95_152, s95_155, s95_156, s95_158, s95_161, s95_162, s95_163, s95_166, s95_169, s95_173, s95_176, s95_179, s95_180, s95_181, cont_some, rl_some, rl_none, if_true, if_false, kd_0, kd_1, kd_2, kd_5, kd_47, kd_141, kd_144, rf_0_0, rf_0_1, rf_0_2, rf_0_3, rf_0_4, rf_1_0, rf_1_1, rf_1_2, rf_2_0, rf_5_0, rf_5_1, rf_5_2, rf_5_3, rf_5_4, rf_5_5, rf_5_6, rf_5_7, rf_47_0, rf_141_0, rf_144_0, rf_144_1, kd_3, kd_6, kd_8, kd_10, kd_12, kd_14, kd_16, kd_18, kd_20, kd_22, kd_142, kd_145, kd_147, kd_24, c, c2]
theorem cl_dig (h0 : C 0 6 = 0) (hp : p < L) (h60 : L ≤ 60) (h48 : 48 ≤ C 143 p) (h53 : C 143 p ≤ 53) {d : Int} {l4 l5 : AV} : evL 95 43 [Rf 0, I d, I (L : Int), I (p : Int), l4, l5] [] (Hp C P) = evL 95 43 [Rf 0, I d, I (L : Int), I ((p + 1 : Nat) : Int), I (C 143 p), l5] [] (Hp C P) := by
  have c1 : ¬ (L : Int) ≤ (p : Int) := by omega
  have c2 : ¬ C 143 p < 48 := by omega
  have c3 : ¬ 53 < C 143 p := by omega
  have e := pd_at (M := C) (P := P) (k := p) (by omega)
  rw [s95_43]
  simp only [en95, s95_0, s95_1, s95_4, s95_7, s95_9, s95_12, s95_14, s95_15, s95_16, s95_19, s95_20, s95_23, s95_26, s95_27, s95_28, s95_31, s95_32, s95_33, s95_34, s95_37, s95_40, s95_41, s95_42, s95_44, s95_45, s95_48, s95_49, s95_52, s95_55, s95_56, s95_59, s95_60, s95_63, s95_65, s95_67, s95_69, s95_72, s95_74, s95_76, s95_79, s95_82, s95_84, s95_86, s95_89, s95_91, s95_93, s95_96, s95_97, s95_100, s95_102, s95_104, s95_107, s95_108, s95_111, s95_112, s95_115, s95_118, s95_119, s95_122, s95_124, s95_125, s95_128, s95_129, s95_130, s95_131, s95_134, s95_136, s95_137, s95_140, s95_142, s95_144, s95_146, s95_149, s95_152, s95_155, s95_156, s95_158, s95_161, s95_162, s95_163, s95_166, s95_169, s95_173, s95_176, s95_179, s95_180, s95_181, cont_some, rl_some, rl_none, if_true, if_false, kd_0, kd_1, kd_2, kd_5, kd_47, kd_141, kd_144, rf_0_0, rf_0_1, rf_0_2, rf_0_3, rf_0_4, rf_1_0, rf_1_1, rf_1_2, rf_2_0, rf_5_0, rf_5_1, rf_5_2, rf_5_3, rf_5_4, rf_5_5, rf_5_6, rf_5_7, rf_47_0, rf_141_0, rf_144_0, rf_144_1, kd_3, kd_6, kd_8, kd_10, kd_12, kd_14, kd_16, kd_18, kd_20, kd_22, kd_142, kd_145, kd_147, kd_24, c1, h0, e, c2, c3, ad_n p (by omega)]
theorem cl_move (h0 : C 0 6 = 0) (hp : p < L) (h60 : L ≤ 60) (hl : C 143 p = 100 ∨ C 143 p = 117) {v : Int} {C' : Mem} {P : PMem} (hv : evM 36 [Rf 1, I (if C 143 p = 117 then 1 else 0)] (Hp C P) = some (some (I v), Hp C' P)) {d : Int} {l4 l5 : AV} :
    evL 95 43 [Rf 0, I d, I (L : Int), I (p : Int), l4, l5] [] (Hp C P) = if v < 10 then evL 95 43 [Rf 0, I d, I (L : Int), I ((p + 1 : Nat) : Int), I (C 143 p), I v] [] (Hp (wr (wr C' 0 6 v) 0 7 (p : Int)) P) else evL 95 43 [Rf 0, I (ad d 1), I (L : Int), I ((p + 1 : Nat) : Int), I (C 143 p), I v] [] (Hp C' P) := by
  have c1 : ¬ (L : Int) ≤ (p : Int) := by omega
  have c2 : ¬ C 143 p < 48 := by omega
  have c3 : 53 < C 143 p := by omega
  have e := pd_at (M := C) (P := P) (k := p) (by omega)
  rw [s95_43]
  by_cases c : v < 10
  · have c' : ¬ 10 ≤ v := by omega
    rw [if_pos c]
    rcases hl with h | h
    · have d1 : ¬ (100 : Int) = 117 := by omega
      rw [h, if_neg d1] at hv
      rw [h] at e c2 c3
      rw [h]
      simp only [en95, s95_0, s95_1, s95_4, s95_7, s95_9, s95_12, s95_14, s95_15, s95_16, s95_19, s95_20, s95_23, s95_26, s95_27, s95_28, s95_31, s95_32, s95_33, s95_34, s95_37, s95_40, s95_41, s95_42, s95_44, s95_45, s95_48, s95_49, s95_52, s95_55, s95_56, s95_59, s95_60, s95_63, s95_65, s95_67, s95_69, s95_72, s95_74, s95_76, s95_79, s95_82, s95_84, s95_86, s95_89, s95_91, s95_93, s95_96, s95_97, s95_100, s95_102, s95_104, s95_107, s95_108, s95_111, s95_112, s95_115, s95_118, s95_119, s95_122, s95_124, s95_125, s95_128, s95_129, s95_130, s95_131, s95_134, s95_136, s95_137, s95_140, s95_142, s95_144, s95_146, s95_149, s95_152, s95_155, s95_156, s95_158, s95_161, s95_162, s95_163, s95_166, s95_169, s95_173, s95_176, s95_179, s95_180, s95_181, cont_some, rl_some, rl_none, if_true, if_false, kd_0, kd_1, kd_2, kd_5, kd_47, kd_141, kd_144, rf_0_0, rf_0_1, rf_0_2, rf_0_3, rf_0_4, rf_1_0, rf_1_1, rf_1_2, rf_2_0, rf_5_0, rf_5_1, rf_5_2, rf_5_3, rf_5_4, rf_5_5, rf_5_6, rf_5_7, rf_47_0, rf_141_0, rf_144_0, rf_144_1, kd_3, kd_6, kd_8, kd_10, kd_12, kd_14, kd_16, kd_18, kd_20, kd_22, kd_142, kd_145, kd_147, kd_24, c1, h0, e, c2, c3, ad_n p (by omega), d1, hv, c, c']
    · have d1 : ¬ (117 : Int) = 100 := by omega
      rw [h, if_pos rfl] at hv
      rw [h] at e c2 c3
      rw [h]
      simp only [en95, s95_0, s95_1, s95_4, s95_7, s95_9, s95_12, s95_14, s95_15, s95_16, s95_19, s95_20, s95_23, s95_26, s95_27, s95_28, s95_31, s95_32, s95_33, s95_34, s95_37, s95_40, s95_41, s95_42, s95_44, s95_45, s95_48, s95_49, s95_52, s95_55, s95_56, s95_59, s95_60, s95_63, s95_65, s95_67, s95_69, s95_72, s95_74, s95_76, s95_79, s95_82, s95_84, s95_86, s95_89, s95_91, s95_93, s95_96, s95_97, s95_100, s95_102, s95_104, s95_107, s95_108, s95_111, s95_112, s95_115, s95_118, s95_119, s95_122, s95_124, s95_125, s95_128, s95_129, s95_130, s95_131, s95_134, s95_136, s95_137, s95_140, s95_142, s95_144, s95_146, s95_149, s95_152, s95_155, s95_156, s95_158, s95_161, s95_162, s95_163, s95_166, s95_169, s95_173, s95_176, s95_179, s95_180, s95_181, cont_some, rl_some, rl_none, if_true, if_false, kd_0, kd_1, kd_2, kd_5, kd_47, kd_141, kd_144, rf_0_0, rf_0_1, rf_0_2, rf_0_3, rf_0_4, rf_1_0, rf_1_1, rf_1_2, rf_2_0, rf_5_0, rf_5_1, rf_5_2, rf_5_3, rf_5_4, rf_5_5, rf_5_6, rf_5_7, rf_47_0, rf_141_0, rf_144_0, rf_144_1, kd_3, kd_6, kd_8, kd_10, kd_12, kd_14, kd_16, kd_18, kd_20, kd_22, kd_142, kd_145, kd_147, kd_24, c1, h0, e, c2, c3, ad_n p (by omega), d1, hv, c, c']
  · have c' : 10 ≤ v := by omega
    rw [if_neg c]
    rcases hl with h | h
    · have d1 : ¬ (100 : Int) = 117 := by omega
      rw [h, if_neg d1] at hv
      rw [h] at e c2 c3
      rw [h]
      simp only [en95, s95_0, s95_1, s95_4, s95_7, s95_9, s95_12, s95_14, s95_15, s95_16, s95_19, s95_20, s95_23, s95_26, s95_27, s95_28, s95_31, s95_32, s95_33, s95_34, s95_37, s95_40, s95_41, s95_42, s95_44, s95_45, s95_48, s95_49, s95_52, s95_55, s95_56, s95_59, s95_60, s95_63, s95_65, s95_67, s95_69, s95_72, s95_74, s95_76, s95_79, s95_82, s95_84, s95_86, s95_89, s95_91, s95_93, s95_96, s95_97, s95_100, s95_102, s95_104, s95_107, s95_108, s95_111, s95_112, s95_115, s95_118, s95_119, s95_122, s95_124, s95_125, s95_128, s95_129, s95_130, s95_131, s95_134, s95_136, s95_137, s95_140, s95_142, s95_144, s95_146, s95_149, s95_152, s95_155, s95_156, s95_158, s95_161, s95_162, s95_163, s95_166, s95_169, s95_173, s95_176, s95_179, s95_180, s95_181, cont_some, rl_some, rl_none, if_true, if_false, kd_0, kd_1, kd_2, kd_5, kd_47, kd_141, kd_144, rf_0_0, rf_0_1, rf_0_2, rf_0_3, rf_0_4, rf_1_0, rf_1_1, rf_1_2, rf_2_0, rf_5_0, rf_5_1, rf_5_2, rf_5_3, rf_5_4, rf_5_5, rf_5_6, rf_5_7, rf_47_0, rf_141_0, rf_144_0, rf_144_1, kd_3, kd_6, kd_8, kd_10, kd_12, kd_14, kd_16, kd_18, kd_20, kd_22, kd_142, kd_145, kd_147, kd_24, c1, h0, e, c2, c3, ad_n p (by omega), d1, hv, c, c']
    · have d1 : ¬ (117 : Int) = 100 := by omega
      rw [h, if_pos rfl] at hv
      rw [h] at e c2 c3
      rw [h]
      simp only [en95, s95_0, s95_1, s95_4, s95_7, s95_9, s95_12, s95_14, s95_15, s95_16, s95_19, s95_20, s95_23, s95_26, s95_27, s95_28, s95_31, s95_32, s95_33, s95_34, s95_37, s95_40, s95_41, s95_42, s95_44, s95_45, s95_48, s95_49, s95_52, s95_55, s95_56, s95_59, s95_60, s95_63, s95_65, s95_67, s95_69, s95_72, s95_74, s95_76, s95_79, s95_82, s95_84, s95_86, s95_89, s95_91, s95_93, s95_96, s95_97, s95_100, s95_102, s95_104, s95_107, s95_108, s95_111, s95_112, s95_115, s95_118, s95_119, s95_122, s95_124, s95_125, s95_128, s95_129, s95_130, s95_131, s95_134, s95_136, s95_137, s95_140, s95_142, s95_144, s95_146, s95_149, s95_152, s95_155, s95_156, s95_158, s95_161, s95_162, s95_163, s95_166, s95_169, s95_173, s95_176, s95_179, s95_180, s95_181, cont_some, rl_some, rl_none, if_true, if_false, kd_0, kd_1, kd_2, kd_5, kd_47, kd_141, kd_144, rf_0_0, rf_0_1, rf_0_2, rf_0_3, rf_0_4, rf_1_0, rf_1_1, rf_1_2, rf_2_0, rf_5_0, rf_5_1, rf_5_2, rf_5_3, rf_5_4, rf_5_5, rf_5_6, rf_5_7, rf_47_0, rf_141_0, rf_144_0, rf_144_1, kd_3, kd_6, kd_8, kd_10, kd_12, kd_14, kd_16, kd_18, kd_20, kd_22, kd_142, kd_145, kd_147, kd_24, c1, h0, e, c2, c3, ad_n p (by omega), d1, hv, c, c']
theorem cl_deed (h0 : C 0 6 = 0) (hp : p < L) (h60 : L ≤ 60) (hl : C 143 p = 116 ∨ C 143 p = 110 ∨ C 143 p = 108) {v : Int} {C' : Mem} {P : PMem} (hv : evM 40 [Rf 1, I (C 143 p), I (sb (rg C 143 60 ((p + 1 : Nat) : Int)) 48)] (Hp C P) = some (some (I v), Hp C' P)) {d : Int} {l4 l5 : AV} :
    evL 95 43 [Rf 0, I d, I (L : Int), I (p : Int), l4, l5] [] (Hp C P) = if v < 10 then evL 95 43 [Rf 0, I d, I (L : Int), I ((p + 1 : Nat) : Int), I (C 143 p), I v] [] (Hp (wr (wr C' 0 6 v) 0 7 (p : Int)) P) else evL 95 43 [Rf 0, I (ad d 1), I (L : Int), I ((p + 1 : Nat) : Int), I (C 143 p), I v] [] (Hp C' P) := by
  have c1 : ¬ (L : Int) ≤ (p : Int) := by omega
  have c2 : ¬ C 143 p < 48 := by omega
  have c3 : 53 < C 143 p := by omega
  have d1 : ¬ C 143 p = 100 := by omega
  have d2 : ¬ C 143 p = 117 := by omega
  have e := pd_at (M := C) (P := P) (k := p) (by omega)
  have e2 := pd_at' (M := C) (P := P) (x := ((p + 1 : Nat) : Int))
  rw [s95_43]
  by_cases c : v < 10
  · have c' : ¬ 10 ≤ v := by omega
    rw [if_pos c]
    simp only [en95, s95_0, s95_1, s95_4, s95_7, s95_9, s95_12, s95_14, s95_15, s95_16, s95_19, s95_20, s95_23, s95_26, s95_27, s95_28, s95_31, s95_32, s95_33, s95_34, s95_37, s95_40, s95_41, s95_42, s95_44, s95_45, s95_48, s95_49, s95_52, s95_55, s95_56, s95_59, s95_60, s95_63, s95_65, s95_67, s95_69, s95_72, s95_74, s95_76, s95_79, s95_82, s95_84, s95_86, s95_89, s95_91, s95_93, s95_96, s95_97, s95_100, s95_102, s95_104, s95_107, s95_108, s95_111, s95_112, s95_115, s95_118, s95_119, s95_122, s95_124, s95_125, s95_128, s95_129, s95_130, s95_131, s95_134, s95_136, s95_137, s95_140, s95_142, s95_144, s95_146, s95_149, s95_152, s95_155, s95_156, s95_158, s95_161, s95_162, s95_163, s95_166, s95_169, s95_173, s95_176, s95_179, s95_180, s95_181, cont_some, rl_some, rl_none, if_true, if_false, kd_0, kd_1, kd_2, kd_5, kd_47, kd_141, kd_144, rf_0_0, rf_0_1, rf_0_2, rf_0_3, rf_0_4, rf_1_0, rf_1_1, rf_1_2, rf_2_0, rf_5_0, rf_5_1, rf_5_2, rf_5_3, rf_5_4, rf_5_5, rf_5_6, rf_5_7, rf_47_0, rf_141_0, rf_144_0, rf_144_1, kd_3, kd_6, kd_8, kd_10, kd_12, kd_14, kd_16, kd_18, kd_20, kd_22, kd_142, kd_145, kd_147, kd_24, c1, h0, e, e2, c2, c3, ad_n p (by omega), d1, d2, hv, c, c']
  · have c' : 10 ≤ v := by omega
    rw [if_neg c]
    simp only [en95, s95_0, s95_1, s95_4, s95_7, s95_9, s95_12, s95_14, s95_15, s95_16, s95_19, s95_20, s95_23, s95_26, s95_27, s95_28, s95_31, s95_32, s95_33, s95_34, s95_37, s95_40, s95_41, s95_42, s95_44, s95_45, s95_48, s95_49, s95_52, s95_55, s95_56, s95_59, s95_60, s95_63, s95_65, s95_67, s95_69, s95_72, s95_74, s95_76, s95_79, s95_82, s95_84, s95_86, s95_89, s95_91, s95_93, s95_96, s95_97, s95_100, s95_102, s95_104, s95_107, s95_108, s95_111, s95_112, s95_115, s95_118, s95_119, s95_122, s95_124, s95_125, s95_128, s95_129, s95_130, s95_131, s95_134, s95_136, s95_137, s95_140, s95_142, s95_144, s95_146, s95_149, s95_152, s95_155, s95_156, s95_158, s95_161, s95_162, s95_163, s95_166, s95_169, s95_173, s95_176, s95_179, s95_180, s95_181, cont_some, rl_some, rl_none, if_true, if_false, kd_0, kd_1, kd_2, kd_5, kd_47, kd_141, kd_144, rf_0_0, rf_0_1, rf_0_2, rf_0_3, rf_0_4, rf_1_0, rf_1_1, rf_1_2, rf_2_0, rf_5_0, rf_5_1, rf_5_2, rf_5_3, rf_5_4, rf_5_5, rf_5_6, rf_5_7, rf_47_0, rf_141_0, rf_144_0, rf_144_1, kd_3, kd_6, kd_8, kd_10, kd_12, kd_14, kd_16, kd_18, kd_20, kd_22, kd_142, kd_145, kd_147, kd_24, c1, h0, e, e2, c2, c3, ad_n p (by omega), d1, d2, hv, c, c']
def frP (C C' : Mem) : Prop := ∀ a b, (a = 0 ∧ b ≠ 6 ∧ b ≠ 7) ∨ 24 ≤ a → C' a b = C a b
theorem frP_of (h : frC M N) : frP M N := fun a b x => h a b (by omega)
theorem frP_rf : frP M M := fun _ _ _ => rfl
theorem frP_tr {A B E : Mem} (h1 : frP A B) (h2 : frP B E) : frP A E := fun a b x => by rw [h2 a b x, h1 a b x]
theorem frP_wr {b : Nat} {z : Int} (h : b = 6 ∨ b = 7) : frP M (wr M 0 b z) := fun a b' x => by rw [wr_ne (by omega)]
theorem ffF_le {f : Nat → Int} : ∀ (m k : Nat) (due : Int), k + m = L → ffF f L m k due ≤ L := by
  intro m
  induction m with
  | zero =>
    intro k due h
    unfold ffF
    split <;> omega
  | succ m ih =>
    intro k due h
    unfold ffF
    split
    · omega
    · exact ih (k + 1) _ (by omega)
/-- a block of a text that the law writes; a turn -/
def bB (f : Nat → Int) (p p' : Nat) : Prop := (f p = 100 ∨ f p = 117) ∧ (((f (p + 1) = 116 ∨ f (p + 1) = 110) ∧ p' = p + 2) ∨ (f (p + 1) = 108 ∧ 48 ≤ f (p + 2) ∧ f (p + 2) ≤ 55 ∧ p' = p + 3))
def gB1 (f : Nat → Int) (p p' : Nat) : Prop := (f p = 100 ∨ f p = 117) ∧ (((f (p + 1) = 116 ∨ f (p + 1) = 110) ∧ p' = p + 2) ∨ (f (p + 1) = 108 ∧ 48 ≤ f (p + 2) ∧ f (p + 2) ≤ 53 ∧ p' = p + 3))
def TBs (f : Nat → Int) : Nat → Nat → Prop
  | 0, p => p = 0
  | k + 1, p => ∃ p', TBs f k p' ∧ bB f p' p
/-- from p on there are k turns, then the end -/
def TN (f : Nat → Int) (L : Nat) : Nat → Nat → Prop
  | 0, p => p = L
  | k + 1, p => ∃ p', gB1 f p p' ∧ p' ≤ L ∧ TN f L k p'
theorem bB_lt {f : Nat → Int} {p p' : Nat} (h : bB f p p') : p + 2 ≤ p' ∧ p' ≤ p + 3 := by
  rcases h.2 with x | x <;> omega
theorem bB_congr {f g : Nat → Int} {p p' : Nat} (h : bB f p p') (e : ∀ j, j < p' → g j = f j) : bB g p p' := by
  have := bB_lt h
  unfold bB at *
  rw [e p (by omega), e (p + 1) (by omega)]
  refine ⟨h.1, ?_⟩
  rcases h.2 with x | x
  · exact Or.inl x
  · rw [e (p + 2) (by omega)]; exact Or.inr x
theorem TBs_congr {f g : Nat → Int} : ∀ (k p : Nat), TBs f k p → (∀ j, j < p → g j = f j) → TBs g k p := by
  intro k
  induction k with
  | zero => intro p h _; exact h
  | succ k ih =>
    rintro p ⟨p', h1, h2⟩ e
    have := bB_lt h2
    exact ⟨p', ih p' h1 (fun j hj => e j (by omega)), bB_congr h2 e⟩
theorem bB_ff {f : Nat → Int} {p p' : Nat} (h : bB f p p') (hL : p' ≤ L) (hf : ffF f L (L - p) p 1 = -4) : gB1 f p p' ∧ ffF f L (L - p') p' 1 = -4 := by
  have hl := bB_lt h
  obtain ⟨h1, h2⟩ := h
  rw [ffF_one (by omega), dB1, if_pos h1, if_neg (by omega), ffF_one (by omega), dB2] at hf
  rcases h2 with ⟨x, rfl⟩ | ⟨x1, x2, x3, rfl⟩
  · rw [if_neg (by omega), if_pos x, if_neg (by omega)] at hf
    exact ⟨⟨h1, Or.inl ⟨x, rfl⟩⟩, hf⟩
  · rw [if_pos x1, if_neg (by omega), ffF_one (by omega), dB3] at hf
    by_cases c : f (p + 2) ≤ 53
    · have c' : 48 ≤ f (p + 1 + 1) ∧ f (p + 1 + 1) ≤ 53 := ⟨x2, c⟩
      rw [if_pos c', if_neg (by omega)] at hf
      exact ⟨⟨h1, Or.inr ⟨x1, x2, c, rfl⟩⟩, hf⟩
    · have c' : ¬ (48 ≤ f (p + 1 + 1) ∧ f (p + 1 + 1) ≤ 53) := fun z => c z.2
      rw [if_neg c', if_pos rfl] at hf
      omega
theorem TBs_ff {f : Nat → Int} (hf : ffF f L L 0 1 = -4) : ∀ (k p m : Nat), TBs f k p → p ≤ L → (TN f L m p → TN f L (k + m) 0) ∧ ffF f L (L - p) p 1 = -4 := by
  intro k
  induction k with
  | zero =>
    intro p m h _
    have h0 : p = 0 := h
    subst h0
    rw [Nat.zero_add, Nat.sub_zero]
    exact ⟨fun x => x, hf⟩
  | succ k ih =>
    rintro p m ⟨p', h1, h2⟩ hp
    have := bB_lt h2
    obtain ⟨a1, a2⟩ := ih p' (m + 1) h1 (by omega)
    obtain ⟨b1, b2⟩ := bB_ff h2 hp a2
    refine ⟨fun x => ?_, b2⟩
    rw [show k + 1 + m = k + (m + 1) by omega]
    exact a1 ⟨p, b1, hp, x⟩
/-- the law's text: k blocks, then perhaps a lone letter -/
theorem text_ok {f : Nat → Int} {k p : Nat} (h : TBs f k p) (hL : L = p ∨ (L = p + 1 ∧ f p = 100)) (hf : ffF f L L 0 1 = -4) : TN f L k 0 := by
  obtain ⟨a1, a2⟩ := TBs_ff hf k p 0 h (by omega)
  rcases hL with rfl | ⟨rfl, x⟩
  · exact a1 rfl
  · exfalso
    rw [ffF_one (by omega), dB1, if_pos (Or.inl x), if_neg (by omega), ffF_end rfl (by omega)] at a2
    omega
end Text
