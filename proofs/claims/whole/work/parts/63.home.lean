section Home
variable {M N C D : Mem} {P : PMem} {n sp t : Nat} {hl : Nat → Nat} {W Q : Nat → Int} {F : Nat → Nat → Nat}
/-- the reference's two rows of ways -/
def hw (M : Mem) (W Q : Nat → Int) : Mem := fun a b => if a = 155 then W b else if a = 156 then Q b else M a b
theorem hw_155 {x : Nat} : hw M W Q 155 x = W x := rfl
theorem hw_156 {x : Nat} : hw M W Q 156 x = Q x := rfl
theorem hw_150 {x : Nat} : hw M W Q 150 x = M 150 x := rfl
theorem hw_w155 {l : Nat} {v : Int} : wr (hw M W Q) 155 l v = hw M (fun x => if x = l then v else W x) Q := by
  funext a b
  unfold wr hw
  by_cases c : a = 155
  · subst c; simp
  · simp [c]
theorem hw_w156 {l : Nat} {v : Int} : wr (hw M W Q) 156 l v = hw M W (fun x => if x = l then v else Q x) := by
  funext a b
  unfold wr hw
  by_cases c : a = 156
  · subst c; simp
  · by_cases c2 : a = 155
    · simp [c2]
    · simp [c, c2]
theorem hw_eta : hw M (M 155) (M 156) = M := by
  funext a b
  unfold hw
  by_cases c : a = 155
  · subst c; simp
  · by_cases c2 : a = 156
    · subst c2; simp
    · simp [c, c2]
theorem ml_comm (x y : Int) : ml x y = ml y x := by
  unfold ml w2
  show (i32 x * i32 y).toInt = (i32 y * i32 x).toInt
  rw [Int32.mul_comm]
/-- the ways begin -/
theorem hm_init (h : MN M n) (ht : t < n) {q : Nat} (hq : M 150 (sl t 0) = (q : Int)) {K : Int} {l4 l5 : AV} : ∀ (m p : Nat), p + m = 17 → ∀ W Q : Nat → Int, (∀ x, x < p → W x = if x = q then 1 else 0) → ∃ W', evL 169 42 [Rf 149, I K, I (t : Int), I (p : Int), l4, l5] [] (Hp (hw M W Q) P) = evL 169 75 [Rf 149, I K, I (t : Int), I 17, l4, l5] [] (Hp (hw M W' Q) P) ∧ ∀ x, x < 17 → W' x = if x = q then 1 else 0 := by
  have h4 := h.2
  intro m
  induction m with
  | zero =>
    intro p hp W Q hW
    have e : p = 17 := by omega
    subst e
    refine ⟨W, ?_, fun x hx => hW x hx⟩
    have c : (17 : Int) ≤ ((17 : Nat) : Int) := by omega
    have e17 : ((17 : Nat) : Int) = 17 := rfl
    rw [s169_42]
    simp only [en169, s169_0, s169_1, s169_2, s169_4, s169_7, s169_10, s169_11, s169_12, s169_13, s169_16, s169_17, s169_18, s169_19, s169_20, s169_23, s169_24, s169_25, s169_28, s169_29, s169_30, s169_31, s169_34, s169_37, s169_39, s169_40, s169_41, s169_43, s169_45, s169_48, s169_49, s169_52, s169_53, s169_54, s169_55, s169_56, s169_57, s169_60, s169_63, s169_64, s169_67, s169_68, s169_69, s169_72, s169_76, s169_77, s169_78, s169_79, s169_82, s169_83, s169_86, s169_87, s169_89, s169_90, s169_93, s169_94, s169_95, s169_96, s169_97, s169_98, s169_100, s169_102, s169_104, s169_107, s169_108, s169_111, s169_113, s169_114, s169_115, s169_118, s169_121, s169_122, s169_124, s169_126, s169_128, s169_131, s169_132, s169_134, s169_136, s169_138, s169_141, s169_142, s169_145, s169_147, s169_148, s169_151, s169_152, s169_155, s169_156, s169_157, s169_159, s169_160, s169_161, s169_162, s169_164, s169_167, s169_170, s169_171, s169_172, s169_173, s169_176, s169_178, s169_179, s169_181, s169_184, s169_185, s169_186, s169_187, s169_190, s169_193, s169_196, s169_199, s169_200, s169_202, s169_204, s169_206, s169_209, s169_210, s169_213, s169_215, s169_216, s169_219, s169_221, s169_222, s169_223, s169_226, s169_229, s169_232, s169_235, s169_236, s169_239, s169_240, s169_241, cont_some, rl_some, rl_none, if_true, if_false, kd_149, rf_149_0, rf_149_1, rf_149_3, rf_149_5, rf_149_9, rf_149_16, rf_149_17, kd_150, kd_151, kd_152, kd_153, kd_154, kd_155, kd_156, ln_150, ln_151, ln_152, ln_153, ln_154, ln_155, ln_156, Int.reduceLE, Int.reduceLT, Int.reduceToNat, Nat.reduceLT, Int.toNat_natCast, Int.natCast_nonneg, true_or, Int.one_ne_zero, ite_self, e17]
  | succ m ih =>
    intro p hp W Q hW
    have c : ¬ (17 : Int) ≤ (p : Int) := by omega
    have h17 : p < 17 := by omega
    have ho := m_of0 (M := hw M W Q) (P := P) (d := t) (by omega)
    rw [hw_150, hq] at ho
    by_cases c2 : p = q
    · subst c2
      obtain ⟨W', w1, w2⟩ := ih (p + 1) (by omega) (fun x => if x = p then 1 else W x) Q (fun x hx => by
        by_cases c3 : x = p
        · show (if x = p then (1 : Int) else W x) = _
          rw [if_pos c3, if_pos (by omega)]
        · show (if x = p then (1 : Int) else W x) = _
          rw [if_neg c3, hW x (by omega)])
      refine ⟨W', ?_, w2⟩
      rw [s169_42]
      simp only [en169, s169_0, s169_1, s169_2, s169_4, s169_7, s169_10, s169_11, s169_12, s169_13, s169_16, s169_17, s169_18, s169_19, s169_20, s169_23, s169_24, s169_25, s169_28, s169_29, s169_30, s169_31, s169_34, s169_37, s169_39, s169_40, s169_41, s169_43, s169_45, s169_48, s169_49, s169_52, s169_53, s169_54, s169_55, s169_56, s169_57, s169_60, s169_63, s169_64, s169_67, s169_68, s169_69, s169_72, s169_76, s169_77, s169_78, s169_79, s169_82, s169_83, s169_86, s169_87, s169_89, s169_90, s169_93, s169_94, s169_95, s169_96, s169_97, s169_98, s169_100, s169_102, s169_104, s169_107, s169_108, s169_111, s169_113, s169_114, s169_115, s169_118, s169_121, s169_122, s169_124, s169_126, s169_128, s169_131, s169_132, s169_134, s169_136, s169_138, s169_141, s169_142, s169_145, s169_147, s169_148, s169_151, s169_152, s169_155, s169_156, s169_157, s169_159, s169_160, s169_161, s169_162, s169_164, s169_167, s169_170, s169_171, s169_172, s169_173, s169_176, s169_178, s169_179, s169_181, s169_184, s169_185, s169_186, s169_187, s169_190, s169_193, s169_196, s169_199, s169_200, s169_202, s169_204, s169_206, s169_209, s169_210, s169_213, s169_215, s169_216, s169_219, s169_221, s169_222, s169_223, s169_226, s169_229, s169_232, s169_235, s169_236, s169_239, s169_240, s169_241, cont_some, rl_some, rl_none, if_true, if_false, kd_149, rf_149_0, rf_149_1, rf_149_3, rf_149_5, rf_149_9, rf_149_16, rf_149_17, kd_150, kd_151, kd_152, kd_153, kd_154, kd_155, kd_156, ln_150, ln_151, ln_152, ln_153, ln_154, ln_155, ln_156, Int.reduceLE, Int.reduceLT, Int.reduceToNat, Nat.reduceLT, Int.toNat_natCast, Int.natCast_nonneg, true_or, Int.one_ne_zero, ite_self, c, ho, hw_w155, h17, ad_n p (by omega), w1]
    · obtain ⟨W', w1, w2⟩ := ih (p + 1) (by omega) (fun x => if x = p then 0 else W x) Q (fun x hx => by
        by_cases c3 : x = p
        · show (if x = p then (0 : Int) else W x) = _
          rw [if_pos c3, if_neg (by omega)]
        · show (if x = p then (0 : Int) else W x) = _
          rw [if_neg c3, hW x (by omega)])
      refine ⟨W', ?_, w2⟩
      rw [s169_42]
      have c3 : ¬ (p : Int) = (q : Int) := by omega
      simp only [en169, s169_0, s169_1, s169_2, s169_4, s169_7, s169_10, s169_11, s169_12, s169_13, s169_16, s169_17, s169_18, s169_19, s169_20, s169_23, s169_24, s169_25, s169_28, s169_29, s169_30, s169_31, s169_34, s169_37, s169_39, s169_40, s169_41, s169_43, s169_45, s169_48, s169_49, s169_52, s169_53, s169_54, s169_55, s169_56, s169_57, s169_60, s169_63, s169_64, s169_67, s169_68, s169_69, s169_72, s169_76, s169_77, s169_78, s169_79, s169_82, s169_83, s169_86, s169_87, s169_89, s169_90, s169_93, s169_94, s169_95, s169_96, s169_97, s169_98, s169_100, s169_102, s169_104, s169_107, s169_108, s169_111, s169_113, s169_114, s169_115, s169_118, s169_121, s169_122, s169_124, s169_126, s169_128, s169_131, s169_132, s169_134, s169_136, s169_138, s169_141, s169_142, s169_145, s169_147, s169_148, s169_151, s169_152, s169_155, s169_156, s169_157, s169_159, s169_160, s169_161, s169_162, s169_164, s169_167, s169_170, s169_171, s169_172, s169_173, s169_176, s169_178, s169_179, s169_181, s169_184, s169_185, s169_186, s169_187, s169_190, s169_193, s169_196, s169_199, s169_200, s169_202, s169_204, s169_206, s169_209, s169_210, s169_213, s169_215, s169_216, s169_219, s169_221, s169_222, s169_223, s169_226, s169_229, s169_232, s169_235, s169_236, s169_239, s169_240, s169_241, cont_some, rl_some, rl_none, if_true, if_false, kd_149, rf_149_0, rf_149_1, rf_149_3, rf_149_5, rf_149_9, rf_149_16, rf_149_17, kd_150, kd_151, kd_152, kd_153, kd_154, kd_155, kd_156, ln_150, ln_151, ln_152, ln_153, ln_154, ln_155, ln_156, Int.reduceLE, Int.reduceLT, Int.reduceToNat, Nat.reduceLT, Int.toNat_natCast, Int.natCast_nonneg, true_or, Int.one_ne_zero, ite_self, c, ho, c3, hw_w155, h17, ad_n p (by omega), w1]
theorem hm_zero {K k d : Int} {l5 : AV} : ∀ (m p : Nat), p + m = 17 → 1 ≤ p → ∀ W Q : Nat → Int, (∀ x, 1 ≤ x → x < p → Q x = 0) → ∃ Q', evL 169 100 [Rf 149, I K, I d, I k, I (p : Int), l5] [] (Hp (hw M W Q) P) = evL 169 121 [Rf 149, I K, I d, I k, I 17, l5] [] (Hp (hw M W Q') P) ∧ Q' 0 = Q 0 ∧ ∀ x, 1 ≤ x → x < 17 → Q' x = 0 := by
  intro m
  induction m with
  | zero =>
    intro p hp h1 W Q hQ
    have e : p = 17 := by omega
    subst e
    refine ⟨Q, ?_, rfl, fun x h1 hx => hQ x h1 hx⟩
    have e17 : ((17 : Nat) : Int) = 17 := rfl
    rw [s169_100]
    simp only [en169, s169_0, s169_1, s169_2, s169_4, s169_7, s169_10, s169_11, s169_12, s169_13, s169_16, s169_17, s169_18, s169_19, s169_20, s169_23, s169_24, s169_25, s169_28, s169_29, s169_30, s169_31, s169_34, s169_37, s169_39, s169_40, s169_41, s169_42, s169_43, s169_45, s169_48, s169_49, s169_52, s169_53, s169_54, s169_55, s169_56, s169_57, s169_60, s169_63, s169_64, s169_67, s169_68, s169_69, s169_72, s169_75, s169_76, s169_77, s169_78, s169_79, s169_82, s169_83, s169_86, s169_87, s169_89, s169_90, s169_93, s169_94, s169_95, s169_96, s169_97, s169_98, s169_102, s169_104, s169_107, s169_108, s169_111, s169_113, s169_114, s169_115, s169_118, s169_122, s169_124, s169_126, s169_128, s169_131, s169_132, s169_134, s169_136, s169_138, s169_141, s169_142, s169_145, s169_147, s169_148, s169_151, s169_152, s169_155, s169_156, s169_157, s169_159, s169_160, s169_161, s169_162, s169_164, s169_167, s169_170, s169_171, s169_172, s169_173, s169_176, s169_178, s169_179, s169_181, s169_184, s169_185, s169_186, s169_187, s169_190, s169_193, s169_196, s169_199, s169_200, s169_202, s169_204, s169_206, s169_209, s169_210, s169_213, s169_215, s169_216, s169_219, s169_221, s169_222, s169_223, s169_226, s169_229, s169_232, s169_235, s169_236, s169_239, s169_240, s169_241, cont_some, rl_some, rl_none, if_true, if_false, kd_149, rf_149_0, rf_149_1, rf_149_3, rf_149_5, rf_149_9, rf_149_16, rf_149_17, kd_150, kd_151, kd_152, kd_153, kd_154, kd_155, kd_156, ln_150, ln_151, ln_152, ln_153, ln_154, ln_155, ln_156, Int.reduceLE, Int.reduceLT, Int.reduceToNat, Nat.reduceLT, Int.toNat_natCast, Int.natCast_nonneg, true_or, Int.one_ne_zero, ite_self, e17]
  | succ m ih =>
    intro p hp h1 W Q hQ
    have c : ¬ (17 : Int) ≤ (p : Int) := by omega
    have h17 : p < 17 := by omega
    obtain ⟨Q', w1, w2, w3⟩ := ih (p + 1) (by omega) (by omega) W (fun x => if x = p then 0 else Q x) (fun x h1 hx => by
      by_cases c3 : x = p
      · show (if x = p then (0 : Int) else Q x) = _
        rw [if_pos c3]
      · show (if x = p then (0 : Int) else Q x) = _
        rw [if_neg c3, hQ x h1 (by omega)])
    refine ⟨Q', ?_, ?_, w3⟩
    · rw [s169_100]
      simp only [en169, s169_0, s169_1, s169_2, s169_4, s169_7, s169_10, s169_11, s169_12, s169_13, s169_16, s169_17, s169_18, s169_19, s169_20, s169_23, s169_24, s169_25, s169_28, s169_29, s169_30, s169_31, s169_34, s169_37, s169_39, s169_40, s169_41, s169_42, s169_43, s169_45, s169_48, s169_49, s169_52, s169_53, s169_54, s169_55, s169_56, s169_57, s169_60, s169_63, s169_64, s169_67, s169_68, s169_69, s169_72, s169_75, s169_76, s169_77, s169_78, s169_79, s169_82, s169_83, s169_86, s169_87, s169_89, s169_90, s169_93, s169_94, s169_95, s169_96, s169_97, s169_98, s169_102, s169_104, s169_107, s169_108, s169_111, s169_113, s169_114, s169_115, s169_118, s169_122, s169_124, s169_126, s169_128, s169_131, s169_132, s169_134, s169_136, s169_138, s169_141, s169_142, s169_145, s169_147, s169_148, s169_151, s169_152, s169_155, s169_156, s169_157, s169_159, s169_160, s169_161, s169_162, s169_164, s169_167, s169_170, s169_171, s169_172, s169_173, s169_176, s169_178, s169_179, s169_181, s169_184, s169_185, s169_186, s169_187, s169_190, s169_193, s169_196, s169_199, s169_200, s169_202, s169_204, s169_206, s169_209, s169_210, s169_213, s169_215, s169_216, s169_219, s169_221, s169_222, s169_223, s169_226, s169_229, s169_232, s169_235, s169_236, s169_239, s169_240, s169_241, cont_some, rl_some, rl_none, if_true, if_false, kd_149, rf_149_0, rf_149_1, rf_149_3, rf_149_5, rf_149_9, rf_149_16, rf_149_17, kd_150, kd_151, kd_152, kd_153, kd_154, kd_155, kd_156, ln_150, ln_151, ln_152, ln_153, ln_154, ln_155, ln_156, Int.reduceLE, Int.reduceLT, Int.reduceToNat, Nat.reduceLT, Int.toNat_natCast, Int.natCast_nonneg, true_or, Int.one_ne_zero, ite_self, c, hw_w156, h17, ad_n p (by omega), w1]
    · rw [w2]
      show (if 0 = p then (0 : Int) else Q 0) = _
      rw [if_neg (by omega)]
theorem hm_copy {K k d : Int} {l5 : AV} : ∀ (m p : Nat), p + m = 17 → ∀ W Q : Nat → Int, (∀ x, x < p → W x = Q x) → ∃ W', evL 169 202 [Rf 149, I K, I d, I k, I (p : Int), l5] [] (Hp (hw M W Q) P) = evL 169 229 [Rf 149, I K, I d, I k, I 17, l5] [] (Hp (hw M W' Q) P) ∧ ∀ x, x < 17 → W' x = Q x := by
  intro m
  induction m with
  | zero =>
    intro p hp W Q hQ
    have e : p = 17 := by omega
    subst e
    refine ⟨W, ?_, fun x hx => hQ x hx⟩
    have e17 : ((17 : Nat) : Int) = 17 := rfl
    rw [s169_202]
    simp only [en169, s169_0, s169_1, s169_2, s169_4, s169_7, s169_10, s169_11, s169_12, s169_13, s169_16, s169_17, s169_18, s169_19, s169_20, s169_23, s169_24, s169_25, s169_28, s169_29, s169_30, s169_31, s169_34, s169_37, s169_39, s169_40, s169_41, s169_42, s169_43, s169_45, s169_48, s169_49, s169_52, s169_53, s169_54, s169_55, s169_56, s169_57, s169_60, s169_63, s169_64, s169_67, s169_68, s169_69, s169_72, s169_75, s169_76, s169_77, s169_78, s169_79, s169_82, s169_83, s169_86, s169_87, s169_89, s169_90, s169_93, s169_94, s169_95, s169_96, s169_97, s169_98, s169_100, s169_102, s169_104, s169_107, s169_108, s169_111, s169_113, s169_114, s169_115, s169_118, s169_121, s169_122, s169_124, s169_126, s169_128, s169_131, s169_132, s169_134, s169_136, s169_138, s169_141, s169_142, s169_145, s169_147, s169_148, s169_151, s169_152, s169_155, s169_156, s169_157, s169_159, s169_160, s169_161, s169_162, s169_164, s169_167, s169_170, s169_171, s169_172, s169_173, s169_176, s169_178, s169_179, s169_181, s169_184, s169_185, s169_186, s169_187, s169_190, s169_193, s169_196, s169_199, s169_200, s169_204, s169_206, s169_209, s169_210, s169_213, s169_215, s169_216, s169_219, s169_221, s169_222, s169_223, s169_226, s169_232, s169_235, s169_236, s169_239, s169_240, s169_241, cont_some, rl_some, rl_none, if_true, if_false, kd_149, rf_149_0, rf_149_1, rf_149_3, rf_149_5, rf_149_9, rf_149_16, rf_149_17, kd_150, kd_151, kd_152, kd_153, kd_154, kd_155, kd_156, ln_150, ln_151, ln_152, ln_153, ln_154, ln_155, ln_156, Int.reduceLE, Int.reduceLT, Int.reduceToNat, Nat.reduceLT, Int.toNat_natCast, Int.natCast_nonneg, true_or, Int.one_ne_zero, ite_self, e17]
  | succ m ih =>
    intro p hp W Q hQ
    have c : ¬ (17 : Int) ≤ (p : Int) := by omega
    have h17 : p < 17 := by omega
    obtain ⟨W', w1, w2⟩ := ih (p + 1) (by omega) (fun x => if x = p then Q p else W x) Q (fun x hx => by
      by_cases c3 : x = p
      · show (if x = p then Q p else W x) = _
        rw [if_pos c3, c3]
      · show (if x = p then Q p else W x) = _
        rw [if_neg c3, hQ x (by omega)])
    refine ⟨W', ?_, w2⟩
    rw [s169_202]
    simp only [en169, s169_0, s169_1, s169_2, s169_4, s169_7, s169_10, s169_11, s169_12, s169_13, s169_16, s169_17, s169_18, s169_19, s169_20, s169_23, s169_24, s169_25, s169_28, s169_29, s169_30, s169_31, s169_34, s169_37, s169_39, s169_40, s169_41, s169_42, s169_43, s169_45, s169_48, s169_49, s169_52, s169_53, s169_54, s169_55, s169_56, s169_57, s169_60, s169_63, s169_64, s169_67, s169_68, s169_69, s169_72, s169_75, s169_76, s169_77, s169_78, s169_79, s169_82, s169_83, s169_86, s169_87, s169_89, s169_90, s169_93, s169_94, s169_95, s169_96, s169_97, s169_98, s169_100, s169_102, s169_104, s169_107, s169_108, s169_111, s169_113, s169_114, s169_115, s169_118, s169_121, s169_122, s169_124, s169_126, s169_128, s169_131, s169_132, s169_134, s169_136, s169_138, s169_141, s169_142, s169_145, s169_147, s169_148, s169_151, s169_152, s169_155, s169_156, s169_157, s169_159, s169_160, s169_161, s169_162, s169_164, s169_167, s169_170, s169_171, s169_172, s169_173, s169_176, s169_178, s169_179, s169_181, s169_184, s169_185, s169_186, s169_187, s169_190, s169_193, s169_196, s169_199, s169_200, s169_204, s169_206, s169_209, s169_210, s169_213, s169_215, s169_216, s169_219, s169_221, s169_222, s169_223, s169_226, s169_232, s169_235, s169_236, s169_239, s169_240, s169_241, cont_some, rl_some, rl_none, if_true, if_false, kd_149, rf_149_0, rf_149_1, rf_149_3, rf_149_5, rf_149_9, rf_149_16, rf_149_17, kd_150, kd_151, kd_152, kd_153, kd_154, kd_155, kd_156, ln_150, ln_151, ln_152, ln_153, ln_154, ln_155, ln_156, Int.reduceLE, Int.reduceLT, Int.reduceToNat, Nat.reduceLT, Int.toNat_natCast, Int.natCast_nonneg, true_or, Int.one_ne_zero, ite_self, c, hw_156, hw_w155, h17, ad_n p (by omega), w1]
/-- the sums of two dice, from one place -/
theorem hm_in (h : RB M M n sp t hl) {K k : Int} {p : Nat} (hp : 1 ≤ p) (hps : p ≤ sp) {w : Int} (hw0 : 0 < w) : ∀ (m s : Nat), s + m = 7 → 2 ≤ s → ∀ W Q : Nat → Int, W p = w → evL 169 134 [Rf 149, I K, I (t : Int), I k, I (p : Int), I (s : Int)] [] (Hp (hw M W Q) P) = evL 169 193 [Rf 149, I K, I (t : Int), I k, I (p : Int), I 7] [] (Hp (hw M W (aW (lnd M n sp t (hl t) true p) w m s Q)) P) := by
  have htn := h.tn
  have h4 := h.cN.2
  have ht4 : t < 4 := by omega
  have hh := h.ch t htn
  have h16 := h.cS.2
  intro m
  induction m with
  | zero =>
    intro s hs h2 W Q hW
    have e : s = 7 := by omega
    subst e
    have e7 : ((7 : Nat) : Int) = 7 := rfl
    have ea : aW (lnd M n sp t (hl t) true p) w 0 7 Q = Q := rfl
    rw [s169_134, ea]
    simp only [en169, s169_0, s169_1, s169_2, s169_4, s169_7, s169_10, s169_11, s169_12, s169_13, s169_16, s169_17, s169_18, s169_19, s169_20, s169_23, s169_24, s169_25, s169_28, s169_29, s169_30, s169_31, s169_34, s169_37, s169_39, s169_40, s169_41, s169_42, s169_43, s169_45, s169_48, s169_49, s169_52, s169_53, s169_54, s169_55, s169_56, s169_57, s169_60, s169_63, s169_64, s169_67, s169_68, s169_69, s169_72, s169_75, s169_76, s169_77, s169_78, s169_79, s169_82, s169_83, s169_86, s169_87, s169_89, s169_90, s169_93, s169_94, s169_95, s169_96, s169_97, s169_98, s169_100, s169_102, s169_104, s169_107, s169_108, s169_111, s169_113, s169_114, s169_115, s169_118, s169_121, s169_122, s169_124, s169_126, s169_128, s169_131, s169_132, s169_136, s169_138, s169_141, s169_142, s169_145, s169_147, s169_148, s169_151, s169_152, s169_155, s169_156, s169_157, s169_159, s169_160, s169_161, s169_162, s169_164, s169_167, s169_170, s169_171, s169_172, s169_173, s169_176, s169_178, s169_179, s169_181, s169_184, s169_185, s169_186, s169_187, s169_190, s169_196, s169_199, s169_200, s169_202, s169_204, s169_206, s169_209, s169_210, s169_213, s169_215, s169_216, s169_219, s169_221, s169_222, s169_223, s169_226, s169_229, s169_232, s169_235, s169_236, s169_239, s169_240, s169_241, cont_some, rl_some, rl_none, if_true, if_false, kd_149, rf_149_0, rf_149_1, rf_149_3, rf_149_5, rf_149_9, rf_149_16, rf_149_17, kd_150, kd_151, kd_152, kd_153, kd_154, kd_155, kd_156, ln_150, ln_151, ln_152, ln_153, ln_154, ln_155, ln_156, Int.reduceLE, Int.reduceLT, Int.reduceToNat, Nat.reduceLT, Int.toNat_natCast, Int.natCast_nonneg, true_or, Int.one_ne_zero, ite_self, e7]
  | succ m ih =>
    intro s hs h2 W Q hW
    have c1 : ¬ (7 : Int) ≤ (s : Int) := by omega
    have c2 : ¬ W p ≤ 0 := by omega
    have h17 : p < 17 := by omega
    have hst := m_steps (M := hw M W Q) (P := P) (d := t) (h := hl t) (s := (s : Int)) ht4 (h.mh t htn).2 hh.1 (by omega) (by omega)
    have hbe := m_behind (M := hw M W Q) (c := M) (P := P) (n := n) (sp := sp) (st := ((s : Int) - (hl t : Int)).toNat) (up := true) h.mN h.mS h.ml h.uq (d := t) (by omega) hps (fun _ => hp)
    have et : (if true = true then (1 : Int) else 0) = 1 := if_pos rfl
    rw [et] at hbe
    obtain ⟨V, eV⟩ : ∃ V, V = landF (M 7) n t sp true ((s : Int) - (hl t : Int)).toNat p := ⟨_, rfl⟩
    have eV2 : lnd M n sp t (hl t) true p s = V := eV.symm
    have hV : V ≤ sp := by rw [eV]; exact landF_le _ _ hps
    have hV17 : V < 17 := by omega
    rw [← eV] at hbe
    have ea : aW (lnd M n sp t (hl t) true p) w (m + 1) s Q = aW (lnd M n sp t (hl t) true p) w m (s + 1) (up1 Q V (ml w (tsh s))) := by
      show aW _ w m (s + 1) (up1 Q (lnd M n sp t (hl t) true p s) (ml w (tsh s))) = _
      rw [eV2]
    have eu : (fun x => if x = V then ad (Q V) (ml w (tsh s)) else Q x) = up1 Q V (ml w (tsh s)) := by
      funext x
      unfold up1
      by_cases c : x = V
      · rw [if_pos c, if_pos c, c]
      · rw [if_neg c, if_neg c]
    have i := ih (s + 1) (by omega) (by omega) W (up1 Q V (ml w (tsh s))) hW
    rw [s169_134, ea, ← i, ← eu]
    simp only [en169, s169_0, s169_1, s169_2, s169_4, s169_7, s169_10, s169_11, s169_12, s169_13, s169_16, s169_17, s169_18, s169_19, s169_20, s169_23, s169_24, s169_25, s169_28, s169_29, s169_30, s169_31, s169_34, s169_37, s169_39, s169_40, s169_41, s169_42, s169_43, s169_45, s169_48, s169_49, s169_52, s169_53, s169_54, s169_55, s169_56, s169_57, s169_60, s169_63, s169_64, s169_67, s169_68, s169_69, s169_72, s169_75, s169_76, s169_77, s169_78, s169_79, s169_82, s169_83, s169_86, s169_87, s169_89, s169_90, s169_93, s169_94, s169_95, s169_96, s169_97, s169_98, s169_100, s169_102, s169_104, s169_107, s169_108, s169_111, s169_113, s169_114, s169_115, s169_118, s169_121, s169_122, s169_124, s169_126, s169_128, s169_131, s169_132, s169_136, s169_138, s169_141, s169_142, s169_145, s169_147, s169_148, s169_151, s169_152, s169_155, s169_156, s169_157, s169_159, s169_160, s169_161, s169_162, s169_164, s169_167, s169_170, s169_171, s169_172, s169_173, s169_176, s169_178, s169_179, s169_181, s169_184, s169_185, s169_186, s169_187, s169_190, s169_196, s169_199, s169_200, s169_202, s169_204, s169_206, s169_209, s169_210, s169_213, s169_215, s169_216, s169_219, s169_221, s169_222, s169_223, s169_226, s169_229, s169_232, s169_235, s169_236, s169_239, s169_240, s169_241, cont_some, rl_some, rl_none, if_true, if_false, kd_149, rf_149_0, rf_149_1, rf_149_3, rf_149_5, rf_149_9, rf_149_16, rf_149_17, kd_150, kd_151, kd_152, kd_153, kd_154, kd_155, kd_156, ln_150, ln_151, ln_152, ln_153, ln_154, ln_155, ln_156, Int.reduceLE, Int.reduceLT, Int.reduceToNat, Nat.reduceLT, Int.toNat_natCast, Int.natCast_nonneg, true_or, Int.one_ne_zero, ite_self, c1, hw_155, hw_156, hW, c2, h17, hst, hbe, m_thr, hw_w156, hV17, ad_n s (by omega)]
    have c3 : ¬ w ≤ 0 := by omega
    simp only [c3, if_false]
theorem hm_out (h : RB M M n sp t hl) {K k : Int} : ∀ (m p : Nat), p + m = 17 → 1 ≤ p → ∀ (W Q : Nat → Int) (l5 : AV), (∀ x, sp < x → x < 17 → W x = 0) → ∃ l5', evL 169 124 [Rf 149, I K, I (t : Int), I k, I (p : Int), l5] [] (Hp (hw M W Q) P) = evL 169 199 [Rf 149, I K, I (t : Int), I k, I 17, l5'] [] (Hp (hw M W (mU (lnd M n sp t (hl t) true) W m p Q)) P) := by
  have h16 := h.cS.2
  intro m
  induction m with
  | zero =>
    intro p hp h1 W Q l5 hz
    have e : p = 17 := by omega
    subst e
    refine ⟨l5, ?_⟩
    have e17 : ((17 : Nat) : Int) = 17 := rfl
    have ea : mU (lnd M n sp t (hl t) true) W 0 17 Q = Q := rfl
    rw [s169_124, ea]
    simp only [en169, s169_0, s169_1, s169_2, s169_4, s169_7, s169_10, s169_11, s169_12, s169_13, s169_16, s169_17, s169_18, s169_19, s169_20, s169_23, s169_24, s169_25, s169_28, s169_29, s169_30, s169_31, s169_34, s169_37, s169_39, s169_40, s169_41, s169_42, s169_43, s169_45, s169_48, s169_49, s169_52, s169_53, s169_54, s169_55, s169_56, s169_57, s169_60, s169_63, s169_64, s169_67, s169_68, s169_69, s169_72, s169_75, s169_76, s169_77, s169_78, s169_79, s169_82, s169_83, s169_86, s169_87, s169_89, s169_90, s169_93, s169_94, s169_95, s169_96, s169_97, s169_98, s169_100, s169_102, s169_104, s169_107, s169_108, s169_111, s169_113, s169_114, s169_115, s169_118, s169_121, s169_122, s169_126, s169_128, s169_131, s169_132, s169_136, s169_138, s169_141, s169_142, s169_145, s169_147, s169_148, s169_151, s169_152, s169_155, s169_156, s169_157, s169_159, s169_160, s169_161, s169_162, s169_164, s169_167, s169_170, s169_171, s169_172, s169_173, s169_176, s169_178, s169_179, s169_181, s169_184, s169_185, s169_186, s169_187, s169_190, s169_193, s169_196, s169_200, s169_202, s169_204, s169_206, s169_209, s169_210, s169_213, s169_215, s169_216, s169_219, s169_221, s169_222, s169_223, s169_226, s169_229, s169_232, s169_235, s169_236, s169_239, s169_240, s169_241, cont_some, rl_some, rl_none, if_true, if_false, kd_149, rf_149_0, rf_149_1, rf_149_3, rf_149_5, rf_149_9, rf_149_16, rf_149_17, kd_150, kd_151, kd_152, kd_153, kd_154, kd_155, kd_156, ln_150, ln_151, ln_152, ln_153, ln_154, ln_155, ln_156, Int.reduceLE, Int.reduceLT, Int.reduceToNat, Nat.reduceLT, Int.toNat_natCast, Int.natCast_nonneg, true_or, Int.one_ne_zero, ite_self, e17]
  | succ m ih =>
    intro p hp h1 W Q l5 hz
    have c1 : ¬ (17 : Int) ≤ (p : Int) := by omega
    have h17 : p < 17 := by omega
    have e2 : ((2 : Nat) : Int) = 2 := rfl
    by_cases c2 : 0 < W p
    · have hps : p ≤ sp := by
        refine Nat.le_of_not_lt fun q => ?_
        have := hz p q h17
        omega
      have i := hm_in (P := P) h (K := K) (k := k) h1 hps c2 5 2 (by omega) (by omega) W Q rfl
      rw [e2] at i
      obtain ⟨l5', j⟩ := ih (p + 1) (by omega) (by omega) W (aW (lnd M n sp t (hl t) true p) (W p) 5 2 Q) (I 7) hz
      refine ⟨l5', ?_⟩
      have ea : mU (lnd M n sp t (hl t) true) W (m + 1) p Q = mU (lnd M n sp t (hl t) true) W m (p + 1) (aW (lnd M n sp t (hl t) true p) (W p) 5 2 Q) := by
        show mU _ W m (p + 1) (if 0 < W p then aW (lnd M n sp t (hl t) true p) (W p) 5 2 Q else Q) = _
        rw [if_pos c2]
      rw [s169_124, ea, ← j]
      simp only [en169, s169_0, s169_1, s169_2, s169_4, s169_7, s169_10, s169_11, s169_12, s169_13, s169_16, s169_17, s169_18, s169_19, s169_20, s169_23, s169_24, s169_25, s169_28, s169_29, s169_30, s169_31, s169_34, s169_37, s169_39, s169_40, s169_41, s169_42, s169_43, s169_45, s169_48, s169_49, s169_52, s169_53, s169_54, s169_55, s169_56, s169_57, s169_60, s169_63, s169_64, s169_67, s169_68, s169_69, s169_72, s169_75, s169_76, s169_77, s169_78, s169_79, s169_82, s169_83, s169_86, s169_87, s169_89, s169_90, s169_93, s169_94, s169_95, s169_96, s169_97, s169_98, s169_100, s169_102, s169_104, s169_107, s169_108, s169_111, s169_113, s169_114, s169_115, s169_118, s169_121, s169_122, s169_126, s169_128, s169_131, s169_132, s169_136, s169_138, s169_141, s169_142, s169_145, s169_147, s169_148, s169_151, s169_152, s169_155, s169_156, s169_157, s169_159, s169_160, s169_161, s169_162, s169_164, s169_167, s169_170, s169_171, s169_172, s169_173, s169_176, s169_178, s169_179, s169_181, s169_184, s169_185, s169_186, s169_187, s169_190, s169_193, s169_196, s169_200, s169_202, s169_204, s169_206, s169_209, s169_210, s169_213, s169_215, s169_216, s169_219, s169_221, s169_222, s169_223, s169_226, s169_229, s169_232, s169_235, s169_236, s169_239, s169_240, s169_241, cont_some, rl_some, rl_none, if_true, if_false, kd_149, rf_149_0, rf_149_1, rf_149_3, rf_149_5, rf_149_9, rf_149_16, rf_149_17, kd_150, kd_151, kd_152, kd_153, kd_154, kd_155, kd_156, ln_150, ln_151, ln_152, ln_153, ln_154, ln_155, ln_156, Int.reduceLE, Int.reduceLT, Int.reduceToNat, Nat.reduceLT, Int.toNat_natCast, Int.natCast_nonneg, true_or, Int.one_ne_zero, ite_self, c1, i, ad_n p (by omega)]
    · obtain ⟨l5', j⟩ := ih (p + 1) (by omega) (by omega) W Q (I 2) hz
      refine ⟨l5', ?_⟩
      have ea : mU (lnd M n sp t (hl t) true) W (m + 1) p Q = mU (lnd M n sp t (hl t) true) W m (p + 1) Q := by
        show mU _ W m (p + 1) (if 0 < W p then aW (lnd M n sp t (hl t) true p) (W p) 5 2 Q else Q) = _
        rw [if_neg c2]
      have c3 : W p ≤ 0 := by omega
      rw [s169_124, ea, ← j]
      simp only [en169, s169_0, s169_1, s169_2, s169_4, s169_7, s169_10, s169_11, s169_12, s169_13, s169_16, s169_17, s169_18, s169_19, s169_20, s169_23, s169_24, s169_25, s169_28, s169_29, s169_30, s169_31, s169_34, s169_37, s169_39, s169_40, s169_41, s169_42, s169_43, s169_45, s169_48, s169_49, s169_52, s169_53, s169_54, s169_55, s169_56, s169_57, s169_60, s169_63, s169_64, s169_67, s169_68, s169_69, s169_72, s169_75, s169_76, s169_77, s169_78, s169_79, s169_82, s169_83, s169_86, s169_87, s169_89, s169_90, s169_93, s169_94, s169_95, s169_96, s169_97, s169_98, s169_100, s169_102, s169_104, s169_107, s169_108, s169_111, s169_113, s169_114, s169_115, s169_118, s169_121, s169_122, s169_126, s169_128, s169_131, s169_132, s169_134, s169_136, s169_138, s169_141, s169_142, s169_145, s169_147, s169_148, s169_151, s169_152, s169_155, s169_156, s169_157, s169_159, s169_160, s169_161, s169_162, s169_164, s169_167, s169_170, s169_171, s169_172, s169_173, s169_176, s169_178, s169_179, s169_181, s169_184, s169_185, s169_186, s169_187, s169_190, s169_193, s169_196, s169_200, s169_202, s169_204, s169_206, s169_209, s169_210, s169_213, s169_215, s169_216, s169_219, s169_221, s169_222, s169_223, s169_226, s169_229, s169_232, s169_235, s169_236, s169_239, s169_240, s169_241, cont_some, rl_some, rl_none, if_true, if_false, kd_149, rf_149_0, rf_149_1, rf_149_3, rf_149_5, rf_149_9, rf_149_16, rf_149_17, kd_150, kd_151, kd_152, kd_153, kd_154, kd_155, kd_156, ln_150, ln_151, ln_152, ln_153, ln_154, ln_155, ln_156, Int.reduceLE, Int.reduceLT, Int.reduceToNat, Nat.reduceLT, Int.toNat_natCast, Int.natCast_nonneg, true_or, Int.one_ne_zero, ite_self, c1, hw_155, c3, h17, ad_n p (by omega)]
theorem hm_main (h : RB M M n sp t hl) {K : Nat} (hK : K ≤ 100) : ∀ (m k : Nat), k + m = K → ∀ (W Q W0 : Nat → Int) (l4 l5 : AV), (∀ x, x < 17 → W x = W0 x) → (∀ x, sp < x → x < 17 → W x = 0) → ∃ N, evL 169 77 [Rf 149, I (K : Int), I (t : Int), I (k : Int), l4, l5] [] (Hp (hw M W Q) P) = some (some (I (hm (lnd M n sp t (hl t) true) sp m W0 0)), Hp N P) ∧ (∀ a b, a ≠ 155 → a ≠ 156 → N a b = M a b) := by
  have h16 := h.cS.2
  intro m
  induction m with
  | zero =>
    intro k hk W Q W0 l4 l5 hW hz
    refine ⟨hw M W Q, ?_, fun a b x y => by unfold hw; rw [if_neg x, if_neg y]⟩
    have c1 : (K : Int) ≤ (k : Int) := by omega
    have e1 : hm (lnd M n sp t (hl t) true) sp 0 W0 0 = W 0 := (hW 0 (by omega)).symm
    rw [s169_77, e1]
    simp only [en169, s169_0, s169_1, s169_2, s169_4, s169_7, s169_10, s169_11, s169_12, s169_13, s169_16, s169_17, s169_18, s169_19, s169_20, s169_23, s169_24, s169_25, s169_28, s169_29, s169_30, s169_31, s169_34, s169_37, s169_39, s169_40, s169_41, s169_43, s169_45, s169_48, s169_49, s169_52, s169_53, s169_54, s169_55, s169_56, s169_57, s169_60, s169_63, s169_64, s169_67, s169_68, s169_69, s169_72, s169_75, s169_76, s169_78, s169_79, s169_82, s169_83, s169_86, s169_87, s169_89, s169_90, s169_93, s169_94, s169_95, s169_96, s169_97, s169_98, s169_102, s169_104, s169_107, s169_108, s169_111, s169_113, s169_114, s169_115, s169_118, s169_121, s169_122, s169_126, s169_128, s169_131, s169_132, s169_136, s169_138, s169_141, s169_142, s169_145, s169_147, s169_148, s169_151, s169_152, s169_155, s169_156, s169_157, s169_159, s169_160, s169_161, s169_162, s169_164, s169_167, s169_170, s169_171, s169_172, s169_173, s169_176, s169_178, s169_179, s169_181, s169_184, s169_185, s169_186, s169_187, s169_190, s169_193, s169_196, s169_199, s169_200, s169_204, s169_206, s169_209, s169_210, s169_213, s169_215, s169_216, s169_219, s169_221, s169_222, s169_223, s169_226, s169_229, s169_232, s169_235, s169_236, s169_239, s169_240, s169_241, cont_some, rl_some, rl_none, if_true, if_false, kd_149, rf_149_0, rf_149_1, rf_149_3, rf_149_5, rf_149_9, rf_149_16, rf_149_17, kd_150, kd_151, kd_152, kd_153, kd_154, kd_155, kd_156, ln_150, ln_151, ln_152, ln_153, ln_154, ln_155, ln_156, Int.reduceLE, Int.reduceLT, Int.reduceToNat, Nat.reduceLT, Int.toNat_natCast, Int.natCast_nonneg, true_or, Int.one_ne_zero, ite_self, c1, hw_155]
  | succ m ih =>
    intro k hk W Q W0 l4 l5 hW hz
    have c1 : ¬ (K : Int) ≤ (k : Int) := by omega
    have e1 : ((1 : Nat) : Int) = 1 := rfl
    have e0 : ((0 : Nat) : Int) = 0 := rfl
    obtain ⟨Q1, eQ1⟩ : ∃ Q1 : Nat → Int, Q1 = fun x => if x = 0 then ml 9 (W 0) else Q x := ⟨_, rfl⟩
    obtain ⟨Q2, a1, a2, a3⟩ := hm_zero (M := M) (P := P) (K := (K : Int)) (k := (k : Int)) (d := (t : Int)) (l5 := l5) 16 1 (by omega) (by omega) W Q1 (fun x x1 x2 => by omega)
    rw [e1] at a1
    obtain ⟨l5', b1⟩ := hm_out (P := P) h (K := (K : Int)) (k := (k : Int)) 16 1 (by omega) (by omega) W Q2 l5 hz
    rw [e1] at b1
    obtain ⟨W2, d1, d2⟩ := hm_copy (M := M) (P := P) (K := (K : Int)) (k := (k : Int)) (d := (t : Int)) (l5 := l5') 17 0 (by omega) W (mU (lnd M n sp t (hl t) true) W 16 1 Q2) (fun x hx => by omega)
    rw [e0] at d1
    have hF : ∀ q s, q ≤ sp → lnd M n sp t (hl t) true q s ≤ sp := fun q s hq => landF_le _ _ hq
    have w2 : ∀ x, x < 17 → W2 x = mU (lnd M n sp t (hl t) true) W sp 1 (sU W) x := by
      intro x hx
      rw [d2 x hx]
      have es : (16 : Nat) = sp + (16 - sp) := by omega
      rw [es, mU_split, mU_zero (16 - sp) (1 + sp) _ (fun q x1 x2 => hz q (by omega) (by omega))]
      refine mU_congr sp 1 Q2 (sU W) (fun q _ _ => ⟨rfl, fun _ _ _ _ => rfl⟩) ?_
      unfold sU
      by_cases c : x = 0
      · subst c
        rw [if_pos rfl, a2, eQ1]
        show (if 0 = 0 then ml 9 (W 0) else Q 0) = _
        rw [if_pos rfl, ml_comm]
      · rw [if_neg c, a3 x (by omega) hx]
    obtain ⟨N, n1, n2⟩ := ih (k + 1) (by omega) W2 (mU (lnd M n sp t (hl t) true) W 16 1 Q2) (mU (lnd M n sp t (hl t) true) W0 sp 1 (sU W0)) (I 17) l5' (fun x hx => by
      rw [w2 x hx]
      refine mU_congr sp 1 _ _ (fun q x1 x2 => ⟨hW q (by omega), fun _ _ _ _ => rfl⟩) ?_
      unfold sU
      rw [hW 0 (by omega)]) (fun x x1 x2 => by
      rw [w2 x x2, mU_far sp 1 (sU W) (fun q y1 y2 s => by have := hF q s (by omega); omega)]
      unfold sU
      rw [if_neg (by omega)])
    refine ⟨N, ?_, n2⟩
    have ea : hm (lnd M n sp t (hl t) true) sp (m + 1) W0 0 = hm (lnd M n sp t (hl t) true) sp m (mU (lnd M n sp t (hl t) true) W0 sp 1 (sU W0)) 0 := rfl
    have q9 : (0 : Nat) < 17 := by omega
    have z0 : (0 : Int).toNat = 0 := rfl
    rw [s169_77, ea]
    simp only [en169, s169_0, s169_1, s169_2, s169_4, s169_7, s169_10, s169_11, s169_12, s169_13, s169_16, s169_17, s169_18, s169_19, s169_20, s169_23, s169_24, s169_25, s169_28, s169_29, s169_30, s169_31, s169_34, s169_37, s169_39, s169_40, s169_41, s169_42, s169_43, s169_45, s169_48, s169_49, s169_52, s169_53, s169_54, s169_55, s169_56, s169_57, s169_60, s169_63, s169_64, s169_67, s169_68, s169_69, s169_72, s169_75, s169_76, s169_78, s169_79, s169_82, s169_83, s169_86, s169_87, s169_89, s169_90, s169_93, s169_94, s169_95, s169_96, s169_97, s169_98, s169_102, s169_104, s169_107, s169_108, s169_111, s169_113, s169_114, s169_115, s169_118, s169_121, s169_122, s169_126, s169_128, s169_131, s169_132, s169_134, s169_136, s169_138, s169_141, s169_142, s169_145, s169_147, s169_148, s169_151, s169_152, s169_155, s169_156, s169_157, s169_159, s169_160, s169_161, s169_162, s169_164, s169_167, s169_170, s169_171, s169_172, s169_173, s169_176, s169_178, s169_179, s169_181, s169_184, s169_185, s169_186, s169_187, s169_190, s169_193, s169_196, s169_199, s169_200, s169_204, s169_206, s169_209, s169_210, s169_213, s169_215, s169_216, s169_219, s169_221, s169_222, s169_223, s169_226, s169_229, s169_232, s169_235, s169_236, s169_239, s169_240, s169_241, cont_some, rl_some, rl_none, if_true, if_false, kd_149, rf_149_0, rf_149_1, rf_149_3, rf_149_5, rf_149_9, rf_149_16, rf_149_17, kd_150, kd_151, kd_152, kd_153, kd_154, kd_155, kd_156, ln_150, ln_151, ln_152, ln_153, ln_154, ln_155, ln_156, Int.reduceLE, Int.reduceLT, Int.reduceToNat, Nat.reduceLT, Int.toNat_natCast, Int.natCast_nonneg, true_or, Int.one_ne_zero, ite_self, c1, hw_155, hw_w156, z0, q9, ← eQ1, a1, b1, d1, ad_n k (by omega), n1]
theorem R_scr {E : Mem} (h : R M P) (e : ∀ a b, a ≠ 146 → a ≠ 148 → a ≠ 155 → a ≠ 156 → E a b = M a b) : R E P := by
  obtain ⟨hM, ⟨K, hK⟩, hS, hPd, hW⟩ := h
  exact ⟨RG_cast hM (fun a b x y => e a b (by omega) (by omega) (by omega) (by omega)) (fun b => e 150 b (by omega) (by omega) (by omega) (by omega)), ⟨K, RH_cast hK (fun a b x => e a b (by omega) (by omega) (by omega) (by omega))⟩, RSn_cast hS (fun a b x => e a b (by omega) (by omega) (by omega) (by omega)), RPd_cast hPd (fun a b x => e a b (by omega) (by omega) (by omega) (by omega)), RWh_cast hW (fun a b x => e a b (by omega) (by omega) (by omega) (by omega))⟩
theorem P_homeward (h : R M P) (mv : Int) : ∃ (v : Int) (N : Mem) (P' : PMem) (N' : Mem), evM 103 [Rf 0, I mv] (Hp M P) = some (some (I v), Hp N P') ∧ evM 169 [Rf 149, I mv] (Hp N P') = some (some (I v), Hp N' P') ∧ R N' P' := by
  have hR := h
  obtain ⟨⟨n, sp, t, hl, hB, hT⟩, -⟩ := h
  have htn := hB.tn
  have h4 := hB.cN.2
  have h16 := hB.cS.2
  have ht4 : t < 4 := by omega
  have d0 : ¬ (1 : Int) = 0 := by omega
  by_cases c1 : 1 ≤ mv ∧ mv ≤ 6
  · obtain ⟨K, rfl⟩ : ∃ K : Nat, mv = (K : Int) := ⟨mv.toNat, by omega⟩
    have mi := fun {h : AH} => m_inY (h := h) c1
    have c1' : ¬ (K : Int) < 1 := by omega
    have gw := g_whyM (M := M) (P := P) (back := 0) hB.tt ht4
    by_cases h3 : M 1 4 < 3
    · have hRl := RT_l hT h3
      have h3' : ¬ (3 : Int) ≤ M 1 4 := by omega
      by_cases h6 : M 1 6 = 0
      · have r0 : rsM M t 0 = 0 := by unfold rsM; rw [if_neg h3', if_pos h6, if_pos rfl]
        rw [r0] at gw
        obtain ⟨q, hqs, hq⟩ := hB.pl t htn
        have gp := g_place (P := P) hB.tt ht4
        rw [hq] at gp
        have e3 : M 150 3 = 0 := by rw [hRl.2.2.2.1]; exact h6
        have ho := m_of0 (M := M) (P := P) (d := t) ht4
        have eq0 : M 150 (sl t 0) = (q : Int) := by rw [hB.ml t htn]; exact hq
        rw [eq0] at ho
        by_cases c2 : q = 0
        · subst c2
          have e0 : ((0 : Nat) : Int) = 0 := rfl
          rw [e0] at gp ho
          refine ⟨-2, M, P, M, ?_, ?_, hR⟩
          · simp only [en103, s103_0, s103_1, s103_2, s103_5, s103_6, s103_8, s103_11, s103_12, s103_13, s103_14, s103_17, s103_18, s103_21, s103_24, s103_25, s103_28, s103_31, s103_34, s103_36, s103_37, s103_38, s103_41, s103_42, s103_45, s103_46, s103_49, cont_some, rl_some, rl_none, if_true, if_false, kd_0, kd_1, kd_2, kd_5, kd_47, kd_141, kd_144, kd_149, rf_0_0, rf_0_1, rf_0_2, rf_0_3, rf_0_4, rf_1_0, rf_1_1, rf_1_2, rf_2_0, rf_5_0, rf_5_1, rf_5_2, rf_5_3, rf_5_4, rf_5_5, rf_5_6, rf_5_7, rf_47_0, rf_141_0, rf_144_0, rf_144_1, rf_149_0, rf_149_1, rf_149_3, rf_149_5, rf_149_9, rf_149_16, rf_149_17, kd_3, kd_6, kd_8, kd_10, kd_12, kd_14, kd_16, kd_18, kd_20, kd_22, kd_142, kd_145, kd_147, kd_24, c1', c1, gw, gp]
          · simp only [en169, s169_0, s169_1, s169_2, s169_4, s169_7, s169_10, s169_11, s169_12, s169_13, s169_16, s169_17, s169_18, s169_19, s169_20, s169_23, s169_24, s169_25, s169_28, s169_29, s169_30, s169_31, s169_34, s169_37, s169_39, s169_40, s169_41, s169_43, s169_45, s169_48, s169_49, s169_52, s169_53, s169_54, s169_55, s169_56, s169_57, s169_60, s169_63, s169_64, s169_67, s169_68, s169_69, s169_72, s169_75, s169_76, s169_77, s169_78, s169_79, s169_82, s169_83, s169_86, s169_87, s169_89, s169_90, s169_93, s169_94, s169_95, s169_96, s169_97, s169_98, s169_100, s169_102, s169_104, s169_107, s169_108, s169_111, s169_113, s169_114, s169_115, s169_118, s169_121, s169_122, s169_124, s169_126, s169_128, s169_131, s169_132, s169_134, s169_136, s169_138, s169_141, s169_142, s169_145, s169_147, s169_148, s169_151, s169_152, s169_155, s169_156, s169_157, s169_159, s169_160, s169_161, s169_162, s169_164, s169_167, s169_170, s169_171, s169_172, s169_173, s169_176, s169_178, s169_179, s169_181, s169_184, s169_185, s169_186, s169_187, s169_190, s169_193, s169_196, s169_199, s169_200, s169_202, s169_204, s169_206, s169_209, s169_210, s169_213, s169_215, s169_216, s169_219, s169_221, s169_222, s169_223, s169_226, s169_229, s169_232, s169_235, s169_236, s169_239, s169_240, s169_241, cont_some, rl_some, rl_none, if_true, if_false, kd_149, rf_149_0, rf_149_1, rf_149_3, rf_149_5, rf_149_9, rf_149_16, rf_149_17, kd_150, kd_151, kd_152, kd_153, kd_154, kd_155, kd_156, ln_150, ln_151, ln_152, ln_153, ln_154, ln_155, ln_156, Int.reduceLE, Int.reduceLT, Int.reduceToNat, Nat.reduceLT, Int.toNat_natCast, Int.natCast_nonneg, true_or, Int.one_ne_zero, ite_self, mi, d0, hRl.2.2.1, e3, ho]
        · have c3 : ¬ (q : Int) = 0 := by omega
          have hh := hB.ch t htn
          obtain ⟨N, n1, n2⟩ := o_home (P := P) hB.cN hB.cS hB.tt ht4 hh.2 hh.1 hq hqs (K := K) (by omega)
          have hBN : RB N N n sp t hl := RB_cast hB (fun a b x y => n2 a b (by omega) (by omega)) (fun b => n2 150 b (by omega) (by omega))
          have elnd : lnd N n sp t (hl t) true = lnd M n sp t (hl t) true := congrFun (lnd_congr (fun b => n2 7 b (by omega) (by omega))) true
          obtain ⟨W', w1, w2⟩ := hm_init (P := P) (M := N) hBN.mN htn (q := q) (by rw [n2 _ _ (by omega) (by omega)]; exact eq0) (K := (K : Int)) (l4 := Db 0) (l5 := Db 0) 17 0 (by omega) (N 155) (N 156) (fun x hx => by omega)
          rw [hw_eta] at w1
          obtain ⟨N', k1, k2⟩ := hm_main (P := P) hBN (K := K) (by omega) K 0 (by omega) W' (N 156) (fun x => if x = q then 1 else 0) (Db 0) (Db 0) w2 (fun x x1 x2 => by rw [w2 x x2, if_neg (by omega)])
          rw [elnd] at k1
          have e0 : ((0 : Nat) : Int) = 0 := rfl
          rw [e0] at w1 k1
          have hoN := m_of0 (M := N) (P := P) (d := t) ht4
          rw [n2 _ _ (by omega) (by omega), eq0] at hoN
          have t2 : N 150 2 = (t : Int) := by rw [n2 _ _ (by omega) (by omega)]; exact hRl.2.2.1
          have t3 : N 150 3 = 0 := by rw [n2 _ _ (by omega) (by omega)]; exact e3
          refine ⟨hm (lnd M n sp t (hl t) true) sp K (fun x => if x = q then 1 else 0) 0, N, P, N', ?_, ?_, R_scr hR (fun a b x y z w => by rw [k2 a b z w, n2 a b x y])⟩
          · simp only [en103, s103_0, s103_1, s103_2, s103_5, s103_6, s103_8, s103_11, s103_12, s103_13, s103_14, s103_17, s103_18, s103_21, s103_24, s103_25, s103_28, s103_31, s103_34, s103_36, s103_37, s103_38, s103_41, s103_42, s103_45, s103_46, s103_49, cont_some, rl_some, rl_none, if_true, if_false, kd_0, kd_1, kd_2, kd_5, kd_47, kd_141, kd_144, kd_149, rf_0_0, rf_0_1, rf_0_2, rf_0_3, rf_0_4, rf_1_0, rf_1_1, rf_1_2, rf_2_0, rf_5_0, rf_5_1, rf_5_2, rf_5_3, rf_5_4, rf_5_5, rf_5_6, rf_5_7, rf_47_0, rf_141_0, rf_144_0, rf_144_1, rf_149_0, rf_149_1, rf_149_3, rf_149_5, rf_149_9, rf_149_16, rf_149_17, kd_3, kd_6, kd_8, kd_10, kd_12, kd_14, kd_16, kd_18, kd_20, kd_22, kd_142, kd_145, kd_147, kd_24, c1', c1, gw, gp, c3, n1]
          · simp only [en169, s169_0, s169_1, s169_2, s169_4, s169_7, s169_10, s169_11, s169_12, s169_13, s169_16, s169_17, s169_18, s169_19, s169_20, s169_23, s169_24, s169_25, s169_28, s169_29, s169_30, s169_31, s169_34, s169_37, s169_39, s169_40, s169_41, s169_43, s169_45, s169_48, s169_49, s169_52, s169_53, s169_54, s169_55, s169_56, s169_57, s169_60, s169_63, s169_64, s169_67, s169_68, s169_69, s169_72, s169_75, s169_76, s169_78, s169_79, s169_82, s169_83, s169_86, s169_87, s169_89, s169_90, s169_93, s169_94, s169_95, s169_96, s169_97, s169_98, s169_100, s169_102, s169_104, s169_107, s169_108, s169_111, s169_113, s169_114, s169_115, s169_118, s169_121, s169_122, s169_124, s169_126, s169_128, s169_131, s169_132, s169_134, s169_136, s169_138, s169_141, s169_142, s169_145, s169_147, s169_148, s169_151, s169_152, s169_155, s169_156, s169_157, s169_159, s169_160, s169_161, s169_162, s169_164, s169_167, s169_170, s169_171, s169_172, s169_173, s169_176, s169_178, s169_179, s169_181, s169_184, s169_185, s169_186, s169_187, s169_190, s169_193, s169_196, s169_199, s169_200, s169_202, s169_204, s169_206, s169_209, s169_210, s169_213, s169_215, s169_216, s169_219, s169_221, s169_222, s169_223, s169_226, s169_229, s169_232, s169_235, s169_236, s169_239, s169_240, s169_241, cont_some, rl_some, rl_none, if_true, if_false, kd_149, rf_149_0, rf_149_1, rf_149_3, rf_149_5, rf_149_9, rf_149_16, rf_149_17, kd_150, kd_151, kd_152, kd_153, kd_154, kd_155, kd_156, ln_150, ln_151, ln_152, ln_153, ln_154, ln_155, ln_156, Int.reduceLE, Int.reduceLT, Int.reduceToNat, Nat.reduceLT, Int.toNat_natCast, Int.natCast_nonneg, true_or, Int.one_ne_zero, ite_self, mi, d0, t2, t3, hoN, c3, w1, k1]
      · have h61 : M 1 6 = 1 := by
          rcases hRl.2.2.2.2 with z | z
          · exact z
          · exact absurd z.1 h6
        have r0 : rsM M t 0 = 3 := by unfold rsM; rw [if_neg h3', if_neg h6]
        rw [r0] at gw
        have e3 : M 150 3 = 1 := by rw [hRl.2.2.2.1]; exact h61
        have d3 : ¬ (3 : Int) = 0 := by omega
        refine ⟨-2, M, P, M, ?_, ?_, hR⟩
        · simp only [en103, s103_0, s103_1, s103_2, s103_5, s103_6, s103_8, s103_11, s103_12, s103_13, s103_14, s103_17, s103_18, s103_21, s103_24, s103_25, s103_28, s103_31, s103_34, s103_36, s103_37, s103_38, s103_41, s103_42, s103_45, s103_46, s103_49, cont_some, rl_some, rl_none, if_true, if_false, kd_0, kd_1, kd_2, kd_5, kd_47, kd_141, kd_144, kd_149, rf_0_0, rf_0_1, rf_0_2, rf_0_3, rf_0_4, rf_1_0, rf_1_1, rf_1_2, rf_2_0, rf_5_0, rf_5_1, rf_5_2, rf_5_3, rf_5_4, rf_5_5, rf_5_6, rf_5_7, rf_47_0, rf_141_0, rf_144_0, rf_144_1, rf_149_0, rf_149_1, rf_149_3, rf_149_5, rf_149_9, rf_149_16, rf_149_17, kd_3, kd_6, kd_8, kd_10, kd_12, kd_14, kd_16, kd_18, kd_20, kd_22, kd_142, kd_145, kd_147, kd_24, c1', c1, gw, d3]
        · simp only [en169, s169_0, s169_1, s169_2, s169_4, s169_7, s169_10, s169_11, s169_12, s169_13, s169_16, s169_17, s169_18, s169_19, s169_20, s169_23, s169_24, s169_25, s169_28, s169_29, s169_30, s169_31, s169_34, s169_37, s169_39, s169_40, s169_41, s169_43, s169_45, s169_48, s169_49, s169_52, s169_53, s169_54, s169_55, s169_56, s169_57, s169_60, s169_63, s169_64, s169_67, s169_68, s169_69, s169_72, s169_75, s169_76, s169_77, s169_78, s169_79, s169_82, s169_83, s169_86, s169_87, s169_89, s169_90, s169_93, s169_94, s169_95, s169_96, s169_97, s169_98, s169_100, s169_102, s169_104, s169_107, s169_108, s169_111, s169_113, s169_114, s169_115, s169_118, s169_121, s169_122, s169_124, s169_126, s169_128, s169_131, s169_132, s169_134, s169_136, s169_138, s169_141, s169_142, s169_145, s169_147, s169_148, s169_151, s169_152, s169_155, s169_156, s169_157, s169_159, s169_160, s169_161, s169_162, s169_164, s169_167, s169_170, s169_171, s169_172, s169_173, s169_176, s169_178, s169_179, s169_181, s169_184, s169_185, s169_186, s169_187, s169_190, s169_193, s169_196, s169_199, s169_200, s169_202, s169_204, s169_206, s169_209, s169_210, s169_213, s169_215, s169_216, s169_219, s169_221, s169_222, s169_223, s169_226, s169_229, s169_232, s169_235, s169_236, s169_239, s169_240, s169_241, cont_some, rl_some, rl_none, if_true, if_false, kd_149, rf_149_0, rf_149_1, rf_149_3, rf_149_5, rf_149_9, rf_149_16, rf_149_17, kd_150, kd_151, kd_152, kd_153, kd_154, kd_155, kd_156, ln_150, ln_151, ln_152, ln_153, ln_154, ln_155, ln_156, Int.reduceLE, Int.reduceLT, Int.reduceToNat, Nat.reduceLT, Int.toNat_natCast, Int.natCast_nonneg, true_or, Int.one_ne_zero, ite_self, mi, d0, e3]
    · obtain ⟨r1, r2⟩ := RT_3 hT h3
      rw [(rs_over hT r1).1] at gw
      have e3 : M 150 3 = 2 := by
        rcases hT with z | z
        · omega
        · exact z.2.2.1
      have d2 : ¬ (2 : Int) = 0 := by omega
      refine ⟨-2, M, P, M, ?_, ?_, hR⟩
      · simp only [en103, s103_0, s103_1, s103_2, s103_5, s103_6, s103_8, s103_11, s103_12, s103_13, s103_14, s103_17, s103_18, s103_21, s103_24, s103_25, s103_28, s103_31, s103_34, s103_36, s103_37, s103_38, s103_41, s103_42, s103_45, s103_46, s103_49, cont_some, rl_some, rl_none, if_true, if_false, kd_0, kd_1, kd_2, kd_5, kd_47, kd_141, kd_144, kd_149, rf_0_0, rf_0_1, rf_0_2, rf_0_3, rf_0_4, rf_1_0, rf_1_1, rf_1_2, rf_2_0, rf_5_0, rf_5_1, rf_5_2, rf_5_3, rf_5_4, rf_5_5, rf_5_6, rf_5_7, rf_47_0, rf_141_0, rf_144_0, rf_144_1, rf_149_0, rf_149_1, rf_149_3, rf_149_5, rf_149_9, rf_149_16, rf_149_17, kd_3, kd_6, kd_8, kd_10, kd_12, kd_14, kd_16, kd_18, kd_20, kd_22, kd_142, kd_145, kd_147, kd_24, c1', c1, gw, d0]
      · simp only [en169, s169_0, s169_1, s169_2, s169_4, s169_7, s169_10, s169_11, s169_12, s169_13, s169_16, s169_17, s169_18, s169_19, s169_20, s169_23, s169_24, s169_25, s169_28, s169_29, s169_30, s169_31, s169_34, s169_37, s169_39, s169_40, s169_41, s169_43, s169_45, s169_48, s169_49, s169_52, s169_53, s169_54, s169_55, s169_56, s169_57, s169_60, s169_63, s169_64, s169_67, s169_68, s169_69, s169_72, s169_75, s169_76, s169_77, s169_78, s169_79, s169_82, s169_83, s169_86, s169_87, s169_89, s169_90, s169_93, s169_94, s169_95, s169_96, s169_97, s169_98, s169_100, s169_102, s169_104, s169_107, s169_108, s169_111, s169_113, s169_114, s169_115, s169_118, s169_121, s169_122, s169_124, s169_126, s169_128, s169_131, s169_132, s169_134, s169_136, s169_138, s169_141, s169_142, s169_145, s169_147, s169_148, s169_151, s169_152, s169_155, s169_156, s169_157, s169_159, s169_160, s169_161, s169_162, s169_164, s169_167, s169_170, s169_171, s169_172, s169_173, s169_176, s169_178, s169_179, s169_181, s169_184, s169_185, s169_186, s169_187, s169_190, s169_193, s169_196, s169_199, s169_200, s169_202, s169_204, s169_206, s169_209, s169_210, s169_213, s169_215, s169_216, s169_219, s169_221, s169_222, s169_223, s169_226, s169_229, s169_232, s169_235, s169_236, s169_239, s169_240, s169_241, cont_some, rl_some, rl_none, if_true, if_false, kd_149, rf_149_0, rf_149_1, rf_149_3, rf_149_5, rf_149_9, rf_149_16, rf_149_17, kd_150, kd_151, kd_152, kd_153, kd_154, kd_155, kd_156, ln_150, ln_151, ln_152, ln_153, ln_154, ln_155, ln_156, Int.reduceLE, Int.reduceLT, Int.reduceToNat, Nat.reduceLT, Int.toNat_natCast, Int.natCast_nonneg, true_or, Int.one_ne_zero, ite_self, mi, d0, e3, d2]
  · have mi := m_inN (h := Hp M P) c1
    refine ⟨-1, M, P, M, ?_, ?_, hR⟩
    · by_cases c2 : mv < 1
      · simp only [en103, s103_0, s103_1, s103_2, s103_5, s103_6, s103_8, s103_11, s103_12, s103_13, s103_14, s103_17, s103_18, s103_21, s103_24, s103_25, s103_28, s103_31, s103_34, s103_36, s103_37, s103_38, s103_41, s103_42, s103_45, s103_46, s103_49, cont_some, rl_some, rl_none, if_true, if_false, kd_0, kd_1, kd_2, kd_5, kd_47, kd_141, kd_144, kd_149, rf_0_0, rf_0_1, rf_0_2, rf_0_3, rf_0_4, rf_1_0, rf_1_1, rf_1_2, rf_2_0, rf_5_0, rf_5_1, rf_5_2, rf_5_3, rf_5_4, rf_5_5, rf_5_6, rf_5_7, rf_47_0, rf_141_0, rf_144_0, rf_144_1, rf_149_0, rf_149_1, rf_149_3, rf_149_5, rf_149_9, rf_149_16, rf_149_17, kd_3, kd_6, kd_8, kd_10, kd_12, kd_14, kd_16, kd_18, kd_20, kd_22, kd_142, kd_145, kd_147, kd_24, c2]
      · have c3 : ¬ mv ≤ 6 := by omega
        simp only [en103, s103_0, s103_1, s103_2, s103_5, s103_6, s103_8, s103_11, s103_12, s103_13, s103_14, s103_17, s103_18, s103_21, s103_24, s103_25, s103_28, s103_31, s103_34, s103_36, s103_37, s103_38, s103_41, s103_42, s103_45, s103_46, s103_49, cont_some, rl_some, rl_none, if_true, if_false, kd_0, kd_1, kd_2, kd_5, kd_47, kd_141, kd_144, kd_149, rf_0_0, rf_0_1, rf_0_2, rf_0_3, rf_0_4, rf_1_0, rf_1_1, rf_1_2, rf_2_0, rf_5_0, rf_5_1, rf_5_2, rf_5_3, rf_5_4, rf_5_5, rf_5_6, rf_5_7, rf_47_0, rf_141_0, rf_144_0, rf_144_1, rf_149_0, rf_149_1, rf_149_3, rf_149_5, rf_149_9, rf_149_16, rf_149_17, kd_3, kd_6, kd_8, kd_10, kd_12, kd_14, kd_16, kd_18, kd_20, kd_22, kd_142, kd_145, kd_147, kd_24, c2, c3]
    · simp only [en169, s169_0, s169_1, s169_2, s169_4, s169_7, s169_10, s169_11, s169_12, s169_13, s169_16, s169_17, s169_18, s169_19, s169_20, s169_23, s169_24, s169_25, s169_28, s169_29, s169_30, s169_31, s169_34, s169_37, s169_39, s169_40, s169_41, s169_43, s169_45, s169_48, s169_49, s169_52, s169_53, s169_54, s169_55, s169_56, s169_57, s169_60, s169_63, s169_64, s169_67, s169_68, s169_69, s169_72, s169_75, s169_76, s169_77, s169_78, s169_79, s169_82, s169_83, s169_86, s169_87, s169_89, s169_90, s169_93, s169_94, s169_95, s169_96, s169_97, s169_98, s169_100, s169_102, s169_104, s169_107, s169_108, s169_111, s169_113, s169_114, s169_115, s169_118, s169_121, s169_122, s169_124, s169_126, s169_128, s169_131, s169_132, s169_134, s169_136, s169_138, s169_141, s169_142, s169_145, s169_147, s169_148, s169_151, s169_152, s169_155, s169_156, s169_157, s169_159, s169_160, s169_161, s169_162, s169_164, s169_167, s169_170, s169_171, s169_172, s169_173, s169_176, s169_178, s169_179, s169_181, s169_184, s169_185, s169_186, s169_187, s169_190, s169_193, s169_196, s169_199, s169_200, s169_202, s169_204, s169_206, s169_209, s169_210, s169_213, s169_215, s169_216, s169_219, s169_221, s169_222, s169_223, s169_226, s169_229, s169_232, s169_235, s169_236, s169_239, s169_240, s169_241, cont_some, rl_some, rl_none, if_true, if_false, kd_149, rf_149_0, rf_149_1, rf_149_3, rf_149_5, rf_149_9, rf_149_16, rf_149_17, kd_150, kd_151, kd_152, kd_153, kd_154, kd_155, kd_156, ln_150, ln_151, ln_152, ln_153, ln_154, ln_155, ln_156, Int.reduceLE, Int.reduceLT, Int.reduceToNat, Nat.reduceLT, Int.toNat_natCast, Int.natCast_nonneg, true_or, Int.one_ne_zero, ite_self, mi]
end Home
