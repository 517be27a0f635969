/-! ===== the law's look: a digest ===== -/
section Look
variable {M N : Mem} {P : PMem} {n sp t : Nat} {hl : Nat → Nat}
def st1 (h : Int64) (v : Int) : Int64 := Int64.ofNat 31 * h + (i32 v).toInt64
theorem st1_e (h : Int64) (v : Int) : Int64.ofNat 31 * h + (i32 v).toInt64 = st1 h v := rfl
def lk2 (f : Nat → Int64 → Int64) (h : Int64) : Nat → Int64
  | 0 => h
  | k + 1 => f k (lk2 f h k)
theorem lk2_congr {f g : Nat → Int64 → Int64} {h : Int64} : ∀ m, (∀ k, k < m → ∀ x, f k x = g k x) → lk2 f h m = lk2 g h m := by
  intro m
  induction m with
  | zero => intro _; rfl
  | succ m ih =>
    intro e
    show f m (lk2 f h m) = g m (lk2 g h m)
    rw [ih (fun k hk => e k (by omega)), e m (by omega)]
def fA (M : Mem) (n sp t : Nat) (hl : Nat → Nat) (k : Nat) (h : Int64) : Int64 := st1 h (cnF M n sp t hl k)
def fB (M : Mem) (n k : Nat) (h : Int64) : Int64 := st1 (st1 (st1 h (spF M n k 0)) (spF M n k 1)) (spF M n k 2)
def fD (M : Mem) (hl : Nat → Nat) (d k : Nat) (h : Int64) : Int64 := st1 h (pOf M hl d (k : Int))
def fE (M : Mem) (d i : Nat) (h : Int64) : Int64 := st1 (st1 (st1 (st1 h (stF M d i 0)) (stF M d i 1)) (stF M d i 2)) (stF M d i 3)
def fC (M : Mem) (hl : Nat → Nat) (d : Nat) (h : Int64) : Int64 := lk2 (fE M d) (lk2 (fD M hl d) h 9) (hl d)
def lookG (M : Mem) (n sp t : Nat) (hl : Nat → Nat) : Int64 := lk2 (fC M hl) (lk2 (fB M n) (lk2 (fA M n sp t hl) (Int64.ofNat 373) 14) sp) n
theorem lo_A (h : CB M n sp t hl) (hT : CT M t) {l4 : AV} : ∀ (m k : Nat), k + m = 14 → evL 109 6 [Rf 0, Lg (lk2 (fA M n sp t hl) (Int64.ofNat 373) k), Db 0, I (k : Int), l4] [] (Hp M P) = evL 109 31 [Rf 0, Lg (lk2 (fA M n sp t hl) (Int64.ofNat 373) 14), Db 0, I 14, l4] [] (Hp M P) := by
  intro m
  induction m with
  | zero =>
    intro k hk
    have e : k = 14 := by omega
    subst e
    have c1 : (14 : Int) ≤ ((14 : Nat) : Int) := by omega
    rw [s109_6]
    simp only [en109, s109_0, s109_3, s109_4, s109_5, s109_7, s109_9, s109_12, s109_15, s109_16, s109_17, s109_18, s109_19, s109_22, s109_23, s109_24, s109_25, s109_28, s109_32, s109_34, s109_35, s109_36, s109_39, s109_42, s109_45, s109_48, s109_51, s109_52, s109_53, s109_54, s109_55, s109_56, s109_59, s109_60, s109_61, s109_62, s109_63, s109_64, s109_65, s109_68, s109_69, s109_70, s109_71, s109_72, s109_73, s109_74, s109_77, s109_78, s109_79, s109_80, s109_83, s109_86, s109_87, s109_89, s109_90, s109_91, s109_94, s109_97, s109_98, s109_102, s109_104, s109_107, s109_110, s109_111, s109_112, s109_113, s109_114, s109_116, s109_119, s109_120, s109_121, s109_122, s109_125, s109_128, s109_129, s109_133, s109_134, s109_135, s109_136, s109_139, s109_142, s109_145, s109_148, s109_151, s109_154, s109_155, s109_156, s109_157, s109_158, s109_160, s109_161, s109_164, s109_165, s109_166, s109_167, s109_168, s109_169, s109_171, s109_172, s109_175, s109_176, s109_177, s109_178, s109_179, s109_180, s109_182, s109_183, s109_186, s109_187, s109_188, s109_189, s109_190, s109_191, s109_193, s109_194, s109_197, s109_198, s109_199, s109_200, s109_203, s109_206, s109_209, s109_212, s109_213, cont_some, rl_some, rl_none, if_true, if_false, kd_0, kd_1, kd_2, kd_5, kd_47, kd_141, kd_144, rf_0_0, rf_0_1, rf_0_2, rf_0_3, rf_0_4, rf_1_0, rf_1_1, rf_1_2, rf_2_0, rf_5_0, rf_5_1, rf_5_2, rf_5_3, rf_5_4, rf_5_5, rf_5_6, rf_5_7, rf_47_0, rf_141_0, rf_144_0, rf_144_1, kd_3, kd_6, kd_8, kd_10, kd_12, kd_14, kd_16, kd_18, kd_20, kd_22, kd_142, kd_145, kd_147, kd_24, c1]
    rfl
  | succ m ih =>
    intro k hk
    have c1 : ¬ (14 : Int) ≤ (k : Int) := by omega
    have e1 := v_cnt (P := P) h hT (k := k) (by omega)
    rw [s109_6]
    simp only [en109, s109_0, s109_3, s109_4, s109_5, s109_7, s109_9, s109_12, s109_15, s109_16, s109_17, s109_18, s109_19, s109_22, s109_23, s109_24, s109_25, s109_28, s109_32, s109_34, s109_35, s109_36, s109_39, s109_42, s109_45, s109_48, s109_51, s109_52, s109_53, s109_54, s109_55, s109_56, s109_59, s109_60, s109_61, s109_62, s109_63, s109_64, s109_65, s109_68, s109_69, s109_70, s109_71, s109_72, s109_73, s109_74, s109_77, s109_78, s109_79, s109_80, s109_83, s109_86, s109_87, s109_89, s109_90, s109_91, s109_94, s109_97, s109_98, s109_102, s109_104, s109_107, s109_110, s109_111, s109_112, s109_113, s109_114, s109_116, s109_119, s109_120, s109_121, s109_122, s109_125, s109_128, s109_129, s109_133, s109_134, s109_135, s109_136, s109_139, s109_142, s109_145, s109_148, s109_151, s109_154, s109_155, s109_156, s109_157, s109_158, s109_160, s109_161, s109_164, s109_165, s109_166, s109_167, s109_168, s109_169, s109_171, s109_172, s109_175, s109_176, s109_177, s109_178, s109_179, s109_180, s109_182, s109_183, s109_186, s109_187, s109_188, s109_189, s109_190, s109_191, s109_193, s109_194, s109_197, s109_198, s109_199, s109_200, s109_203, s109_206, s109_209, s109_212, s109_213, cont_some, rl_some, rl_none, if_true, if_false, kd_0, kd_1, kd_2, kd_5, kd_47, kd_141, kd_144, rf_0_0, rf_0_1, rf_0_2, rf_0_3, rf_0_4, rf_1_0, rf_1_1, rf_1_2, rf_2_0, rf_5_0, rf_5_1, rf_5_2, rf_5_3, rf_5_4, rf_5_5, rf_5_6, rf_5_7, rf_47_0, rf_141_0, rf_144_0, rf_144_1, kd_3, kd_6, kd_8, kd_10, kd_12, kd_14, kd_16, kd_18, kd_20, kd_22, kd_142, kd_145, kd_147, kd_24, c1, e1, ad_n k (by omega), st1_e]
    exact ih (k + 1) (by omega)
theorem lo_B (h : CB M n sp t hl) {l4 : AV} {x : Int64} : ∀ (m k : Nat), k + m = sp → evL 109 33 [Rf 0, Lg (lk2 (fB M n) x k), Db 0, I ((k + 1 : Nat) : Int), l4] [] (Hp M P) = evL 109 86 [Rf 0, Lg (lk2 (fB M n) x sp), Db 0, I ((sp + 1 : Nat) : Int), l4] [] (Hp M P) := by
  have h16 := h.cS.2
  intro m
  induction m with
  | zero =>
    intro k hk
    have e : k = sp := by omega
    subst e
    have c1 : (k : Int) < ((k + 1 : Nat) : Int) := by omega
    rw [s109_33]
    simp only [en109, s109_0, s109_3, s109_4, s109_5, s109_7, s109_9, s109_12, s109_15, s109_16, s109_17, s109_18, s109_19, s109_22, s109_23, s109_24, s109_25, s109_28, s109_31, s109_32, s109_34, s109_35, s109_36, s109_39, s109_42, s109_45, s109_48, s109_51, s109_52, s109_53, s109_54, s109_55, s109_56, s109_59, s109_60, s109_61, s109_62, s109_63, s109_64, s109_65, s109_68, s109_69, s109_70, s109_71, s109_72, s109_73, s109_74, s109_77, s109_78, s109_79, s109_80, s109_83, s109_87, s109_89, s109_90, s109_91, s109_94, s109_97, s109_98, s109_102, s109_104, s109_107, s109_110, s109_111, s109_112, s109_113, s109_114, s109_116, s109_119, s109_120, s109_121, s109_122, s109_125, s109_128, s109_129, s109_133, s109_134, s109_135, s109_136, s109_139, s109_142, s109_145, s109_148, s109_151, s109_154, s109_155, s109_156, s109_157, s109_158, s109_160, s109_161, s109_164, s109_165, s109_166, s109_167, s109_168, s109_169, s109_171, s109_172, s109_175, s109_176, s109_177, s109_178, s109_179, s109_180, s109_182, s109_183, s109_186, s109_187, s109_188, s109_189, s109_190, s109_191, s109_193, s109_194, s109_197, s109_198, s109_199, s109_200, s109_203, s109_206, s109_209, s109_212, s109_213, cont_some, rl_some, rl_none, if_true, if_false, kd_0, kd_1, kd_2, kd_5, kd_47, kd_141, kd_144, rf_0_0, rf_0_1, rf_0_2, rf_0_3, rf_0_4, rf_1_0, rf_1_1, rf_1_2, rf_2_0, rf_5_0, rf_5_1, rf_5_2, rf_5_3, rf_5_4, rf_5_5, rf_5_6, rf_5_7, rf_47_0, rf_141_0, rf_144_0, rf_144_1, kd_3, kd_6, kd_8, kd_10, kd_12, kd_14, kd_16, kd_18, kd_20, kd_22, kd_142, kd_145, kd_147, kd_24, v_c1 h, c1]
  | succ m ih =>
    intro k hk
    have c1 : ¬ (sp : Int) < ((k + 1 : Nat) : Int) := by omega
    have e0 := v_space (P := P) h (k := k) (by omega) (w := 0) (by omega)
    have e1 := v_space (P := P) h (k := k) (by omega) (w := 1) (by omega)
    have e2 := v_space (P := P) h (k := k) (by omega) (w := 2) (by omega)
    rw [s109_33]
    simp only [en109, s109_0, s109_3, s109_4, s109_5, s109_7, s109_9, s109_12, s109_15, s109_16, s109_17, s109_18, s109_19, s109_22, s109_23, s109_24, s109_25, s109_28, s109_31, s109_32, s109_34, s109_35, s109_36, s109_39, s109_42, s109_45, s109_48, s109_51, s109_52, s109_53, s109_54, s109_55, s109_56, s109_59, s109_60, s109_61, s109_62, s109_63, s109_64, s109_65, s109_68, s109_69, s109_70, s109_71, s109_72, s109_73, s109_74, s109_77, s109_78, s109_79, s109_80, s109_83, s109_87, s109_89, s109_90, s109_91, s109_94, s109_97, s109_98, s109_102, s109_104, s109_107, s109_110, s109_111, s109_112, s109_113, s109_114, s109_116, s109_119, s109_120, s109_121, s109_122, s109_125, s109_128, s109_129, s109_133, s109_134, s109_135, s109_136, s109_139, s109_142, s109_145, s109_148, s109_151, s109_154, s109_155, s109_156, s109_157, s109_158, s109_160, s109_161, s109_164, s109_165, s109_166, s109_167, s109_168, s109_169, s109_171, s109_172, s109_175, s109_176, s109_177, s109_178, s109_179, s109_180, s109_182, s109_183, s109_186, s109_187, s109_188, s109_189, s109_190, s109_191, s109_193, s109_194, s109_197, s109_198, s109_199, s109_200, s109_203, s109_206, s109_209, s109_212, s109_213, cont_some, rl_some, rl_none, if_true, if_false, kd_0, kd_1, kd_2, kd_5, kd_47, kd_141, kd_144, rf_0_0, rf_0_1, rf_0_2, rf_0_3, rf_0_4, rf_1_0, rf_1_1, rf_1_2, rf_2_0, rf_5_0, rf_5_1, rf_5_2, rf_5_3, rf_5_4, rf_5_5, rf_5_6, rf_5_7, rf_47_0, rf_141_0, rf_144_0, rf_144_1, kd_3, kd_6, kd_8, kd_10, kd_12, kd_14, kd_16, kd_18, kd_20, kd_22, kd_142, kd_145, kd_147, kd_24, v_c1 h, c1, e0, e1, e2, ad_n (k + 1) (by omega), st1_e]
    exact ih (k + 1) (by omega)
theorem lo_D (h : CB M n sp t hl) {d : Nat} (hd : d < n) {x : Int64} : ∀ (m k : Nat), k + m = 9 → evL 109 100 [Rf 0, Lg (lk2 (fD M hl d) x k), Db 0, I (d : Int), I (k : Int)] [] (Hp M P) = evL 109 128 [Rf 0, Lg (lk2 (fD M hl d) x 9), Db 0, I (d : Int), I 9] [] (Hp M P) := by
  intro m
  induction m with
  | zero =>
    intro k hk
    have e : k = 9 := by omega
    subst e
    have c1 : (9 : Int) ≤ ((9 : Nat) : Int) := by omega
    rw [s109_100]
    simp only [en109, s109_0, s109_3, s109_4, s109_5, s109_7, s109_9, s109_12, s109_15, s109_16, s109_17, s109_18, s109_19, s109_22, s109_23, s109_24, s109_25, s109_28, s109_31, s109_32, s109_34, s109_35, s109_36, s109_39, s109_42, s109_45, s109_48, s109_51, s109_52, s109_53, s109_54, s109_55, s109_56, s109_59, s109_60, s109_61, s109_62, s109_63, s109_64, s109_65, s109_68, s109_69, s109_70, s109_71, s109_72, s109_73, s109_74, s109_77, s109_78, s109_79, s109_80, s109_83, s109_86, s109_87, s109_89, s109_90, s109_91, s109_94, s109_97, s109_98, s109_102, s109_104, s109_107, s109_110, s109_111, s109_112, s109_113, s109_114, s109_116, s109_119, s109_120, s109_121, s109_122, s109_125, s109_129, s109_133, s109_134, s109_135, s109_136, s109_139, s109_142, s109_145, s109_148, s109_151, s109_154, s109_155, s109_156, s109_157, s109_158, s109_160, s109_161, s109_164, s109_165, s109_166, s109_167, s109_168, s109_169, s109_171, s109_172, s109_175, s109_176, s109_177, s109_178, s109_179, s109_180, s109_182, s109_183, s109_186, s109_187, s109_188, s109_189, s109_190, s109_191, s109_193, s109_194, s109_197, s109_198, s109_199, s109_200, s109_203, s109_206, s109_209, s109_212, s109_213, cont_some, rl_some, rl_none, if_true, if_false, kd_0, kd_1, kd_2, kd_5, kd_47, kd_141, kd_144, rf_0_0, rf_0_1, rf_0_2, rf_0_3, rf_0_4, rf_1_0, rf_1_1, rf_1_2, rf_2_0, rf_5_0, rf_5_1, rf_5_2, rf_5_3, rf_5_4, rf_5_5, rf_5_6, rf_5_7, rf_47_0, rf_141_0, rf_144_0, rf_144_1, kd_3, kd_6, kd_8, kd_10, kd_12, kd_14, kd_16, kd_18, kd_20, kd_22, kd_142, kd_145, kd_147, kd_24, c1]
    rfl
  | succ m ih =>
    intro k hk
    have c1 : ¬ (9 : Int) ≤ (k : Int) := by omega
    have e1 := v_diver (P := P) h hd (w := (k : Int))
    rw [s109_100]
    simp only [en109, s109_0, s109_3, s109_4, s109_5, s109_7, s109_9, s109_12, s109_15, s109_16, s109_17, s109_18, s109_19, s109_22, s109_23, s109_24, s109_25, s109_28, s109_31, s109_32, s109_34, s109_35, s109_36, s109_39, s109_42, s109_45, s109_48, s109_51, s109_52, s109_53, s109_54, s109_55, s109_56, s109_59, s109_60, s109_61, s109_62, s109_63, s109_64, s109_65, s109_68, s109_69, s109_70, s109_71, s109_72, s109_73, s109_74, s109_77, s109_78, s109_79, s109_80, s109_83, s109_86, s109_87, s109_89, s109_90, s109_91, s109_94, s109_97, s109_98, s109_102, s109_104, s109_107, s109_110, s109_111, s109_112, s109_113, s109_114, s109_116, s109_119, s109_120, s109_121, s109_122, s109_125, s109_129, s109_133, s109_134, s109_135, s109_136, s109_139, s109_142, s109_145, s109_148, s109_151, s109_154, s109_155, s109_156, s109_157, s109_158, s109_160, s109_161, s109_164, s109_165, s109_166, s109_167, s109_168, s109_169, s109_171, s109_172, s109_175, s109_176, s109_177, s109_178, s109_179, s109_180, s109_182, s109_183, s109_186, s109_187, s109_188, s109_189, s109_190, s109_191, s109_193, s109_194, s109_197, s109_198, s109_199, s109_200, s109_203, s109_206, s109_209, s109_212, s109_213, cont_some, rl_some, rl_none, if_true, if_false, kd_0, kd_1, kd_2, kd_5, kd_47, kd_141, kd_144, rf_0_0, rf_0_1, rf_0_2, rf_0_3, rf_0_4, rf_1_0, rf_1_1, rf_1_2, rf_2_0, rf_5_0, rf_5_1, rf_5_2, rf_5_3, rf_5_4, rf_5_5, rf_5_6, rf_5_7, rf_47_0, rf_141_0, rf_144_0, rf_144_1, kd_3, kd_6, kd_8, kd_10, kd_12, kd_14, kd_16, kd_18, kd_20, kd_22, kd_142, kd_145, kd_147, kd_24, c1, e1, ad_n k (by omega), st1_e]
    exact ih (k + 1) (by omega)
theorem v_held (h : CB M n sp t hl) {d : Nat} (hd : d < n) : evM 97 [Rf 0, I (d : Int), I 3] (Hp M P) = some (some (I (hl d : Int)), Hp M P) := by
  rw [v_diver h hd, ← (h.ch d hd).2]
  rfl
theorem lo_E (h : CB M n sp t hl) {d : Nat} (hd : d < n) {x : Int64} : ∀ (m i : Nat), i + m = hl d → evL 109 131 [Rf 0, Lg (lk2 (fE M d) x i), Db 0, I (d : Int), I (i : Int)] [] (Hp M P) = evL 109 206 [Rf 0, Lg (lk2 (fE M d) x (hl d)), Db 0, I (d : Int), I (hl d : Int)] [] (Hp M P) := by
  have h6 := (h.ch d hd).1
  intro m
  induction m with
  | zero =>
    intro i hi
    have e : i = hl d := by omega
    subst e
    have c1 : (hl d : Int) ≤ (hl d : Int) := by omega
    rw [s109_131]
    simp only [en109, s109_0, s109_3, s109_4, s109_5, s109_7, s109_9, s109_12, s109_15, s109_16, s109_17, s109_18, s109_19, s109_22, s109_23, s109_24, s109_25, s109_28, s109_31, s109_32, s109_34, s109_35, s109_36, s109_39, s109_42, s109_45, s109_48, s109_51, s109_52, s109_53, s109_54, s109_55, s109_56, s109_59, s109_60, s109_61, s109_62, s109_63, s109_64, s109_65, s109_68, s109_69, s109_70, s109_71, s109_72, s109_73, s109_74, s109_77, s109_78, s109_79, s109_80, s109_83, s109_86, s109_87, s109_89, s109_90, s109_91, s109_94, s109_97, s109_98, s109_102, s109_104, s109_107, s109_110, s109_111, s109_112, s109_113, s109_114, s109_116, s109_119, s109_120, s109_121, s109_122, s109_125, s109_128, s109_129, s109_133, s109_134, s109_135, s109_136, s109_139, s109_142, s109_145, s109_148, s109_151, s109_154, s109_155, s109_156, s109_157, s109_158, s109_160, s109_161, s109_164, s109_165, s109_166, s109_167, s109_168, s109_169, s109_171, s109_172, s109_175, s109_176, s109_177, s109_178, s109_179, s109_180, s109_182, s109_183, s109_186, s109_187, s109_188, s109_189, s109_190, s109_191, s109_193, s109_194, s109_197, s109_198, s109_199, s109_200, s109_203, s109_209, s109_212, s109_213, cont_some, rl_some, rl_none, if_true, if_false, kd_0, kd_1, kd_2, kd_5, kd_47, kd_141, kd_144, rf_0_0, rf_0_1, rf_0_2, rf_0_3, rf_0_4, rf_1_0, rf_1_1, rf_1_2, rf_2_0, rf_5_0, rf_5_1, rf_5_2, rf_5_3, rf_5_4, rf_5_5, rf_5_6, rf_5_7, rf_47_0, rf_141_0, rf_144_0, rf_144_1, kd_3, kd_6, kd_8, kd_10, kd_12, kd_14, kd_16, kd_18, kd_20, kd_22, kd_142, kd_145, kd_147, kd_24, v_held h hd, c1]
  | succ m ih =>
    intro i hi
    have c1 : ¬ (hl d : Int) ≤ (i : Int) := by omega
    have e0 := v_stack (P := P) h hd (i := i) (by omega) (w := 0) (by omega)
    have e1 := v_stack (P := P) h hd (i := i) (by omega) (w := 1) (by omega)
    have e2 := v_stack (P := P) h hd (i := i) (by omega) (w := 2) (by omega)
    have e3 := v_stack (P := P) h hd (i := i) (by omega) (w := 3) (by omega)
    rw [s109_131]
    simp only [en109, s109_0, s109_3, s109_4, s109_5, s109_7, s109_9, s109_12, s109_15, s109_16, s109_17, s109_18, s109_19, s109_22, s109_23, s109_24, s109_25, s109_28, s109_31, s109_32, s109_34, s109_35, s109_36, s109_39, s109_42, s109_45, s109_48, s109_51, s109_52, s109_53, s109_54, s109_55, s109_56, s109_59, s109_60, s109_61, s109_62, s109_63, s109_64, s109_65, s109_68, s109_69, s109_70, s109_71, s109_72, s109_73, s109_74, s109_77, s109_78, s109_79, s109_80, s109_83, s109_86, s109_87, s109_89, s109_90, s109_91, s109_94, s109_97, s109_98, s109_102, s109_104, s109_107, s109_110, s109_111, s109_112, s109_113, s109_114, s109_116, s109_119, s109_120, s109_121, s109_122, s109_125, s109_128, s109_129, s109_133, s109_134, s109_135, s109_136, s109_139, s109_142, s109_145, s109_148, s109_151, s109_154, s109_155, s109_156, s109_157, s109_158, s109_160, s109_161, s109_164, s109_165, s109_166, s109_167, s109_168, s109_169, s109_171, s109_172, s109_175, s109_176, s109_177, s109_178, s109_179, s109_180, s109_182, s109_183, s109_186, s109_187, s109_188, s109_189, s109_190, s109_191, s109_193, s109_194, s109_197, s109_198, s109_199, s109_200, s109_203, s109_209, s109_212, s109_213, cont_some, rl_some, rl_none, if_true, if_false, kd_0, kd_1, kd_2, kd_5, kd_47, kd_141, kd_144, rf_0_0, rf_0_1, rf_0_2, rf_0_3, rf_0_4, rf_1_0, rf_1_1, rf_1_2, rf_2_0, rf_5_0, rf_5_1, rf_5_2, rf_5_3, rf_5_4, rf_5_5, rf_5_6, rf_5_7, rf_47_0, rf_141_0, rf_144_0, rf_144_1, kd_3, kd_6, kd_8, kd_10, kd_12, kd_14, kd_16, kd_18, kd_20, kd_22, kd_142, kd_145, kd_147, kd_24, v_held h hd, c1, e0, e1, e2, e3, ad_n i (by omega), st1_e]
    exact ih (i + 1) (by omega)
theorem lo_C (h : CB M n sp t hl) {x : Int64} : ∀ (m d : Nat) (l4 : AV), d + m = n → evL 109 88 [Rf 0, Lg (lk2 (fC M hl) x d), Db 0, I (d : Int), l4] [] (Hp M P) = some (some (Lg (lk2 (fC M hl) x n)), Hp M P) := by
  have h4 := h.cN.2
  intro m
  induction m with
  | zero =>
    intro d l4 hd
    have e : d = n := by omega
    subst e
    have c1 : (d : Int) ≤ (d : Int) := by omega
    rw [s109_88]
    simp only [en109, s109_0, s109_3, s109_4, s109_5, s109_7, s109_9, s109_12, s109_15, s109_16, s109_17, s109_18, s109_19, s109_22, s109_23, s109_24, s109_25, s109_28, s109_31, s109_32, s109_34, s109_35, s109_36, s109_39, s109_42, s109_45, s109_48, s109_51, s109_52, s109_53, s109_54, s109_55, s109_56, s109_59, s109_60, s109_61, s109_62, s109_63, s109_64, s109_65, s109_68, s109_69, s109_70, s109_71, s109_72, s109_73, s109_74, s109_77, s109_78, s109_79, s109_80, s109_83, s109_86, s109_87, s109_89, s109_90, s109_91, s109_94, s109_97, s109_98, s109_102, s109_104, s109_107, s109_110, s109_111, s109_112, s109_113, s109_114, s109_116, s109_119, s109_120, s109_121, s109_122, s109_125, s109_128, s109_129, s109_133, s109_134, s109_135, s109_136, s109_139, s109_142, s109_145, s109_148, s109_151, s109_154, s109_155, s109_156, s109_157, s109_158, s109_160, s109_161, s109_164, s109_165, s109_166, s109_167, s109_168, s109_169, s109_171, s109_172, s109_175, s109_176, s109_177, s109_178, s109_179, s109_180, s109_182, s109_183, s109_186, s109_187, s109_188, s109_189, s109_190, s109_191, s109_193, s109_194, s109_197, s109_198, s109_199, s109_200, s109_203, s109_206, s109_209, s109_212, s109_213, cont_some, rl_some, rl_none, if_true, if_false, kd_0, kd_1, kd_2, kd_5, kd_47, kd_141, kd_144, rf_0_0, rf_0_1, rf_0_2, rf_0_3, rf_0_4, rf_1_0, rf_1_1, rf_1_2, rf_2_0, rf_5_0, rf_5_1, rf_5_2, rf_5_3, rf_5_4, rf_5_5, rf_5_6, rf_5_7, rf_47_0, rf_141_0, rf_144_0, rf_144_1, kd_3, kd_6, kd_8, kd_10, kd_12, kd_14, kd_16, kd_18, kd_20, kd_22, kd_142, kd_145, kd_147, kd_24, v_c0 h, c1]
  | succ m ih =>
    intro d l4 hd
    have hdn : d < n := by omega
    have c1 : ¬ (n : Int) ≤ (d : Int) := by omega
    have a1 := lo_D (P := P) h hdn (x := lk2 (fC M hl) x d) 9 0 (by omega)
    have a2 := lo_E (P := P) h hdn (x := lk2 (fD M hl d) (lk2 (fC M hl) x d) 9) (hl d) 0 (by omega)
    have z0 : ((0 : Nat) : Int) = 0 := rfl
    rw [z0] at a1 a2
    have b1 : lk2 (fD M hl d) (lk2 (fC M hl) x d) 0 = lk2 (fC M hl) x d := rfl
    have b2 : lk2 (fE M d) (lk2 (fD M hl d) (lk2 (fC M hl) x d) 9) 0 = lk2 (fD M hl d) (lk2 (fC M hl) x d) 9 := rfl
    rw [b1] at a1
    rw [b2] at a2
    rw [s109_88]
    simp only [en109, s109_0, s109_3, s109_4, s109_5, s109_7, s109_9, s109_12, s109_15, s109_16, s109_17, s109_18, s109_19, s109_22, s109_23, s109_24, s109_25, s109_28, s109_31, s109_32, s109_34, s109_35, s109_36, s109_39, s109_42, s109_45, s109_48, s109_51, s109_52, s109_53, s109_54, s109_55, s109_56, s109_59, s109_60, s109_61, s109_62, s109_63, s109_64, s109_65, s109_68, s109_69, s109_70, s109_71, s109_72, s109_73, s109_74, s109_77, s109_78, s109_79, s109_80, s109_83, s109_86, s109_87, s109_89, s109_90, s109_91, s109_94, s109_97, s109_98, s109_102, s109_104, s109_107, s109_110, s109_111, s109_112, s109_113, s109_114, s109_116, s109_119, s109_120, s109_121, s109_122, s109_125, s109_128, s109_129, s109_133, s109_134, s109_135, s109_136, s109_139, s109_142, s109_145, s109_148, s109_151, s109_154, s109_155, s109_156, s109_157, s109_158, s109_160, s109_161, s109_164, s109_165, s109_166, s109_167, s109_168, s109_169, s109_171, s109_172, s109_175, s109_176, s109_177, s109_178, s109_179, s109_180, s109_182, s109_183, s109_186, s109_187, s109_188, s109_189, s109_190, s109_191, s109_193, s109_194, s109_197, s109_198, s109_199, s109_200, s109_203, s109_206, s109_209, s109_212, s109_213, cont_some, rl_some, rl_none, if_true, if_false, kd_0, kd_1, kd_2, kd_5, kd_47, kd_141, kd_144, rf_0_0, rf_0_1, rf_0_2, rf_0_3, rf_0_4, rf_1_0, rf_1_1, rf_1_2, rf_2_0, rf_5_0, rf_5_1, rf_5_2, rf_5_3, rf_5_4, rf_5_5, rf_5_6, rf_5_7, rf_47_0, rf_141_0, rf_144_0, rf_144_1, kd_3, kd_6, kd_8, kd_10, kd_12, kd_14, kd_16, kd_18, kd_20, kd_22, kd_142, kd_145, kd_147, kd_24, v_c0 h, c1, a1, a2, ad_n d (by omega)]
    exact ih (d + 1) _ (by omega)
theorem look_ev (h : CB M n sp t hl) (hT : CT M t) : evM 109 [Rf 0] (Hp M P) = some (some (Lg (lookG M n sp t hl)), Hp M P) := by
  have a1 := lo_A (P := P) h hT (l4 := Db 0) 14 0 (by omega)
  have a2 := lo_B (P := P) h (l4 := Db 0) (x := lk2 (fA M n sp t hl) (Int64.ofNat 373) 14) sp 0 (by omega)
  have a3 := lo_C (P := P) h (x := lk2 (fB M n) (lk2 (fA M n sp t hl) (Int64.ofNat 373) 14) sp) n 0 (Db 0) (by omega)
  have z0 : ((0 : Nat) : Int) = 0 := rfl
  have z1 : ((0 + 1 : Nat) : Int) = 1 := rfl
  rw [z0] at a1 a3
  rw [z1] at a2
  have b1 : lk2 (fA M n sp t hl) (Int64.ofNat 373) 0 = Int64.ofNat 373 := rfl
  have b2 : lk2 (fB M n) (lk2 (fA M n sp t hl) (Int64.ofNat 373) 14) 0 = lk2 (fA M n sp t hl) (Int64.ofNat 373) 14 := rfl
  have b3 : lk2 (fC M hl) (lk2 (fB M n) (lk2 (fA M n sp t hl) (Int64.ofNat 373) 14) sp) 0 = lk2 (fB M n) (lk2 (fA M n sp t hl) (Int64.ofNat 373) 14) sp := rfl
  rw [b1] at a1
  rw [b2] at a2
  rw [b3] at a3
  simp only [en109, s109_0, s109_3, s109_4, s109_5, s109_7, s109_9, s109_12, s109_15, s109_16, s109_17, s109_18, s109_19, s109_22, s109_23, s109_24, s109_25, s109_28, s109_31, s109_32, s109_34, s109_35, s109_36, s109_39, s109_42, s109_45, s109_48, s109_51, s109_52, s109_53, s109_54, s109_55, s109_56, s109_59, s109_60, s109_61, s109_62, s109_63, s109_64, s109_65, s109_68, s109_69, s109_70, s109_71, s109_72, s109_73, s109_74, s109_77, s109_78, s109_79, s109_80, s109_83, s109_86, s109_87, s109_89, s109_90, s109_91, s109_94, s109_97, s109_98, s109_102, s109_104, s109_107, s109_110, s109_111, s109_112, s109_113, s109_114, s109_116, s109_119, s109_120, s109_121, s109_122, s109_125, s109_128, s109_129, s109_133, s109_134, s109_135, s109_136, s109_139, s109_142, s109_145, s109_148, s109_151, s109_154, s109_155, s109_156, s109_157, s109_158, s109_160, s109_161, s109_164, s109_165, s109_166, s109_167, s109_168, s109_169, s109_171, s109_172, s109_175, s109_176, s109_177, s109_178, s109_179, s109_180, s109_182, s109_183, s109_186, s109_187, s109_188, s109_189, s109_190, s109_191, s109_193, s109_194, s109_197, s109_198, s109_199, s109_200, s109_203, s109_206, s109_209, s109_212, s109_213, cont_some, rl_some, rl_none, if_true, if_false, kd_0, kd_1, kd_2, kd_5, kd_47, kd_141, kd_144, rf_0_0, rf_0_1, rf_0_2, rf_0_3, rf_0_4, rf_1_0, rf_1_1, rf_1_2, rf_2_0, rf_5_0, rf_5_1, rf_5_2, rf_5_3, rf_5_4, rf_5_5, rf_5_6, rf_5_7, rf_47_0, rf_141_0, rf_144_0, rf_144_1, kd_3, kd_6, kd_8, kd_10, kd_12, kd_14, kd_16, kd_18, kd_20, kd_22, kd_142, kd_145, kd_147, kd_24, a1, a2, a3]
  rfl
/-- the digest of the game at M -/
def LK (M : Mem) (v : Int64) : Prop := ∃ n sp t hl, CB M n sp t hl ∧ CT M t ∧ v = lookG M n sp t hl
theorem stF_congr (e : ∀ o b, cS o b = true → N (o + 1) b = M (o + 1) b) {d i : Nat} (hd : d < 4) (hi : i < 6) {w : Int} : stF N d i w = stF M d i w := by
  have e15 : N 15 (6 * d + i) = M 15 (6 * d + i) := e 14 _ (cS_14 (by omega))
  unfold stF
  rw [e15]
theorem dvAt_congr {f g : Nat → Int} {s : Int} : ∀ (m d : Nat), (∀ e, e < d + m → f e = g e) → dvAt f s n m d = dvAt g s n m d := by
  intro m
  induction m with
  | zero => intro d _; rfl
  | succ m ih =>
    intro d h
    rw [dvAt, dvAt, h d (by omega), ih (d + 1) (fun e he => h e (by omega))]
theorem LK_det {n' sp' t' : Nat} {hl' : Nat → Nat} (h : CB M n sp t hl) (h' : CB N n' sp' t' hl') (e : ∀ o b, cS o b = true → N (o + 1) b = M (o + 1) b) : lookG N n' sp' t' hl' = lookG M n sp t hl := by
  have e1 : ∀ b, b = 3 ∨ b = 4 ∨ b = 5 ∨ b = 6 ∨ b = 7 ∨ b = 8 ∨ b = 9 → N 1 b = M 1 b := fun b x => e 0 b (cS_0 x)
  have en : n' = n := by have := h'.cN.1; rw [e 4 8 cS_4, h.cN.1] at this; omega
  have es : sp' = sp := by have := h'.cS.1; rw [e 1 1 cS_1, h.cS.1] at this; omega
  have et : t' = t := by have := h'.tt; rw [e1 5 (by omega), h.tt] at this; omega
  subst en; subst es; subst et
  have hn := h.cN.2
  have h16 := h.cS.2
  have er : ∀ o d, (o = 6 ∨ o = 8 ∨ o = 10 ∨ o = 12 ∨ o = 16 ∨ o = 18 ∨ o = 20) → d < 4 → N (o + 1) d = M (o + 1) d := fun o d x y => e o d (cS_r x y)
  have eh : ∀ d, d < n' → hl' d = hl d := by
    intro d hd
    have a := (h'.ch d hd).2
    rw [er 12 d (by omega) (by omega), (h.ch d hd).2] at a
    omega
  have e4 : ∀ s, s < 16 → N 4 (s + 1) = M 4 (s + 1) := fun s x => e 3 (s + 1) (cS_3 (by omega))
  have e15 : ∀ d i, d < 4 → i < 6 → N 15 (6 * d + i) = M 15 (6 * d + i) := fun d i x y => e 14 _ (cS_14 (by omega))
  have etr : ∀ d, d < n' → tr1 N hl' d = tr1 M hl d := by
    intro d hd
    have := (h.ch d hd).1
    unfold tr1
    rw [eh d hd]
    exact sumN_congr _ (fun i hi => by rw [e15 d i (by omega) (by omega)])
  have eva : ∀ d, d < n' → va1 N hl' d = va1 M hl d := by
    intro d hd
    have := (h.ch d hd).1
    unfold va1
    rw [eh d hd]
    exact sumN_congr _ (fun i hi => by rw [e15 d i (by omega) (by omega)])
  have ep : ∀ d, d < n' → ∀ w, pOf N hl' d w = pOf M hl d w := by
    intro d hd w
    unfold pOf
    rw [er 6 d (by omega) (by omega), er 8 d (by omega) (by omega), er 10 d (by omega) (by omega), er 12 d (by omega) (by omega), er 16 d (by omega) (by omega), er 18 d (by omega) (by omega), er 20 d (by omega) (by omega), etr d hd, eva d hd]
  have ec : ∀ k, cnF N n' sp' t' hl' k = cnF M n' sp' t' hl k := by
    intro k
    have a6 : sumN (bl1 N) sp' = sumN (bl1 M) sp' := sumN_congr _ (fun s hs => by unfold bl1; rw [e4 s (by omega)])
    have a7 : sumN (fun s => psum (N 4 (s + 1))) sp' = sumN (fun s => psum (M 4 (s + 1))) sp' := sumN_congr _ (fun s hs => by show psum (N 4 (s + 1)) = _; rw [e4 s (by omega)])
    have a8 : sumN (va1 N hl') n' = sumN (va1 M hl) n' := sumN_congr _ (fun d hd => eva d hd)
    have a9 : sumA (N 17) 4 = sumA (M 17) 4 := sumA_congr _ (fun d hd => er 16 d (by omega) hd)
    unfold cnF onF phF
    rw [e1 3 (by omega), e1 4 (by omega), e1 6 (by omega), e1 7 (by omega), e1 8 (by omega), e1 9 (by omega), a6, a7, a8, a9]
  unfold lookG
  have s1 : lk2 (fA N n' sp' t' hl') (Int64.ofNat 373) 14 = lk2 (fA M n' sp' t' hl) (Int64.ofNat 373) 14 := lk2_congr _ (fun k _ x => by unfold fA; rw [ec k])
  rw [s1]
  have s2 : ∀ x, lk2 (fB N n') x sp' = lk2 (fB M n') x sp' := fun x => lk2_congr _ (fun k hk x => by
    have a : ∀ w, spF N n' k w = spF M n' k w := fun w => by
      unfold spF
      rw [e4 k (by omega), dvAt_congr (f := N 7) (g := M 7) n' 0 (fun d hd => er 6 d (by omega) (by omega))]
    unfold fB
    rw [a, a, a])
  rw [s2]
  apply lk2_congr
  intro d hd x
  unfold fC
  have s3 : ∀ x, lk2 (fD N hl' d) x 9 = lk2 (fD M hl d) x 9 := fun x => lk2_congr _ (fun k _ y => by unfold fD; rw [ep d hd])
  rw [s3, eh d hd]
  apply lk2_congr
  intro i hi y
  have := (h.ch d hd).1
  unfold fE
  rw [stF_congr e (by omega) (by omega), stF_congr e (by omega) (by omega), stF_congr e (by omega) (by omega), stF_congr e (by omega) (by omega)]
end Look
