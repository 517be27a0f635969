section Ref7
variable {M : Mem} {P : PMem} {c : Mem} {n sp t : Nat} {hl : Nat → Nat}
theorem rdR_b (M : Mem) : 0 ≤ rdR M ∧ rdR M ≤ 2 := by unfold rdR; split; omega; split <;> omega
def mAt (M : Mem) (q : Nat) : Int := if q = 0 then 0 else M 150 (8 + q)
theorem m_atq {q : Nat} (h : q ≤ 16) : evM 119 [Rf 149, I (q : Int)] (Hp M P) = some (some (I (mAt M q)), Hp M P) := by
  cases q with
  | zero => exact m_at0
  | succ q =>
    have e : mAt M (q + 1) = M 150 (9 + q) := by unfold mAt; rw [if_neg (by omega), show 8 + (q + 1) = 9 + q by omega]
    rw [e]
    exact m_at (by omega)
/-! taking -/
def rtR (M : Mem) (h q : Nat) : Int := if rdR M ≤ 0 then (if (q : Int) = 0 then 5 else if mAt M q = 0 then 6 else if (h : Int) = 6 then 8 else 0) else rdR M
def tkR (M : Mem) (t h q : Nat) : Mem := wr (wr (wr M 150 (sl t (4 + h)) (mAt M q)) 150 (sl t 3) ((h + 1 : Nat) : Int)) 150 (8 + q) 0
theorem tk_why (ht : M 150 2 = (t : Int)) (h4 : t < 4) {h q : Nat} (hh : M 150 (sl t 3) = (h : Int)) (hq : M 150 (sl t 0) = (q : Int)) (hq16 : q ≤ 16) : evM 143 [Rf 149] (Hp M P) = evL 143 66 [Rf 149, I (t : Int), I (q : Int), I (rtR M h q), Db 0] [] (Hp M P) := by
  unfold rtR
  by_cases c1 : rdR M ≤ 0
  · rw [if_pos c1]
    by_cases c2 : (q : Int) = 0
    · rw [if_pos c2]
      simp only [en143, s143_0, s143_1, s143_4, s143_5, s143_6, s143_7, s143_8, s143_9, s143_10, s143_13, s143_14, s143_15, s143_18, s143_19, s143_20, s143_23, s143_24, s143_27, s143_28, s143_31, s143_32, s143_35, s143_36, s143_37, s143_40, s143_43, s143_45, s143_48, s143_49, s143_50, s143_51, s143_54, s143_56, s143_59, s143_61, s143_64, s143_65, s143_67, s143_70, s143_71, s143_72, s143_75, s143_76, s143_77, s143_78, s143_79, s143_82, s143_84, s143_85, s143_86, s143_87, s143_89, s143_90, s143_91, s143_92, s143_95, s143_98, s143_99, s143_100, s143_101, s143_103, s143_104, s143_105, s143_108, s143_109, s143_112, s143_114, s143_115, s143_116, s143_117, s143_118, s143_119, s143_120, s143_121, s143_124, s143_126, s143_128, s143_129, cont_some, rl_some, rl_none, if_true, if_false, kd_149, rf_149_0, rf_149_1, rf_149_3, rf_149_5, rf_149_9, rf_149_16, rf_149_17, kd_150, kd_151, kd_152, kd_153, kd_154, kd_155, kd_156, ln_150, ln_151, ln_152, ln_153, ln_154, ln_155, ln_156, Int.reduceLE, Int.reduceLT, Int.reduceToNat, Nat.reduceLT, Int.toNat_natCast, Int.natCast_nonneg, true_or, Int.one_ne_zero, ite_self, ht, m_of0 h4, hq, m_reasonD, c1, c2]
    · rw [if_neg c2]
      by_cases c3 : mAt M q = 0
      · rw [if_pos c3]
        simp only [en143, s143_0, s143_1, s143_4, s143_5, s143_6, s143_7, s143_8, s143_9, s143_10, s143_13, s143_14, s143_15, s143_18, s143_19, s143_20, s143_23, s143_24, s143_27, s143_28, s143_31, s143_32, s143_35, s143_36, s143_37, s143_40, s143_43, s143_45, s143_48, s143_49, s143_50, s143_51, s143_54, s143_56, s143_59, s143_61, s143_64, s143_65, s143_67, s143_70, s143_71, s143_72, s143_75, s143_76, s143_77, s143_78, s143_79, s143_82, s143_84, s143_85, s143_86, s143_87, s143_89, s143_90, s143_91, s143_92, s143_95, s143_98, s143_99, s143_100, s143_101, s143_103, s143_104, s143_105, s143_108, s143_109, s143_112, s143_114, s143_115, s143_116, s143_117, s143_118, s143_119, s143_120, s143_121, s143_124, s143_126, s143_128, s143_129, cont_some, rl_some, rl_none, if_true, if_false, kd_149, rf_149_0, rf_149_1, rf_149_3, rf_149_5, rf_149_9, rf_149_16, rf_149_17, kd_150, kd_151, kd_152, kd_153, kd_154, kd_155, kd_156, ln_150, ln_151, ln_152, ln_153, ln_154, ln_155, ln_156, Int.reduceLE, Int.reduceLT, Int.reduceToNat, Nat.reduceLT, Int.toNat_natCast, Int.natCast_nonneg, true_or, Int.one_ne_zero, ite_self, ht, m_of0 h4, hq, m_reasonD, c1, c2, m_atq hq16, c3]
      · rw [if_neg c3]
        by_cases c4 : (h : Int) = 6
        · rw [if_pos c4]
          simp only [en143, s143_0, s143_1, s143_4, s143_5, s143_6, s143_7, s143_8, s143_9, s143_10, s143_13, s143_14, s143_15, s143_18, s143_19, s143_20, s143_23, s143_24, s143_27, s143_28, s143_31, s143_32, s143_35, s143_36, s143_37, s143_40, s143_43, s143_45, s143_48, s143_49, s143_50, s143_51, s143_54, s143_56, s143_59, s143_61, s143_64, s143_65, s143_67, s143_70, s143_71, s143_72, s143_75, s143_76, s143_77, s143_78, s143_79, s143_82, s143_84, s143_85, s143_86, s143_87, s143_89, s143_90, s143_91, s143_92, s143_95, s143_98, s143_99, s143_100, s143_101, s143_103, s143_104, s143_105, s143_108, s143_109, s143_112, s143_114, s143_115, s143_116, s143_117, s143_118, s143_119, s143_120, s143_121, s143_124, s143_126, s143_128, s143_129, cont_some, rl_some, rl_none, if_true, if_false, kd_149, rf_149_0, rf_149_1, rf_149_3, rf_149_5, rf_149_9, rf_149_16, rf_149_17, kd_150, kd_151, kd_152, kd_153, kd_154, kd_155, kd_156, ln_150, ln_151, ln_152, ln_153, ln_154, ln_155, ln_156, Int.reduceLE, Int.reduceLT, Int.reduceToNat, Nat.reduceLT, Int.toNat_natCast, Int.natCast_nonneg, true_or, Int.one_ne_zero, ite_self, ht, m_of0 h4, hq, m_reasonD, c1, c2, m_atq hq16, c3, m_of3 h4, hh, c4]
        · rw [if_neg c4]
          simp only [en143, s143_0, s143_1, s143_4, s143_5, s143_6, s143_7, s143_8, s143_9, s143_10, s143_13, s143_14, s143_15, s143_18, s143_19, s143_20, s143_23, s143_24, s143_27, s143_28, s143_31, s143_32, s143_35, s143_36, s143_37, s143_40, s143_43, s143_45, s143_48, s143_49, s143_50, s143_51, s143_54, s143_56, s143_59, s143_61, s143_64, s143_65, s143_67, s143_70, s143_71, s143_72, s143_75, s143_76, s143_77, s143_78, s143_79, s143_82, s143_84, s143_85, s143_86, s143_87, s143_89, s143_90, s143_91, s143_92, s143_95, s143_98, s143_99, s143_100, s143_101, s143_103, s143_104, s143_105, s143_108, s143_109, s143_112, s143_114, s143_115, s143_116, s143_117, s143_118, s143_119, s143_120, s143_121, s143_124, s143_126, s143_128, s143_129, cont_some, rl_some, rl_none, if_true, if_false, kd_149, rf_149_0, rf_149_1, rf_149_3, rf_149_5, rf_149_9, rf_149_16, rf_149_17, kd_150, kd_151, kd_152, kd_153, kd_154, kd_155, kd_156, ln_150, ln_151, ln_152, ln_153, ln_154, ln_155, ln_156, Int.reduceLE, Int.reduceLT, Int.reduceToNat, Nat.reduceLT, Int.toNat_natCast, Int.natCast_nonneg, true_or, Int.one_ne_zero, ite_self, ht, m_of0 h4, hq, m_reasonD, c1, c2, m_atq hq16, c3, m_of3 h4, hh, c4]
  · rw [if_neg c1]
    simp only [en143, s143_0, s143_1, s143_4, s143_5, s143_6, s143_7, s143_8, s143_9, s143_10, s143_13, s143_14, s143_15, s143_18, s143_19, s143_20, s143_23, s143_24, s143_27, s143_28, s143_31, s143_32, s143_35, s143_36, s143_37, s143_40, s143_43, s143_45, s143_48, s143_49, s143_50, s143_51, s143_54, s143_56, s143_59, s143_61, s143_64, s143_65, s143_67, s143_70, s143_71, s143_72, s143_75, s143_76, s143_77, s143_78, s143_79, s143_82, s143_84, s143_85, s143_86, s143_87, s143_89, s143_90, s143_91, s143_92, s143_95, s143_98, s143_99, s143_100, s143_101, s143_103, s143_104, s143_105, s143_108, s143_109, s143_112, s143_114, s143_115, s143_116, s143_117, s143_118, s143_119, s143_120, s143_121, s143_124, s143_126, s143_128, s143_129, cont_some, rl_some, rl_none, if_true, if_false, kd_149, rf_149_0, rf_149_1, rf_149_3, rf_149_5, rf_149_9, rf_149_16, rf_149_17, kd_150, kd_151, kd_152, kd_153, kd_154, kd_155, kd_156, ln_150, ln_151, ln_152, ln_153, ln_154, ln_155, ln_156, Int.reduceLE, Int.reduceLT, Int.reduceToNat, Nat.reduceLT, Int.toNat_natCast, Int.natCast_nonneg, true_or, Int.one_ne_zero, ite_self, ht, m_of0 h4, hq, m_reasonD, c1]
theorem rtR_b (M : Mem) (h q : Nat) : 0 ≤ rtR M h q := by
  have := rdR_b M
  unfold rtR
  split
  · split; omega; split; omega; split <;> omega
  · omega
theorem m_takeNo (ht : M 150 2 = (t : Int)) (h4 : t < 4) {h q : Nat} (hh : M 150 (sl t 3) = (h : Int)) (hq : M 150 (sl t 0) = (q : Int)) (hq16 : q ≤ 16) (hr : rtR M h q ≠ 0) : evM 143 [Rf 149] (Hp M P) = some (some (I (rtR M h q)), Hp (wr M 150 7 (ad (M 150 7) 1)) P) := by
  have hb := rtR_b M h q
  have c1 : ¬ rtR M h q ≤ 0 := by omega
  rw [tk_why ht h4 hh hq hq16, s143_66]
  simp only [en143, s143_0, s143_1, s143_4, s143_5, s143_6, s143_7, s143_8, s143_9, s143_10, s143_13, s143_14, s143_15, s143_18, s143_19, s143_20, s143_23, s143_24, s143_27, s143_28, s143_31, s143_32, s143_35, s143_36, s143_37, s143_40, s143_43, s143_45, s143_48, s143_49, s143_50, s143_51, s143_54, s143_56, s143_59, s143_61, s143_64, s143_65, s143_67, s143_70, s143_71, s143_72, s143_75, s143_76, s143_77, s143_78, s143_79, s143_82, s143_84, s143_85, s143_86, s143_87, s143_89, s143_90, s143_91, s143_92, s143_95, s143_98, s143_99, s143_100, s143_101, s143_103, s143_104, s143_105, s143_108, s143_109, s143_112, s143_114, s143_115, s143_116, s143_117, s143_118, s143_119, s143_120, s143_121, s143_124, s143_126, s143_128, s143_129, cont_some, rl_some, rl_none, if_true, if_false, kd_149, rf_149_0, rf_149_1, rf_149_3, rf_149_5, rf_149_9, rf_149_16, rf_149_17, kd_150, kd_151, kd_152, kd_153, kd_154, kd_155, kd_156, ln_150, ln_151, ln_152, ln_153, ln_154, ln_155, ln_156, Int.reduceLE, Int.reduceLT, Int.reduceToNat, Nat.reduceLT, Int.toNat_natCast, Int.natCast_nonneg, true_or, Int.one_ne_zero, ite_self, c1, m_refuses]
theorem m_goTake (ht : M 150 2 = (t : Int)) (htn : t < n) (hn : n ≤ 4) {h q : Nat} (hh : M 150 (sl t 3) = (h : Int)) (h6 : h < 6) (hq : M 150 (sl t 0) = (q : Int)) (hq1 : 1 ≤ q) (hq16 : q ≤ 16) (hr : rtR M h q = 0) {c' : Mem} {hl' : Nat → Nat} (hE : EOk c' (tkR M t h q) n sp hl') : ∃ x, (∀ e, e < n → lk x e = true) ∧ evM 143 [Rf 149] (Hp M P) = some (some (I ((11 + h : Nat) : Int)), Hp (etR (tkR M t h q) c' n sp t hl' x) P) := by
  have h4 : t < 4 := by omega
  have s3 := sl_div (d := t) (w := 3) (by omega)
  have s4 := sl_div (d := t) (w := 4 + h) (by omega)
  have ne : sl t 3 ≠ sl t (4 + h) := fun h => by have := (sl_inj (by omega) (by omega) h).2; omega
  have ht' : tkR M t h q 150 2 = (t : Int) := by unfold tkR; rw [wr_app, if_neg (by omega), wr_app, if_neg (by omega), wr_app, if_neg (by omega)]; exact ht
  obtain ⟨x, x1, x2⟩ := m_endsTurn (P := P) hE ht' htn
  refine ⟨x, x1, ?_⟩
  have e1 : ad 4 (h : Int) = ((4 + h : Nat) : Int) := by rw [ad_eq (by omega) (by omega)]; omega
  have e2 : ad (h : Int) 1 = ((h + 1 : Nat) : Int) := ad_n h (by omega)
  have e3 : sb (ad 9 (q : Int)) 1 = ((8 + q : Nat) : Int) := by rw [ad_eq (by omega) (by omega), sb_eq (by omega) (by omega)]; omega
  have e4 : ad 11 (h : Int) = ((11 + h : Nat) : Int) := by rw [ad_eq (by omega) (by omega)]; omega
  have b1 : 8 + q < 77 := by omega
  have em : wr (wr (wr M 150 (sl t (4 + h)) (mAt M q)) 150 (sl t 3) ((h + 1 : Nat) : Int)) 150 (8 + q) 0 = tkR M t h q := rfl
  rw [tk_why ht h4 hh hq hq16, s143_66, hr]
  simp only [en143, s143_0, s143_1, s143_4, s143_5, s143_6, s143_7, s143_8, s143_9, s143_10, s143_13, s143_14, s143_15, s143_18, s143_19, s143_20, s143_23, s143_24, s143_27, s143_28, s143_31, s143_32, s143_35, s143_36, s143_37, s143_40, s143_43, s143_45, s143_48, s143_49, s143_50, s143_51, s143_54, s143_56, s143_59, s143_61, s143_64, s143_65, s143_67, s143_70, s143_71, s143_72, s143_75, s143_76, s143_77, s143_78, s143_79, s143_82, s143_84, s143_85, s143_86, s143_87, s143_89, s143_90, s143_91, s143_92, s143_95, s143_98, s143_99, s143_100, s143_101, s143_103, s143_104, s143_105, s143_108, s143_109, s143_112, s143_114, s143_115, s143_116, s143_117, s143_118, s143_119, s143_120, s143_121, s143_124, s143_126, s143_128, s143_129, cont_some, rl_some, rl_none, if_true, if_false, kd_149, rf_149_0, rf_149_1, rf_149_3, rf_149_5, rf_149_9, rf_149_16, rf_149_17, kd_150, kd_151, kd_152, kd_153, kd_154, kd_155, kd_156, ln_150, ln_151, ln_152, ln_153, ln_154, ln_155, ln_156, Int.reduceLE, Int.reduceLT, Int.reduceToNat, Nat.reduceLT, Int.toNat_natCast, Int.natCast_nonneg, true_or, Int.one_ne_zero, ite_self, m_of3 h4, hh, e1, m_atq hq16, m_lay (w := 4 + h) h4 (by omega), e2, m_lay3 h4, e3, b1, em, x2, e4]
/-! nothing -/
theorem m_nothNo (hr : rdR M ≠ 0) : evM 145 [Rf 149] (Hp M P) = some (some (I (rdR M)), Hp (wr M 150 7 (ad (M 150 7) 1)) P) := by
  have hb := rdR_b M
  have c1 : ¬ rdR M ≤ 0 := by omega
  simp only [en145, s145_0, s145_1, s145_4, s145_5, s145_6, s145_9, s145_10, s145_11, s145_14, s145_15, s145_16, s145_19, s145_21, cont_some, rl_some, rl_none, if_true, if_false, kd_149, rf_149_0, rf_149_1, rf_149_3, rf_149_5, rf_149_9, rf_149_16, rf_149_17, kd_150, kd_151, kd_152, kd_153, kd_154, kd_155, kd_156, ln_150, ln_151, ln_152, ln_153, ln_154, ln_155, ln_156, Int.reduceLE, Int.reduceLT, Int.reduceToNat, Nat.reduceLT, Int.toNat_natCast, Int.natCast_nonneg, true_or, Int.one_ne_zero, ite_self, m_reasonD, c1, m_refuses]
theorem m_goNoth (hr : rdR M = 0) (ht : M 150 2 = (t : Int)) (htn : t < n) (hE : EOk c M n sp hl) : ∃ x, (∀ e, e < n → lk x e = true) ∧ evM 145 [Rf 149] (Hp M P) = some (some (I 10), Hp (etR M c n sp t hl x) P) := by
  obtain ⟨x, x1, x2⟩ := m_endsTurn (P := P) hE ht htn
  refine ⟨x, x1, ?_⟩
  simp only [en145, s145_0, s145_1, s145_4, s145_5, s145_6, s145_9, s145_10, s145_11, s145_14, s145_15, s145_16, s145_19, s145_21, cont_some, rl_some, rl_none, if_true, if_false, kd_149, rf_149_0, rf_149_1, rf_149_3, rf_149_5, rf_149_9, rf_149_16, rf_149_17, kd_150, kd_151, kd_152, kd_153, kd_154, kd_155, kd_156, ln_150, ln_151, ln_152, ln_153, ln_154, ln_155, ln_156, Int.reduceLE, Int.reduceLT, Int.reduceToNat, Nat.reduceLT, Int.toNat_natCast, Int.natCast_nonneg, true_or, Int.one_ne_zero, ite_self, m_reasonD, hr, x2]
/-! laying -/
def rlR (M : Mem) (h q : Nat) (st : Int) : Int := if rdR M ≤ 0 then (if (q : Int) = 0 then 5 else if 0 ≤ st ∧ st < (h : Int) then (if mAt M q ≤ 0 then 0 else 7) else 6) else rdR M
theorem rlR_b (M : Mem) (h q : Nat) (st : Int) : 0 ≤ rlR M h q st := by
  have := rdR_b M
  unfold rlR
  split
  · split; omega; split; split <;> omega; omega
  · omega
theorem ly_why (ht : M 150 2 = (t : Int)) (h4 : t < 4) {h q : Nat} (hh : M 150 (sl t 3) = (h : Int)) (h6 : h ≤ 6) (hq : M 150 (sl t 0) = (q : Int)) (hq16 : q ≤ 16) {st : Int} : evM 144 [Rf 149, I st] (Hp M P) = evL 144 75 [Rf 149, I st, I (t : Int), I (q : Int), I (rlR M h q st), Db 0, Db 0] [] (Hp M P) := by
  have e1 : sb (h : Int) 1 = (h : Int) - 1 := sb_eq (by omega) (by omega)
  have e2 : (0 ≤ st ∧ st ≤ (h : Int) - 1) ↔ (0 ≤ st ∧ st < (h : Int)) := by omega
  unfold rlR
  by_cases c1 : rdR M ≤ 0
  · rw [if_pos c1]
    by_cases c2 : (q : Int) = 0
    · rw [if_pos c2]
      simp only [en144, s144_0, s144_1, s144_4, s144_5, s144_6, s144_7, s144_8, s144_9, s144_10, s144_13, s144_14, s144_15, s144_18, s144_20, s144_22, s144_25, s144_27, s144_30, s144_31, s144_34, s144_35, s144_38, s144_39, s144_40, s144_41, s144_42, s144_43, s144_46, s144_47, s144_48, s144_51, s144_54, s144_56, s144_59, s144_60, s144_61, s144_64, s144_67, s144_69, s144_72, s144_73, s144_77, s144_80, s144_81, s144_83, s144_86, s144_87, s144_88, s144_91, s144_93, s144_94, s144_95, s144_96, s144_97, s144_98, s144_99, s144_100, s144_101, s144_102, s144_105, s144_106, s144_107, s144_108, s144_109, s144_112, s144_113, s144_114, s144_116, s144_117, s144_119, s144_121, s144_123, s144_126, s144_127, s144_128, s144_129, s144_131, s144_132, s144_133, s144_134, s144_135, s144_137, s144_138, s144_139, s144_140, s144_143, s144_146, s144_149, s144_152, s144_153, s144_154, s144_155, s144_157, s144_158, s144_159, s144_162, s144_163, s144_164, s144_165, s144_167, s144_170, s144_171, s144_174, s144_176, s144_178, s144_179, cont_some, rl_some, rl_none, if_true, if_false, kd_149, rf_149_0, rf_149_1, rf_149_3, rf_149_5, rf_149_9, rf_149_16, rf_149_17, kd_150, kd_151, kd_152, kd_153, kd_154, kd_155, kd_156, ln_150, ln_151, ln_152, ln_153, ln_154, ln_155, ln_156, Int.reduceLE, Int.reduceLT, Int.reduceToNat, Nat.reduceLT, Int.toNat_natCast, Int.natCast_nonneg, true_or, Int.one_ne_zero, ite_self, ht, m_of0 h4, hq, m_reasonD, c1, c2]
    · rw [if_neg c2]
      by_cases c3 : 0 ≤ st ∧ st < (h : Int)
      · rw [if_pos c3]
        have e2t : (if 0 ≤ st ∧ st ≤ (h : Int) - 1 then (1 : Int) else 0) = 1 := if_pos (e2.2 c3)
        by_cases c4 : mAt M q ≤ 0
        · rw [if_pos c4]
          simp only [en144, s144_0, s144_1, s144_4, s144_5, s144_6, s144_7, s144_8, s144_9, s144_10, s144_13, s144_14, s144_15, s144_18, s144_20, s144_22, s144_25, s144_27, s144_30, s144_31, s144_34, s144_35, s144_38, s144_39, s144_40, s144_41, s144_42, s144_43, s144_46, s144_47, s144_48, s144_51, s144_54, s144_56, s144_59, s144_60, s144_61, s144_64, s144_67, s144_69, s144_72, s144_73, s144_77, s144_80, s144_81, s144_83, s144_86, s144_87, s144_88, s144_91, s144_93, s144_94, s144_95, s144_96, s144_97, s144_98, s144_99, s144_100, s144_101, s144_102, s144_105, s144_106, s144_107, s144_108, s144_109, s144_112, s144_113, s144_114, s144_116, s144_117, s144_119, s144_121, s144_123, s144_126, s144_127, s144_128, s144_129, s144_131, s144_132, s144_133, s144_134, s144_135, s144_137, s144_138, s144_139, s144_140, s144_143, s144_146, s144_149, s144_152, s144_153, s144_154, s144_155, s144_157, s144_158, s144_159, s144_162, s144_163, s144_164, s144_165, s144_167, s144_170, s144_171, s144_174, s144_176, s144_178, s144_179, cont_some, rl_some, rl_none, if_true, if_false, kd_149, rf_149_0, rf_149_1, rf_149_3, rf_149_5, rf_149_9, rf_149_16, rf_149_17, kd_150, kd_151, kd_152, kd_153, kd_154, kd_155, kd_156, ln_150, ln_151, ln_152, ln_153, ln_154, ln_155, ln_156, Int.reduceLE, Int.reduceLT, Int.reduceToNat, Nat.reduceLT, Int.toNat_natCast, Int.natCast_nonneg, true_or, Int.one_ne_zero, ite_self, ht, m_of0 h4, hq, m_reasonD, c1, c2, m_of3 h4, hh, e1, m_in, e2t, m_atq hq16, c4]
        · rw [if_neg c4]
          simp only [en144, s144_0, s144_1, s144_4, s144_5, s144_6, s144_7, s144_8, s144_9, s144_10, s144_13, s144_14, s144_15, s144_18, s144_20, s144_22, s144_25, s144_27, s144_30, s144_31, s144_34, s144_35, s144_38, s144_39, s144_40, s144_41, s144_42, s144_43, s144_46, s144_47, s144_48, s144_51, s144_54, s144_56, s144_59, s144_60, s144_61, s144_64, s144_67, s144_69, s144_72, s144_73, s144_77, s144_80, s144_81, s144_83, s144_86, s144_87, s144_88, s144_91, s144_93, s144_94, s144_95, s144_96, s144_97, s144_98, s144_99, s144_100, s144_101, s144_102, s144_105, s144_106, s144_107, s144_108, s144_109, s144_112, s144_113, s144_114, s144_116, s144_117, s144_119, s144_121, s144_123, s144_126, s144_127, s144_128, s144_129, s144_131, s144_132, s144_133, s144_134, s144_135, s144_137, s144_138, s144_139, s144_140, s144_143, s144_146, s144_149, s144_152, s144_153, s144_154, s144_155, s144_157, s144_158, s144_159, s144_162, s144_163, s144_164, s144_165, s144_167, s144_170, s144_171, s144_174, s144_176, s144_178, s144_179, cont_some, rl_some, rl_none, if_true, if_false, kd_149, rf_149_0, rf_149_1, rf_149_3, rf_149_5, rf_149_9, rf_149_16, rf_149_17, kd_150, kd_151, kd_152, kd_153, kd_154, kd_155, kd_156, ln_150, ln_151, ln_152, ln_153, ln_154, ln_155, ln_156, Int.reduceLE, Int.reduceLT, Int.reduceToNat, Nat.reduceLT, Int.toNat_natCast, Int.natCast_nonneg, true_or, Int.one_ne_zero, ite_self, ht, m_of0 h4, hq, m_reasonD, c1, c2, m_of3 h4, hh, e1, m_in, e2t, m_atq hq16, c4]
      · rw [if_neg c3]
        simp only [en144, s144_0, s144_1, s144_4, s144_5, s144_6, s144_7, s144_8, s144_9, s144_10, s144_13, s144_14, s144_15, s144_18, s144_20, s144_22, s144_25, s144_27, s144_30, s144_31, s144_34, s144_35, s144_38, s144_39, s144_40, s144_41, s144_42, s144_43, s144_46, s144_47, s144_48, s144_51, s144_54, s144_56, s144_59, s144_60, s144_61, s144_64, s144_67, s144_69, s144_72, s144_73, s144_77, s144_80, s144_81, s144_83, s144_86, s144_87, s144_88, s144_91, s144_93, s144_94, s144_95, s144_96, s144_97, s144_98, s144_99, s144_100, s144_101, s144_102, s144_105, s144_106, s144_107, s144_108, s144_109, s144_112, s144_113, s144_114, s144_116, s144_117, s144_119, s144_121, s144_123, s144_126, s144_127, s144_128, s144_129, s144_131, s144_132, s144_133, s144_134, s144_135, s144_137, s144_138, s144_139, s144_140, s144_143, s144_146, s144_149, s144_152, s144_153, s144_154, s144_155, s144_157, s144_158, s144_159, s144_162, s144_163, s144_164, s144_165, s144_167, s144_170, s144_171, s144_174, s144_176, s144_178, s144_179, cont_some, rl_some, rl_none, if_true, if_false, kd_149, rf_149_0, rf_149_1, rf_149_3, rf_149_5, rf_149_9, rf_149_16, rf_149_17, kd_150, kd_151, kd_152, kd_153, kd_154, kd_155, kd_156, ln_150, ln_151, ln_152, ln_153, ln_154, ln_155, ln_156, Int.reduceLE, Int.reduceLT, Int.reduceToNat, Nat.reduceLT, Int.toNat_natCast, Int.natCast_nonneg, true_or, Int.one_ne_zero, ite_self, ht, m_of0 h4, hq, m_reasonD, c1, c2, m_of3 h4, hh, e1, m_in, e2, c3]
  · rw [if_neg c1]
    simp only [en144, s144_0, s144_1, s144_4, s144_5, s144_6, s144_7, s144_8, s144_9, s144_10, s144_13, s144_14, s144_15, s144_18, s144_20, s144_22, s144_25, s144_27, s144_30, s144_31, s144_34, s144_35, s144_38, s144_39, s144_40, s144_41, s144_42, s144_43, s144_46, s144_47, s144_48, s144_51, s144_54, s144_56, s144_59, s144_60, s144_61, s144_64, s144_67, s144_69, s144_72, s144_73, s144_77, s144_80, s144_81, s144_83, s144_86, s144_87, s144_88, s144_91, s144_93, s144_94, s144_95, s144_96, s144_97, s144_98, s144_99, s144_100, s144_101, s144_102, s144_105, s144_106, s144_107, s144_108, s144_109, s144_112, s144_113, s144_114, s144_116, s144_117, s144_119, s144_121, s144_123, s144_126, s144_127, s144_128, s144_129, s144_131, s144_132, s144_133, s144_134, s144_135, s144_137, s144_138, s144_139, s144_140, s144_143, s144_146, s144_149, s144_152, s144_153, s144_154, s144_155, s144_157, s144_158, s144_159, s144_162, s144_163, s144_164, s144_165, s144_167, s144_170, s144_171, s144_174, s144_176, s144_178, s144_179, cont_some, rl_some, rl_none, if_true, if_false, kd_149, rf_149_0, rf_149_1, rf_149_3, rf_149_5, rf_149_9, rf_149_16, rf_149_17, kd_150, kd_151, kd_152, kd_153, kd_154, kd_155, kd_156, ln_150, ln_151, ln_152, ln_153, ln_154, ln_155, ln_156, Int.reduceLE, Int.reduceLT, Int.reduceToNat, Nat.reduceLT, Int.toNat_natCast, Int.natCast_nonneg, true_or, Int.one_ne_zero, ite_self, ht, m_of0 h4, hq, m_reasonD, c1]
theorem m_layNo (ht : M 150 2 = (t : Int)) (h4 : t < 4) {h q : Nat} (hh : M 150 (sl t 3) = (h : Int)) (h6 : h ≤ 6) (hq : M 150 (sl t 0) = (q : Int)) (hq16 : q ≤ 16) {st : Int} (hr : rlR M h q st ≠ 0) : evM 144 [Rf 149, I st] (Hp M P) = some (some (I (rlR M h q st)), Hp (wr M 150 7 (ad (M 150 7) 1)) P) := by
  have hb := rlR_b M h q st
  have c1 : ¬ rlR M h q st ≤ 0 := by omega
  rw [ly_why ht h4 hh h6 hq hq16, s144_75]
  simp only [en144, s144_0, s144_1, s144_4, s144_5, s144_6, s144_7, s144_8, s144_9, s144_10, s144_13, s144_14, s144_15, s144_18, s144_20, s144_22, s144_25, s144_27, s144_30, s144_31, s144_34, s144_35, s144_38, s144_39, s144_40, s144_41, s144_42, s144_43, s144_46, s144_47, s144_48, s144_51, s144_54, s144_56, s144_59, s144_60, s144_61, s144_64, s144_67, s144_69, s144_72, s144_73, s144_77, s144_80, s144_81, s144_83, s144_86, s144_87, s144_88, s144_91, s144_93, s144_94, s144_95, s144_96, s144_97, s144_98, s144_99, s144_100, s144_101, s144_102, s144_105, s144_106, s144_107, s144_108, s144_109, s144_112, s144_113, s144_114, s144_116, s144_117, s144_119, s144_121, s144_123, s144_126, s144_127, s144_128, s144_129, s144_131, s144_132, s144_133, s144_134, s144_135, s144_137, s144_138, s144_139, s144_140, s144_143, s144_146, s144_149, s144_152, s144_153, s144_154, s144_155, s144_157, s144_158, s144_159, s144_162, s144_163, s144_164, s144_165, s144_167, s144_170, s144_171, s144_174, s144_176, s144_178, s144_179, cont_some, rl_some, rl_none, if_true, if_false, kd_149, rf_149_0, rf_149_1, rf_149_3, rf_149_5, rf_149_9, rf_149_16, rf_149_17, kd_150, kd_151, kd_152, kd_153, kd_154, kd_155, kd_156, ln_150, ln_151, ln_152, ln_153, ln_154, ln_155, ln_156, Int.reduceLE, Int.reduceLT, Int.reduceToNat, Nat.reduceLT, Int.toNat_natCast, Int.natCast_nonneg, true_or, Int.one_ne_zero, ite_self, c1, m_refuses]
/-- the diver's stacks from i on, up to j, one place back -/
def shR (M : Mem) (t i j : Nat) : Mem := fun a b => if a = 150 ∧ sl t (4 + i) ≤ b ∧ b < sl t (4 + j) then M 150 (b + 1) else M a b
theorem shR_0 {i : Nat} : shR M t i i = M := by
  funext a b
  unfold shR
  rw [if_neg (by omega)]
theorem shR_step {i j : Nat} (h : i ≤ j) : wr (shR M t i j) 150 (sl t (4 + j)) (shR M t i j 150 (sl t (4 + (j + 1)))) = shR M t i (j + 1) := by
  have e : shR M t i j 150 (sl t (4 + (j + 1))) = M 150 (sl t (4 + j) + 1) := by
    unfold shR
    rw [if_neg (by unfold sl; omega)]
    congr 1
  rw [e]
  funext a b
  rw [wr_app]
  unfold shR
  by_cases h1 : a = 150 ∧ b = sl t (4 + j)
  · rw [if_pos h1, if_pos (by unfold sl at *; omega), h1.2]
  · rw [if_neg h1]
    by_cases h2 : a = 150 ∧ sl t (4 + i) ≤ b ∧ b < sl t (4 + j)
    · rw [if_pos h2, if_pos (by unfold sl at *; omega)]
    · rw [if_neg h2, if_neg (by unfold sl at *; omega)]
theorem ly_sh (h4 : t < 4) {l1 l3 l4 : AV} {i k : Nat} (hk : k < 6) : ∀ (m j : Nat), j + m = k → i ≤ j → evL 144 119 [Rf 149, l1, I (t : Int), l3, l4, I (k : Int), I (j : Int)] [] (Hp (shR M t i j) P) = evL 144 152 [Rf 149, l1, I (t : Int), l3, l4, I (k : Int), I (k : Int)] [] (Hp (shR M t i k) P) := by
  intro m
  induction m with
  | zero =>
    intro j hj _
    have e : j = k := by omega
    subst e
    rw [s144_119]
    simp only [en144, s144_0, s144_1, s144_4, s144_5, s144_6, s144_7, s144_8, s144_9, s144_10, s144_13, s144_14, s144_15, s144_18, s144_20, s144_22, s144_25, s144_27, s144_30, s144_31, s144_34, s144_35, s144_38, s144_39, s144_40, s144_41, s144_42, s144_43, s144_46, s144_47, s144_48, s144_51, s144_54, s144_56, s144_59, s144_60, s144_61, s144_64, s144_67, s144_69, s144_72, s144_73, s144_75, s144_77, s144_80, s144_81, s144_83, s144_86, s144_87, s144_88, s144_91, s144_93, s144_94, s144_95, s144_96, s144_97, s144_98, s144_99, s144_100, s144_101, s144_102, s144_105, s144_106, s144_107, s144_108, s144_109, s144_112, s144_113, s144_114, s144_116, s144_117, s144_121, s144_123, s144_126, s144_127, s144_128, s144_129, s144_131, s144_132, s144_133, s144_134, s144_135, s144_137, s144_138, s144_139, s144_140, s144_143, s144_146, s144_149, s144_153, s144_154, s144_155, s144_157, s144_158, s144_159, s144_162, s144_163, s144_164, s144_165, s144_167, s144_170, s144_171, s144_174, s144_176, s144_178, s144_179, cont_some, rl_some, rl_none, if_true, if_false, kd_149, rf_149_0, rf_149_1, rf_149_3, rf_149_5, rf_149_9, rf_149_16, rf_149_17, kd_150, kd_151, kd_152, kd_153, kd_154, kd_155, kd_156, ln_150, ln_151, ln_152, ln_153, ln_154, ln_155, ln_156, Int.reduceLE, Int.reduceLT, Int.reduceToNat, Nat.reduceLT, Int.toNat_natCast, Int.natCast_nonneg, true_or, Int.one_ne_zero, ite_self, Int.le_refl]
  | succ m ih =>
    intro j hj hi
    have c1 : ¬ (k : Int) ≤ (j : Int) := by omega
    have e1 : ad 4 (j : Int) = ((4 + j : Nat) : Int) := by rw [ad_eq (by omega) (by omega)]; omega
    have e2 : ad ((4 + j : Nat) : Int) 1 = ((4 + (j + 1) : Nat) : Int) := ad_n (4 + j) (by omega)
    have hs := shR_step (M := M) (t := t) hi
    rw [s144_119]
    simp only [en144, s144_0, s144_1, s144_4, s144_5, s144_6, s144_7, s144_8, s144_9, s144_10, s144_13, s144_14, s144_15, s144_18, s144_20, s144_22, s144_25, s144_27, s144_30, s144_31, s144_34, s144_35, s144_38, s144_39, s144_40, s144_41, s144_42, s144_43, s144_46, s144_47, s144_48, s144_51, s144_54, s144_56, s144_59, s144_60, s144_61, s144_64, s144_67, s144_69, s144_72, s144_73, s144_75, s144_77, s144_80, s144_81, s144_83, s144_86, s144_87, s144_88, s144_91, s144_93, s144_94, s144_95, s144_96, s144_97, s144_98, s144_99, s144_100, s144_101, s144_102, s144_105, s144_106, s144_107, s144_108, s144_109, s144_112, s144_113, s144_114, s144_116, s144_117, s144_121, s144_123, s144_126, s144_127, s144_128, s144_129, s144_131, s144_132, s144_133, s144_134, s144_135, s144_137, s144_138, s144_139, s144_140, s144_143, s144_146, s144_149, s144_153, s144_154, s144_155, s144_157, s144_158, s144_159, s144_162, s144_163, s144_164, s144_165, s144_167, s144_170, s144_171, s144_174, s144_176, s144_178, s144_179, cont_some, rl_some, rl_none, if_true, if_false, kd_149, rf_149_0, rf_149_1, rf_149_3, rf_149_5, rf_149_9, rf_149_16, rf_149_17, kd_150, kd_151, kd_152, kd_153, kd_154, kd_155, kd_156, ln_150, ln_151, ln_152, ln_153, ln_154, ln_155, ln_156, Int.reduceLE, Int.reduceLT, Int.reduceToNat, Nat.reduceLT, Int.toNat_natCast, Int.natCast_nonneg, true_or, Int.one_ne_zero, ite_self, c1, e1, e2, m_of (w := 4 + (j + 1)) h4 (by omega), m_lay (w := 4 + j) h4 (by omega), hs, ad_n j (by omega)]
    exact ih (j + 1) (by omega) (by omega)
def lyR (M : Mem) (t k q i : Nat) : Mem := wr (wr (shR (wr M 150 (8 + q) (M 150 (sl t (4 + i)))) t i k) 150 (sl t (4 + k)) 0) 150 (sl t 3) (k : Int)
theorem m_goLay (ht : M 150 2 = (t : Int)) (htn : t < n) (hn : n ≤ 4) {k q i : Nat} (hh : M 150 (sl t 3) = ((k + 1 : Nat) : Int)) (h6 : k < 6) (hi : i ≤ k) (hq : M 150 (sl t 0) = (q : Int)) (hq1 : 1 ≤ q) (hq16 : q ≤ 16) (hr : rlR M (k + 1) q (i : Int) = 0) {c' : Mem} {hl' : Nat → Nat} (hE : EOk c' (lyR M t k q i) n sp hl') : ∃ x, (∀ e, e < n → lk x e = true) ∧ evM 144 [Rf 149, I (i : Int)] (Hp M P) = some (some (I ((10 + k : Nat) : Int)), Hp (etR (lyR M t k q i) c' n sp t hl' x) P) := by
  have h4 : t < 4 := by omega
  have s3 := sl_div (d := t) (w := 3) (by omega)
  have sk := sl_div (d := t) (w := 4 + k) (by omega)
  have si := sl_div (d := t) (w := 4 + i) (by omega)
  have ht' : lyR M t k q i 150 2 = (t : Int) := by
    unfold lyR shR
    rw [wr_app, if_neg (by omega), wr_app, if_neg (by omega), if_neg (by omega), wr_app, if_neg (by omega)]
    exact ht
  obtain ⟨x, x1, x2⟩ := m_endsTurn (P := P) hE ht' htn
  refine ⟨x, x1, ?_⟩
  obtain ⟨A, eA⟩ : ∃ A, A = wr M 150 (8 + q) (M 150 (sl t (4 + i))) := ⟨_, rfl⟩
  have a3 : A 150 (sl t 3) = ((k + 1 : Nat) : Int) := by rw [eA, wr_app, if_neg (by omega)]; exact hh
  have e1 : ad 4 (i : Int) = ((4 + i : Nat) : Int) := by rw [ad_eq (by omega) (by omega)]; omega
  have e1k : ad 4 (k : Int) = ((4 + k : Nat) : Int) := by rw [ad_eq (by omega) (by omega)]; omega
  have e2 : sb ((k + 1 : Nat) : Int) 1 = (k : Int) := by rw [sb_eq (by omega) (by omega)]; omega
  have e3 : sb (ad 9 (q : Int)) 1 = ((8 + q : Nat) : Int) := by rw [ad_eq (by omega) (by omega), sb_eq (by omega) (by omega)]; omega
  have e4 : ad 10 (k : Int) = ((10 + k : Nat) : Int) := by rw [ad_eq (by omega) (by omega)]; omega
  have b1 : 8 + q < 77 := by omega
  have hsh := ly_sh (M := A) (P := P) h4 (l1 := I (i : Int)) (l3 := I (q : Int)) (l4 := I 0) (i := i) h6 (k - i) i (by omega) (by omega)
  rw [shR_0] at hsh
  have em : wr (wr (shR A t i k) 150 (sl t (4 + k)) 0) 150 (sl t 3) (k : Int) = lyR M t k q i := by rw [eA]; rfl
  rw [ly_why ht h4 hh (by omega) hq hq16, s144_75, hr]
  simp only [en144, s144_0, s144_1, s144_4, s144_5, s144_6, s144_7, s144_8, s144_9, s144_10, s144_13, s144_14, s144_15, s144_18, s144_20, s144_22, s144_25, s144_27, s144_30, s144_31, s144_34, s144_35, s144_38, s144_39, s144_40, s144_41, s144_42, s144_43, s144_46, s144_47, s144_48, s144_51, s144_54, s144_56, s144_59, s144_60, s144_61, s144_64, s144_67, s144_69, s144_72, s144_73, s144_77, s144_80, s144_81, s144_83, s144_86, s144_87, s144_88, s144_91, s144_93, s144_94, s144_95, s144_96, s144_97, s144_98, s144_99, s144_100, s144_101, s144_102, s144_105, s144_106, s144_107, s144_108, s144_109, s144_112, s144_113, s144_114, s144_116, s144_117, s144_121, s144_123, s144_126, s144_127, s144_128, s144_129, s144_131, s144_132, s144_133, s144_134, s144_135, s144_137, s144_138, s144_139, s144_140, s144_143, s144_146, s144_149, s144_153, s144_154, s144_155, s144_157, s144_158, s144_159, s144_162, s144_163, s144_164, s144_165, s144_167, s144_170, s144_171, s144_174, s144_176, s144_178, s144_179, cont_some, rl_some, rl_none, if_true, if_false, kd_149, rf_149_0, rf_149_1, rf_149_3, rf_149_5, rf_149_9, rf_149_16, rf_149_17, kd_150, kd_151, kd_152, kd_153, kd_154, kd_155, kd_156, ln_150, ln_151, ln_152, ln_153, ln_154, ln_155, ln_156, Int.reduceLE, Int.reduceLT, Int.reduceToNat, Nat.reduceLT, Int.toNat_natCast, Int.natCast_nonneg, true_or, Int.one_ne_zero, ite_self, e3, m_of (w := 4 + i) h4 (by omega), e1, b1, ← eA, m_of3 h4, a3, e2]
  rw [hsh, s144_152]
  simp only [en144, s144_0, s144_1, s144_4, s144_5, s144_6, s144_7, s144_8, s144_9, s144_10, s144_13, s144_14, s144_15, s144_18, s144_20, s144_22, s144_25, s144_27, s144_30, s144_31, s144_34, s144_35, s144_38, s144_39, s144_40, s144_41, s144_42, s144_43, s144_46, s144_47, s144_48, s144_51, s144_54, s144_56, s144_59, s144_60, s144_61, s144_64, s144_67, s144_69, s144_72, s144_73, s144_77, s144_80, s144_81, s144_83, s144_86, s144_87, s144_88, s144_91, s144_93, s144_94, s144_95, s144_96, s144_97, s144_98, s144_99, s144_100, s144_101, s144_102, s144_105, s144_106, s144_107, s144_108, s144_109, s144_112, s144_113, s144_114, s144_116, s144_117, s144_121, s144_123, s144_126, s144_127, s144_128, s144_129, s144_131, s144_132, s144_133, s144_134, s144_135, s144_137, s144_138, s144_139, s144_140, s144_143, s144_146, s144_149, s144_153, s144_154, s144_155, s144_157, s144_158, s144_159, s144_162, s144_163, s144_164, s144_165, s144_167, s144_170, s144_171, s144_174, s144_176, s144_178, s144_179, cont_some, rl_some, rl_none, if_true, if_false, kd_149, rf_149_0, rf_149_1, rf_149_3, rf_149_5, rf_149_9, rf_149_16, rf_149_17, kd_150, kd_151, kd_152, kd_153, kd_154, kd_155, kd_156, ln_150, ln_151, ln_152, ln_153, ln_154, ln_155, ln_156, Int.reduceLE, Int.reduceLT, Int.reduceToNat, Nat.reduceLT, Int.toNat_natCast, Int.natCast_nonneg, true_or, Int.one_ne_zero, ite_self, e1k, m_lay (w := 4 + k) h4 (by omega), m_lay3 h4, em, x2, e4]
end Ref7
