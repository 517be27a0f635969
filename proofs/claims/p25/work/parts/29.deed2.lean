/-! ===== Game: the three deeds ===== -/
section Deed2
variable {M : Mem} {P : PMem} {n sp t : Nat} {hl : Nat → Nat}
def TOk (D : Mem) (n sp t : Nat) (hl : Nat → Nat) : Prop := CN D n ∧ CH D n hl ∧ CPi D n hl ∧ CS D sp ∧ D 1 5 = (t : Int) ∧ t < n ∧ (skF D hl n sp).length ≤ 16 ∧ (nbL D sp).length + (chk 0 (skF D hl n sp)).length ≤ 16
theorem g_tail' {D : Mem} (h : TOk D n sp t hl) {l1 l2 l3 l4 : AV} {x : Int} : evL 40 137 [Rf 1, l1, l2, l3, l4, I x] [] (Hp D P) = some (some (I x), Hp (tlM D n sp t hl) P) := by
  obtain ⟨a1, a2, a3, a4, a5, a6, a7, a8⟩ := h
  exact g_tail a1 a2 a3 a4 a5 a6 a7 a8
def tkM (M : Mem) (t h q : Nat) : Mem := wr (wr (wr M 15 (6 * t + h) (M 4 q)) 13 t ((h + 1 : Nat) : Int)) 4 q 0
def lyM (M : Mem) (t k q i : Nat) : Mem := wr (wr (shP M t i k) 13 t (k : Int)) 4 q (M 15 (6 * t + i))
theorem g_deedNo (ht : M 1 5 = (t : Int)) (h4 : t < 4) {h q : Nat} (hh : M 13 t = (h : Int)) (hq : M 7 t = (q : Int)) (hq16 : q ≤ 16) {lt st : Int} (hr : rsD M h q lt st ≠ 0) : evM 40 [Rf 1, I lt, I st] (Hp M P) = some (some (I (rsD M h q lt st)), Hp (wr M 1 9 (ad (M 1 9) 1)) P) := by
  simp only [en40, s40_0, s40_1, s40_2, s40_3, s40_6, s40_7, s40_8, s40_11, s40_12, s40_13, s40_16, s40_17, s40_18, s40_21, s40_22, s40_23, s40_24, s40_27, s40_29, s40_31, s40_33, s40_34, s40_36, s40_39, s40_40, s40_43, s40_44, s40_47, s40_48, s40_51, s40_53, s40_56, s40_59, s40_60, s40_63, s40_65, s40_66, s40_69, s40_71, s40_72, s40_75, s40_78, s40_79, s40_82, s40_85, s40_86, s40_88, s40_91, s40_92, s40_94, s40_97, s40_98, s40_101, s40_103, s40_104, s40_107, s40_108, s40_111, s40_112, s40_115, s40_118, s40_120, s40_121, s40_124, s40_127, s40_128, s40_131, s40_134, s40_135, s40_137, s40_138, s40_139, s40_142, s40_143, s40_146, s40_149, s40_150, s40_153, s40_156, s40_159, s40_160, s40_163, s40_166, s40_167, s40_168, s40_171, s40_172, s40_175, s40_178, s40_181, s40_183, cont_some, rl_some, rl_none, if_true, if_false, kd_0, kd_1, kd_2, kd_5, kd_47, kd_141, kd_144, rf_0_0, rf_0_1, rf_0_2, rf_0_3, rf_0_4, rf_1_0, rf_1_1, rf_1_2, rf_2_0, rf_5_0, rf_5_1, rf_5_2, rf_5_3, rf_5_4, rf_5_5, rf_5_6, rf_5_7, rf_47_0, rf_141_0, rf_144_0, rf_144_1, kd_3, kd_6, kd_8, kd_10, kd_12, kd_14, kd_16, kd_18, kd_20, kd_22, kd_142, kd_145, kd_147, kd_24, g_whyD ht h4 hh hq hq16, hr]
theorem g_take (ht : M 1 5 = (t : Int)) (h4 : t < 4) {h q : Nat} (hh : M 13 t = (h : Int)) (h6 : h < 6) (hq : M 7 t = (q : Int)) (hq16 : q ≤ 16) {st : Int} (hr : rsD M h q 116 st = 0) {hl' : Nat → Nat} (hT : TOk (tkM M t h q) n sp t hl') : evM 40 [Rf 1, I 116, I st] (Hp M P) = some (some (I (11 + (h : Int))), Hp (tlM (tkM M t h q) n sp t hl') P) := by
  have a1 := c_addP (P := P) (p := M 4 q) h4 hh h6
  obtain ⟨N, eN⟩ : ∃ N, N = wr (wr M 15 (6 * t + h) (M 4 q)) 13 t ((h + 1 : Nat) : Int) := ⟨_, rfl⟩
  rw [← eN] at a1
  have eD : wr N 4 q 0 = tkM M t h q := by rw [eN]; rfl
  have n15 : N 1 5 = (t : Int) := by rw [eN, wr_app, if_neg (by omega), wr_app, if_neg (by omega)]; exact ht
  have d15 : tkM M t h q 1 5 = (t : Int) := by rw [← eD, wr_app, if_neg (by omega)]; exact n15
  have d13 : tkM M t h q 13 t = ((h + 1 : Nat) : Int) := by rw [← eD, wr_app, if_neg (by omega), eN, wr_app, if_pos ⟨rfl, rfl⟩]
  have e1 : ad 10 ((h + 1 : Nat) : Int) = 11 + (h : Int) := by rw [ad_eq (by omega) (by omega)]; omega
  simp only [en40, s40_0, s40_1, s40_2, s40_3, s40_6, s40_7, s40_8, s40_11, s40_12, s40_13, s40_16, s40_17, s40_18, s40_21, s40_22, s40_23, s40_24, s40_27, s40_29, s40_31, s40_33, s40_34, s40_36, s40_39, s40_40, s40_43, s40_44, s40_47, s40_48, s40_51, s40_53, s40_56, s40_59, s40_60, s40_63, s40_65, s40_66, s40_69, s40_71, s40_72, s40_75, s40_78, s40_79, s40_82, s40_85, s40_86, s40_88, s40_91, s40_92, s40_94, s40_97, s40_98, s40_101, s40_103, s40_104, s40_107, s40_108, s40_111, s40_112, s40_115, s40_118, s40_120, s40_121, s40_124, s40_127, s40_128, s40_131, s40_134, s40_135, s40_138, s40_139, s40_142, s40_143, s40_146, s40_149, s40_150, s40_153, s40_156, s40_159, s40_160, s40_163, s40_166, s40_167, s40_168, s40_171, s40_172, s40_175, s40_178, s40_181, s40_183, cont_some, rl_some, rl_none, if_true, if_false, kd_0, kd_1, kd_2, kd_5, kd_47, kd_141, kd_144, rf_0_0, rf_0_1, rf_0_2, rf_0_3, rf_0_4, rf_1_0, rf_1_1, rf_1_2, rf_2_0, rf_5_0, rf_5_1, rf_5_2, rf_5_3, rf_5_4, rf_5_5, rf_5_6, rf_5_7, rf_47_0, rf_141_0, rf_144_0, rf_144_1, kd_3, kd_6, kd_8, kd_10, kd_12, kd_14, kd_16, kd_18, kd_20, kd_22, kd_142, kd_145, kd_147, kd_24, g_whyD ht h4 hh hq hq16, hr, g_place ht h4, hq, ht, p_at hq16, a1, p_set hq16, eD, d15, row_get R_he, rg_n h4, d13, e1]
  exact g_tail' hT
theorem g_lay (ht : M 1 5 = (t : Int)) (h4 : t < 4) {k q i : Nat} (hh : M 13 t = ((k + 1 : Nat) : Int)) (h6 : k < 6) (hi : i ≤ k) (hq : M 7 t = (q : Int)) (hq16 : q ≤ 16) (hr : rsD M (k + 1) q 108 (i : Int) = 0) {hl' : Nat → Nat} (hT : TOk (lyM M t k q i) n sp t hl') : evM 40 [Rf 1, I 108, I (i : Int)] (Hp M P) = some (some (I (10 + (k : Int))), Hp (tlM (lyM M t k q i) n sp t hl') P) := by
  have a1 := c_rmP (P := P) h4 hh h6 hi
  obtain ⟨N, eN⟩ : ∃ N, N = wr (shP M t i k) 13 t (k : Int) := ⟨_, rfl⟩
  rw [← eN] at a1
  have eD : wr N 4 q (M 15 (6 * t + i)) = lyM M t k q i := by rw [eN]; rfl
  have n15 : N 1 5 = (t : Int) := by
    rw [eN, wr_app, if_neg (by omega)]
    unfold shP
    rw [if_neg (by omega)]
    exact ht
  have d15 : lyM M t k q i 1 5 = (t : Int) := by rw [← eD, wr_app, if_neg (by omega)]; exact n15
  have d13 : lyM M t k q i 13 t = (k : Int) := by rw [← eD, wr_app, if_neg (by omega), eN, wr_app, if_pos ⟨rfl, rfl⟩]
  have e1 : ad 10 (k : Int) = 10 + (k : Int) := ad_eq (by omega) (by omega)
  have hx : ¬ (108 : Int) = 116 := by omega
  simp only [en40, s40_0, s40_1, s40_2, s40_3, s40_6, s40_7, s40_8, s40_11, s40_12, s40_13, s40_16, s40_17, s40_18, s40_21, s40_22, s40_23, s40_24, s40_27, s40_29, s40_31, s40_33, s40_34, s40_36, s40_39, s40_40, s40_43, s40_44, s40_47, s40_48, s40_51, s40_53, s40_56, s40_59, s40_60, s40_63, s40_65, s40_66, s40_69, s40_71, s40_72, s40_75, s40_78, s40_79, s40_82, s40_85, s40_86, s40_88, s40_91, s40_92, s40_94, s40_97, s40_98, s40_101, s40_103, s40_104, s40_107, s40_108, s40_111, s40_112, s40_115, s40_118, s40_120, s40_121, s40_124, s40_127, s40_128, s40_131, s40_134, s40_135, s40_138, s40_139, s40_142, s40_143, s40_146, s40_149, s40_150, s40_153, s40_156, s40_159, s40_160, s40_163, s40_166, s40_167, s40_168, s40_171, s40_172, s40_175, s40_178, s40_181, s40_183, cont_some, rl_some, rl_none, if_true, if_false, kd_0, kd_1, kd_2, kd_5, kd_47, kd_141, kd_144, rf_0_0, rf_0_1, rf_0_2, rf_0_3, rf_0_4, rf_1_0, rf_1_1, rf_1_2, rf_2_0, rf_5_0, rf_5_1, rf_5_2, rf_5_3, rf_5_4, rf_5_5, rf_5_6, rf_5_7, rf_47_0, rf_141_0, rf_144_0, rf_144_1, kd_3, kd_6, kd_8, kd_10, kd_12, kd_14, kd_16, kd_18, kd_20, kd_22, kd_142, kd_145, kd_147, kd_24, g_whyD ht h4 hh hq hq16, hr, g_place ht h4, hq, ht, hx, a1, p_set hq16, eD, d15, row_get R_he, rg_n h4, d13, e1]
  exact g_tail' hT
theorem g_noth (ht : M 1 5 = (t : Int)) (h4 : t < 4) {h q : Nat} (hh : M 13 t = (h : Int)) (hq : M 7 t = (q : Int)) (hq16 : q ≤ 16) {st : Int} (hr : rsD M h q 110 st = 0) (hT : TOk M n sp t hl) : evM 40 [Rf 1, I 110, I st] (Hp M P) = some (some (I 10), Hp (tlM M n sp t hl) P) := by
  have hx : ¬ (110 : Int) = 116 := by omega
  have hy : ¬ (110 : Int) = 108 := by omega
  simp only [en40, s40_0, s40_1, s40_2, s40_3, s40_6, s40_7, s40_8, s40_11, s40_12, s40_13, s40_16, s40_17, s40_18, s40_21, s40_22, s40_23, s40_24, s40_27, s40_29, s40_31, s40_33, s40_34, s40_36, s40_39, s40_40, s40_43, s40_44, s40_47, s40_48, s40_51, s40_53, s40_56, s40_59, s40_60, s40_63, s40_65, s40_66, s40_69, s40_71, s40_72, s40_75, s40_78, s40_79, s40_82, s40_85, s40_86, s40_88, s40_91, s40_92, s40_94, s40_97, s40_98, s40_101, s40_103, s40_104, s40_107, s40_108, s40_111, s40_112, s40_115, s40_118, s40_120, s40_121, s40_124, s40_127, s40_128, s40_131, s40_134, s40_135, s40_138, s40_139, s40_142, s40_143, s40_146, s40_149, s40_150, s40_153, s40_156, s40_159, s40_160, s40_163, s40_166, s40_167, s40_168, s40_171, s40_172, s40_175, s40_178, s40_181, s40_183, cont_some, rl_some, rl_none, if_true, if_false, kd_0, kd_1, kd_2, kd_5, kd_47, kd_141, kd_144, rf_0_0, rf_0_1, rf_0_2, rf_0_3, rf_0_4, rf_1_0, rf_1_1, rf_1_2, rf_2_0, rf_5_0, rf_5_1, rf_5_2, rf_5_3, rf_5_4, rf_5_5, rf_5_6, rf_5_7, rf_47_0, rf_141_0, rf_144_0, rf_144_1, kd_3, kd_6, kd_8, kd_10, kd_12, kd_14, kd_16, kd_18, kd_20, kd_22, kd_142, kd_145, kd_147, kd_24, g_whyD ht h4 hh hq hq16, hr, g_place ht h4, hq, hx, hy]
  exact g_tail' hT
end Deed2
/-! ===== Game: a new game ===== -/
section Deal
variable {M : Mem} {P : PMem}
def ltI (x : Int) : Nat → Int
  | 0 => x
  | k + 1 => ltF (ltI x k)
theorem ltI_b {x : Int} (h0 : 0 ≤ x) (h1 : x ≤ 9999) : ∀ k, 0 ≤ ltI x k ∧ ltI x k ≤ 9999 := by
  intro k
  cases k with
  | zero => exact ⟨h0, h1⟩
  | succ k => exact ltF_b _
/-- the value that space k+1 gets -/
def dlV (x : Int) (k : Nat) : Int := 4 * ((k / 4 : Nat) : Int) + ltI x (k + 1) % 4
theorem dlV_b {x : Int} {k : Nat} (hk : k < 16) : 0 ≤ dlV x k ∧ dlV x k ≤ 15 := by unfold dlV; omega
def dlL (x : Int) (k : Nat) : List Int := (List.range k).map fun j : Nat => 4096 + dlV x j
theorem dlL_succ (x : Int) (k : Nat) : dlL x (k + 1) = dlL x k ++ [4096 + dlV x k] := by simp [dlL, List.range_succ]
theorem dlL_len (x : Int) (k : Nat) : (dlL x k).length = k := by simp [dlL]
theorem layP_wr {M : Mem} {i j b : Nat} {z : Int} {L : List Int} (h : i ≠ 4) (h2 : i ≠ 2) : layP (wr M i j z) b L = wr (layP M b L) i j z := by
  unfold layP
  rw [wr_comm (by omega), putL_wr (by omega)]
theorem g_deal_loop {d x : Int} (h0 : 0 ≤ x) (h1 : x ≤ 9999) {l1 l2 : AV} : ∀ (m k : Nat), k + m = 16 → evL 27 15 [Rf 1, l1, l2, I ((k + 1 : Nat) : Int)] [] (Hp (layP (wr M 1 3 (ltI x k)) 0 (dlL x k)) P) = evL 27 56 [Rf 1, l1, l2, I 17] [] (Hp (layP (wr M 1 3 (ltI x 16)) 0 (dlL x 16)) P) := by
  intro m
  induction m with
  | zero =>
    intro k hk
    have e : k = 16 := by omega
    subst e
    have c1 : (16 : Int) < ((16 + 1 : Nat) : Int) := by omega
    rw [s27_15]
    simp only [en27, s27_0, s27_1, s27_2, s27_5, s27_6, s27_9, s27_10, s27_13, s27_14, s27_16, s27_18, s27_21, s27_22, s27_25, s27_26, s27_29, s27_30, s27_31, s27_32, s27_33, s27_34, s27_35, s27_36, s27_37, s27_38, s27_41, s27_42, s27_43, s27_44, s27_47, s27_50, s27_53, s27_57, s27_60, s27_61, s27_64, s27_65, s27_66, s27_69, s27_70, s27_71, s27_74, s27_75, s27_76, s27_79, s27_80, s27_82, s27_85, s27_86, s27_87, s27_90, cont_some, rl_some, rl_none, if_true, if_false, kd_0, kd_1, kd_2, kd_5, kd_47, kd_141, kd_144, rf_0_0, rf_0_1, rf_0_2, rf_0_3, rf_0_4, rf_1_0, rf_1_1, rf_1_2, rf_2_0, rf_5_0, rf_5_1, rf_5_2, rf_5_3, rf_5_4, rf_5_5, rf_5_6, rf_5_7, rf_47_0, rf_141_0, rf_144_0, rf_144_1, kd_3, kd_6, kd_8, kd_10, kd_12, kd_14, kd_16, kd_18, kd_20, kd_22, kd_142, kd_145, kd_147, kd_24, c1]
    rfl
  | succ m ih =>
    intro k hk
    have c1 : ¬ (16 : Int) < ((k + 1 : Nat) : Int) := by omega
    have hb := ltI_b h0 h1 k
    have e13 : layP (wr M 1 3 (ltI x k)) 0 (dlL x k) 1 3 = ltI x k := by rw [layP_o (by omega) (by omega), wr_app, if_pos ⟨rfl, rfl⟩]
    have d1 := g_draw (M := layP (wr M 1 3 (ltI x k)) 0 (dlL x k)) (P := P) (by rw [e13]; exact hb.1) (by rw [e13]; exact hb.2)
    rw [e13, ← layP_wr (by omega) (by omega), wr_wr] at d1
    have el : ltF (ltI x k) = ltI x (k + 1) := rfl
    rw [el] at d1
    have e13b : layP (wr M 1 3 (ltI x (k + 1))) 0 (dlL x k) 1 3 = ltI x (k + 1) := by rw [layP_o (by omega) (by omega), wr_app, if_pos ⟨rfl, rfl⟩]
    have hb2 := ltI_b h0 h1 (k + 1)
    have v1 : sb ((k + 1 : Nat) : Int) 1 = (k : Int) := by rw [sb_eq (by omega) (by omega)]; omega
    have v2 : dv (k : Int) 4 = ((k / 4 : Nat) : Int) := by rw [dv_eq (by omega) (by omega) (by omega) (by omega)]; omega
    have v3 : ml ((k / 4 : Nat) : Int) 4 = ((k / 4 : Nat) : Int) * 4 := ml_eq (by omega) (by omega)
    have v4 : rm (ltI x (k + 1)) 4 = ltI x (k + 1) % 4 := rm_eq (by omega) (by omega) (by omega) (by omega)
    have v5 : ad (((k / 4 : Nat) : Int) * 4) (ltI x (k + 1) % 4) = dlV x k := by rw [ad_eq (by omega) (by omega)]; unfold dlV; omega
    have hv := dlV_b (x := x) (show k < 16 by omega)
    have p1 := pile_top (M := layP (wr M 1 3 (ltI x (k + 1))) 0 (dlL x k)) (P := P) (c := 0) (v := dlV x k) (by omega) (by omega) hv
    have ep : (0 : Int) + 4096 + dlV x k * (if pcnt 0 = 0 then 1 else if pcnt 0 = 1 then 16 else 256) = 4096 + dlV x k := by
      rw [if_pos (by decide)]; omega
    rw [ep] at p1
    have ha := p_add (M := layP (wr M 1 3 (ltI x (k + 1))) 0 (dlL x k)) (P := P) (sp := 0 + (dlL x k).length) (v := 4096 + dlV x k) layP_sp (by rw [dlL_len]; omega)
    rw [layP_add, ← dlL_succ] at ha
    have n4 : ¬ (4 : Int) = 0 := by omega
    rw [s27_15]
    simp only [en27, s27_0, s27_1, s27_2, s27_5, s27_6, s27_9, s27_10, s27_13, s27_14, s27_16, s27_18, s27_21, s27_22, s27_25, s27_26, s27_29, s27_30, s27_31, s27_32, s27_33, s27_34, s27_35, s27_36, s27_37, s27_38, s27_41, s27_42, s27_43, s27_44, s27_47, s27_50, s27_53, s27_57, s27_60, s27_61, s27_64, s27_65, s27_66, s27_69, s27_70, s27_71, s27_74, s27_75, s27_76, s27_79, s27_80, s27_82, s27_85, s27_86, s27_87, s27_90, cont_some, rl_some, rl_none, if_true, if_false, kd_0, kd_1, kd_2, kd_5, kd_47, kd_141, kd_144, rf_0_0, rf_0_1, rf_0_2, rf_0_3, rf_0_4, rf_1_0, rf_1_1, rf_1_2, rf_2_0, rf_5_0, rf_5_1, rf_5_2, rf_5_3, rf_5_4, rf_5_5, rf_5_6, rf_5_7, rf_47_0, rf_141_0, rf_144_0, rf_144_1, kd_3, kd_6, kd_8, kd_10, kd_12, kd_14, kd_16, kd_18, kd_20, kd_22, kd_142, kd_145, kd_147, kd_24, c1, d1, e13b, v1, v2, v3, v4, v5, p1, ha, ad_n (k + 1) (by omega), ne_eq, n4, not_false_eq_true]
    exact ih (k + 1) (by omega)
def deM (M : Mem) (d x : Int) : Mem := wr (wr (wr (wr (wr (toS (wp (wp (wp (wr (layP (wr M 1 3 (ltI x 16)) 0 (dlL x 16)) 5 8 d) 17 4) 19 4) 21 4)) 1 4 0) 1 5 0) 1 6 0) 1 7 25) 1 8 0
theorem g_deal {d x : Int} (h0 : 0 ≤ x) (h1 : x ≤ 9999) : evM 27 [Rf 1, I d, I x] (Hp M P) = some (none, Hp (deM M d x) P) := by
  have e : layP (wr M 1 3 (ltI x 0)) 0 (dlL x 0) = wr (wr M 1 3 x) 2 1 0 := by
    unfold layP
    rw [show dlL x 0 = [] from rfl, putL_nil]
    rfl
  have h := g_deal_loop (M := M) (P := P) (d := d) h0 h1 (l1 := I d) (l2 := I x) 16 0 (by omega)
  rw [e] at h
  have e1 : ((0 + 1 : Nat) : Int) = 1 := rfl
  rw [e1] at h
  simp only [en27, s27_0, s27_1, s27_2, s27_5, s27_6, s27_9, s27_10, s27_13, s27_14, s27_16, s27_18, s27_21, s27_22, s27_25, s27_26, s27_29, s27_30, s27_31, s27_32, s27_33, s27_34, s27_35, s27_36, s27_37, s27_38, s27_41, s27_42, s27_43, s27_44, s27_47, s27_50, s27_53, s27_56, s27_57, s27_60, s27_61, s27_64, s27_65, s27_66, s27_69, s27_70, s27_71, s27_74, s27_75, s27_76, s27_79, s27_80, s27_82, s27_85, s27_86, s27_87, s27_90, cont_some, rl_some, rl_none, if_true, if_false, kd_0, kd_1, kd_2, kd_5, kd_47, kd_141, kd_144, rf_0_0, rf_0_1, rf_0_2, rf_0_3, rf_0_4, rf_1_0, rf_1_1, rf_1_2, rf_2_0, rf_5_0, rf_5_1, rf_5_2, rf_5_3, rf_5_4, rf_5_5, rf_5_6, rf_5_7, rf_47_0, rf_141_0, rf_144_0, rf_144_1, kd_3, kd_6, kd_8, kd_10, kd_12, kd_14, kd_16, kd_18, kd_20, kd_22, kd_142, kd_145, kd_147, kd_24]
  rw [h]
  simp only [en27, s27_0, s27_1, s27_2, s27_5, s27_6, s27_9, s27_10, s27_13, s27_14, s27_16, s27_18, s27_21, s27_22, s27_25, s27_26, s27_29, s27_30, s27_31, s27_32, s27_33, s27_34, s27_35, s27_36, s27_37, s27_38, s27_41, s27_42, s27_43, s27_44, s27_47, s27_50, s27_53, s27_56, s27_57, s27_60, s27_61, s27_64, s27_65, s27_66, s27_69, s27_70, s27_71, s27_74, s27_75, s27_76, s27_79, s27_80, s27_82, s27_85, s27_86, s27_87, s27_90, cont_some, rl_some, rl_none, if_true, if_false, kd_0, kd_1, kd_2, kd_5, kd_47, kd_141, kd_144, rf_0_0, rf_0_1, rf_0_2, rf_0_3, rf_0_4, rf_1_0, rf_1_1, rf_1_2, rf_2_0, rf_5_0, rf_5_1, rf_5_2, rf_5_3, rf_5_4, rf_5_5, rf_5_6, rf_5_7, rf_47_0, rf_141_0, rf_144_0, rf_144_1, kd_3, kd_6, kd_8, kd_10, kd_12, kd_14, kd_16, kd_18, kd_20, kd_22, kd_142, kd_145, kd_147, kd_24, c_muster, true_or]
  rfl
end Deal
