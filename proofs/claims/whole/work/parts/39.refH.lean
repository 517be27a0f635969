section Ref8
variable {M : Mem} {P : PMem} {c : Mem} {n sp t : Nat} {hl : Nat → Nat}
/-! a new game -/
def gbL (x : Int) (k : Nat) : List Int := (List.range k).map fun j : Nat => dlV x j + 1
theorem gbL_succ (x : Int) (k : Nat) : gbL x (k + 1) = gbL x k ++ [dlV x k + 1] := by simp [gbL, List.range_succ]
theorem gbL_len (x : Int) (k : Nat) : (gbL x k).length = k := by simp [gbL]
theorem gbL_get {x : Int} {k j : Nat} (h : j < k) : (gbL x k).getD j 0 = dlV x j + 1 := by
  simp [gbL, List.getD_eq_getElem?_getD, h]
def gbZ (M : Mem) (d x : Int) : Mem := wr (wr (wr (wr (wp M 150 77) 150 7 (M 150 7)) 150 0 d) 150 5 x) 150 8 16
def gbM (M : Mem) (d x : Int) (k : Nat) : Mem := putL (wr (gbZ M d x) 150 5 (ltI x k)) 150 9 (gbL x k)
def gbR (M : Mem) (d x : Int) (n : Nat) : Mem := bgR (gbM M d x 16) n
theorem gb_zero {d x r : Int} : ∀ (m k : Nat), k + m = 77 → evL 129 11 [Rf 149, I d, I x, I r, I (k : Int), Db 0, Db 0] [] (Hp (wp M 150 k) P) = evL 129 32 [Rf 149, I d, I x, I r, I 77, Db 0, Db 0] [] (Hp (wp M 150 77) P) := by
  intro m
  induction m with
  | zero =>
    intro k hk
    have e : k = 77 := by omega
    subst e
    have c1 : (77 : Int) ≤ ((77 : Nat) : Int) := by omega
    rw [s129_11]
    simp only [en129, s129_0, s129_1, s129_4, s129_6, s129_7, s129_8, s129_9, s129_13, s129_15, s129_18, s129_19, s129_22, s129_24, s129_25, s129_26, s129_29, s129_33, s129_36, s129_38, s129_39, s129_40, s129_41, s129_44, s129_45, s129_46, s129_47, s129_48, s129_51, s129_52, s129_53, s129_54, s129_55, s129_58, s129_60, s129_62, s129_63, s129_64, s129_66, s129_67, s129_69, s129_71, s129_73, s129_76, s129_77, s129_79, s129_80, s129_81, s129_82, s129_83, s129_86, s129_87, s129_88, s129_89, s129_91, s129_92, s129_95, s129_97, s129_99, s129_100, s129_102, s129_103, s129_104, s129_105, s129_107, s129_109, s129_110, s129_112, s129_115, s129_118, s129_119, s129_122, s129_124, cont_some, rl_some, rl_none, if_true, if_false, kd_149, rf_149_0, rf_149_1, rf_149_3, rf_149_5, rf_149_9, rf_149_16, rf_149_17, kd_150, kd_151, kd_152, kd_153, kd_154, kd_155, kd_156, ln_150, ln_151, ln_152, ln_153, ln_154, ln_155, ln_156, Int.reduceLE, Int.reduceLT, Int.reduceToNat, Nat.reduceLT, Int.toNat_natCast, Int.natCast_nonneg, true_or, Int.one_ne_zero, ite_self, c1]
    rfl
  | succ m ih =>
    intro k hk
    have c1 : ¬ (77 : Int) ≤ (k : Int) := by omega
    have b1 : k < 77 := by omega
    have e2 : wr (wp M 150 k) 150 k 0 = wp M 150 (k + 1) := by
      funext a b
      unfold wr wp
      by_cases h1 : a = 150 ∧ b = k
      · rw [if_pos h1, if_pos (by omega)]
      · rw [if_neg h1]
        by_cases h2 : a = 150 ∧ b < k
        · rw [if_pos h2, if_pos (by omega)]
        · rw [if_neg h2, if_neg (by omega)]
    rw [s129_11]
    simp only [en129, s129_0, s129_1, s129_4, s129_6, s129_7, s129_8, s129_9, s129_13, s129_15, s129_18, s129_19, s129_22, s129_24, s129_25, s129_26, s129_29, s129_33, s129_36, s129_38, s129_39, s129_40, s129_41, s129_44, s129_45, s129_46, s129_47, s129_48, s129_51, s129_52, s129_53, s129_54, s129_55, s129_58, s129_60, s129_62, s129_63, s129_64, s129_66, s129_67, s129_69, s129_71, s129_73, s129_76, s129_77, s129_79, s129_80, s129_81, s129_82, s129_83, s129_86, s129_87, s129_88, s129_89, s129_91, s129_92, s129_95, s129_97, s129_99, s129_100, s129_102, s129_103, s129_104, s129_105, s129_107, s129_109, s129_110, s129_112, s129_115, s129_118, s129_119, s129_122, s129_124, cont_some, rl_some, rl_none, if_true, if_false, kd_149, rf_149_0, rf_149_1, rf_149_3, rf_149_5, rf_149_9, rf_149_16, rf_149_17, kd_150, kd_151, kd_152, kd_153, kd_154, kd_155, kd_156, ln_150, ln_151, ln_152, ln_153, ln_154, ln_155, ln_156, Int.reduceLE, Int.reduceLT, Int.reduceToNat, Nat.reduceLT, Int.toNat_natCast, Int.natCast_nonneg, true_or, Int.one_ne_zero, ite_self, c1, b1, e2, ad_n k (by omega)]
    exact ih (k + 1) (by omega)
theorem gb_deal {d x r : Int} (h0 : 0 ≤ x) (h1 : x ≤ 9999) : ∀ (m k : Nat) (l6 : AV), k + m = 16 → ∃ l6' : AV, evL 129 69 [Rf 149, I d, I x, I r, I (sumN (dlV x) k), I (k : Int), l6] [] (Hp (gbM M d x k) P) = evL 129 118 [Rf 149, I d, I x, I r, I (sumN (dlV x) 16), I 16, l6'] [] (Hp (gbM M d x 16) P) := by
  intro m
  induction m with
  | zero =>
    intro k l6 hk
    have e : k = 16 := by omega
    subst e
    have c1 : (16 : Int) ≤ ((16 : Nat) : Int) := by omega
    refine ⟨l6, ?_⟩
    rw [s129_69]
    simp only [en129, s129_0, s129_1, s129_4, s129_6, s129_7, s129_8, s129_9, s129_11, s129_13, s129_15, s129_18, s129_19, s129_22, s129_24, s129_25, s129_26, s129_29, s129_32, s129_33, s129_36, s129_38, s129_39, s129_40, s129_41, s129_44, s129_45, s129_46, s129_47, s129_48, s129_51, s129_52, s129_53, s129_54, s129_55, s129_58, s129_60, s129_62, s129_63, s129_64, s129_66, s129_67, s129_71, s129_73, s129_76, s129_77, s129_79, s129_80, s129_81, s129_82, s129_83, s129_86, s129_87, s129_88, s129_89, s129_91, s129_92, s129_95, s129_97, s129_99, s129_100, s129_102, s129_103, s129_104, s129_105, s129_107, s129_109, s129_110, s129_112, s129_115, s129_119, s129_122, s129_124, cont_some, rl_some, rl_none, if_true, if_false, kd_149, rf_149_0, rf_149_1, rf_149_3, rf_149_5, rf_149_9, rf_149_16, rf_149_17, kd_150, kd_151, kd_152, kd_153, kd_154, kd_155, kd_156, ln_150, ln_151, ln_152, ln_153, ln_154, ln_155, ln_156, Int.reduceLE, Int.reduceLT, Int.reduceToNat, Nat.reduceLT, Int.toNat_natCast, Int.natCast_nonneg, true_or, Int.one_ne_zero, ite_self, c1]
    rfl
  | succ m ih =>
    intro k l6 hk
    obtain ⟨l6', hl⟩ := ih (k + 1) (I (dlV x k)) (by omega)
    refine ⟨l6', ?_⟩
    have c1 : ¬ (16 : Int) ≤ (k : Int) := by omega
    have hb := ltI_b h0 h1 k
    have hb2 := ltI_b h0 h1 (k + 1)
    have hv := dlV_b (x := x) (k := k) (by omega)
    have hs := sumN_b (f := dlV x) (B := 15) k (fun j hj => dlV_b (by omega))
    have e5 : gbM M d x k 150 5 = ltI x k := by
      unfold gbM
      rw [putL_lt (by omega), wr_app, if_pos ⟨rfl, rfl⟩]
    have ed := m_draw (M := gbM M d x k) (P := P) (by rw [e5]; exact hb.1) (by rw [e5]; exact hb.2)
    rw [e5] at ed
    have el : ltF (ltI x k) = ltI x (k + 1) := rfl
    rw [el] at ed
    have cz : ¬ (4 : Int) = 0 := by omega
    have d1 : dv (k : Int) 4 = (k : Int) / 4 := dv_eq (by omega) (by omega) (by omega) (by omega)
    have d2 : ml 4 ((k : Int) / 4) = 4 * ((k : Int) / 4) := ml_eq (by omega) (by omega)
    have d3 : rm (ltI x (k + 1)) 4 = ltI x (k + 1) % 4 := rm_eq (by omega) (by omega) (by omega) (by omega)
    have d4 : ad (4 * ((k : Int) / 4)) (ltI x (k + 1) % 4) = dlV x k := by
      rw [ad_eq (by omega) (by omega)]
      unfold dlV
      push_cast
      rfl
    have d5 : ad 9 (k : Int) = ((9 + k : Nat) : Int) := by rw [ad_eq (by omega) (by omega)]; omega
    have d6 : ad (dlV x k) 1 = dlV x k + 1 := ad_eq (by omega) (by omega)
    have d7 : ad (sumN (dlV x) k) (dlV x k) = sumN (dlV x) (k + 1) := by rw [ad_eq (by omega) (by omega)]; rfl
    have b1 : 9 + k < 77 := by omega
    have em : wr (wr (gbM M d x k) 150 5 (ltI x (k + 1))) 150 (9 + k) (dlV x k + 1) = gbM M d x (k + 1) := by
      have e1 : wr (gbM M d x k) 150 5 (ltI x (k + 1)) = putL (wr (gbZ M d x) 150 5 (ltI x (k + 1))) 150 9 (gbL x k) := by
        funext a b
        unfold gbM
        rw [wr_app]
        by_cases q : a = 150 ∧ b = 5
        · rw [if_pos q, q.1, q.2, putL_lt (by omega), wr_app, if_pos ⟨rfl, rfl⟩]
        · rw [if_neg q]
          unfold putL
          split
          · rfl
          · rw [wr_app, wr_app, if_neg q, if_neg q]
      have e2 := putL_snoc (M := wr (gbZ M d x) 150 5 (ltI x (k + 1))) (j := 150) (b := 9) (L := gbL x k) (v := dlV x k + 1)
      rw [gbL_len] at e2
      rw [e1, e2, ← gbL_succ]
      rfl
    rw [s129_69]
    simp only [en129, s129_0, s129_1, s129_4, s129_6, s129_7, s129_8, s129_9, s129_11, s129_13, s129_15, s129_18, s129_19, s129_22, s129_24, s129_25, s129_26, s129_29, s129_32, s129_33, s129_36, s129_38, s129_39, s129_40, s129_41, s129_44, s129_45, s129_46, s129_47, s129_48, s129_51, s129_52, s129_53, s129_54, s129_55, s129_58, s129_60, s129_62, s129_63, s129_64, s129_66, s129_67, s129_71, s129_73, s129_76, s129_77, s129_79, s129_80, s129_81, s129_82, s129_83, s129_86, s129_87, s129_88, s129_89, s129_91, s129_92, s129_95, s129_97, s129_99, s129_100, s129_102, s129_103, s129_104, s129_105, s129_107, s129_109, s129_110, s129_112, s129_115, s129_119, s129_122, s129_124, cont_some, rl_some, rl_none, if_true, if_false, kd_149, rf_149_0, rf_149_1, rf_149_3, rf_149_5, rf_149_9, rf_149_16, rf_149_17, kd_150, kd_151, kd_152, kd_153, kd_154, kd_155, kd_156, ln_150, ln_151, ln_152, ln_153, ln_154, ln_155, ln_156, Int.reduceLE, Int.reduceLT, Int.reduceToNat, Nat.reduceLT, Int.toNat_natCast, Int.natCast_nonneg, true_or, Int.one_ne_zero, ite_self, c1, ne_eq, cz, not_false_eq_true, d1, d2, ed, d3, d4, d5, b1, d6, em, d7, ad_n k (by omega)]
    exact hl
theorem m_goBegin {x : Int} (h0 : 0 ≤ x) (h1 : x ≤ 9999) (hn : n ≤ 4) : evM 129 [Rf 149, I (n : Int), I x] (Hp M P) = some (some (I (sumN (dlV x) 16)), Hp (gbR M n x n) P) := by
  have hz := gb_zero (M := M) (P := P) (d := (n : Int)) (x := x) (r := M 150 7) 77 0 (by omega)
  rw [wp_0] at hz
  have e9 : ((0 : Nat) : Int) = 0 := rfl
  rw [e9] at hz
  obtain ⟨l6, hd⟩ := gb_deal (M := M) (P := P) (d := (n : Int)) (r := M 150 7) h0 h1 16 0 (Db 0) (by omega)
  have e0 : gbM M n x 0 = gbZ M n x := by
    unfold gbM
    have : gbL x 0 = [] := rfl
    rw [this, putL_nil]
    have e5 : ltI x 0 = x := rfl
    rw [e5]
    unfold gbZ
    funext a b
    simp only [wr_app]
    by_cases q : a = 150 ∧ b = 5
    · rw [if_pos q, if_neg (by omega), if_pos q]
    · rw [if_neg q, if_neg q]
  have es : sumN (dlV x) 0 = 0 := rfl
  rw [e0, es, e9] at hd
  have hN : MN (gbM M n x 16) n := ⟨by
    unfold gbM
    rw [putL_lt (by omega), wr_app, if_neg (by omega)]
    unfold gbZ
    rw [wr_app, if_neg (by omega), wr_app, if_neg (by omega), wr_app, if_pos ⟨rfl, rfl⟩], hn⟩
  have ez : wr (wr (wr (wr (wp M 150 77) 150 7 (M 150 7)) 150 0 (n : Int)) 150 5 x) 150 8 16 = gbZ M n x := rfl
  simp only [en129, s129_0, s129_1, s129_4, s129_6, s129_7, s129_8, s129_9, s129_13, s129_15, s129_18, s129_19, s129_22, s129_24, s129_25, s129_26, s129_29, s129_33, s129_36, s129_38, s129_39, s129_40, s129_41, s129_44, s129_45, s129_46, s129_47, s129_48, s129_51, s129_52, s129_53, s129_54, s129_55, s129_58, s129_60, s129_62, s129_63, s129_64, s129_66, s129_67, s129_71, s129_73, s129_76, s129_77, s129_79, s129_80, s129_81, s129_82, s129_83, s129_86, s129_87, s129_88, s129_89, s129_91, s129_92, s129_95, s129_97, s129_99, s129_100, s129_102, s129_103, s129_104, s129_105, s129_107, s129_109, s129_110, s129_112, s129_115, s129_119, s129_122, s129_124, cont_some, rl_some, rl_none, if_true, if_false, kd_149, rf_149_0, rf_149_1, rf_149_3, rf_149_5, rf_149_9, rf_149_16, rf_149_17, kd_150, kd_151, kd_152, kd_153, kd_154, kd_155, kd_156, ln_150, ln_151, ln_152, ln_153, ln_154, ln_155, ln_156, Int.reduceLE, Int.reduceLT, Int.reduceToNat, Nat.reduceLT, Int.toNat_natCast, Int.natCast_nonneg, true_or, Int.one_ne_zero, ite_self]
  rw [hz, s129_32]
  simp only [en129, s129_0, s129_1, s129_4, s129_6, s129_7, s129_8, s129_9, s129_13, s129_15, s129_18, s129_19, s129_22, s129_24, s129_25, s129_26, s129_29, s129_33, s129_36, s129_38, s129_39, s129_40, s129_41, s129_44, s129_45, s129_46, s129_47, s129_48, s129_51, s129_52, s129_53, s129_54, s129_55, s129_58, s129_60, s129_62, s129_63, s129_64, s129_66, s129_67, s129_71, s129_73, s129_76, s129_77, s129_79, s129_80, s129_81, s129_82, s129_83, s129_86, s129_87, s129_88, s129_89, s129_91, s129_92, s129_95, s129_97, s129_99, s129_100, s129_102, s129_103, s129_104, s129_105, s129_107, s129_109, s129_110, s129_112, s129_115, s129_119, s129_122, s129_124, cont_some, rl_some, rl_none, if_true, if_false, kd_149, rf_149_0, rf_149_1, rf_149_3, rf_149_5, rf_149_9, rf_149_16, rf_149_17, kd_150, kd_151, kd_152, kd_153, kd_154, kd_155, kd_156, ln_150, ln_151, ln_152, ln_153, ln_154, ln_155, ln_156, Int.reduceLE, Int.reduceLT, Int.reduceToNat, Nat.reduceLT, Int.toNat_natCast, Int.natCast_nonneg, true_or, Int.one_ne_zero, ite_self, ez]
  rw [hd, s129_118]
  simp only [en129, s129_0, s129_1, s129_4, s129_6, s129_7, s129_8, s129_9, s129_13, s129_15, s129_18, s129_19, s129_22, s129_24, s129_25, s129_26, s129_29, s129_33, s129_36, s129_38, s129_39, s129_40, s129_41, s129_44, s129_45, s129_46, s129_47, s129_48, s129_51, s129_52, s129_53, s129_54, s129_55, s129_58, s129_60, s129_62, s129_63, s129_64, s129_66, s129_67, s129_71, s129_73, s129_76, s129_77, s129_79, s129_80, s129_81, s129_82, s129_83, s129_86, s129_87, s129_88, s129_89, s129_91, s129_92, s129_95, s129_97, s129_99, s129_100, s129_102, s129_103, s129_104, s129_105, s129_107, s129_109, s129_110, s129_112, s129_115, s129_119, s129_122, s129_124, cont_some, rl_some, rl_none, if_true, if_false, kd_149, rf_149_0, rf_149_1, rf_149_3, rf_149_5, rf_149_9, rf_149_16, rf_149_17, kd_150, kd_151, kd_152, kd_153, kd_154, kd_155, kd_156, ln_150, ln_151, ln_152, ln_153, ln_154, ln_155, ln_156, Int.reduceLE, Int.reduceLT, Int.reduceToNat, Nat.reduceLT, Int.toNat_natCast, Int.natCast_nonneg, true_or, Int.one_ne_zero, ite_self, m_bg hN]
  rfl
/-! copying -/
def cpY (M : Mem) (f at' to b' k : Nat) : Mem := fun a b => if a = to ∧ b' ≤ b ∧ b < b' + k then M f (at' + (b - b')) else M a b
theorem m_copies {f at' to b' : Nat} (hf : kd f = 100) (ht : kd to = 100) (lf : at' + 77 ≤ ln f) (lt : b' + 77 ≤ ln to) (hne : f ≠ to) (ha : at' ≤ 1000) (hb : b' ≤ 1000) : evM 111 [Rf f, I (at' : Int), Rf to, I (b' : Int)] (Hp M P) = some (none, Hp (cpY M f at' to b' 77) P) := by
  have lp : ∀ (m k : Nat), k + m = 77 → evL 111 3 [Rf f, I (at' : Int), Rf to, I (b' : Int), I (k : Int)] [] (Hp (cpY M f at' to b' k) P) = some (none, Hp (cpY M f at' to b' 77) P) := by
    intro m
    induction m with
    | zero =>
      intro k hk
      have e : k = 77 := by omega
      subst e
      have c1 : (77 : Int) ≤ ((77 : Nat) : Int) := by omega
      rw [s111_3]
      simp only [en111, s111_0, s111_1, s111_5, s111_7, s111_10, s111_11, s111_12, s111_14, s111_15, s111_16, s111_17, s111_19, s111_20, s111_21, s111_22, s111_25, s111_28, cont_some, rl_some, rl_none, if_true, if_false, kd_149, rf_149_0, rf_149_1, rf_149_3, rf_149_5, rf_149_9, rf_149_16, rf_149_17, kd_150, kd_151, kd_152, kd_153, kd_154, kd_155, kd_156, ln_150, ln_151, ln_152, ln_153, ln_154, ln_155, ln_156, Int.reduceLE, Int.reduceLT, Int.reduceToNat, Nat.reduceLT, Int.toNat_natCast, Int.natCast_nonneg, true_or, Int.one_ne_zero, ite_self, c1]
    | succ m ih =>
      intro k hk
      have c1 : ¬ (77 : Int) ≤ (k : Int) := by omega
      have e1 : ad (b' : Int) (k : Int) = ((b' + k : Nat) : Int) := by rw [ad_eq (by omega) (by omega)]; omega
      have e2 : ad (at' : Int) (k : Int) = ((at' + k : Nat) : Int) := by rw [ad_eq (by omega) (by omega)]; omega
      have b1 : b' + k < ln to := by omega
      have b2 : at' + k < ln f := by omega
      have e3 : cpY M f at' to b' k f (at' + k) = M f (at' + k) := by unfold cpY; rw [if_neg (fun q => hne q.1)]
      have e4 : wr (cpY M f at' to b' k) to (b' + k) (M f (at' + k)) = cpY M f at' to b' (k + 1) := by
        funext a b
        rw [wr_app]
        unfold cpY
        by_cases q : a = to ∧ b = b' + k
        · rw [if_pos q, if_pos ⟨q.1, by omega⟩, q.2, Nat.add_sub_cancel_left]
        · rw [if_neg q]
          by_cases q2 : a = to ∧ b' ≤ b ∧ b < b' + k
          · rw [if_pos q2, if_pos ⟨q2.1, by omega⟩]
          · rw [if_neg q2, if_neg (by omega)]
      rw [s111_3]
      simp only [en111, s111_0, s111_1, s111_5, s111_7, s111_10, s111_11, s111_12, s111_14, s111_15, s111_16, s111_17, s111_19, s111_20, s111_21, s111_22, s111_25, s111_28, cont_some, rl_some, rl_none, if_true, if_false, kd_149, rf_149_0, rf_149_1, rf_149_3, rf_149_5, rf_149_9, rf_149_16, rf_149_17, kd_150, kd_151, kd_152, kd_153, kd_154, kd_155, kd_156, ln_150, ln_151, ln_152, ln_153, ln_154, ln_155, ln_156, Int.reduceLE, Int.reduceLT, Int.reduceToNat, Nat.reduceLT, Int.toNat_natCast, Int.natCast_nonneg, true_or, Int.one_ne_zero, ite_self, c1, e1, e2, hf, ht, b1, b2, e3, e4, ad_n k (by omega)]
      exact ih (k + 1) (by omega)
  have l0 := lp 77 0 (by omega)
  have e0 : cpY M f at' to b' 0 = M := by
    funext a b
    unfold cpY
    rw [if_neg (by omega)]
  rw [e0] at l0
  simp only [en111, s111_0, s111_1, s111_5, s111_7, s111_10, s111_11, s111_12, s111_14, s111_15, s111_16, s111_17, s111_19, s111_20, s111_21, s111_22, s111_25, s111_28]
  exact l0
/-! recording -/
def shY (M : Mem) (k : Nat) : Mem := fun a b => if a = 151 ∧ b < k then M 151 (b + 77) else M a b
theorem sh_loop : ∀ (m k : Nat), k + m = 231 → evL 112 10 [Rf 149, I (k : Int)] [] (Hp (shY M k) P) = evL 112 38 [Rf 149, I 231] [] (Hp (shY M 231) P) := by
  intro m
  induction m with
  | zero =>
    intro k hk
    have e : k = 231 := by omega
    subst e
    have c1 : (231 : Int) ≤ ((231 : Nat) : Int) := by omega
    rw [s112_10]
    simp only [en112, s112_0, s112_1, s112_4, s112_5, s112_8, s112_9, s112_11, s112_14, s112_17, s112_18, s112_21, s112_22, s112_23, s112_26, s112_27, s112_29, s112_30, s112_31, s112_32, s112_35, s112_39, s112_40, s112_43, s112_44, s112_45, s112_48, s112_49, s112_52, s112_53, s112_54, s112_57, s112_59, s112_60, s112_63, s112_64, s112_67, s112_68, s112_69, s112_72, s112_73, s112_74, s112_77, cont_some, rl_some, rl_none, if_true, if_false, kd_149, rf_149_0, rf_149_1, rf_149_3, rf_149_5, rf_149_9, rf_149_16, rf_149_17, kd_150, kd_151, kd_152, kd_153, kd_154, kd_155, kd_156, ln_150, ln_151, ln_152, ln_153, ln_154, ln_155, ln_156, Int.reduceLE, Int.reduceLT, Int.reduceToNat, Nat.reduceLT, Int.toNat_natCast, Int.natCast_nonneg, true_or, Int.one_ne_zero, ite_self, c1]
    rfl
  | succ m ih =>
    intro k hk
    have c1 : ¬ (231 : Int) ≤ (k : Int) := by omega
    have e1 : ad (k : Int) 77 = ((k + 77 : Nat) : Int) := by rw [ad_eq (by omega) (by omega)]; omega
    have b1 : k < 308 := by omega
    have b2 : k + 77 < 308 := by omega
    have e3 : shY M k 151 (k + 77) = M 151 (k + 77) := by unfold shY; rw [if_neg (by omega)]
    have e4 : wr (shY M k) 151 k (M 151 (k + 77)) = shY M (k + 1) := by
      funext a b
      rw [wr_app]
      unfold shY
      by_cases q : a = 151 ∧ b = k
      · rw [if_pos q, if_pos ⟨q.1, by omega⟩, q.2]
      · rw [if_neg q]
        by_cases q2 : a = 151 ∧ b < k
        · rw [if_pos q2, if_pos ⟨q2.1, by omega⟩]
        · rw [if_neg q2, if_neg (by omega)]
    rw [s112_10]
    simp only [en112, s112_0, s112_1, s112_4, s112_5, s112_8, s112_9, s112_11, s112_14, s112_17, s112_18, s112_21, s112_22, s112_23, s112_26, s112_27, s112_29, s112_30, s112_31, s112_32, s112_35, s112_39, s112_40, s112_43, s112_44, s112_45, s112_48, s112_49, s112_52, s112_53, s112_54, s112_57, s112_59, s112_60, s112_63, s112_64, s112_67, s112_68, s112_69, s112_72, s112_73, s112_74, s112_77, cont_some, rl_some, rl_none, if_true, if_false, kd_149, rf_149_0, rf_149_1, rf_149_3, rf_149_5, rf_149_9, rf_149_16, rf_149_17, kd_150, kd_151, kd_152, kd_153, kd_154, kd_155, kd_156, ln_150, ln_151, ln_152, ln_153, ln_154, ln_155, ln_156, Int.reduceLE, Int.reduceLT, Int.reduceToNat, Nat.reduceLT, Int.toNat_natCast, Int.natCast_nonneg, true_or, Int.one_ne_zero, ite_self, c1, e1, b1, b2, e3, e4, ad_n k (by omega)]
    exact ih (k + 1) (by omega)
def rdM (M : Mem) (K : Nat) : Mem := if K < 4 then wr (cpY M 150 0 151 (77 * K) 77) 149 2 ((K + 1 : Nat) : Int) else wr (cpY (wr (shY M 231) 149 2 3) 150 0 151 231 77) 149 2 4
theorem m_records {K : Nat} (hK : M 149 2 = (K : Int)) (hK4 : K ≤ 4) : evM 112 [Rf 149] (Hp M P) = some (none, Hp (rdM M K) P) := by
  unfold rdM
  by_cases c1 : K < 4
  · rw [if_pos c1]
    have c2 : ¬ (K : Int) = 4 := by omega
    have e1 : ml 77 (K : Int) = ((77 * K : Nat) : Int) := by rw [ml_eq (by omega) (by omega)]; omega
    have ec := m_copies (M := M) (P := P) (f := 150) (at' := 0) (to := 151) (b' := 77 * K) kd_150 kd_151 (by rw [ln_150]; omega) (by rw [ln_151]; omega) (by omega) (by omega) (by omega)
    have e9 : ((0 : Nat) : Int) = 0 := rfl
    rw [e9] at ec
    have e2 : cpY M 150 0 151 (77 * K) 77 149 2 = (K : Int) := by unfold cpY; rw [if_neg (by omega)]; exact hK
    simp only [en112, s112_0, s112_1, s112_4, s112_5, s112_8, s112_9, s112_11, s112_14, s112_17, s112_18, s112_21, s112_22, s112_23, s112_26, s112_27, s112_29, s112_30, s112_31, s112_32, s112_35, s112_39, s112_40, s112_43, s112_44, s112_45, s112_48, s112_49, s112_52, s112_53, s112_54, s112_57, s112_59, s112_60, s112_63, s112_64, s112_67, s112_68, s112_69, s112_72, s112_73, s112_74, s112_77, cont_some, rl_some, rl_none, if_true, if_false, kd_149, rf_149_0, rf_149_1, rf_149_3, rf_149_5, rf_149_9, rf_149_16, rf_149_17, kd_150, kd_151, kd_152, kd_153, kd_154, kd_155, kd_156, ln_150, ln_151, ln_152, ln_153, ln_154, ln_155, ln_156, Int.reduceLE, Int.reduceLT, Int.reduceToNat, Nat.reduceLT, Int.toNat_natCast, Int.natCast_nonneg, true_or, Int.one_ne_zero, ite_self, hK, c2, e1, ec, e2, ad_n K (by omega)]
  · rw [if_neg c1]
    have e : K = 4 := by omega
    subst e
    have e4 : ((4 : Nat) : Int) = 4 := rfl
    rw [e4] at hK
    have hs := sh_loop (M := M) (P := P) 231 0 (by omega)
    have e0 : shY M 0 = M := by funext a b; unfold shY; rw [if_neg (by omega)]
    have e9 : ((0 : Nat) : Int) = 0 := rfl
    rw [e0, e9] at hs
    have e2 : shY M 231 149 2 = 4 := by unfold shY; rw [if_neg (by omega)]; exact hK
    have e3 : sb 4 1 = 3 := sb_eq (by omega) (by omega)
    have e5 : ml 77 3 = 231 := ml_eq (by omega) (by omega)
    have ec := m_copies (M := wr (shY M 231) 149 2 3) (P := P) (f := 150) (at' := 0) (to := 151) (b' := 231) kd_150 kd_151 (by rw [ln_150]; omega) (by rw [ln_151]; omega) (by omega) (by omega) (by omega)
    have e6 : ((231 : Nat) : Int) = 231 := rfl
    rw [e9, e6] at ec
    have e7 : wr (shY M 231) 149 2 3 149 2 = 3 := by rw [wr_app, if_pos ⟨rfl, rfl⟩]
    have e8 : cpY (wr (shY M 231) 149 2 3) 150 0 151 231 77 149 2 = 3 := by unfold cpY; rw [if_neg (by omega)]; exact e7
    have e10 : ad 3 1 = 4 := ad_eq (by omega) (by omega)
    simp only [en112, s112_0, s112_1, s112_4, s112_5, s112_8, s112_9, s112_11, s112_14, s112_17, s112_18, s112_21, s112_22, s112_23, s112_26, s112_27, s112_29, s112_30, s112_31, s112_32, s112_35, s112_39, s112_40, s112_43, s112_44, s112_45, s112_48, s112_49, s112_52, s112_53, s112_54, s112_57, s112_59, s112_60, s112_63, s112_64, s112_67, s112_68, s112_69, s112_72, s112_73, s112_74, s112_77, cont_some, rl_some, rl_none, if_true, if_false, kd_149, rf_149_0, rf_149_1, rf_149_3, rf_149_5, rf_149_9, rf_149_16, rf_149_17, kd_150, kd_151, kd_152, kd_153, kd_154, kd_155, kd_156, ln_150, ln_151, ln_152, ln_153, ln_154, ln_155, ln_156, Int.reduceLE, Int.reduceLT, Int.reduceToNat, Nat.reduceLT, Int.toNat_natCast, Int.natCast_nonneg, true_or, Int.one_ne_zero, ite_self, hK]
    rw [hs, s112_38]
    simp only [en112, s112_0, s112_1, s112_4, s112_5, s112_8, s112_9, s112_11, s112_14, s112_17, s112_18, s112_21, s112_22, s112_23, s112_26, s112_27, s112_29, s112_30, s112_31, s112_32, s112_35, s112_39, s112_40, s112_43, s112_44, s112_45, s112_48, s112_49, s112_52, s112_53, s112_54, s112_57, s112_59, s112_60, s112_63, s112_64, s112_67, s112_68, s112_69, s112_72, s112_73, s112_74, s112_77, cont_some, rl_some, rl_none, if_true, if_false, kd_149, rf_149_0, rf_149_1, rf_149_3, rf_149_5, rf_149_9, rf_149_16, rf_149_17, kd_150, kd_151, kd_152, kd_153, kd_154, kd_155, kd_156, ln_150, ln_151, ln_152, ln_153, ln_154, ln_155, ln_156, Int.reduceLE, Int.reduceLT, Int.reduceToNat, Nat.reduceLT, Int.toNat_natCast, Int.natCast_nonneg, true_or, Int.one_ne_zero, ite_self, e2, e3, e7, e5, ec, e8, e10]
end Ref8
