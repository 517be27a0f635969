section Ref6
variable {M : Mem} {P : PMem} {c : Mem} {n sp t : Nat} {hl : Nat → Nat}
/-- what the end of a round asks of the reference -/
def EOk (c M : Mem) (n sp : Nat) (hl : Nat → Nat) : Prop :=
  MN M n ∧ 1 ≤ n ∧ MS M sp ∧ ML c M n ∧ MH M n hl ∧ MK c M n hl ∧ MO c M n ∧ (∀ d, d < n → ∃ q : Nat, q ≤ sp ∧ c 7 d = (q : Int)) ∧ vOk (skF c hl n sp) ∧ (skF c hl n sp).length ≤ 16 ∧ (mNb M sp).length + ((skF c hl n sp).length + 2) / 3 ≤ 16
theorem nx_mod {x : Nat} (hx : x < n) : (if x + 1 < n then x + 1 else 0) = (x + 1) % n := by
  by_cases h : x + 1 < n
  · rw [if_pos h, Nat.mod_eq_of_lt h]
  · have : x + 1 = n := by omega
    rw [if_neg h, this, Nat.mod_self]
theorem et_loop (h : MN M n) (h1 : 1 ≤ n) (hO : MO c M n) {d0 : Nat} : ∀ (m x : Nat), x < n → (∃ i, 1 ≤ i ∧ i ≤ m ∧ c 11 ((x + i) % n) ≠ 1) → evL 137 37 [Rf 149, I (((x + 1) % n : Nat) : Int)] [] (Hp M P) = some (none, Hp (wr (wr M 150 2 (nxO (c 11) n d0 m x : Int)) 150 3 0) P) := by
  obtain ⟨h0, hn⟩ := h
  intro m
  induction m with
  | zero => rintro x _ ⟨i, i1, i2, _⟩; omega
  | succ m ih =>
    rintro x hx ⟨i, i1, i2, i3⟩
    have hy : (x + 1) % n < n := Nat.mod_lt _ (by omega)
    have hO' := hO _ hy
    rw [nxO, nx_mod hx, s137_37]
    obtain ⟨y, ey⟩ : ∃ y, y = (x + 1) % n := ⟨_, rfl⟩
    rw [← ey] at hO' hy ⊢
    by_cases c1 : c 11 y = 1
    · have hi : i ≠ 1 := by rintro rfl; rw [← ey] at i3; exact i3 c1
      have e2 : rm (ad (y : Int) 1) (n : Int) = (((y + 1) % n : Nat) : Int) := by
        rw [ad_n y (by omega), rm_eq (by omega) (by omega) (by omega) (by omega)]
        push_cast
        rfl
      have cz : ¬ (n : Int) = 0 := by omega
      have := ih y hy ⟨i - 1, by omega, by omega, by
        rw [ey, Nat.mod_add_mod, show x + 1 + (i - 1) = x + i by omega]
        exact i3⟩
      simp only [en137, s137_0, s137_1, s137_4, s137_5, s137_6, s137_9, s137_10, s137_13, s137_16, s137_17, s137_20, s137_21, s137_22, s137_25, s137_26, s137_27, s137_28, s137_29, s137_30, s137_33, s137_34, s137_35, s137_36, s137_38, s137_39, s137_40, s137_43, s137_44, s137_47, s137_48, s137_49, s137_50, s137_51, s137_54, s137_55, s137_56, s137_57, s137_58, s137_61, s137_62, s137_65, s137_66, s137_67, s137_68, s137_69, s137_72, s137_73, s137_74, s137_75, cont_some, rl_some, rl_none, if_true, if_false, kd_149, rf_149_0, rf_149_1, rf_149_3, rf_149_5, rf_149_9, rf_149_16, rf_149_17, kd_150, kd_151, kd_152, kd_153, kd_154, kd_155, kd_156, ln_150, ln_151, ln_152, ln_153, ln_154, ln_155, ln_156, Int.reduceLE, Int.reduceLT, Int.reduceToNat, Nat.reduceLT, Int.toNat_natCast, Int.natCast_nonneg, true_or, Int.one_ne_zero, ite_self, m_of2 (show y < 4 by omega), hO', c1, h0, e2, ne_eq, cz, not_false_eq_true]
      exact this
    · simp only [en137, s137_0, s137_1, s137_4, s137_5, s137_6, s137_9, s137_10, s137_13, s137_16, s137_17, s137_20, s137_21, s137_22, s137_25, s137_26, s137_27, s137_28, s137_29, s137_30, s137_33, s137_34, s137_35, s137_36, s137_38, s137_39, s137_40, s137_43, s137_44, s137_47, s137_48, s137_49, s137_50, s137_51, s137_54, s137_55, s137_56, s137_57, s137_58, s137_61, s137_62, s137_65, s137_66, s137_67, s137_68, s137_69, s137_72, s137_73, s137_74, s137_75, cont_some, rl_some, rl_none, if_true, if_false, kd_149, rf_149_0, rf_149_1, rf_149_3, rf_149_5, rf_149_9, rf_149_16, rf_149_17, kd_150, kd_151, kd_152, kd_153, kd_154, kd_155, kd_156, ln_150, ln_151, ln_152, ln_153, ln_154, ln_155, ln_156, Int.reduceLE, Int.reduceLT, Int.reduceToNat, Nat.reduceLT, Int.toNat_natCast, Int.natCast_nonneg, true_or, Int.one_ne_zero, ite_self, m_of2 (show y < 4 by omega), hO', c1]
def etR (M c : Mem) (n sp t : Nat) (hl : Nat → Nat) (x : Nat) : Mem := if M 150 4 = 0 ∨ alH (mHo M) n = 1 then enR M c n sp hl x else wr (wr M 150 2 (nxO (c 11) n t n t : Int)) 150 3 0
theorem alH_no {f : Nat → Int} : ∀ k, alH f k ≠ 1 → ∃ e, e < k ∧ f e ≠ 1 := by
  intro k
  induction k with
  | zero => intro h; exact absurd rfl h
  | succ k ih =>
    intro h
    unfold alH at h
    by_cases c1 : alH f k = 0
    · obtain ⟨e, e1, e2⟩ := ih (by omega)
      exact ⟨e, by omega, e2⟩
    · by_cases c2 : f k = 1
      · rw [if_neg c1, if_pos c2] at h; exact absurd rfl h
      · exact ⟨k, by omega, c2⟩
theorem m_endsTurn (hE : EOk c M n sp hl) (ht : M 150 2 = (t : Int)) (htn : t < n) : ∃ x, (∀ e, e < n → lk x e = true) ∧ evM 137 [Rf 149] (Hp M P) = some (none, Hp (etR M c n sp t hl x) P) := by
  obtain ⟨a1, a2, a3, a4, a5, a6, a7, a8, a9, a10, a11⟩ := hE
  obtain ⟨x, x1, x2⟩ := m_ends (P := P) a1 a2 a3 a4 a5 a6 a7 a8 a9 a10 a11
  have hn := a1.2
  refine ⟨x, x1, ?_⟩
  unfold etR
  by_cases c1 : M 150 4 = 0
  · rw [if_pos (Or.inl c1)]
    simp only [en137, s137_0, s137_1, s137_4, s137_5, s137_6, s137_9, s137_10, s137_13, s137_16, s137_17, s137_20, s137_21, s137_22, s137_25, s137_26, s137_27, s137_28, s137_29, s137_30, s137_33, s137_34, s137_35, s137_36, s137_38, s137_39, s137_40, s137_43, s137_44, s137_47, s137_48, s137_49, s137_50, s137_51, s137_54, s137_55, s137_56, s137_57, s137_58, s137_61, s137_62, s137_65, s137_66, s137_67, s137_68, s137_69, s137_72, s137_73, s137_74, s137_75, cont_some, rl_some, rl_none, if_true, if_false, kd_149, rf_149_0, rf_149_1, rf_149_3, rf_149_5, rf_149_9, rf_149_16, rf_149_17, kd_150, kd_151, kd_152, kd_153, kd_154, kd_155, kd_156, ln_150, ln_151, ln_152, ln_153, ln_154, ln_155, ln_156, Int.reduceLE, Int.reduceLT, Int.reduceToNat, Nat.reduceLT, Int.toNat_natCast, Int.natCast_nonneg, true_or, Int.one_ne_zero, ite_self, c1, x2]
  · by_cases c2 : alH (mHo M) n = 1
    · rw [if_pos (Or.inr c2)]
      simp only [en137, s137_0, s137_1, s137_4, s137_5, s137_6, s137_9, s137_10, s137_13, s137_16, s137_17, s137_20, s137_21, s137_22, s137_25, s137_26, s137_27, s137_28, s137_29, s137_30, s137_33, s137_34, s137_35, s137_36, s137_38, s137_39, s137_40, s137_43, s137_44, s137_47, s137_48, s137_49, s137_50, s137_51, s137_54, s137_55, s137_56, s137_57, s137_58, s137_61, s137_62, s137_65, s137_66, s137_67, s137_68, s137_69, s137_72, s137_73, s137_74, s137_75, cont_some, rl_some, rl_none, if_true, if_false, kd_149, rf_149_0, rf_149_1, rf_149_3, rf_149_5, rf_149_9, rf_149_16, rf_149_17, kd_150, kd_151, kd_152, kd_153, kd_154, kd_155, kd_156, ln_150, ln_151, ln_152, ln_153, ln_154, ln_155, ln_156, Int.reduceLE, Int.reduceLT, Int.reduceToNat, Nat.reduceLT, Int.toNat_natCast, Int.natCast_nonneg, true_or, Int.one_ne_zero, ite_self, c1, m_allHome a1, c2, x2]
    · rw [if_neg (by rintro (h | h); exact c1 h; exact c2 h)]
      have c3 : alH (mHo M) n = 0 := by rcases alH_01 (mHo M) n with h | h; exact h; exact absurd h c2
      obtain ⟨e, e1, e2⟩ := alH_no n c2
      have e3 : c 11 e ≠ 1 := by rw [← a7 e e1]; exact e2
      have hl := et_loop (P := P) a1 a2 a7 (d0 := t) n t htn (by
        by_cases h : t < e
        · refine ⟨e - t, by omega, by omega, ?_⟩
          rw [show t + (e - t) = e by omega, Nat.mod_eq_of_lt e1]; exact e3
        · refine ⟨e + n - t, by omega, by omega, ?_⟩
          rw [show t + (e + n - t) = e + n by omega, Nat.add_mod_right, Nat.mod_eq_of_lt e1]; exact e3)
      have e4 : rm (ad (t : Int) 1) (n : Int) = (((t + 1) % n : Nat) : Int) := by
        rw [ad_n t (by omega), rm_eq (by omega) (by omega) (by omega) (by omega)]
        push_cast
        rfl
      have cz : ¬ (n : Int) = 0 := by omega
      have h0 := a1.1
      simp only [en137, s137_0, s137_1, s137_4, s137_5, s137_6, s137_9, s137_10, s137_13, s137_16, s137_17, s137_20, s137_21, s137_22, s137_25, s137_26, s137_27, s137_28, s137_29, s137_30, s137_33, s137_34, s137_35, s137_36, s137_38, s137_39, s137_40, s137_43, s137_44, s137_47, s137_48, s137_49, s137_50, s137_51, s137_54, s137_55, s137_56, s137_57, s137_58, s137_61, s137_62, s137_65, s137_66, s137_67, s137_68, s137_69, s137_72, s137_73, s137_74, s137_75, cont_some, rl_some, rl_none, if_true, if_false, kd_149, rf_149_0, rf_149_1, rf_149_3, rf_149_5, rf_149_9, rf_149_16, rf_149_17, kd_150, kd_151, kd_152, kd_153, kd_154, kd_155, kd_156, ln_150, ln_151, ln_152, ln_153, ln_154, ln_155, ln_156, Int.reduceLE, Int.reduceLT, Int.reduceToNat, Nat.reduceLT, Int.toNat_natCast, Int.natCast_nonneg, true_or, Int.one_ne_zero, ite_self, c1, m_allHome a1, c3, ht, h0, e4, ne_eq, cz, not_false_eq_true]
      exact hl
/-! moves -/
def mmT (M : Mem) (h : Nat) : Int := if (h : Int) < M 150 4 then M 150 4 - h else 0
def mmU (M : Mem) (t : Nat) (back : Int) : Int := if back = 0 then M 150 (sl t 1) else 1
def mmR (M : Mem) (t h p : Nat) (back : Int) : Mem :=
  wr (wr (wr (wr (wr (wr (wr M 150 4 (mmT M h)) 150 (sl t 1) (mmU M t back)) 150 5 (ltF (ltF (M 150 5)))) 150 6 (mvDi (M 150 5))) 150 (sl t 0) (p : Int)) 150 (sl t 2) (if mmU M t back = 1 ∧ p = 0 then 1 else 0)) 150 3 1
theorem m_moveNo (ht : M 150 2 = (t : Int)) (h4 : t < 4) {back : Int} (hr : rmR M t back ≠ 0) : evM 134 [Rf 149, I back] (Hp M P) = some (some (I (rmR M t back)), Hp (wr M 150 7 (ad (M 150 7) 1)) P) := by
  have c1 : ¬ rmR M t back ≤ 0 := by
    have : 0 ≤ rmR M t back := by unfold rmR; split; omega; split; omega; split; omega; split <;> omega
    omega
  simp only [en134, s134_0, s134_1, s134_2, s134_5, s134_6, s134_7, s134_10, s134_11, s134_12, s134_15, s134_16, s134_17, s134_20, s134_21, s134_22, s134_23, s134_24, s134_27, s134_28, s134_29, s134_32, s134_33, s134_34, s134_35, s134_36, s134_37, s134_40, s134_43, s134_44, s134_47, s134_48, s134_49, s134_50, s134_51, s134_52, s134_55, s134_56, s134_59, s134_60, s134_61, s134_62, s134_63, s134_64, s134_65, s134_68, s134_69, s134_72, s134_73, s134_74, s134_75, s134_78, s134_81, s134_82, s134_83, s134_86, s134_87, s134_88, s134_89, s134_91, s134_92, s134_93, s134_96, s134_97, s134_98, s134_99, s134_101, s134_102, s134_105, s134_107, s134_109, s134_111, s134_112, s134_113, s134_114, s134_115, s134_116, s134_119, s134_120, s134_123, s134_124, s134_127, s134_128, s134_130, s134_131, s134_132, s134_133, s134_134, s134_135, s134_138, s134_140, s134_141, s134_142, s134_143, s134_146, s134_148, s134_149, s134_152, s134_155, s134_157, s134_158, s134_159, s134_160, s134_162, s134_165, s134_166, s134_167, s134_168, s134_170, s134_173, s134_175, s134_178, s134_179, s134_182, s134_183, s134_186, s134_187, s134_190, s134_191, s134_192, s134_193, s134_195, s134_197, s134_198, cont_some, rl_some, rl_none, if_true, if_false, kd_149, rf_149_0, rf_149_1, rf_149_3, rf_149_5, rf_149_9, rf_149_16, rf_149_17, kd_150, kd_151, kd_152, kd_153, kd_154, kd_155, kd_156, ln_150, ln_151, ln_152, ln_153, ln_154, ln_155, ln_156, Int.reduceLE, Int.reduceLT, Int.reduceToNat, Nat.reduceLT, Int.toNat_natCast, Int.natCast_nonneg, true_or, Int.one_ne_zero, ite_self, m_reasonM ht h4, c1, m_refuses]
theorem m_goMove (hN : MN M n) (hS : MS M sp) (hL : ML c M n) (hu : UQ c n) (ht : M 150 2 = (t : Int)) (htn : t < n) {h q : Nat} (hh : M 150 (sl t 3) = (h : Int)) (h6 : h ≤ 6) (hq : M 150 (sl t 0) = (q : Int)) (hqs : q ≤ sp) (hlot : 0 ≤ M 150 5 ∧ M 150 5 ≤ 9999) (htk : 0 ≤ M 150 4 ∧ M 150 4 ≤ 100) {back : Int} (hr : rmR M t back = 0) (h0 : mmU M t back = 1 → 1 ≤ q) : evM 134 [Rf 149, I back] (Hp M P) = some (some (I (((10 + landF (c 7) n t sp (decide (mmU M t back = 1)) (mvDi (M 150 5) - h).toNat q : Nat) : Int))), Hp (mmR M t h (landF (c 7) n t sp (decide (mmU M t back = 1)) (mvDi (M 150 5) - h).toNat q) back) P) := by
  have hn := hN.2
  have h4 : t < 4 := by omega
  have hb := ltF_b (M 150 5)
  have hb2 := ltF_b (ltF (M 150 5))
  have hdi := mvDi_b (M 150 5)
  have h16 := hS.2
  obtain ⟨p, ep⟩ : ∃ p, p = landF (c 7) n t sp (decide (mmU M t back = 1)) (mvDi (M 150 5) - h).toNat q := ⟨_, rfl⟩
  have hp : p ≤ sp := by rw [ep]; exact landF_le _ _ hqs
  rw [← ep]
  have s1 := sl_div (d := t) (w := 1) (by omega)
  have s0 := sl_div (d := t) (w := 0) (by omega)
  have s2 := sl_div (d := t) (w := 2) (by omega)
  have s3 := sl_div (d := t) (w := 3) (by omega)
  have d13 : sl t 1 ≠ sl t 3 := fun h => by have := (sl_inj (by omega) (by omega) h).2; omega
  have d10 : sl t 1 ≠ sl t 0 := fun h => by have := (sl_inj (by omega) (by omega) h).2; omega
  -- the memories in between
  obtain ⟨A, eA⟩ : ∃ A, A = wr M 150 4 (mmT M h) := ⟨_, rfl⟩
  have a1 : A 150 (sl t 1) = M 150 (sl t 1) := by rw [eA, wr_app, if_neg (by omega)]
  have a5 : A 150 5 = M 150 5 := by rw [eA, wr_app, if_neg (by omega)]
  obtain ⟨B, eB⟩ : ∃ B, B = wr A 150 (sl t 1) (mmU M t back) := ⟨_, rfl⟩
  have b5 : B 150 5 = M 150 5 := by rw [eB, wr_app, if_neg (by omega), a5]
  have ed := m_draw (M := B) (P := P) (by rw [b5]; exact hlot.1) (by rw [b5]; exact hlot.2)
  rw [b5] at ed
  have b6 : wr B 150 5 (ltF (M 150 5)) 150 5 = ltF (M 150 5) := by rw [wr_app, if_pos ⟨rfl, rfl⟩]
  have ed2 := m_draw (M := wr B 150 5 (ltF (M 150 5))) (P := P) (by rw [b6]; exact hb.1) (by rw [b6]; exact hb.2)
  rw [b6, wr_wr] at ed2
  obtain ⟨C, eC⟩ : ∃ C, C = wr (wr B 150 5 (ltF (ltF (M 150 5)))) 150 6 (mvDi (M 150 5)) := ⟨_, rfl⟩
  have r1 : rm (ltF (M 150 5)) 3 = ltF (M 150 5) % 3 := rm_eq (by omega) (by omega) (by omega) (by omega)
  have r2 : rm (ltF (ltF (M 150 5))) 3 = ltF (ltF (M 150 5)) % 3 := rm_eq (by omega) (by omega) (by omega) (by omega)
  have r3 : ad 1 (ltF (M 150 5) % 3) = 1 + ltF (M 150 5) % 3 := ad_eq (by omega) (by omega)
  have r4 : ad 1 (ltF (ltF (M 150 5)) % 3) = 1 + ltF (ltF (M 150 5)) % 3 := ad_eq (by omega) (by omega)
  have r5 : ad (1 + ltF (M 150 5) % 3) (1 + ltF (ltF (M 150 5)) % 3) = mvDi (M 150 5) := by rw [ad_eq (by omega) (by omega)]; rfl
  have cC (b : Nat) (hb : b ≠ 4 ∧ b ≠ 5 ∧ b ≠ 6 ∧ b ≠ sl t 1) : C 150 b = M 150 b := by
    rw [eC, wr_app, if_neg (by omega), wr_app, if_neg (by omega), eB, wr_app, if_neg (by omega), eA, wr_app, if_neg (by omega)]
  have c1 : C 150 (sl t 1) = mmU M t back := by
    rw [eC, wr_app, if_neg (by omega), wr_app, if_neg (by omega), eB, wr_app, if_pos ⟨rfl, rfl⟩]
  have c6 : C 150 6 = mvDi (M 150 5) := by rw [eC, wr_app, if_pos ⟨rfl, rfl⟩]
  have cN : MN C n := ⟨by rw [cC 0 (by omega)]; exact hN.1, hn⟩
  have cS : MS C sp := ⟨by rw [cC 8 (by omega)]; exact hS.1, h16⟩
  have cL : ML c C n := fun d hd => by
    have := sl_div (d := d) (w := 0) (by omega)
    rw [cC _ ⟨by omega, by omega, by omega, fun h => by have := (sl_inj (by omega) (by omega) h).2; omega⟩]; exact hL d hd
  have c3 : C 150 (sl t 3) = (h : Int) := by rw [cC _ ⟨by omega, by omega, by omega, fun h => d13 h.symm⟩]; exact hh
  have c0 : C 150 (sl t 0) = (q : Int) := by rw [cC _ ⟨by omega, by omega, by omega, fun h => d10 h.symm⟩]; exact hq
  have est := m_steps (M := C) (P := P) h4 c3 h6 (s := mvDi (M 150 5)) (by omega) (by omega)
  have ebh := m_behind (P := P) cN cS cL hu (d := t) (st := (mvDi (M 150 5) - h).toNat) (p := q) (up := decide (mmU M t back = 1)) (by omega) hqs (fun h => h0 (of_decide_eq_true h))
  rw [← ep] at ebh
  have e10 : ad 10 (p : Int) = ((10 + p : Nat) : Int) := by rw [ad_eq (by omega) (by omega)]; omega
  have hm : mmR M t h p back = wr (wr (wr C 150 (sl t 0) (p : Int)) 150 (sl t 2) (if mmU M t back = 1 ∧ p = 0 then 1 else 0)) 150 3 1 := by rw [eC, eB, eA]; rfl
  have c0r : (0 : Int) ≤ 0 := by omega
  rw [hm]
  have k1 : ∀ l4 l5 l6 l7 : AV, evL 134 16 [Rf 149, I back, I 0, l4, l5, l6, l7, Db 0] [] (Hp M P) = evL 134 61 [Rf 149, I back, I 0, I (t : Int), l5, l6, l7, Db 0] [] (Hp A P) := by
    intro l4 l5 l6 l7
    have e : sb (M 150 4) (h : Int) = M 150 4 - h := sb_eq (by omega) (by omega)
    by_cases x1 : M 150 4 ≤ (h : Int)
    · have x2 : wr M 150 4 0 = A := by rw [eA]; unfold mmT; rw [if_neg (by omega)]
      simp only [en134, s134_0, s134_1, s134_2, s134_5, s134_6, s134_7, s134_10, s134_11, s134_12, s134_15, s134_16, s134_17, s134_20, s134_21, s134_22, s134_23, s134_24, s134_27, s134_28, s134_29, s134_32, s134_33, s134_34, s134_35, s134_36, s134_37, s134_40, s134_43, s134_44, s134_47, s134_48, s134_49, s134_50, s134_51, s134_52, s134_55, s134_56, s134_59, s134_60, s134_62, s134_63, s134_64, s134_65, s134_68, s134_69, s134_72, s134_73, s134_74, s134_75, s134_78, s134_81, s134_82, s134_83, s134_86, s134_87, s134_88, s134_89, s134_91, s134_92, s134_93, s134_96, s134_97, s134_98, s134_99, s134_101, s134_102, s134_105, s134_107, s134_109, s134_111, s134_112, s134_113, s134_114, s134_115, s134_116, s134_119, s134_120, s134_123, s134_124, s134_127, s134_128, s134_130, s134_131, s134_132, s134_133, s134_134, s134_135, s134_138, s134_140, s134_141, s134_142, s134_143, s134_146, s134_148, s134_149, s134_152, s134_155, s134_157, s134_158, s134_159, s134_160, s134_162, s134_165, s134_166, s134_167, s134_168, s134_170, s134_173, s134_175, s134_178, s134_179, s134_182, s134_183, s134_186, s134_187, s134_190, s134_191, s134_192, s134_193, s134_195, s134_197, s134_198, cont_some, rl_some, rl_none, if_true, if_false, kd_149, rf_149_0, rf_149_1, rf_149_3, rf_149_5, rf_149_9, rf_149_16, rf_149_17, kd_150, kd_151, kd_152, kd_153, kd_154, kd_155, kd_156, ln_150, ln_151, ln_152, ln_153, ln_154, ln_155, ln_156, Int.reduceLE, Int.reduceLT, Int.reduceToNat, Nat.reduceLT, Int.toNat_natCast, Int.natCast_nonneg, true_or, Int.one_ne_zero, ite_self, ht, m_of3 h4, hh, x1, x2]
    · have x2 : wr M 150 4 (M 150 4 - h) = A := by rw [eA]; unfold mmT; rw [if_pos (by omega)]
      simp only [en134, s134_0, s134_1, s134_2, s134_5, s134_6, s134_7, s134_10, s134_11, s134_12, s134_15, s134_16, s134_17, s134_20, s134_21, s134_22, s134_23, s134_24, s134_27, s134_28, s134_29, s134_32, s134_33, s134_34, s134_35, s134_36, s134_37, s134_40, s134_43, s134_44, s134_47, s134_48, s134_49, s134_50, s134_51, s134_52, s134_55, s134_56, s134_59, s134_60, s134_62, s134_63, s134_64, s134_65, s134_68, s134_69, s134_72, s134_73, s134_74, s134_75, s134_78, s134_81, s134_82, s134_83, s134_86, s134_87, s134_88, s134_89, s134_91, s134_92, s134_93, s134_96, s134_97, s134_98, s134_99, s134_101, s134_102, s134_105, s134_107, s134_109, s134_111, s134_112, s134_113, s134_114, s134_115, s134_116, s134_119, s134_120, s134_123, s134_124, s134_127, s134_128, s134_130, s134_131, s134_132, s134_133, s134_134, s134_135, s134_138, s134_140, s134_141, s134_142, s134_143, s134_146, s134_148, s134_149, s134_152, s134_155, s134_157, s134_158, s134_159, s134_160, s134_162, s134_165, s134_166, s134_167, s134_168, s134_170, s134_173, s134_175, s134_178, s134_179, s134_182, s134_183, s134_186, s134_187, s134_190, s134_191, s134_192, s134_193, s134_195, s134_197, s134_198, cont_some, rl_some, rl_none, if_true, if_false, kd_149, rf_149_0, rf_149_1, rf_149_3, rf_149_5, rf_149_9, rf_149_16, rf_149_17, kd_150, kd_151, kd_152, kd_153, kd_154, kd_155, kd_156, ln_150, ln_151, ln_152, ln_153, ln_154, ln_155, ln_156, Int.reduceLE, Int.reduceLT, Int.reduceToNat, Nat.reduceLT, Int.toNat_natCast, Int.natCast_nonneg, true_or, Int.one_ne_zero, ite_self, ht, m_of3 h4, hh, x1, e, x2]
  have k2 : ∀ l5 l6 l7 : AV, evL 134 61 [Rf 149, I back, I 0, I (t : Int), l5, l6, l7, Db 0] [] (Hp A P) = evL 134 81 [Rf 149, I back, I 0, I (t : Int), l5, l6, l7, Db 0] [] (Hp B P) := by
    intro l5 l6 l7
    rw [s134_61]
    by_cases x1 : back = 0
    · have x2 : wr A 150 (sl t 1) (M 150 (sl t 1)) = B := by rw [eB]; unfold mmU; rw [if_pos x1]
      simp only [en134, s134_0, s134_1, s134_2, s134_5, s134_6, s134_7, s134_10, s134_11, s134_12, s134_15, s134_16, s134_17, s134_20, s134_21, s134_22, s134_23, s134_24, s134_27, s134_28, s134_29, s134_32, s134_33, s134_34, s134_35, s134_36, s134_37, s134_40, s134_43, s134_44, s134_47, s134_48, s134_49, s134_50, s134_51, s134_52, s134_55, s134_56, s134_59, s134_60, s134_62, s134_63, s134_64, s134_65, s134_68, s134_69, s134_72, s134_73, s134_74, s134_75, s134_78, s134_82, s134_83, s134_86, s134_87, s134_88, s134_89, s134_91, s134_92, s134_93, s134_96, s134_97, s134_98, s134_99, s134_101, s134_102, s134_105, s134_107, s134_109, s134_111, s134_112, s134_113, s134_114, s134_115, s134_116, s134_119, s134_120, s134_123, s134_124, s134_127, s134_128, s134_130, s134_131, s134_132, s134_133, s134_134, s134_135, s134_138, s134_140, s134_141, s134_142, s134_143, s134_146, s134_148, s134_149, s134_152, s134_155, s134_157, s134_158, s134_159, s134_160, s134_162, s134_165, s134_166, s134_167, s134_168, s134_170, s134_173, s134_175, s134_178, s134_179, s134_182, s134_183, s134_186, s134_187, s134_190, s134_191, s134_192, s134_193, s134_195, s134_197, s134_198, cont_some, rl_some, rl_none, if_true, if_false, kd_149, rf_149_0, rf_149_1, rf_149_3, rf_149_5, rf_149_9, rf_149_16, rf_149_17, kd_150, kd_151, kd_152, kd_153, kd_154, kd_155, kd_156, ln_150, ln_151, ln_152, ln_153, ln_154, ln_155, ln_156, Int.reduceLE, Int.reduceLT, Int.reduceToNat, Nat.reduceLT, Int.toNat_natCast, Int.natCast_nonneg, true_or, Int.one_ne_zero, ite_self, x1, m_of1 h4, a1, m_lay1 h4, x2]
    · have x2 : wr A 150 (sl t 1) 1 = B := by rw [eB]; unfold mmU; rw [if_neg x1]
      simp only [en134, s134_0, s134_1, s134_2, s134_5, s134_6, s134_7, s134_10, s134_11, s134_12, s134_15, s134_16, s134_17, s134_20, s134_21, s134_22, s134_23, s134_24, s134_27, s134_28, s134_29, s134_32, s134_33, s134_34, s134_35, s134_36, s134_37, s134_40, s134_43, s134_44, s134_47, s134_48, s134_49, s134_50, s134_51, s134_52, s134_55, s134_56, s134_59, s134_60, s134_62, s134_63, s134_64, s134_65, s134_68, s134_69, s134_72, s134_73, s134_74, s134_75, s134_78, s134_82, s134_83, s134_86, s134_87, s134_88, s134_89, s134_91, s134_92, s134_93, s134_96, s134_97, s134_98, s134_99, s134_101, s134_102, s134_105, s134_107, s134_109, s134_111, s134_112, s134_113, s134_114, s134_115, s134_116, s134_119, s134_120, s134_123, s134_124, s134_127, s134_128, s134_130, s134_131, s134_132, s134_133, s134_134, s134_135, s134_138, s134_140, s134_141, s134_142, s134_143, s134_146, s134_148, s134_149, s134_152, s134_155, s134_157, s134_158, s134_159, s134_160, s134_162, s134_165, s134_166, s134_167, s134_168, s134_170, s134_173, s134_175, s134_178, s134_179, s134_182, s134_183, s134_186, s134_187, s134_190, s134_191, s134_192, s134_193, s134_195, s134_197, s134_198, cont_some, rl_some, rl_none, if_true, if_false, kd_149, rf_149_0, rf_149_1, rf_149_3, rf_149_5, rf_149_9, rf_149_16, rf_149_17, kd_150, kd_151, kd_152, kd_153, kd_154, kd_155, kd_156, ln_150, ln_151, ln_152, ln_153, ln_154, ln_155, ln_156, Int.reduceLE, Int.reduceLT, Int.reduceToNat, Nat.reduceLT, Int.toNat_natCast, Int.natCast_nonneg, true_or, Int.one_ne_zero, ite_self, x1, m_lay1 h4, x2]
  have k3 : ∀ l5 l6 l7 : AV, ∃ l5' l6' : AV, evL 134 81 [Rf 149, I back, I 0, I (t : Int), l5, l6, l7, Db 0] [] (Hp B P) = evL 134 113 [Rf 149, I back, I 0, I (t : Int), l5', l6', l7, Db 0] [] (Hp C P) := by
    intro l5 l6 l7
    refine ⟨I (1 + ltF (M 150 5) % 3), I (1 + ltF (ltF (M 150 5)) % 3), ?_⟩
    have cz : ¬ (3 : Int) = 0 := by omega
    rw [s134_81]
    simp only [en134, s134_0, s134_1, s134_2, s134_5, s134_6, s134_7, s134_10, s134_11, s134_12, s134_15, s134_16, s134_17, s134_20, s134_21, s134_22, s134_23, s134_24, s134_27, s134_28, s134_29, s134_32, s134_33, s134_34, s134_35, s134_36, s134_37, s134_40, s134_43, s134_44, s134_47, s134_48, s134_49, s134_50, s134_51, s134_52, s134_55, s134_56, s134_59, s134_60, s134_62, s134_63, s134_64, s134_65, s134_68, s134_69, s134_72, s134_73, s134_74, s134_75, s134_78, s134_82, s134_83, s134_86, s134_87, s134_88, s134_89, s134_91, s134_92, s134_93, s134_96, s134_97, s134_98, s134_99, s134_101, s134_102, s134_105, s134_107, s134_109, s134_111, s134_112, s134_114, s134_115, s134_116, s134_119, s134_120, s134_123, s134_124, s134_127, s134_128, s134_130, s134_131, s134_132, s134_133, s134_134, s134_135, s134_138, s134_140, s134_141, s134_142, s134_143, s134_146, s134_148, s134_149, s134_152, s134_155, s134_157, s134_158, s134_159, s134_160, s134_162, s134_165, s134_166, s134_167, s134_168, s134_170, s134_173, s134_175, s134_178, s134_179, s134_182, s134_183, s134_186, s134_187, s134_190, s134_191, s134_192, s134_193, s134_195, s134_197, s134_198, cont_some, rl_some, rl_none, if_true, if_false, kd_149, rf_149_0, rf_149_1, rf_149_3, rf_149_5, rf_149_9, rf_149_16, rf_149_17, kd_150, kd_151, kd_152, kd_153, kd_154, kd_155, kd_156, ln_150, ln_151, ln_152, ln_153, ln_154, ln_155, ln_156, Int.reduceLE, Int.reduceLT, Int.reduceToNat, Nat.reduceLT, Int.toNat_natCast, Int.natCast_nonneg, true_or, Int.one_ne_zero, ite_self, ed, ne_eq, cz, not_false_eq_true, r1, r3, ed2, r2, r4, r5, ← eC]
  have k4 : ∀ l5 l6 : AV, evL 134 113 [Rf 149, I back, I 0, I (t : Int), l5, l6, Db 0, Db 0] [] (Hp C P) = some (some (I ((10 + p : Nat) : Int)), Hp (wr (wr (wr C 150 (sl t 0) (p : Int)) 150 (sl t 2) (if mmU M t back = 1 ∧ p = 0 then 1 else 0)) 150 3 1) P) := by
    intro l5 l6
    rw [s134_113]
    by_cases x1 : mmU M t back = 1
    · rw [x1] at c1
      simp only [x1, decide_true, if_true] at ebh
      by_cases x2 : p = 0
      · have x3 : (p : Int) = 0 := by omega
        rw [if_pos ⟨x1, x2⟩]
        rw [x3] at ebh e10
        simp only [en134, s134_0, s134_1, s134_2, s134_5, s134_6, s134_7, s134_10, s134_11, s134_12, s134_15, s134_16, s134_17, s134_20, s134_21, s134_22, s134_23, s134_24, s134_27, s134_28, s134_29, s134_32, s134_33, s134_34, s134_35, s134_36, s134_37, s134_40, s134_43, s134_44, s134_47, s134_48, s134_49, s134_50, s134_51, s134_52, s134_55, s134_56, s134_59, s134_60, s134_62, s134_63, s134_64, s134_65, s134_68, s134_69, s134_72, s134_73, s134_74, s134_75, s134_78, s134_82, s134_83, s134_86, s134_87, s134_88, s134_89, s134_91, s134_92, s134_93, s134_96, s134_97, s134_98, s134_99, s134_101, s134_102, s134_105, s134_107, s134_109, s134_111, s134_112, s134_114, s134_115, s134_116, s134_119, s134_120, s134_123, s134_124, s134_127, s134_128, s134_130, s134_131, s134_132, s134_133, s134_134, s134_135, s134_138, s134_140, s134_141, s134_142, s134_143, s134_146, s134_148, s134_149, s134_152, s134_155, s134_157, s134_158, s134_159, s134_160, s134_162, s134_165, s134_166, s134_167, s134_168, s134_170, s134_173, s134_175, s134_178, s134_179, s134_182, s134_183, s134_186, s134_187, s134_190, s134_191, s134_192, s134_193, s134_195, s134_197, s134_198, cont_some, rl_some, rl_none, if_true, if_false, kd_149, rf_149_0, rf_149_1, rf_149_3, rf_149_5, rf_149_9, rf_149_16, rf_149_17, kd_150, kd_151, kd_152, kd_153, kd_154, kd_155, kd_156, ln_150, ln_151, ln_152, ln_153, ln_154, ln_155, ln_156, Int.reduceLE, Int.reduceLT, Int.reduceToNat, Nat.reduceLT, Int.toNat_natCast, Int.natCast_nonneg, true_or, Int.one_ne_zero, ite_self, m_of1 h4, c1, m_of0 h4, c0, c6, est, ebh, m_lay0 h4, x3, m_lay2 h4, e10]
      · have x3 : ¬ (p : Int) = 0 := by omega
        rw [if_neg (fun h => x2 h.2)]
        simp only [en134, s134_0, s134_1, s134_2, s134_5, s134_6, s134_7, s134_10, s134_11, s134_12, s134_15, s134_16, s134_17, s134_20, s134_21, s134_22, s134_23, s134_24, s134_27, s134_28, s134_29, s134_32, s134_33, s134_34, s134_35, s134_36, s134_37, s134_40, s134_43, s134_44, s134_47, s134_48, s134_49, s134_50, s134_51, s134_52, s134_55, s134_56, s134_59, s134_60, s134_62, s134_63, s134_64, s134_65, s134_68, s134_69, s134_72, s134_73, s134_74, s134_75, s134_78, s134_82, s134_83, s134_86, s134_87, s134_88, s134_89, s134_91, s134_92, s134_93, s134_96, s134_97, s134_98, s134_99, s134_101, s134_102, s134_105, s134_107, s134_109, s134_111, s134_112, s134_114, s134_115, s134_116, s134_119, s134_120, s134_123, s134_124, s134_127, s134_128, s134_130, s134_131, s134_132, s134_133, s134_134, s134_135, s134_138, s134_140, s134_141, s134_142, s134_143, s134_146, s134_148, s134_149, s134_152, s134_155, s134_157, s134_158, s134_159, s134_160, s134_162, s134_165, s134_166, s134_167, s134_168, s134_170, s134_173, s134_175, s134_178, s134_179, s134_182, s134_183, s134_186, s134_187, s134_190, s134_191, s134_192, s134_193, s134_195, s134_197, s134_198, cont_some, rl_some, rl_none, if_true, if_false, kd_149, rf_149_0, rf_149_1, rf_149_3, rf_149_5, rf_149_9, rf_149_16, rf_149_17, kd_150, kd_151, kd_152, kd_153, kd_154, kd_155, kd_156, ln_150, ln_151, ln_152, ln_153, ln_154, ln_155, ln_156, Int.reduceLE, Int.reduceLT, Int.reduceToNat, Nat.reduceLT, Int.toNat_natCast, Int.natCast_nonneg, true_or, Int.one_ne_zero, ite_self, m_of1 h4, c1, m_of0 h4, c0, c6, est, ebh, m_lay0 h4, x3, m_lay2 h4, e10]
    · rw [if_neg (fun h => x1 h.1)]
      have x4 : ¬ C 150 (sl t 1) = 1 := by rw [c1]; exact x1
      simp only [x1, decide_false, Bool.false_eq_true, if_false] at ebh
      simp only [en134, s134_0, s134_1, s134_2, s134_5, s134_6, s134_7, s134_10, s134_11, s134_12, s134_15, s134_16, s134_17, s134_20, s134_21, s134_22, s134_23, s134_24, s134_27, s134_28, s134_29, s134_32, s134_33, s134_34, s134_35, s134_36, s134_37, s134_40, s134_43, s134_44, s134_47, s134_48, s134_49, s134_50, s134_51, s134_52, s134_55, s134_56, s134_59, s134_60, s134_62, s134_63, s134_64, s134_65, s134_68, s134_69, s134_72, s134_73, s134_74, s134_75, s134_78, s134_82, s134_83, s134_86, s134_87, s134_88, s134_89, s134_91, s134_92, s134_93, s134_96, s134_97, s134_98, s134_99, s134_101, s134_102, s134_105, s134_107, s134_109, s134_111, s134_112, s134_114, s134_115, s134_116, s134_119, s134_120, s134_123, s134_124, s134_127, s134_128, s134_130, s134_131, s134_132, s134_133, s134_134, s134_135, s134_138, s134_140, s134_141, s134_142, s134_143, s134_146, s134_148, s134_149, s134_152, s134_155, s134_157, s134_158, s134_159, s134_160, s134_162, s134_165, s134_166, s134_167, s134_168, s134_170, s134_173, s134_175, s134_178, s134_179, s134_182, s134_183, s134_186, s134_187, s134_190, s134_191, s134_192, s134_193, s134_195, s134_197, s134_198, cont_some, rl_some, rl_none, if_true, if_false, kd_149, rf_149_0, rf_149_1, rf_149_3, rf_149_5, rf_149_9, rf_149_16, rf_149_17, kd_150, kd_151, kd_152, kd_153, kd_154, kd_155, kd_156, ln_150, ln_151, ln_152, ln_153, ln_154, ln_155, ln_156, Int.reduceLE, Int.reduceLT, Int.reduceToNat, Nat.reduceLT, Int.toNat_natCast, Int.natCast_nonneg, true_or, Int.one_ne_zero, ite_self, m_of1 h4, x4, m_of0 h4, c0, c6, est, ebh, m_lay0 h4, m_lay2 h4, e10]
  obtain ⟨l5', l6', k3'⟩ := k3 (Db 0) (Db 0) (Db 0)
  have k0 : ∀ l3 l4 l5 l6 l7 : AV, evL 134 0 [Rf 149, I back, l3, l4, l5, l6, l7, Db 0] [] (Hp M P) = evL 134 16 [Rf 149, I back, I 0, l4, l5, l6, l7, Db 0] [] (Hp M P) := by
    intro l3 l4 l5 l6 l7
    simp only [s134_0, s134_1, s134_2, s134_5, s134_6, s134_7, cont_some, rl_some, rl_none, if_true, if_false, kd_149, rf_149_0, rf_149_1, rf_149_3, rf_149_5, rf_149_9, rf_149_16, rf_149_17, kd_150, kd_151, kd_152, kd_153, kd_154, kd_155, kd_156, ln_150, ln_151, ln_152, ln_153, ln_154, ln_155, ln_156, Int.reduceLE, Int.reduceLT, Int.reduceToNat, Nat.reduceLT, Int.toNat_natCast, Int.natCast_nonneg, true_or, Int.one_ne_zero, ite_self, m_reasonM ht h4, hr]
  rw [en134, k0, k1, k2, k3', k4]
end Ref6
