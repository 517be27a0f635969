/-! ===== Game: a move ===== -/
section Moves
variable {M : Mem} {P : PMem} {n sp t : Nat} {hl : Nat → Nat}
/-- a move's result on the class's game; h: stacks of the diver, q: its place, up: whether it goes up then -/
def mvDi (x : Int) : Int := (1 + ltF x % 3) + (1 + ltF (ltF x) % 3)
def mvP (M : Mem) (n sp t h q : Nat) (back : Int) : Nat := landF (M 7) n t sp (decide (back ≠ 0 ∨ M 9 t = 1)) (mvDi (M 1 3) - h).toNat q
def mvM0 (M : Mem) (t h : Nat) (back : Int) : Mem := if back = 0 then wr M 1 7 (if (h : Int) < M 1 7 then M 1 7 - h else 0) else wr (wr M 1 7 (if (h : Int) < M 1 7 then M 1 7 - h else 0)) 9 t 1
def mvM1 (M : Mem) (n sp t h q : Nat) (back : Int) : Mem := wr (wr (wr (mvM0 M t h back) 1 3 (ltF (ltF (M 1 3)))) 1 8 (mvDi (M 1 3))) 7 t (mvP M n sp t h q back : Int)
def mvM (M : Mem) (n sp t h q : Nat) (back : Int) : Mem := wr (if (back ≠ 0 ∨ M 9 t = 1) ∧ mvP M n sp t h q back = 0 then wr (mvM1 M n sp t h q back) 11 t 1 else mvM1 M n sp t h q back) 1 6 1
theorem mvDi_b (x : Int) : 2 ≤ mvDi x ∧ mvDi x ≤ 6 := by unfold mvDi; omega
theorem g_moveNo (ht : M 1 5 = (t : Int)) (h4 : t < 4) {back : Int} (hr : rsM M t back ≠ 0) : evM 36 [Rf 1, I back] (Hp M P) = some (some (I (rsM M t back)), Hp (wr M 1 9 (ad (M 1 9) 1)) P) := by
  simp only [en36, s36_0, s36_1, s36_2, s36_5, s36_6, s36_7, s36_10, s36_11, s36_12, s36_15, s36_16, s36_17, s36_20, s36_21, s36_22, s36_23, s36_24, s36_27, s36_28, s36_31, s36_32, s36_35, s36_38, s36_39, s36_42, s36_45, s36_48, s36_49, s36_52, s36_53, s36_56, s36_57, s36_60, s36_63, s36_64, s36_67, s36_68, s36_71, s36_72, s36_73, s36_76, s36_77, s36_80, s36_81, s36_84, s36_85, s36_86, s36_89, s36_90, s36_93, s36_94, s36_97, s36_100, s36_101, s36_102, s36_105, s36_108, s36_109, s36_112, s36_113, s36_116, s36_117, s36_120, s36_123, s36_124, s36_127, s36_128, s36_131, s36_134, s36_135, s36_138, s36_139, s36_142, s36_143, s36_144, s36_147, s36_149, s36_150, s36_151, cont_some, rl_some, rl_none, if_true, if_false, kd_0, kd_1, kd_2, kd_5, kd_47, kd_141, kd_144, rf_0_0, rf_0_1, rf_0_2, rf_0_3, rf_0_4, rf_1_0, rf_1_1, rf_1_2, rf_2_0, rf_5_0, rf_5_1, rf_5_2, rf_5_3, rf_5_4, rf_5_5, rf_5_6, rf_5_7, rf_47_0, rf_141_0, rf_144_0, rf_144_1, kd_3, kd_6, kd_8, kd_10, kd_12, kd_14, kd_16, kd_18, kd_20, kd_22, kd_142, kd_145, kd_147, kd_24, g_whyM ht h4, hr]
theorem g_move (h1 : CN M n) (h2 : CS M sp) (ht : M 1 5 = (t : Int)) (htn : t < n) {h q : Nat} (hh : M 13 t = (h : Int)) (h6 : h ≤ 6) (hq : M 7 t = (q : Int)) (hqs : q ≤ sp) (hlot : 0 ≤ M 1 3 ∧ M 1 3 ≤ 9999) (htk : 0 ≤ M 1 7 ∧ M 1 7 ≤ 25) {back : Int} (hr : rsM M t back = 0) : evM 36 [Rf 1, I back] (Hp M P) = some (some (I (10 + (mvP M n sp t h q back : Int))), Hp (mvM M n sp t h q back) P) := by
  have h4 : t < 4 := by have := h1.2; omega
  have a2 := h2.2
  have hp16 : mvP M n sp t h q back ≤ sp := landF_le _ _ hqs
  have hd := mvDi_b (M 1 3)
  have hb1 := ltF_b (M 1 3)
  have hb2 := ltF_b (ltF (M 1 3))
  -- the tank
  have etk : sb (M 1 7) (if (h : Int) < M 1 7 then (h : Int) else M 1 7) = (if (h : Int) < M 1 7 then M 1 7 - h else 0) := by
    split
    · exact sb_eq (by omega) (by omega)
    · rw [sb_eq (by omega) (by omega)]; omega
  have edi : ad (1 + ltF (M 1 3) % 3) (1 + ltF (ltF (M 1 3)) % 3) = mvDi (M 1 3) := by
    rw [ad_eq (by omega) (by omega)]; rfl
  have e10 : ad 10 (mvP M n sp t h q back : Int) = 10 + (mvP M n sp t h q back : Int) := ad_eq (by omega) (by omega)
  have hpl : ∀ M' : Mem, M' 1 5 = (t : Int) → evM 31 [Rf 1] (Hp M' P) = some (some (I (M' 7 t)), Hp M' P) := fun M' w => g_place w h4
  have hup : ∀ M' : Mem, M' 1 5 = (t : Int) → evM 35 [Rf 1] (Hp M' P) = some (some (I (if M' 9 t = 1 then 1 else 0)), Hp M' P) := fun M' w => g_up w h4
  -- behind the tank and the turning
  have k0 : ∀ a b : Nat, a ≠ 9 → ¬ (a = 1 ∧ b = 7) → mvM0 M t h back a b = M a b := by
    intro a b q1 q2
    unfold mvM0
    split
    · rw [wr_app, if_neg q2]
    · rw [wr_app, if_neg (by omega), wr_app, if_neg q2]
  have k9 : mvM0 M t h back 9 t = 1 ↔ (back ≠ 0 ∨ M 9 t = 1) := by
    unfold mvM0
    split
    · rename_i w
      rw [wr_app, if_neg (by omega)]
      simp [w]
    · rename_i w
      rw [wr_app, if_pos ⟨rfl, rfl⟩]
      simp [w]
  -- from there on
  have key : ∀ l2 l3 : AV, evL 36 71 [Rf 1, I back, l2, l3] [] (Hp (mvM0 M t h back) P) = some (some (I (10 + (mvP M n sp t h q back : Int))), Hp (mvM M n sp t h q back) P) := by
    intro l2 l3
    have c13 : mvM0 M t h back 1 3 = M 1 3 := k0 1 3 (by omega) (by omega)
    have c15 : mvM0 M t h back 1 5 = (t : Int) := by rw [k0 1 5 (by omega) (by omega), ht]
    have d1 := g_die (M := mvM0 M t h back) (P := P) (by rw [c13]; exact hlot.1) (by rw [c13]; exact hlot.2)
    rw [c13] at d1
    have c13b : wr (mvM0 M t h back) 1 3 (ltF (M 1 3)) 1 3 = ltF (M 1 3) := by rw [wr_app, if_pos ⟨rfl, rfl⟩]
    have d2 := g_die (M := wr (mvM0 M t h back) 1 3 (ltF (M 1 3))) (P := P) (by rw [c13b]; exact hb1.1) (by rw [c13b]; exact hb1.2)
    rw [c13b, wr_wr] at d2
    -- the memory before landing
    obtain ⟨N, hN⟩ : ∃ N, N = wr (wr (mvM0 M t h back) 1 3 (ltF (ltF (M 1 3)))) 1 8 (mvDi (M 1 3)) := ⟨_, rfl⟩
    have kN : ∀ a b : Nat, a ≠ 1 → N a b = mvM0 M t h back a b := by
      intro a b q1
      rw [hN, wr_app, if_neg (by omega), wr_app, if_neg (by omega)]
    have kN15 : N 1 5 = (t : Int) := by rw [hN, wr_app, if_neg (by omega), wr_app, if_neg (by omega)]; exact c15
    have kN18 : N 1 8 = mvDi (M 1 3) := by rw [hN, wr_app, if_pos ⟨rfl, rfl⟩]
    have n1 : CN N n := ⟨by rw [kN 5 8 (by omega), k0 5 8 (by omega) (by omega)]; exact h1.1, h1.2⟩
    have n2 : CS N sp := ⟨by rw [kN 2 1 (by omega), k0 2 1 (by omega) (by omega)]; exact h2.1, h2.2⟩
    have n7 : N 7 = M 7 := by funext b; rw [kN 7 b (by omega), k0 7 b (by omega) (by omega)]
    have n13 : N 13 t = (h : Int) := by rw [kN 13 t (by omega), k0 13 t (by omega) (by omega)]; exact hh
    have n9 : N 9 t = 1 ↔ (back ≠ 0 ∨ M 9 t = 1) := by rw [kN 9 t (by omega)]; exact k9
    have l1 := g_land (P := P) n1 n2 kN15 h4 n13 h6 hqs (up := if N 9 t = 1 then 1 else 0) (di := mvDi (M 1 3)) (by omega) (by omega)
    have lq : landF (N 7) n t sp (decide ((if N 9 t = 1 then (1 : Int) else 0) ≠ 0)) (mvDi (M 1 3) - (h : Int)).toNat q = mvP M n sp t h q back := by
      unfold mvP
      rw [n7]
      congr 1
      refine decide_eq_decide.mpr ?_
      by_cases w : N 9 t = 1
      · rw [if_pos w]; exact ⟨fun _ => n9.mp w, fun _ => by omega⟩
      · rw [if_neg w]; exact ⟨fun z => absurd rfl z, fun z => absurd (n9.mpr z) w⟩
    rw [lq] at l1
    -- and behind it
    obtain ⟨N2, hN2⟩ : ∃ N2, N2 = wr N 7 t (mvP M n sp t h q back : Int) := ⟨_, rfl⟩
    have kM1 : N2 = mvM1 M n sp t h q back := by rw [hN2, hN]; rfl
    have m15 : N2 1 5 = (t : Int) := by rw [hN2, wr_app, if_neg (by omega)]; exact kN15
    have m9 : N2 9 t = N 9 t := by rw [hN2, wr_app, if_neg (by omega)]
    have nq : N 7 t = (q : Int) := by rw [n7]; exact hq
    by_cases w : N 9 t = 1
    · have w' := n9.mp w
      rw [if_pos w] at l1
      by_cases z : mvP M n sp t h q back = 0
      · have ez : ((mvP M n sp t h q back : Nat) : Int) = 0 := by omega
        have ef : wr (wr N2 11 t 1) 1 6 1 = mvM M n sp t h q back := by
          unfold mvM
          rw [if_pos ⟨w', z⟩, kM1]
        have eN2 : wr N 7 t 0 = N2 := by rw [hN2, ez]
        have o15 : wr N2 11 t 1 1 5 = (t : Int) := by rw [wr_app, if_neg (by omega)]; exact m15
        rw [ez] at l1 e10 ⊢
        simp only [en36, s36_0, s36_1, s36_2, s36_5, s36_6, s36_7, s36_10, s36_11, s36_12, s36_15, s36_16, s36_17, s36_20, s36_21, s36_22, s36_23, s36_24, s36_27, s36_28, s36_31, s36_32, s36_35, s36_38, s36_39, s36_42, s36_45, s36_48, s36_49, s36_52, s36_53, s36_56, s36_57, s36_60, s36_63, s36_64, s36_67, s36_68, s36_71, s36_72, s36_73, s36_76, s36_77, s36_80, s36_81, s36_84, s36_85, s36_86, s36_89, s36_90, s36_93, s36_94, s36_97, s36_100, s36_101, s36_102, s36_105, s36_108, s36_109, s36_112, s36_113, s36_116, s36_117, s36_120, s36_123, s36_124, s36_127, s36_128, s36_131, s36_134, s36_135, s36_138, s36_139, s36_142, s36_143, s36_144, s36_147, s36_149, s36_150, s36_151, cont_some, rl_some, rl_none, if_true, if_false, kd_0, kd_1, kd_2, kd_5, kd_47, kd_141, kd_144, rf_0_0, rf_0_1, rf_0_2, rf_0_3, rf_0_4, rf_1_0, rf_1_1, rf_1_2, rf_2_0, rf_5_0, rf_5_1, rf_5_2, rf_5_3, rf_5_4, rf_5_5, rf_5_6, rf_5_7, rf_47_0, rf_141_0, rf_144_0, rf_144_1, kd_3, kd_6, kd_8, kd_10, kd_12, kd_14, kd_16, kd_18, kd_20, kd_22, kd_142, kd_145, kd_147, kd_24, d1, d2, edi, ← hN, kN15, kN18, hpl N kN15, hup N kN15, w, nq, l1, row_set R_pl, rs_n h4, eN2, hup N2 m15, m15, m9, row_set R_ho, ef, e10, Int.one_ne_zero, or_true]
      · have ez : ¬ ((mvP M n sp t h q back : Nat) : Int) = 0 := by omega
        have ef : wr N2 1 6 1 = mvM M n sp t h q back := by
          unfold mvM
          rw [if_neg (fun y => z y.2), kM1]
        simp only [en36, s36_0, s36_1, s36_2, s36_5, s36_6, s36_7, s36_10, s36_11, s36_12, s36_15, s36_16, s36_17, s36_20, s36_21, s36_22, s36_23, s36_24, s36_27, s36_28, s36_31, s36_32, s36_35, s36_38, s36_39, s36_42, s36_45, s36_48, s36_49, s36_52, s36_53, s36_56, s36_57, s36_60, s36_63, s36_64, s36_67, s36_68, s36_71, s36_72, s36_73, s36_76, s36_77, s36_80, s36_81, s36_84, s36_85, s36_86, s36_89, s36_90, s36_93, s36_94, s36_97, s36_100, s36_101, s36_102, s36_105, s36_108, s36_109, s36_112, s36_113, s36_116, s36_117, s36_120, s36_123, s36_124, s36_127, s36_128, s36_131, s36_134, s36_135, s36_138, s36_139, s36_142, s36_143, s36_144, s36_147, s36_149, s36_150, s36_151, cont_some, rl_some, rl_none, if_true, if_false, kd_0, kd_1, kd_2, kd_5, kd_47, kd_141, kd_144, rf_0_0, rf_0_1, rf_0_2, rf_0_3, rf_0_4, rf_1_0, rf_1_1, rf_1_2, rf_2_0, rf_5_0, rf_5_1, rf_5_2, rf_5_3, rf_5_4, rf_5_5, rf_5_6, rf_5_7, rf_47_0, rf_141_0, rf_144_0, rf_144_1, kd_3, kd_6, kd_8, kd_10, kd_12, kd_14, kd_16, kd_18, kd_20, kd_22, kd_142, kd_145, kd_147, kd_24, d1, d2, edi, ← hN, kN15, kN18, hpl N kN15, hup N kN15, w, nq, l1, row_set R_pl, rs_n h4, ← hN2, hup N2 m15, m9, ez, ef, e10, Int.one_ne_zero, or_true]
    · have w' : ¬ (back ≠ 0 ∨ M 9 t = 1) := fun z => w (n9.mpr z)
      rw [if_neg w] at l1
      have ef : wr N2 1 6 1 = mvM M n sp t h q back := by
        unfold mvM
        rw [if_neg (fun y => w' y.1), kM1]
      simp only [en36, s36_0, s36_1, s36_2, s36_5, s36_6, s36_7, s36_10, s36_11, s36_12, s36_15, s36_16, s36_17, s36_20, s36_21, s36_22, s36_23, s36_24, s36_27, s36_28, s36_31, s36_32, s36_35, s36_38, s36_39, s36_42, s36_45, s36_48, s36_49, s36_52, s36_53, s36_56, s36_57, s36_60, s36_63, s36_64, s36_67, s36_68, s36_71, s36_72, s36_73, s36_76, s36_77, s36_80, s36_81, s36_84, s36_85, s36_86, s36_89, s36_90, s36_93, s36_94, s36_97, s36_100, s36_101, s36_102, s36_105, s36_108, s36_109, s36_112, s36_113, s36_116, s36_117, s36_120, s36_123, s36_124, s36_127, s36_128, s36_131, s36_134, s36_135, s36_138, s36_139, s36_142, s36_143, s36_144, s36_147, s36_149, s36_150, s36_151, cont_some, rl_some, rl_none, if_true, if_false, kd_0, kd_1, kd_2, kd_5, kd_47, kd_141, kd_144, rf_0_0, rf_0_1, rf_0_2, rf_0_3, rf_0_4, rf_1_0, rf_1_1, rf_1_2, rf_2_0, rf_5_0, rf_5_1, rf_5_2, rf_5_3, rf_5_4, rf_5_5, rf_5_6, rf_5_7, rf_47_0, rf_141_0, rf_144_0, rf_144_1, kd_3, kd_6, kd_8, kd_10, kd_12, kd_14, kd_16, kd_18, kd_20, kd_22, kd_142, kd_145, kd_147, kd_24, d1, d2, edi, ← hN, kN15, kN18, hpl N kN15, hup N kN15, w, nq, l1, row_set R_pl, rs_n h4, ← hN2, hup N2 m15, m9, ef, e10, or_true]
  have w15 : wr M 1 7 (if (h : Int) < M 1 7 then M 1 7 - h else 0) 1 5 = (t : Int) := by rw [wr_app, if_neg (by omega)]; exact ht
  by_cases c : back = 0
  · have e0 : wr M 1 7 (if (h : Int) < M 1 7 then M 1 7 - h else 0) = mvM0 M t h back := by unfold mvM0; rw [if_pos c]
    subst c
    simp only [en36, s36_0, s36_1, s36_2, s36_5, s36_6, s36_7, s36_10, s36_11, s36_12, s36_15, s36_16, s36_17, s36_20, s36_21, s36_22, s36_23, s36_24, s36_27, s36_28, s36_31, s36_32, s36_35, s36_38, s36_39, s36_42, s36_45, s36_48, s36_49, s36_52, s36_53, s36_56, s36_57, s36_60, s36_63, s36_64, s36_67, s36_68, s36_72, s36_73, s36_76, s36_77, s36_80, s36_81, s36_84, s36_85, s36_86, s36_89, s36_90, s36_93, s36_94, s36_97, s36_100, s36_101, s36_102, s36_105, s36_108, s36_109, s36_112, s36_113, s36_116, s36_117, s36_120, s36_123, s36_124, s36_127, s36_128, s36_131, s36_134, s36_135, s36_138, s36_139, s36_142, s36_143, s36_144, s36_147, s36_149, s36_150, s36_151, cont_some, rl_some, rl_none, if_true, if_false, kd_0, kd_1, kd_2, kd_5, kd_47, kd_141, kd_144, rf_0_0, rf_0_1, rf_0_2, rf_0_3, rf_0_4, rf_1_0, rf_1_1, rf_1_2, rf_2_0, rf_5_0, rf_5_1, rf_5_2, rf_5_3, rf_5_4, rf_5_5, rf_5_6, rf_5_7, rf_47_0, rf_141_0, rf_144_0, rf_144_1, kd_3, kd_6, kd_8, kd_10, kd_12, kd_14, kd_16, kd_18, kd_20, kd_22, kd_142, kd_145, kd_147, kd_24, g_whyM ht h4, hr, ht, row_get R_he, rg_n h4, hh, etk, e0]
    exact key _ _
  · have e0 : wr (wr M 1 7 (if (h : Int) < M 1 7 then M 1 7 - h else 0)) 9 t 1 = mvM0 M t h back := by unfold mvM0; rw [if_neg c]
    simp only [en36, s36_0, s36_1, s36_2, s36_5, s36_6, s36_7, s36_10, s36_11, s36_12, s36_15, s36_16, s36_17, s36_20, s36_21, s36_22, s36_23, s36_24, s36_27, s36_28, s36_31, s36_32, s36_35, s36_38, s36_39, s36_42, s36_45, s36_48, s36_49, s36_52, s36_53, s36_56, s36_57, s36_60, s36_63, s36_64, s36_67, s36_68, s36_72, s36_73, s36_76, s36_77, s36_80, s36_81, s36_84, s36_85, s36_86, s36_89, s36_90, s36_93, s36_94, s36_97, s36_100, s36_101, s36_102, s36_105, s36_108, s36_109, s36_112, s36_113, s36_116, s36_117, s36_120, s36_123, s36_124, s36_127, s36_128, s36_131, s36_134, s36_135, s36_138, s36_139, s36_142, s36_143, s36_144, s36_147, s36_149, s36_150, s36_151, cont_some, rl_some, rl_none, if_true, if_false, kd_0, kd_1, kd_2, kd_5, kd_47, kd_141, kd_144, rf_0_0, rf_0_1, rf_0_2, rf_0_3, rf_0_4, rf_1_0, rf_1_1, rf_1_2, rf_2_0, rf_5_0, rf_5_1, rf_5_2, rf_5_3, rf_5_4, rf_5_5, rf_5_6, rf_5_7, rf_47_0, rf_141_0, rf_144_0, rf_144_1, kd_3, kd_6, kd_8, kd_10, kd_12, kd_14, kd_16, kd_18, kd_20, kd_22, kd_142, kd_145, kd_147, kd_24, g_whyM ht h4, hr, ht, row_get R_he, rg_n h4, hh, etk, c, w15, row_set R_up, rs_n h4, e0]
    exact key _ _
end Moves
