section Play3
variable {M N C D E : Mem} {P : PMem} {L p K : Nat} {f : Nat → Int}
theorem RSn_cast2 (h : RSn M) (e : ∀ a b, (a = 0 ∧ b = 5) ∨ (24 ≤ a ∧ a < 47) ∨ a = 152 ∨ (a = 149 ∧ b = 4) → E a b = M a b) : RSn E := by
  unfold RSn at *
  rw [e 0 5 (by omega), e 149 4 (by omega)]
  refine ⟨h.1, ?_⟩
  rcases h.2 with x | ⟨x, y⟩
  · exact Or.inl x
  · refine Or.inr ⟨x, RG_castS y ?_ ?_⟩
    · intro o b hcs
      have ho := cS_sm _ _ hcs
      rw [blk_e (by omega), blk_e (by omega), e (24 + o) b (by omega)]
    · intro b hb
      unfold sli
      rw [e 152 (0 + b) (by omega)]
theorem rdM_151 {A B : Mem} (h0 : ∀ b, A 150 b = B 150 b) (h1 : ∀ b, A 151 b = B 151 b) {b : Nat} : rdM A K 151 b = rdM B K 151 b := by
  unfold rdM
  by_cases c : K < 4
  · rw [if_pos c, if_pos c, wr_ne (by omega), wr_ne (by omega)]
    unfold cpY
    rw [h0, h1]
  · rw [if_neg c, if_neg c, wr_ne (by omega), wr_ne (by omega)]
    unfold cpY
    rw [wr_ne (by omega), wr_ne (by omega), wr_ne (by omega), wr_ne (by omega)]
    unfold shY
    simp [h0, h1]
/-- the relation behind a change that was recorded, and behind which the pad is empty -/
theorem play_R (h : R M P) (hK : RH M P K) {C' N1 : Mem} (h1 : frP (rcM M P K) C') (hN : ∀ a b, (a ≠ 149 ∨ b < 11 ∨ 15 < b) → (a ≠ 141 ∨ b ≠ 1) → N1 a b = C' a b) (h2 : frQ (rdM N1 K) E) (hG : RG C' E) (h67 : E 149 7 = C' 0 6 ∧ (E 149 7 ≠ 0 → E 149 8 = C' 0 7)) (h141 : E 141 1 = 0) : R (wr E 149 6 0) (rcP P K) := by
  obtain ⟨k1, k2, k4, hP, hI, hA⟩ := hK
  have hK : RH M P K := ⟨k1, k2, k4, hP, hI, hA⟩
  obtain ⟨C2, eC⟩ : ∃ C2 : Mem, C2 = fun a b => if 1 ≤ a ∧ a < 24 then C' a b else rcM M P K a b := ⟨_, rfl⟩
  obtain ⟨E2, eE⟩ : ∃ E2 : Mem, E2 = fun a b => if a = 150 then E 150 b else rdM C2 K a b := ⟨_, rfl⟩
  have c_in : ∀ a b, 1 ≤ a → a < 24 → C2 a b = C' a b := fun a b x y => by rw [eC]; exact if_pos ⟨x, y⟩
  have c_out : ∀ a b, ¬ (1 ≤ a ∧ a < 24) → C2 a b = rcM M P K a b := fun a b x => by rw [eC]; exact if_neg x
  have e_in : ∀ b, E2 150 b = E 150 b := fun b => by rw [eE]; exact if_pos rfl
  have e_out : ∀ a b, a ≠ 150 → E2 a b = rdM C2 K a b := fun a b x => by rw [eE]; exact if_neg x
  have hR : R E2 (rcP P K) := by
    refine rec_R (C' := C2) h hK (fun a b x => c_out a b (by omega)) (fun a b x y z => e_out a b x) ?_
    exact RG_cast hG (fun a b x y => c_in a b x y) e_in
  -- where both are the same
  have main : ∀ a b, a ≠ 150 → a ≠ 151 → a ≠ 154 → a ≠ 149 → (a ≠ 141 ∨ b ≠ 1) → (a ≠ 0 ∨ (b ≠ 6 ∧ b ≠ 7)) → wr E 149 6 0 a b = E2 a b := by
    intro a b x1 x2 x3 x4 x5 x6
    rw [wr_ne (by omega), h2 a b x1 x3 (by omega), rdM_o x2 (by omega), hN a b (by omega) x5, e_out a b x1, rdM_o x2 (by omega)]
    by_cases c : 1 ≤ a ∧ a < 24
    · rw [c_in a b c.1 c.2]
    · rw [c_out a b c, h1 a b (by omega)]
  have m149 : ∀ b, b ≠ 6 → b ≠ 2 → b < 7 ∨ b = 9 ∨ 15 < b → wr E 149 6 0 149 b = E2 149 b := by
    intro b x1 x2 x3
    rw [wr_ne (by omega), h2 149 b (by omega) (by omega) (by omega), rdM_o (by omega) (by omega), hN 149 b (by omega) (by omega), e_out 149 b (by omega), rdM_o (by omega) (by omega), c_out 149 b (by omega), h1 149 b (by omega)]
  have m2 : wr E 149 6 0 149 2 = E2 149 2 := by
    rw [wr_ne (by omega), h2 149 2 (by omega) (by omega) (by omega), e_out 149 2 (by omega), rdM_n k4, rdM_n k4]
  have m151 : ∀ b, wr E 149 6 0 151 b = E2 151 b := by
    intro b
    rw [wr_ne (by omega), h2 151 b (by omega) (by omega) (by omega), e_out 151 b (by omega)]
    refine rdM_151 (fun b => ?_) (fun b => ?_)
    · rw [hN 150 b (by omega) (by omega), c_out 150 b (by omega), h1 150 b (by omega)]
    · rw [hN 151 b (by omega) (by omega), c_out 151 b (by omega), h1 151 b (by omega)]
  have m150 : ∀ b, wr E 149 6 0 150 b = E2 150 b := fun b => by rw [wr_ne (by omega), e_in]
  have m0 : ∀ b, b = 6 ∨ b = 7 → wr E 149 6 0 0 b = C' 0 b := by
    intro b x
    rw [wr_ne (by omega), h2 0 b (by omega) (by omega) (by omega), rdM_o (by omega) (by omega), hN 0 b (by omega) (by omega)]
  obtain ⟨r1, ⟨K', r2⟩, r3, -, -⟩ := hR
  refine ⟨RG_cast r1 (fun a b x y => main a b (by omega) (by omega) (by omega) (by omega) (by omega) (by omega)) m150, ⟨K', RH_cast r2 ?_⟩, RSn_cast2 r3 ?_, ⟨0, by omega, ?_, ?_, fun j hj => by omega⟩, ?_⟩
  · intro a b x
    rcases x with x | x | ⟨rfl, rfl⟩
    · exact main a b (by omega) (by omega) (by omega) (by omega) (by omega) (by omega)
    · rw [x]; exact m151 b
    · exact m2
  · intro a b x
    rcases x with x | x | x | ⟨rfl, rfl⟩
    · exact main a b (by omega) (by omega) (by omega) (by omega) (by omega) (by omega)
    · exact main a b (by omega) (by omega) (by omega) (by omega) (by omega) (by omega)
    · exact main a b (by omega) (by omega) (by omega) (by omega) (by omega) (by omega)
    · exact m149 4 (by omega) (by omega) (by omega)
  · rw [wr_ne (by omega), h141]; rfl
  · rw [wr_at]; rfl
  · unfold RWh
    rw [m0 6 (by omega), m0 7 (by omega), wr_ne (by omega), wr_ne (by omega)]
    exact ⟨h67.1.symm, fun z => (h67.2 z).symm⟩
theorem P_play (h : R M P) : ∃ (v : Int) (N : Mem) (P' : PMem) (N' : Mem), evM 95 [Rf 0] (Hp M P) = some (some (I v), Hp N P') ∧ evM 159 [Rf 149] (Hp N P') = some (some (I v), Hp N' P') ∧ R N' P' := by
  have hR := h
  obtain ⟨hM, -, hS, ⟨L, l1, l2, l3, l4⟩, hW⟩ := h
  have e := pd_ff (P := P) l2 l1
  have e2 : ffF (M 143) L L 0 1 = ffF (M 153) L L 0 1 := ffF_congr L 0 1 (by omega) (fun j hj => (l4 j hj).1)
  rw [e2] at e
  by_cases c : ffF (M 153) L L 0 1 = -4
  · rw [c] at e
    obtain ⟨K, hK, e1, hG, -⟩ := rec_go hR
    obtain ⟨k1, k2, k4, hP, hI, hA⟩ := hK
    have hK : RH M P K := ⟨k1, k2, k4, hP, hI, hA⟩
    have rO : ∀ a b, a < 47 ∨ 141 ≤ a → rcM M P K a b = M a b := fun a b x => rcM_o hP k4 x
    obtain ⟨C0, eC0⟩ : ∃ C0, C0 = wr (rcM M P K) 0 6 0 := ⟨_, rfl⟩
    have c0 : ∀ a b, a ≠ 0 ∨ b ≠ 6 → C0 a b = rcM M P K a b := fun a b x => by rw [eC0, wr_ne (by omega)]
    have lp := pd_len (M := C0) (P := rcP P K)
    rw [c0 141 1 (by omega), rO 141 1 (by omega), l2] at lp
    have hG0 : RG C0 M := RG_C hG (fun a b x y => c0 a b (by omega))
    obtain ⟨C', v, l3', l4', l5', p1, p2, p3⟩ := pl_loop (P := rcP P K) (f := M 153) l1 (fun j hj => (l4 j hj).2) L 0 (by omega) (by rw [Nat.sub_zero]; exact c) C0 M 0 (Db 0) (Db 0) hG0 (fun j hj => by rw [c0 143 j (by omega), rO 143 j (by omega)]; exact (l4 j hj).1) (by rw [eC0, wr_at]) (by omega) (by omega)
    have z0 : ((0 : Nat) : Int) = 0 := rfl
    rw [z0] at p1
    have q2 : frP (rcM M P K) C' := by
      refine frP_tr ?_ p2
      rw [eC0]; exact frP_wr (by omega)
    obtain ⟨N, eN⟩ : ∃ N, N = wr C' 141 1 0 := ⟨_, rfl⟩
    have nO : ∀ a b, a ≠ 141 ∨ b ≠ 1 → N a b = C' a b := fun a b x => by rw [eN, wr_ne (by omega)]
    have nM : ∀ a b, 142 ≤ a → N a b = M a b := fun a b x => by rw [nO a b (by omega), q2 a b (by omega), rO a b (by omega)]
    have n153 : N 153 = M 153 := funext fun j => nM _ _ (by omega)
    obtain ⟨N1, i1, i2, i3, i4, i5⟩ := m_isg (M := N) (P := rcP P K) (L := L) (by rw [nM _ _ (by omega)]; exact l3) l1 (by rw [n153]; exact fun j hj => (l4 j hj).2)
    rw [n153, c] at i3
    have i12 : N1 149 12 = 1 := by
      rcases i4 with z | z
      · rw [if_pos z] at i3; omega
      · exact z
    have mr := m_records (M := N1) (P := rcP P K) (K := K) (by rw [i2 _ _ (by omega), nM _ _ (by omega)]; exact k2) k4
    obtain ⟨D0, eD0⟩ : ∃ D0, D0 = wr (wr (rdM N1 K) 149 7 0) 149 11 0 := ⟨_, rfl⟩
    have dQ : frQ (rdM N1 K) D0 := by rw [eD0]; exact frQ_tr (frQ_wr (by omega)) (frQ_wr (by omega))
    have d149 : ∀ b, b ≠ 2 → b ≠ 7 → b ≠ 11 → D0 149 b = N1 149 b := fun b x y z => by rw [eD0, wr_ne (by omega), wr_ne (by omega), rdM_o (by omega) (by omega)]
    have dN : ∀ a b, a ≠ 149 → a ≠ 151 → D0 a b = N a b := fun a b x y => by rw [eD0, wr_ne (by omega), wr_ne (by omega), rdM_o (by omega) (by omega), i2 a b (by omega)]
    obtain ⟨E, k2', k3', j1, j2, j3, j4, j5⟩ := p3 D0 (RG_D hG0 (fun b => by rw [dN _ _ (by omega) (by omega), nM _ _ (by omega)])) (by rw [d149 6 (by omega) (by omega) (by omega), i2 _ _ (by omega), nM _ _ (by omega)]; exact l3) (by rw [eD0, wr_ne (by omega), wr_at]) (by rw [eD0, wr_at]; rfl) (by rw [d149 12 (by omega) (by omega) (by omega)]; exact i12) (by rw [← n153]; exact funext fun j => dN _ _ (by omega) (by omega)) (Db 0) (Db 0)
    refine ⟨v, N, rcP P K, wr E 149 6 0, ?_, ?_, ?_⟩
    · have t : evL 95 172 [Rf 0, I v, I (L : Int), l3', l4', l5'] [] (Hp C' (rcP P K)) = some (some (I v), Hp N (rcP P K)) := by
        rw [s95_172]
        simp only [en95, s95_0, s95_1, s95_4, s95_7, s95_9, s95_12, s95_14, s95_15, s95_16, s95_19, s95_20, s95_23, s95_26, s95_27, s95_28, s95_31, s95_32, s95_33, s95_34, s95_37, s95_40, s95_41, s95_42, s95_44, s95_45, s95_48, s95_49, s95_52, s95_55, s95_56, s95_59, s95_60, s95_63, s95_65, s95_67, s95_69, s95_72, s95_74, s95_76, s95_79, s95_82, s95_84, s95_86, s95_89, s95_91, s95_93, s95_96, s95_97, s95_100, s95_102, s95_104, s95_107, s95_108, s95_111, s95_112, s95_115, s95_118, s95_119, s95_122, s95_124, s95_125, s95_128, s95_129, s95_130, s95_131, s95_134, s95_136, s95_137, s95_140, s95_142, s95_144, s95_146, s95_149, s95_152, s95_155, s95_156, s95_158, s95_161, s95_162, s95_163, s95_166, s95_169, s95_173, s95_176, s95_179, s95_180, s95_181, cont_some, rl_some, rl_none, if_true, if_false, kd_0, kd_1, kd_2, kd_5, kd_47, kd_141, kd_144, kd_149, rf_0_0, rf_0_1, rf_0_2, rf_0_3, rf_0_4, rf_1_0, rf_1_1, rf_1_2, rf_2_0, rf_5_0, rf_5_1, rf_5_2, rf_5_3, rf_5_4, rf_5_5, rf_5_6, rf_5_7, rf_47_0, rf_141_0, rf_144_0, rf_144_1, rf_149_0, rf_149_1, rf_149_3, rf_149_5, rf_149_9, rf_149_16, rf_149_17, kd_3, kd_6, kd_8, kd_10, kd_12, kd_14, kd_16, kd_18, kd_20, kd_22, kd_142, kd_145, kd_147, kd_24, pd_wipe, ← eN]
      rw [t] at p1
      simp only [en95, s95_0, s95_1, s95_4, s95_7, s95_9, s95_12, s95_14, s95_15, s95_16, s95_19, s95_20, s95_23, s95_26, s95_27, s95_28, s95_31, s95_32, s95_33, s95_34, s95_37, s95_40, s95_41, s95_42, s95_44, s95_45, s95_48, s95_49, s95_52, s95_55, s95_56, s95_59, s95_60, s95_63, s95_65, s95_67, s95_69, s95_72, s95_74, s95_76, s95_79, s95_82, s95_84, s95_86, s95_89, s95_91, s95_93, s95_96, s95_97, s95_100, s95_102, s95_104, s95_107, s95_108, s95_111, s95_112, s95_115, s95_118, s95_119, s95_122, s95_124, s95_125, s95_128, s95_129, s95_130, s95_131, s95_134, s95_136, s95_137, s95_140, s95_142, s95_144, s95_146, s95_149, s95_152, s95_155, s95_156, s95_158, s95_161, s95_162, s95_163, s95_166, s95_169, s95_173, s95_176, s95_179, s95_180, s95_181, cont_some, rl_some, rl_none, if_true, if_false, kd_0, kd_1, kd_2, kd_5, kd_47, kd_141, kd_144, kd_149, rf_0_0, rf_0_1, rf_0_2, rf_0_3, rf_0_4, rf_1_0, rf_1_1, rf_1_2, rf_2_0, rf_5_0, rf_5_1, rf_5_2, rf_5_3, rf_5_4, rf_5_5, rf_5_6, rf_5_7, rf_47_0, rf_141_0, rf_144_0, rf_144_1, rf_149_0, rf_149_1, rf_149_3, rf_149_5, rf_149_9, rf_149_16, rf_149_17, kd_3, kd_6, kd_8, kd_10, kd_12, kd_14, kd_16, kd_18, kd_20, kd_22, kd_142, kd_145, kd_147, kd_24, e, e1, ← eC0, lp, p1]
    · have t : evL 159 158 [Rf 149, I v, k2', k3'] [] (Hp E (rcP P K)) = some (some (I v), Hp (wr E 149 6 0) (rcP P K)) := by
        rw [s159_158]
        simp only [en159, s159_0, s159_1, s159_4, s159_7, s159_9, s159_10, s159_11, s159_14, s159_15, s159_16, s159_19, s159_20, s159_21, s159_24, s159_25, s159_27, s159_30, s159_33, s159_34, s159_37, s159_38, s159_41, s159_44, s159_45, s159_46, s159_49, s159_52, s159_53, s159_56, s159_57, s159_58, s159_61, s159_63, s159_66, s159_67, s159_70, s159_71, s159_74, s159_75, s159_76, s159_77, s159_79, s159_82, s159_83, s159_86, s159_87, s159_90, s159_91, s159_92, s159_94, s159_97, s159_98, s159_101, s159_102, s159_103, s159_104, s159_105, s159_108, s159_111, s159_112, s159_113, s159_116, s159_117, s159_118, s159_121, s159_122, s159_125, s159_126, s159_127, s159_128, s159_130, s159_133, s159_134, s159_137, s159_138, s159_141, s159_142, s159_143, s159_145, s159_148, s159_149, s159_152, s159_153, s159_154, s159_155, s159_159, s159_160, s159_163, s159_164, cont_some, rl_some, rl_none, if_true, if_false, kd_149, rf_149_0, rf_149_1, rf_149_3, rf_149_5, rf_149_9, rf_149_16, rf_149_17, kd_150, kd_151, kd_152, kd_153, kd_154, kd_155, kd_156, ln_150, ln_151, ln_152, ln_153, ln_154, ln_155, ln_156, Int.reduceLE, Int.reduceLT, Int.reduceToNat, Nat.reduceLT, Int.toNat_natCast, Int.natCast_nonneg, true_or, Int.one_ne_zero, ite_self]
      rw [t] at j1
      have c1 : ¬ (1 : Int) = 0 := by omega
      simp only [en159, s159_0, s159_1, s159_4, s159_7, s159_9, s159_10, s159_11, s159_14, s159_15, s159_16, s159_19, s159_20, s159_21, s159_24, s159_25, s159_27, s159_30, s159_33, s159_34, s159_37, s159_38, s159_41, s159_44, s159_45, s159_46, s159_49, s159_52, s159_53, s159_56, s159_57, s159_58, s159_61, s159_63, s159_66, s159_67, s159_70, s159_71, s159_74, s159_75, s159_76, s159_77, s159_79, s159_82, s159_83, s159_86, s159_87, s159_90, s159_91, s159_92, s159_94, s159_97, s159_98, s159_101, s159_102, s159_103, s159_104, s159_105, s159_108, s159_111, s159_112, s159_113, s159_116, s159_117, s159_118, s159_121, s159_122, s159_125, s159_126, s159_127, s159_128, s159_130, s159_133, s159_134, s159_137, s159_138, s159_141, s159_142, s159_143, s159_145, s159_148, s159_149, s159_152, s159_153, s159_154, s159_155, s159_159, s159_160, s159_163, s159_164, cont_some, rl_some, rl_none, if_true, if_false, kd_149, rf_149_0, rf_149_1, rf_149_3, rf_149_5, rf_149_9, rf_149_16, rf_149_17, kd_150, kd_151, kd_152, kd_153, kd_154, kd_155, kd_156, ln_150, ln_151, ln_152, ln_153, ln_154, ln_155, ln_156, Int.reduceLE, Int.reduceLT, Int.reduceToNat, Nat.reduceLT, Int.toNat_natCast, Int.natCast_nonneg, true_or, Int.one_ne_zero, ite_self, i1, i12, c1, mr, ← eD0, j1]
    · refine play_R hR hK q2 (fun a b x y => by rw [i2 a b x, nO a b y]) (frQ_tr dQ j3) j2 ⟨j4, j5⟩ ?_
      rw [j3 141 1 (by omega) (by omega) (by omega), dN 141 1 (by omega) (by omega), eN, wr_at]
  · obtain ⟨N', q1, q2, q3, q4, q5⟩ := m_isg (P := P) l3 l1 (fun j hj => (l4 j hj).2)
    have z : N' 149 12 = 0 := by
      rcases q4 with z | z
      · exact z
      · rw [if_neg (by omega)] at q3
        exact absurd q3.symm c
    refine ⟨-2, M, P, N', ?_, ?_, R_own hR (fun a b h => q2 a b (by omega))⟩
    · simp only [en95, s95_0, s95_1, s95_4, s95_7, s95_9, s95_12, s95_14, s95_15, s95_16, s95_19, s95_20, s95_23, s95_26, s95_27, s95_28, s95_31, s95_32, s95_33, s95_34, s95_37, s95_40, s95_41, s95_42, s95_44, s95_45, s95_48, s95_49, s95_52, s95_55, s95_56, s95_59, s95_60, s95_63, s95_65, s95_67, s95_69, s95_72, s95_74, s95_76, s95_79, s95_82, s95_84, s95_86, s95_89, s95_91, s95_93, s95_96, s95_97, s95_100, s95_102, s95_104, s95_107, s95_108, s95_111, s95_112, s95_115, s95_118, s95_119, s95_122, s95_124, s95_125, s95_128, s95_129, s95_130, s95_131, s95_134, s95_136, s95_137, s95_140, s95_142, s95_144, s95_146, s95_149, s95_152, s95_155, s95_156, s95_158, s95_161, s95_162, s95_163, s95_166, s95_169, s95_173, s95_176, s95_179, s95_180, s95_181, cont_some, rl_some, rl_none, if_true, if_false, kd_0, kd_1, kd_2, kd_5, kd_47, kd_141, kd_144, kd_149, rf_0_0, rf_0_1, rf_0_2, rf_0_3, rf_0_4, rf_1_0, rf_1_1, rf_1_2, rf_2_0, rf_5_0, rf_5_1, rf_5_2, rf_5_3, rf_5_4, rf_5_5, rf_5_6, rf_5_7, rf_47_0, rf_141_0, rf_144_0, rf_144_1, rf_149_0, rf_149_1, rf_149_3, rf_149_5, rf_149_9, rf_149_16, rf_149_17, kd_3, kd_6, kd_8, kd_10, kd_12, kd_14, kd_16, kd_18, kd_20, kd_22, kd_142, kd_145, kd_147, kd_24, e, c]
    · simp only [en159, s159_0, s159_1, s159_4, s159_7, s159_9, s159_10, s159_11, s159_14, s159_15, s159_16, s159_19, s159_20, s159_21, s159_24, s159_25, s159_27, s159_30, s159_33, s159_34, s159_37, s159_38, s159_41, s159_44, s159_45, s159_46, s159_49, s159_52, s159_53, s159_56, s159_57, s159_58, s159_61, s159_63, s159_66, s159_67, s159_70, s159_71, s159_74, s159_75, s159_76, s159_77, s159_79, s159_82, s159_83, s159_86, s159_87, s159_90, s159_91, s159_92, s159_94, s159_97, s159_98, s159_101, s159_102, s159_103, s159_104, s159_105, s159_108, s159_111, s159_112, s159_113, s159_116, s159_117, s159_118, s159_121, s159_122, s159_125, s159_126, s159_127, s159_128, s159_130, s159_133, s159_134, s159_137, s159_138, s159_141, s159_142, s159_143, s159_145, s159_148, s159_149, s159_152, s159_153, s159_154, s159_155, s159_159, s159_160, s159_163, s159_164, cont_some, rl_some, rl_none, if_true, if_false, kd_149, rf_149_0, rf_149_1, rf_149_3, rf_149_5, rf_149_9, rf_149_16, rf_149_17, kd_150, kd_151, kd_152, kd_153, kd_154, kd_155, kd_156, ln_150, ln_151, ln_152, ln_153, ln_154, ln_155, ln_156, Int.reduceLE, Int.reduceLT, Int.reduceToNat, Nat.reduceLT, Int.toNat_natCast, Int.natCast_nonneg, true_or, Int.one_ne_zero, ite_self, q1, z]
end Play3
