/-! ===== play, and the law's plays ===== -/
section Plays
variable {M N C T : Mem} {P Q : PMem} {L p n sp t : Nat} {hl : Nat → Nat}
theorem mvM_19 {h q : Nat} {back : Int} : mvM C n sp t h q back 1 9 = C 1 9 := mvM_o (by omega)
theorem pl_loop {f : Nat → Int} (h60 : L ≤ 60) : ∀ (m p : Nat), TN f L m p → ∀ (C : Mem) (d : Int) (l4 l5 : AV), GC C → (∀ j, j < L → C 143 j = f j) → C 0 6 = 0 → 0 ≤ d → d + 2 * m ≤ 1000 → ∃ (C' : Mem) (v : Int) (l3' l4' l5' : AV), evL 95 43 [Rf 0, I d, I (L : Int), I (p : Int), l4, l5] [] (Hp C P) = evL 95 172 [Rf 0, I v, I (L : Int), l3', l4', l5'] [] (Hp C' P) ∧ frP C C' ∧ GC C' ∧ ((C' 0 6 = 0 ∧ v = d + 2 * m ∧ C' 1 9 = C 1 9) ∨ (1 ≤ C' 0 6 ∧ C' 0 6 ≤ 8 ∧ 0 ≤ C' 0 7 ∧ C' 0 7 < L ∧ d ≤ v ∧ v < d + 2 * m ∧ C' 1 9 = ad (C 1 9) 1)) := by
  intro m
  induction m with
  | zero =>
    intro p hT C d l4 l5 hG _ h0 _ _
    have hp : p = L := hT
    exact ⟨C, d, _, _, _, cl_stop (Or.inr (by omega)), frP_rf, hG, Or.inl ⟨h0, by omega, rfl⟩⟩
  | succ m ih =>
    rintro p ⟨p', hg, hpL, hT⟩ C d l4 l5 hG hf h0 hd hdm
    have hp2 : p + 2 ≤ p' := by rcases hg.2 with x | x <;> omega
    have l1 : C 143 p = 100 ∨ C 143 p = 117 := by rw [hf p (by omega)]; exact hg.1
    obtain ⟨n, sp, t, hl, hB, hTt⟩ := id hG
    obtain ⟨v1, C1, g1, g2, g3, g4, g5⟩ := C_move hB hTt P (if C 143 p = 117 then 1 else 0)
    have e1 := cl_move (L := L) (p := p) h0 (by omega) h60 l1 g1 (d := d) (l4 := l4) (l5 := l5)
    rcases g5 with ⟨c1, c2, c3, c4⟩ | ⟨c1, q, c2, c3, c4, c5⟩
    · -- the move is refused
      rw [if_pos c3] at e1
      obtain ⟨C2, eC⟩ : ∃ C2, C2 = wr (wr C1 0 6 v1) 0 7 (p : Int) := ⟨_, rfl⟩
      have c6 : C2 0 6 = v1 := by rw [eC, wr_ne (by omega), wr_at]
      have c7 : C2 0 7 = (p : Int) := by rw [eC, wr_at]
      have c9 : C2 1 9 = ad (C 1 9) 1 := by rw [eC, wr_ne (by omega), wr_ne (by omega), c4, wr_at]
      have hb := rsM_b C t (if C 143 p = 117 then 1 else 0)
      rw [← eC] at e1
      refine ⟨C2, d, _, _, _, e1.trans (cl_stop (p := p + 1) (Or.inl (by rw [c6]; omega))), ?_, ?_, Or.inr ⟨by omega, by omega, by omega, by omega, by omega, by omega, c9⟩⟩
      · rw [eC]; exact frP_tr (frP_tr (frP_of g2) (frP_wr (by omega))) (frP_wr (by omega))
      · exact GC_cast g3 (fun a b x y => by rw [eC, wr_ne (by omega), wr_ne (by omega)])
    · rw [if_neg (by omega), ad_eq (by omega) (by omega)] at e1
      have z1 : C1 0 6 = 0 := by rw [g2 0 6 (by omega)]; exact h0
      have r1 : C1 1 9 = C 1 9 := by rw [c5]; exact mvM_19
      have hf1 : ∀ j, j < L → C1 143 j = f j := fun j hj => by rw [g2 143 j (by omega)]; exact hf j hj
      have l2 : C1 143 (p + 1) = 116 ∨ C1 143 (p + 1) = 110 ∨ C1 143 (p + 1) = 108 := by
        rw [hf1 (p + 1) (by omega)]
        rcases hg.2 with x | x
        · omega
        · omega
      obtain ⟨n1, sp1, t1, hl1, hB1, hT1⟩ := id g3
      obtain ⟨v2, C2, k1, k2, k3, k4, q2, k5, k6, k7⟩ := C_deed hB1 hT1 P l2 (sb (rg C1 143 60 ((p + 1 + 1 : Nat) : Int)) 48)
      have e2 := cl_deed (L := L) (p := p + 1) z1 (by omega) h60 l2 k1 (d := d + 1) (l4 := I (C 143 p)) (l5 := I v1)
      rcases k7 with ⟨w1, w2, w3, w4⟩ | ⟨w1, w2, w3⟩
      · -- the deed is refused
        rw [if_pos w3] at e2
        obtain ⟨C3, eC⟩ : ∃ C3, C3 = wr (wr C2 0 6 v2) 0 7 ((p + 1 : Nat) : Int) := ⟨_, rfl⟩
        have c6 : C3 0 6 = v2 := by rw [eC, wr_ne (by omega), wr_at]
        have c7 : C3 0 7 = ((p + 1 : Nat) : Int) := by rw [eC, wr_at]
        have c9 : C3 1 9 = ad (C 1 9) 1 := by rw [eC, wr_ne (by omega), wr_ne (by omega), w4, wr_at, r1]
        have hb := rsD_pos C1 (hl1 t1) q2 (C1 143 (p + 1)) (sb (rg C1 143 60 ((p + 1 + 1 : Nat) : Int)) 48)
        rw [← eC] at e2
        refine ⟨C3, d + 1, _, _, _, e1.trans (e2.trans (cl_stop (p := p + 1 + 1) (Or.inl (by rw [c6]; omega)))), ?_, ?_, Or.inr ⟨by omega, by omega, by omega, by omega, by omega, by omega, c9⟩⟩
        · rw [eC]; exact frP_tr (frP_tr (frP_tr (frP_of g2) (frP_of k2)) (frP_wr (by omega))) (frP_wr (by omega))
        · exact GC_cast k3 (fun a b x y => by rw [eC, wr_ne (by omega), wr_ne (by omega)])
      · -- the deed is done
        rw [if_neg (by omega), ad_eq (by omega) (by omega), show d + 1 + 1 = d + 2 by omega] at e2
        have r2 : C2 1 9 = C 1 9 := by
          rw [← r1]
          obtain ⟨h3, -⟩ := rsD_0 w1
          rcases l2 with z | z | z
          · exact (done_spec (how := 0) (Or.inl ⟨rfl, z⟩) hB1 hT1 h3 k5 k6 w3).1
          · exact (done_spec (how := 2) (Or.inr (Or.inr ⟨rfl, z⟩)) hB1 hT1 h3 k5 k6 w3).1
          · exact (done_spec (how := 1) (Or.inr (Or.inl ⟨rfl, z⟩)) hB1 hT1 h3 k5 k6 w3).1
        have hf2 : ∀ j, j < L → C2 143 j = f j := fun j hj => by rw [k2 143 j (by omega)]; exact hf1 j hj
        have z2 : C2 0 6 = 0 := by rw [k2 0 6 (by omega)]; exact z1
        have e3 : ∃ l4' : AV, evL 95 43 [Rf 0, I (d + 2), I (L : Int), I ((p + 1 + 1 : Nat) : Int), I (C1 143 (p + 1)), I v2] [] (Hp C2 P) = evL 95 43 [Rf 0, I (d + 2), I (L : Int), I (p' : Int), l4', I v2] [] (Hp C2 P) := by
          rcases hg.2 with ⟨-, w⟩ | ⟨-, x2, x3, w⟩
          · rw [w]; exact ⟨_, rfl⟩
          · rw [w]
            have l22 : C2 143 (p + 1 + 1) = f (p + 2) := hf2 _ (by omega)
            exact ⟨_, cl_dig z2 (by omega) h60 (by rw [l22]; exact x2) (by rw [l22]; exact x3)⟩
        obtain ⟨l4', e3⟩ := e3
        obtain ⟨C', v, l3', l4'', l5', i1, i2, i3, i4⟩ := ih p' hT C2 (d + 2) l4' (I v2) k3 hf2 z2 (by omega) (by omega)
        refine ⟨C', v, l3', l4'', l5', e1.trans (e2.trans (e3.trans i1)), frP_tr (frP_tr (frP_of g2) (frP_of k2)) i2, i3, ?_⟩
        rw [r2] at i4
        rcases i4 with ⟨y1, y2, y3⟩ | ⟨y1, y2, y3, y4, y5, y6, y7⟩
        · exact Or.inl ⟨y1, by omega, y3⟩
        · exact Or.inr ⟨y1, y2, y3, y4, by omega, by omega, y7⟩
theorem W_fault (hL : M 141 1 = (L : Int)) (h60 : L ≤ 60) : evM 94 [Rf 0] (Hp M P) = some (some (I (ffF (M 143) L L 0 1)), Hp M P) := by
  have e := pd_ff (P := P) hL h60
  simp only [en94, s94_0, s94_1, s94_4, s94_7, cont_some, rl_some, rl_none, if_true, if_false, kd_0, kd_1, kd_2, kd_5, kd_47, kd_141, kd_144, rf_0_0, rf_0_1, rf_0_2, rf_0_3, rf_0_4, rf_1_0, rf_1_1, rf_1_2, rf_2_0, rf_5_0, rf_5_1, rf_5_2, rf_5_3, rf_5_4, rf_5_5, rf_5_6, rf_5_7, rf_47_0, rf_141_0, rf_144_0, rf_144_1, kd_3, kd_6, kd_8, kd_10, kd_12, kd_14, kd_16, kd_18, kd_20, kd_22, kd_142, kd_145, kd_147, kd_24, e]
theorem W_playN (hL : M 141 1 = (L : Int)) (h60 : L ≤ 60) (hf : ffF (M 143) L L 0 1 ≠ -4) : evM 95 [Rf 0] (Hp M P) = some (some (I (-2)), Hp M P) := by
  have e := pd_ff (P := P) hL h60
  simp only [en95, s95_0, s95_1, s95_4, s95_7, s95_9, s95_12, s95_14, s95_15, s95_16, s95_19, s95_20, s95_23, s95_26, s95_27, s95_28, s95_31, s95_32, s95_33, s95_34, s95_37, s95_40, s95_41, s95_42, s95_44, s95_45, s95_48, s95_49, s95_52, s95_55, s95_56, s95_59, s95_60, s95_63, s95_65, s95_67, s95_69, s95_72, s95_74, s95_76, s95_79, s95_82, s95_84, s95_86, s95_89, s95_91, s95_93, s95_96, s95_97, s95_100, s95_102, s95_104, s95_107, s95_108, s95_111, s95_112, s95_115, s95_118, s95_119, s95_122, s95_124, s95_125, s95_128, s95_129, s95_130, s95_131, s95_134, s95_136, s95_137, s95_140, s95_142, s95_144, s95_146, s95_149, s95_152, s95_155, s95_156, s95_158, s95_161, s95_162, s95_163, s95_166, s95_169, s95_173, s95_176, s95_179, s95_180, s95_181, cont_some, rl_some, rl_none, if_true, if_false, kd_0, kd_1, kd_2, kd_5, kd_47, kd_141, kd_144, rf_0_0, rf_0_1, rf_0_2, rf_0_3, rf_0_4, rf_1_0, rf_1_1, rf_1_2, rf_2_0, rf_5_0, rf_5_1, rf_5_2, rf_5_3, rf_5_4, rf_5_5, rf_5_6, rf_5_7, rf_47_0, rf_141_0, rf_144_0, rf_144_1, kd_3, kd_6, kd_8, kd_10, kd_12, kd_14, kd_16, kd_18, kd_20, kd_22, kd_142, kd_145, kd_147, kd_24, e, hf]
theorem W_play {m : Nat} (h : RW M P) (hL : M 141 1 = (L : Int)) (h60 : L ≤ 60) (hm : m ≤ 100) (hf : ffF (M 143) L L 0 1 = -4) (hT : TN (M 143) L m 0) : ∃ (N : Mem) (Q : PMem) (v : Int), evM 95 [Rf 0] (Hp M P) = some (some (I v), Hp N Q) ∧ RW N Q ∧ RecOK M P N Q ∧ N 141 1 = 0 ∧ ((N 0 6 = 0 ∧ v = 2 * m ∧ N 1 9 = M 1 9) ∨ (1 ≤ N 0 6 ∧ N 0 6 ≤ 8 ∧ 0 ≤ N 0 7 ∧ N 0 7 < L ∧ 0 ≤ v ∧ v < 2 * m ∧ N 1 9 = ad (M 1 9) 1)) := by
  have e := pd_ff (P := P) hL h60
  rw [hf] at e
  obtain ⟨K, hK, e1, rO⟩ := rec_go h
  obtain ⟨C0, eC0⟩ : ∃ C0, C0 = wr (rcM M P K) 0 6 0 := ⟨_, rfl⟩
  have c0 : ∀ a b, a ≠ 0 ∨ b ≠ 6 → C0 a b = rcM M P K a b := fun a b x => by rw [eC0, wr_ne (by omega)]
  have lp := pd_len (M := C0) (P := rcP P K)
  rw [c0 141 1 (by omega), rO 141 1 (by omega), hL] at lp
  have hG0 : GC C0 := GC_cast h.1 (fun a b x y => by rw [c0 a b (by omega), rO a b (by omega)])
  have r9 : C0 1 9 = M 1 9 := by rw [c0 1 9 (by omega), rO 1 9 (by omega)]
  obtain ⟨C', v, l3', l4', l5', p1, p2, p3, p4⟩ := pl_loop (P := rcP P K) (f := M 143) h60 m 0 hT C0 0 (Db 0) (Db 0) hG0 (fun j hj => by rw [c0 143 j (by omega), rO 143 j (by omega)]) (by rw [eC0, wr_at]) (by omega) (by omega)
  have z0 : ((0 : Nat) : Int) = 0 := rfl
  rw [z0] at p1
  rw [r9] at p4
  have q2 : frP (rcM M P K) C' := by
    refine frP_tr ?_ p2
    rw [eC0]; exact frP_wr (by omega)
  obtain ⟨N, eN⟩ : ∃ N, N = wr C' 141 1 0 := ⟨_, rfl⟩
  have nO : ∀ a b, a ≠ 141 ∨ b ≠ 1 → N a b = C' a b := fun a b x => by rw [eN, wr_ne (by omega)]
  have n0 : N 141 1 = 0 := by rw [eN, wr_at]
  obtain ⟨w1, w2⟩ := rec_W h hK (E := N) (fun a b x => by rw [nO a b (by omega), q2 a b (by omega)]) ⟨0, by omega, n0⟩ (GC_cast p3 (fun a b x y => nO a b (by omega)))
  refine ⟨N, rcP P K, v, ?_, w1, w2, n0, ?_⟩
  · have tt : evL 95 172 [Rf 0, I v, I (L : Int), l3', l4', l5'] [] (Hp C' (rcP P K)) = some (some (I v), Hp N (rcP P K)) := by
      rw [s95_172]
      simp only [en95, s95_0, s95_1, s95_4, s95_7, s95_9, s95_12, s95_14, s95_15, s95_16, s95_19, s95_20, s95_23, s95_26, s95_27, s95_28, s95_31, s95_32, s95_33, s95_34, s95_37, s95_40, s95_41, s95_42, s95_44, s95_45, s95_48, s95_49, s95_52, s95_55, s95_56, s95_59, s95_60, s95_63, s95_65, s95_67, s95_69, s95_72, s95_74, s95_76, s95_79, s95_82, s95_84, s95_86, s95_89, s95_91, s95_93, s95_96, s95_97, s95_100, s95_102, s95_104, s95_107, s95_108, s95_111, s95_112, s95_115, s95_118, s95_119, s95_122, s95_124, s95_125, s95_128, s95_129, s95_130, s95_131, s95_134, s95_136, s95_137, s95_140, s95_142, s95_144, s95_146, s95_149, s95_152, s95_155, s95_156, s95_158, s95_161, s95_162, s95_163, s95_166, s95_169, s95_173, s95_176, s95_179, s95_180, s95_181, cont_some, rl_some, rl_none, if_true, if_false, kd_0, kd_1, kd_2, kd_5, kd_47, kd_141, kd_144, rf_0_0, rf_0_1, rf_0_2, rf_0_3, rf_0_4, rf_1_0, rf_1_1, rf_1_2, rf_2_0, rf_5_0, rf_5_1, rf_5_2, rf_5_3, rf_5_4, rf_5_5, rf_5_6, rf_5_7, rf_47_0, rf_141_0, rf_144_0, rf_144_1, kd_3, kd_6, kd_8, kd_10, kd_12, kd_14, kd_16, kd_18, kd_20, kd_22, kd_142, kd_145, kd_147, kd_24, pd_wipe, ← eN]
    rw [tt] at p1
    simp only [en95, s95_0, s95_1, s95_4, s95_7, s95_9, s95_12, s95_14, s95_15, s95_16, s95_19, s95_20, s95_23, s95_26, s95_27, s95_28, s95_31, s95_32, s95_33, s95_34, s95_37, s95_40, s95_41, s95_42, s95_44, s95_45, s95_48, s95_49, s95_52, s95_55, s95_56, s95_59, s95_60, s95_63, s95_65, s95_67, s95_69, s95_72, s95_74, s95_76, s95_79, s95_82, s95_84, s95_86, s95_89, s95_91, s95_93, s95_96, s95_97, s95_100, s95_102, s95_104, s95_107, s95_108, s95_111, s95_112, s95_115, s95_118, s95_119, s95_122, s95_124, s95_125, s95_128, s95_129, s95_130, s95_131, s95_134, s95_136, s95_137, s95_140, s95_142, s95_144, s95_146, s95_149, s95_152, s95_155, s95_156, s95_158, s95_161, s95_162, s95_163, s95_166, s95_169, s95_173, s95_176, s95_179, s95_180, s95_181, cont_some, rl_some, rl_none, if_true, if_false, kd_0, kd_1, kd_2, kd_5, kd_47, kd_141, kd_144, rf_0_0, rf_0_1, rf_0_2, rf_0_3, rf_0_4, rf_1_0, rf_1_1, rf_1_2, rf_2_0, rf_5_0, rf_5_1, rf_5_2, rf_5_3, rf_5_4, rf_5_5, rf_5_6, rf_5_7, rf_47_0, rf_141_0, rf_144_0, rf_144_1, kd_3, kd_6, kd_8, kd_10, kd_12, kd_14, kd_16, kd_18, kd_20, kd_22, kd_142, kd_145, kd_147, kd_24, e, e1, ← eC0, lp, p1]
  · rw [nO 0 6 (by omega), nO 0 7 (by omega), nO 1 9 (by omega)]
    rcases p4 with ⟨y1, y2, y3⟩ | ⟨y1, y2, y3, y4, y5, y6, y7⟩
    · exact Or.inl ⟨y1, by omega, y3⟩
    · exact Or.inr ⟨y1, y2, y3, y4, by omega, by omega, y7⟩
theorem cmp_0 (x : Int64) : (lg_cmp x x).toInt = 0 := by
  unfold lg_cmp
  simp
theorem py_1 (h : CB M n sp t hl) (hT : CT M t) (x : Int) {r0 r1 : Int} (hr0 : evM 96 [Rf 0, I 0] (Hp M P) = some (some (I r0), Hp M P)) (hr1 : evM 96 [Rf 0, I 1] (Hp M P) = some (some (I r1), Hp M P)) : evM 113 [Rf 0, I x] (Hp M P) = evL 113 43 [Rf 0, I x, Lg (lookG M n sp t hl), Db 0, I (lowF x 11), I (M 47 1), I (M 1 9), I r0, I r1, Db 0, Db 0, Db 0, Db 0, Db 0, Db 0, Db 0] [] (Hp M P) := by
  have l11 := fun {h : AH} => low_ev (v := x) (h := h) (n := 11) (by omega)
  simp only [en113, s113_0, s113_1, s113_4, s113_5, s113_6, s113_8, s113_11, s113_13, s113_14, s113_16, s113_19, s113_21, s113_22, s113_24, s113_27, s113_29, s113_30, s113_31, s113_34, s113_36, s113_37, s113_38, s113_41, s113_44, s113_45, s113_48, s113_50, s113_51, s113_53, s113_56, s113_58, s113_59, s113_62, s113_64, s113_65, s113_68, s113_70, s113_71, s113_74, s113_76, s113_78, s113_81, s113_83, s113_85, s113_88, s113_89, s113_92, s113_93, s113_95, s113_97, s113_100, s113_101, s113_104, s113_105, s113_108, s113_109, s113_112, s113_113, s113_115, s113_117, s113_119, s113_122, s113_124, s113_127, s113_129, s113_132, s113_134, s113_136, s113_139, s113_141, s113_143, s113_146, s113_147, s113_150, s113_151, s113_152, s113_155, s113_156, s113_158, s113_161, s113_163, s113_166, s113_167, s113_168, s113_171, s113_173, s113_176, s113_177, s113_178, s113_181, s113_183, s113_186, s113_187, s113_190, s113_191, s113_192, s113_194, s113_195, s113_197, s113_198, s113_201, s113_202, s113_205, s113_206, s113_208, s113_210, s113_213, s113_215, s113_218, s113_220, s113_221, s113_223, s113_224, s113_227, s113_229, s113_232, s113_233, s113_235, s113_238, s113_240, s113_241, s113_244, s113_246, s113_247, s113_248, s113_251, s113_252, s113_255, s113_256, s113_258, s113_261, s113_263, s113_265, s113_268, s113_269, s113_272, s113_273, s113_274, s113_277, s113_279, s113_282, s113_283, s113_284, s113_287, s113_289, s113_292, s113_293, s113_294, s113_297, s113_299, s113_302, s113_305, s113_306, s113_307, s113_310, s113_311, s113_314, s113_315, s113_316, s113_319, s113_321, s113_324, s113_325, s113_326, s113_329, s113_332, s113_333, s113_334, s113_337, s113_339, s113_342, s113_343, s113_346, s113_347, cont_some, rl_some, rl_none, if_true, if_false, kd_0, kd_1, kd_2, kd_5, kd_47, kd_141, kd_144, rf_0_0, rf_0_1, rf_0_2, rf_0_3, rf_0_4, rf_1_0, rf_1_1, rf_1_2, rf_2_0, rf_5_0, rf_5_1, rf_5_2, rf_5_3, rf_5_4, rf_5_5, rf_5_6, rf_5_7, rf_47_0, rf_141_0, rf_144_0, rf_144_1, kd_3, kd_6, kd_8, kd_10, kd_12, kd_14, kd_16, kd_18, kd_20, kd_22, kd_142, kd_145, kd_147, kd_24, look_ev h hT, l11, v_c15, v_c12, hr0, hr1]
theorem plays_ev (h : CB M n sp t hl) (hT : CT M t) (hW : RW M P) (hr : inr (M 1 9)) (x : Int) : ∃ (N : Mem) (Q : PMem), evM 113 [Rf 0, I x] (Hp M P) = some (some (I 1), Hp N Q) ∧ StepQ M P N Q := by
  obtain ⟨r0, er0, hr0⟩ : ∃ r0 : Int, r0 = (if M 0 6 = 0 then -4 else M 0 6) ∧ evM 96 [Rf 0, I 0] (Hp M P) = some (some (I r0), Hp M P) := ⟨_, rfl, v_why0⟩
  obtain ⟨r1, er1, hr1⟩ : ∃ r1 : Int, r1 = (if M 0 6 = 0 then -4 else M 0 7) ∧ evM 96 [Rf 0, I 1] (Hp M P) = some (some (I r1), Hp M P) := ⟨_, rfl, v_why1⟩
  have e1 := py_1 (P := P) h hT x hr0 hr1
  obtain ⟨m, p, L, T, hm, hm10, e2, t1, t2, t3, t4, t5⟩ := types_ev (P := P) hW.2.2.2 x
  have hTW : RW T P := RW_cast hW (fun a b _ y => t1 a b (by omega) (by omega)) ⟨L, by omega, t2⟩
  have eT : ∀ a b, 1 ≤ a → a < 24 → T a b = M a b := fun a b _ y => t1 a b (by omega) (by omega)
  have ef := W_fault (P := P) t2 (by omega)
  have hfb := ffF_b (f := T 143) (L := L) L 0 1
  have hfl := ffF_le (L := L) (f := T 143) L 0 1 (by omega)
  have d0 : ¬ (1 : Int) = 0 := by omega
  by_cases hf : ffF (T 143) L L 0 1 = -4
  · -- well-formed
    have hTN := text_ok t4 t5 hf
    obtain ⟨N, Q, v, g1, g2, g3, g4, g5⟩ := W_play (m := m) hTW t2 (by omega) (by omega) hf hTN
    have ecl := clear_ev (M := N) (P := Q)
    rw [g4] at ecl
    have eN : wr N 141 1 0 = N := by
      funext a b
      rw [wr_app]
      by_cases c : a = 141 ∧ b = 1
      · rw [if_pos c, c.1, c.2, g4]
      · rw [if_neg c]
    rw [eN] at ecl
    have hRec : RecOK M P N Q := by
      obtain ⟨y1, y2, y3, y4⟩ := g3
      have e47 : T 47 1 = M 47 1 := t1 47 1 (by omega) (by omega)
      refine ⟨fun k hk hk2 => ?_, fun z => y2 (by rw [e47]; exact z), fun a b u w => by rw [y3 a b u w, t1 a b (by omega) (by omega)], by rw [y4, t1 0 5 (by omega) (by omega)]⟩
      obtain ⟨z1, z2⟩ := y1 k hk (by rw [e47]; exact hk2)
      exact ⟨z1, fun o b hcs => by have := cS_sm _ _ hcs; rw [z2 o b hcs, eT (o + 1) b (by omega) (by omega)]⟩
    refine ⟨N, Q, ?_, g2, Or.inr hRec⟩
    obtain ⟨K, hK⟩ := hW.2.1
    have k1 := hK.1
    have k4 := hK.2.1
    have n47 : N 47 1 = if (K : Int) < 4 then ((K + 1 : Nat) : Int) else 4 := by
      by_cases c : K < 4
      · rw [if_pos (by omega), (hRec.1 K c k1).1]
      · rw [if_neg (by omega)]
        exact hRec.2.1 (by omega)
    have n15 : evM 100 [Rf 0, I 15] (Hp N Q) = some (some (I (N 47 1)), Hp N Q) := v_c15
    have r9 : T 1 9 = M 1 9 := eT 1 9 (by omega) (by omega)
    rw [r9] at g5
    have h2n : ml 2 (m : Int) = 2 * (m : Int) := ml_eq (by omega) (by omega)
    have s1 : evL 113 43 [Rf 0, I x, Lg (lookG M n sp t hl), Db 0, I (lowF x 11), I (M 47 1), I (M 1 9), I r0, I r1, Db 0, Db 0, Db 0, Db 0, Db 0, Db 0, Db 0] [] (Hp M P) = evL 113 192 [Rf 0, I x, Lg (lookG M n sp t hl), Db 0, I (m : Int), I (K : Int), I (M 1 9), I r0, I r1, I 1, I (L : Int), I (-4), I v, I 0, I 1, Db 0] [] (Hp N Q) := by
      have hv : ¬ v = -2 := by rcases g5 with y | y <;> omega
      rw [s113_43]
      rw [hf] at ef
      simp only [en113, s113_0, s113_1, s113_4, s113_5, s113_6, s113_8, s113_11, s113_13, s113_14, s113_16, s113_19, s113_21, s113_22, s113_24, s113_27, s113_29, s113_30, s113_31, s113_34, s113_36, s113_37, s113_38, s113_41, s113_44, s113_45, s113_48, s113_50, s113_51, s113_53, s113_56, s113_58, s113_59, s113_62, s113_64, s113_65, s113_68, s113_70, s113_71, s113_74, s113_76, s113_78, s113_81, s113_83, s113_85, s113_88, s113_89, s113_92, s113_93, s113_95, s113_97, s113_100, s113_101, s113_104, s113_105, s113_108, s113_109, s113_112, s113_113, s113_115, s113_117, s113_119, s113_122, s113_124, s113_127, s113_129, s113_132, s113_134, s113_136, s113_139, s113_141, s113_143, s113_146, s113_147, s113_150, s113_151, s113_152, s113_155, s113_156, s113_158, s113_161, s113_163, s113_166, s113_167, s113_168, s113_171, s113_173, s113_176, s113_177, s113_178, s113_181, s113_183, s113_186, s113_187, s113_190, s113_191, s113_194, s113_195, s113_197, s113_198, s113_201, s113_202, s113_205, s113_206, s113_208, s113_210, s113_213, s113_215, s113_218, s113_220, s113_221, s113_223, s113_224, s113_227, s113_229, s113_232, s113_233, s113_235, s113_238, s113_240, s113_241, s113_244, s113_246, s113_247, s113_248, s113_251, s113_252, s113_255, s113_256, s113_258, s113_261, s113_263, s113_265, s113_268, s113_269, s113_272, s113_273, s113_274, s113_277, s113_279, s113_282, s113_283, s113_284, s113_287, s113_289, s113_292, s113_293, s113_294, s113_297, s113_299, s113_302, s113_305, s113_306, s113_307, s113_310, s113_311, s113_314, s113_315, s113_316, s113_319, s113_321, s113_324, s113_325, s113_326, s113_329, s113_332, s113_333, s113_334, s113_337, s113_339, s113_342, s113_343, s113_346, s113_347, cont_some, rl_some, rl_none, if_true, if_false, kd_0, kd_1, kd_2, kd_5, kd_47, kd_141, kd_144, rf_0_0, rf_0_1, rf_0_2, rf_0_3, rf_0_4, rf_1_0, rf_1_1, rf_1_2, rf_2_0, rf_5_0, rf_5_1, rf_5_2, rf_5_3, rf_5_4, rf_5_5, rf_5_6, rf_5_7, rf_47_0, rf_141_0, rf_144_0, rf_144_1, kd_3, kd_6, kd_8, kd_10, kd_12, kd_14, kd_16, kd_18, kd_20, kd_22, kd_142, kd_145, kd_147, kd_24, e2, v_c14, t2, ef, g1, ecl, d0, hv, ← hm, k1]
    have a0 : ad (M 1 9) 0 = M 1 9 := ad_0 hr
    have hcnt : ∀ (b : Int) {l5 l14 : AV}, True := fun _ _ _ => trivial
    rw [e1, s1, s113_192]
    have v0 : ¬ v < 0 := by rcases g5 with y | y <;> omega
    have v1 : ¬ 2 * (m : Int) < v := by rcases g5 with y | y <;> omega
    have aK : ad (K : Int) 1 = ((K + 1 : Nat) : Int) := ad_n K (by omega)
    have w0 := v_why0 (M := N) (P := Q)
    have w1 := v_why1 (M := N) (P := Q)
    rcases g5 with ⟨y1, y2, y3⟩ | ⟨y1, y2, y3, y4, y5, y6, y7⟩
    · rw [if_pos y1] at w0 w1
      by_cases c : K < 4
      · have c' : ¬ (4 : Int) ≤ (K : Int) := by omega
        rw [if_pos (by omega)] at n47
        simp only [en113, s113_0, s113_1, s113_4, s113_5, s113_6, s113_8, s113_11, s113_13, s113_14, s113_16, s113_19, s113_21, s113_22, s113_24, s113_27, s113_29, s113_30, s113_31, s113_34, s113_36, s113_37, s113_38, s113_41, s113_44, s113_45, s113_48, s113_50, s113_51, s113_53, s113_56, s113_58, s113_59, s113_62, s113_64, s113_65, s113_68, s113_70, s113_71, s113_74, s113_76, s113_78, s113_81, s113_83, s113_85, s113_88, s113_89, s113_92, s113_93, s113_95, s113_97, s113_100, s113_101, s113_104, s113_105, s113_108, s113_109, s113_112, s113_113, s113_115, s113_117, s113_119, s113_122, s113_124, s113_127, s113_129, s113_132, s113_134, s113_136, s113_139, s113_141, s113_143, s113_146, s113_147, s113_150, s113_151, s113_152, s113_155, s113_156, s113_158, s113_161, s113_163, s113_166, s113_167, s113_168, s113_171, s113_173, s113_176, s113_177, s113_178, s113_181, s113_183, s113_186, s113_187, s113_190, s113_191, s113_194, s113_195, s113_197, s113_198, s113_201, s113_202, s113_205, s113_206, s113_208, s113_210, s113_213, s113_215, s113_218, s113_220, s113_221, s113_223, s113_224, s113_227, s113_229, s113_232, s113_233, s113_235, s113_238, s113_240, s113_241, s113_244, s113_246, s113_247, s113_248, s113_251, s113_252, s113_255, s113_256, s113_258, s113_261, s113_263, s113_265, s113_268, s113_269, s113_272, s113_273, s113_274, s113_277, s113_279, s113_282, s113_283, s113_284, s113_287, s113_289, s113_292, s113_293, s113_294, s113_297, s113_299, s113_302, s113_305, s113_306, s113_307, s113_310, s113_311, s113_314, s113_315, s113_316, s113_319, s113_321, s113_324, s113_325, s113_326, s113_329, s113_332, s113_333, s113_334, s113_337, s113_339, s113_342, s113_343, s113_346, s113_347, cont_some, rl_some, rl_none, if_true, if_false, kd_0, kd_1, kd_2, kd_5, kd_47, kd_141, kd_144, rf_0_0, rf_0_1, rf_0_2, rf_0_3, rf_0_4, rf_1_0, rf_1_1, rf_1_2, rf_2_0, rf_5_0, rf_5_1, rf_5_2, rf_5_3, rf_5_4, rf_5_5, rf_5_6, rf_5_7, rf_47_0, rf_141_0, rf_144_0, rf_144_1, kd_3, kd_6, kd_8, kd_10, kd_12, kd_14, kd_16, kd_18, kd_20, kd_22, kd_142, kd_145, kd_147, kd_24, h2n, y2, d0, Int.lt_irrefl, n15, n47, c', aK, v_c12, y3, a0, w0, w1, or_true, show ¬ 2 * (m : Int) < 0 by omega]
      · have c' : (4 : Int) ≤ (K : Int) := by omega
        rw [if_neg (by omega)] at n47
        simp only [en113, s113_0, s113_1, s113_4, s113_5, s113_6, s113_8, s113_11, s113_13, s113_14, s113_16, s113_19, s113_21, s113_22, s113_24, s113_27, s113_29, s113_30, s113_31, s113_34, s113_36, s113_37, s113_38, s113_41, s113_44, s113_45, s113_48, s113_50, s113_51, s113_53, s113_56, s113_58, s113_59, s113_62, s113_64, s113_65, s113_68, s113_70, s113_71, s113_74, s113_76, s113_78, s113_81, s113_83, s113_85, s113_88, s113_89, s113_92, s113_93, s113_95, s113_97, s113_100, s113_101, s113_104, s113_105, s113_108, s113_109, s113_112, s113_113, s113_115, s113_117, s113_119, s113_122, s113_124, s113_127, s113_129, s113_132, s113_134, s113_136, s113_139, s113_141, s113_143, s113_146, s113_147, s113_150, s113_151, s113_152, s113_155, s113_156, s113_158, s113_161, s113_163, s113_166, s113_167, s113_168, s113_171, s113_173, s113_176, s113_177, s113_178, s113_181, s113_183, s113_186, s113_187, s113_190, s113_191, s113_194, s113_195, s113_197, s113_198, s113_201, s113_202, s113_205, s113_206, s113_208, s113_210, s113_213, s113_215, s113_218, s113_220, s113_221, s113_223, s113_224, s113_227, s113_229, s113_232, s113_233, s113_235, s113_238, s113_240, s113_241, s113_244, s113_246, s113_247, s113_248, s113_251, s113_252, s113_255, s113_256, s113_258, s113_261, s113_263, s113_265, s113_268, s113_269, s113_272, s113_273, s113_274, s113_277, s113_279, s113_282, s113_283, s113_284, s113_287, s113_289, s113_292, s113_293, s113_294, s113_297, s113_299, s113_302, s113_305, s113_306, s113_307, s113_310, s113_311, s113_314, s113_315, s113_316, s113_319, s113_321, s113_324, s113_325, s113_326, s113_329, s113_332, s113_333, s113_334, s113_337, s113_339, s113_342, s113_343, s113_346, s113_347, cont_some, rl_some, rl_none, if_true, if_false, kd_0, kd_1, kd_2, kd_5, kd_47, kd_141, kd_144, rf_0_0, rf_0_1, rf_0_2, rf_0_3, rf_0_4, rf_1_0, rf_1_1, rf_1_2, rf_2_0, rf_5_0, rf_5_1, rf_5_2, rf_5_3, rf_5_4, rf_5_5, rf_5_6, rf_5_7, rf_47_0, rf_141_0, rf_144_0, rf_144_1, kd_3, kd_6, kd_8, kd_10, kd_12, kd_14, kd_16, kd_18, kd_20, kd_22, kd_142, kd_145, kd_147, kd_24, h2n, y2, d0, Int.lt_irrefl, n15, n47, c', v_c12, y3, a0, w0, w1, or_true, show ¬ 2 * (m : Int) < 0 by omega]
    · have y0 : ¬ N 0 6 = 0 := by omega
      rw [if_neg y0] at w0 w1
      have c1 : ¬ v = 2 * (m : Int) := by omega
      have c2 : ¬ N 0 6 < 1 := by omega
      have c3 : ¬ (8 : Int) < N 0 6 := by omega
      have c4 : ¬ N 0 7 < 0 := by omega
      have c5 : ¬ (L : Int) ≤ N 0 7 := by omega
      by_cases c : K < 4
      · have c' : ¬ (4 : Int) ≤ (K : Int) := by omega
        rw [if_pos (by omega)] at n47
        simp only [en113, s113_0, s113_1, s113_4, s113_5, s113_6, s113_8, s113_11, s113_13, s113_14, s113_16, s113_19, s113_21, s113_22, s113_24, s113_27, s113_29, s113_30, s113_31, s113_34, s113_36, s113_37, s113_38, s113_41, s113_44, s113_45, s113_48, s113_50, s113_51, s113_53, s113_56, s113_58, s113_59, s113_62, s113_64, s113_65, s113_68, s113_70, s113_71, s113_74, s113_76, s113_78, s113_81, s113_83, s113_85, s113_88, s113_89, s113_92, s113_93, s113_95, s113_97, s113_100, s113_101, s113_104, s113_105, s113_108, s113_109, s113_112, s113_113, s113_115, s113_117, s113_119, s113_122, s113_124, s113_127, s113_129, s113_132, s113_134, s113_136, s113_139, s113_141, s113_143, s113_146, s113_147, s113_150, s113_151, s113_152, s113_155, s113_156, s113_158, s113_161, s113_163, s113_166, s113_167, s113_168, s113_171, s113_173, s113_176, s113_177, s113_178, s113_181, s113_183, s113_186, s113_187, s113_190, s113_191, s113_194, s113_195, s113_197, s113_198, s113_201, s113_202, s113_205, s113_206, s113_208, s113_210, s113_213, s113_215, s113_218, s113_220, s113_221, s113_223, s113_224, s113_227, s113_229, s113_232, s113_233, s113_235, s113_238, s113_240, s113_241, s113_244, s113_246, s113_247, s113_248, s113_251, s113_252, s113_255, s113_256, s113_258, s113_261, s113_263, s113_265, s113_268, s113_269, s113_272, s113_273, s113_274, s113_277, s113_279, s113_282, s113_283, s113_284, s113_287, s113_289, s113_292, s113_293, s113_294, s113_297, s113_299, s113_302, s113_305, s113_306, s113_307, s113_310, s113_311, s113_314, s113_315, s113_316, s113_319, s113_321, s113_324, s113_325, s113_326, s113_329, s113_332, s113_333, s113_334, s113_337, s113_339, s113_342, s113_343, s113_346, s113_347, cont_some, rl_some, rl_none, if_true, if_false, kd_0, kd_1, kd_2, kd_5, kd_47, kd_141, kd_144, rf_0_0, rf_0_1, rf_0_2, rf_0_3, rf_0_4, rf_1_0, rf_1_1, rf_1_2, rf_2_0, rf_5_0, rf_5_1, rf_5_2, rf_5_3, rf_5_4, rf_5_5, rf_5_6, rf_5_7, rf_47_0, rf_141_0, rf_144_0, rf_144_1, kd_3, kd_6, kd_8, kd_10, kd_12, kd_14, kd_16, kd_18, kd_20, kd_22, kd_142, kd_145, kd_147, kd_24, h2n, c1, d0, v0, v1, n15, n47, c', aK, v_c12, y7, w0, w1, c2, c3, c4, c5, or_true]
      · have c' : (4 : Int) ≤ (K : Int) := by omega
        rw [if_neg (by omega)] at n47
        simp only [en113, s113_0, s113_1, s113_4, s113_5, s113_6, s113_8, s113_11, s113_13, s113_14, s113_16, s113_19, s113_21, s113_22, s113_24, s113_27, s113_29, s113_30, s113_31, s113_34, s113_36, s113_37, s113_38, s113_41, s113_44, s113_45, s113_48, s113_50, s113_51, s113_53, s113_56, s113_58, s113_59, s113_62, s113_64, s113_65, s113_68, s113_70, s113_71, s113_74, s113_76, s113_78, s113_81, s113_83, s113_85, s113_88, s113_89, s113_92, s113_93, s113_95, s113_97, s113_100, s113_101, s113_104, s113_105, s113_108, s113_109, s113_112, s113_113, s113_115, s113_117, s113_119, s113_122, s113_124, s113_127, s113_129, s113_132, s113_134, s113_136, s113_139, s113_141, s113_143, s113_146, s113_147, s113_150, s113_151, s113_152, s113_155, s113_156, s113_158, s113_161, s113_163, s113_166, s113_167, s113_168, s113_171, s113_173, s113_176, s113_177, s113_178, s113_181, s113_183, s113_186, s113_187, s113_190, s113_191, s113_194, s113_195, s113_197, s113_198, s113_201, s113_202, s113_205, s113_206, s113_208, s113_210, s113_213, s113_215, s113_218, s113_220, s113_221, s113_223, s113_224, s113_227, s113_229, s113_232, s113_233, s113_235, s113_238, s113_240, s113_241, s113_244, s113_246, s113_247, s113_248, s113_251, s113_252, s113_255, s113_256, s113_258, s113_261, s113_263, s113_265, s113_268, s113_269, s113_272, s113_273, s113_274, s113_277, s113_279, s113_282, s113_283, s113_284, s113_287, s113_289, s113_292, s113_293, s113_294, s113_297, s113_299, s113_302, s113_305, s113_306, s113_307, s113_310, s113_311, s113_314, s113_315, s113_316, s113_319, s113_321, s113_324, s113_325, s113_326, s113_329, s113_332, s113_333, s113_334, s113_337, s113_339, s113_342, s113_343, s113_346, s113_347, cont_some, rl_some, rl_none, if_true, if_false, kd_0, kd_1, kd_2, kd_5, kd_47, kd_141, kd_144, rf_0_0, rf_0_1, rf_0_2, rf_0_3, rf_0_4, rf_1_0, rf_1_1, rf_1_2, rf_2_0, rf_5_0, rf_5_1, rf_5_2, rf_5_3, rf_5_4, rf_5_5, rf_5_6, rf_5_7, rf_47_0, rf_141_0, rf_144_0, rf_144_1, kd_3, kd_6, kd_8, kd_10, kd_12, kd_14, kd_16, kd_18, kd_20, kd_22, kd_142, kd_145, kd_147, kd_24, h2n, c1, d0, v0, v1, n15, n47, c', v_c12, y7, w0, w1, c2, c3, c4, c5, or_true]
  · -- a fault
    have g1 := W_playN (P := P) t2 (by omega) hf
    have ecl := clear_ev (M := T) (P := P)
    rw [t2] at ecl
    obtain ⟨N, eN⟩ : ∃ N, N = wr T 141 1 0 := ⟨_, rfl⟩
    rw [← eN] at ecl
    have nO : ∀ a b, a ≠ 143 → (a ≠ 141 ∨ b ≠ 1) → N a b = M a b := fun a b x y => by rw [eN, wr_ne (by omega), t1 a b x y]
    have eNM : ∀ a b, 1 ≤ a → a < 24 → N a b = M a b := fun a b _ y => nO a b (by omega) (by omega)
    have hBN := CB_same h eNM
    have hTN := CT_same hT eNM
    have hWN : RW N P := RW_cast hW (fun a b _ y => nO a b (by omega) (by omega)) ⟨0, by omega, by rw [eN, wr_at]; rfl⟩
    refine ⟨N, P, ?_, hWN, Or.inl ⟨rfl, nO 47 1 (by omega) (by omega), eqS_of eNM, fun a b _ _ => nO a b (by omega) (by omega), nO 0 5 (by omega) (by omega)⟩⟩
    have eL : evM 109 [Rf 0] (Hp N P) = some (some (Lg (lookG M n sp t hl)), Hp N P) := by
      rw [look_ev hBN hTN, LK_det h hBN (eqS_of eNM)]
    have w0 := v_why0 (M := N) (P := P)
    have w1 := v_why1 (M := N) (P := P)
    rw [nO 0 6 (by omega) (by omega), ← er0] at w0
    rw [nO 0 6 (by omega) (by omega), nO 0 7 (by omega) (by omega), ← er1] at w1
    have n15 : evM 100 [Rf 0, I 15] (Hp N P) = some (some (I (M 47 1)), Hp N P) := by rw [v_c15, nO 47 1 (by omega) (by omega)]
    have c1 : ¬ ffF (T 143) L L 0 1 < 0 := by omega
    have c2 : ¬ (L : Int) < ffF (T 143) L L 0 1 := by omega
    rw [e1, s113_43]
    simp only [en113, s113_0, s113_1, s113_4, s113_5, s113_6, s113_8, s113_11, s113_13, s113_14, s113_16, s113_19, s113_21, s113_22, s113_24, s113_27, s113_29, s113_30, s113_31, s113_34, s113_36, s113_37, s113_38, s113_41, s113_44, s113_45, s113_48, s113_50, s113_51, s113_53, s113_56, s113_58, s113_59, s113_62, s113_64, s113_65, s113_68, s113_70, s113_71, s113_74, s113_76, s113_78, s113_81, s113_83, s113_85, s113_88, s113_89, s113_92, s113_93, s113_95, s113_97, s113_100, s113_101, s113_104, s113_105, s113_108, s113_109, s113_112, s113_113, s113_115, s113_117, s113_119, s113_122, s113_124, s113_127, s113_129, s113_132, s113_134, s113_136, s113_139, s113_141, s113_143, s113_146, s113_147, s113_150, s113_151, s113_152, s113_155, s113_156, s113_158, s113_161, s113_163, s113_166, s113_167, s113_168, s113_171, s113_173, s113_176, s113_177, s113_178, s113_181, s113_183, s113_186, s113_187, s113_190, s113_191, s113_194, s113_195, s113_197, s113_198, s113_201, s113_202, s113_205, s113_206, s113_208, s113_210, s113_213, s113_215, s113_218, s113_220, s113_221, s113_223, s113_224, s113_227, s113_229, s113_232, s113_233, s113_235, s113_238, s113_240, s113_241, s113_244, s113_246, s113_247, s113_248, s113_251, s113_252, s113_255, s113_256, s113_258, s113_261, s113_263, s113_265, s113_268, s113_269, s113_272, s113_273, s113_274, s113_277, s113_279, s113_282, s113_283, s113_284, s113_287, s113_289, s113_292, s113_293, s113_294, s113_297, s113_299, s113_302, s113_305, s113_306, s113_307, s113_310, s113_311, s113_314, s113_315, s113_316, s113_319, s113_321, s113_324, s113_325, s113_326, s113_329, s113_332, s113_333, s113_334, s113_337, s113_339, s113_342, s113_343, s113_346, s113_347, cont_some, rl_some, rl_none, if_true, if_false, kd_0, kd_1, kd_2, kd_5, kd_47, kd_141, kd_144, rf_0_0, rf_0_1, rf_0_2, rf_0_3, rf_0_4, rf_1_0, rf_1_1, rf_1_2, rf_2_0, rf_5_0, rf_5_1, rf_5_2, rf_5_3, rf_5_4, rf_5_5, rf_5_6, rf_5_7, rf_47_0, rf_141_0, rf_144_0, rf_144_1, kd_3, kd_6, kd_8, kd_10, kd_12, kd_14, kd_16, kd_18, kd_20, kd_22, kd_142, kd_145, kd_147, kd_24, e2, v_c14, t2, ef, g1, ecl, d0, hf, c1, c2, eL, cmp_0, n15, w0, w1, or_true]
end Plays
