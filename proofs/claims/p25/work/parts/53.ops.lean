/-! ===== the calls that change: what each leaves ===== -/
section Ops
variable {M N E C' : Mem} {P Q : PMem} {n sp t K : Nat} {hl : Nat → Nat}
theorem CB_same {M' : Mem} (h : CB M n sp t hl) (e : ∀ a b, 1 ≤ a → a < 24 → M' a b = M a b) : CB M' n sp t hl := CB_castS h (eqS_of e)
theorem CT_same {M' : Mem} (h : CT M t) (e : ∀ a b, 1 ≤ a → a < 24 → M' a b = M a b) : CT M' t := by
  unfold CT
  rw [e 1 4 (by omega) (by omega), e 1 6 (by omega) (by omega), e 11 t (by omega) (by omega)]
  exact h
theorem rsM_congr {M' : Mem} (e : ∀ a b, 1 ≤ a → a < 24 → M' a b = M a b) {back : Int} : rsM M' t back = rsM M t back := by
  unfold rsM
  rw [e 1 4 (by omega) (by omega), e 1 6 (by omega) (by omega), e 9 t (by omega) (by omega), e 7 t (by omega) (by omega)]
theorem rsD_congr {M' : Mem} (e : ∀ a b, 1 ≤ a → a < 24 → M' a b = M a b) {h q : Nat} {lt st : Int} : rsD M' h q lt st = rsD M h q lt st := by
  unfold rsD
  rw [e 1 4 (by omega) (by omega), e 1 6 (by omega) (by omega), e 4 q (by omega) (by omega)]
/-- behind a call: what holds, and whether it was recorded -/
def StepQ (M : Mem) (P : PMem) (N : Mem) (Q : PMem) : Prop := RW N Q ∧ ((Q = P ∧ N 47 1 = M 47 1 ∧ eqS M N ∧ (∀ a b, 24 ≤ a → a < 47 → N a b = M a b) ∧ N 0 5 = M 0 5) ∨ RecOK M P N Q)
theorem frH_of (h : frC M N) : frH M N := fun a b x => h a b (by omega)
theorem rec_step (h : RW M P) (hK : HC M P K) (hf : frC (rcM M P K) C') (hG : GC C') : StepQ M P C' (rcP P K) := by
  obtain ⟨L, l1, l2⟩ := h.2.2.2
  obtain ⟨k1, k4, hP, hI, hA⟩ := id hK
  have hp : PC C' := ⟨L, l1, by rw [hf 141 1 (by omega), rcM_o hP k4 (by omega)]; exact l2⟩
  obtain ⟨a, b⟩ := rec_W h hK (frH_of hf) hp hG
  exact ⟨a, Or.inr b⟩
theorem W_move (h : RW M P) (hB : CB M n sp t hl) (hT : CT M t) (back : Int) : ∃ (v : Int) (N : Mem) (Q : PMem) (R : Mem), evM 88 [Rf 0, I back] (Hp M P) = some (some (I v), Hp N Q) ∧ StepQ M P N Q ∧ (∀ a b, 1 ≤ a → a < 24 → R a b = M a b) ∧ CB R n sp t hl ∧ CT R t ∧ ((rsM M t back ≠ 0 ∧ v = rsM M t back ∧ v < 10 ∧ N = wr R 1 9 (ad (R 1 9) 1)) ∨ (rsM M t back = 0 ∧ ∃ q : Nat, M 7 t = (q : Int) ∧ q ≤ sp ∧ v = 10 + (mvP R n sp t (hl t) q back : Int) ∧ N = mvM R n sp t (hl t) q back)) := by
  obtain ⟨K, hK, e1, hO⟩ := rec_go h
  have eR : ∀ a b, 1 ≤ a → a < 24 → rcM M P K a b = M a b := fun a b x y => hO a b (by omega)
  have hB' := CB_same hB eR
  have hT' := CT_same hT eR
  obtain ⟨v, C', g1, g2, g3, g4, g5⟩ := C_move hB' hT' (rcP P K) back
  refine ⟨v, C', rcP P K, rcM M P K, ?_, rec_step h hK g2 g3, eR, hB', hT', ?_⟩
  · simp only [en88, s88_0, s88_1, s88_4, s88_5, s88_8, s88_11, s88_12, s88_15, s88_16, s88_19, cont_some, rl_some, rl_none, if_true, if_false, kd_0, kd_1, kd_2, kd_5, kd_47, kd_141, kd_144, rf_0_0, rf_0_1, rf_0_2, rf_0_3, rf_0_4, rf_1_0, rf_1_1, rf_1_2, rf_2_0, rf_5_0, rf_5_1, rf_5_2, rf_5_3, rf_5_4, rf_5_5, rf_5_6, rf_5_7, rf_47_0, rf_141_0, rf_144_0, rf_144_1, kd_3, kd_6, kd_8, kd_10, kd_12, kd_14, kd_16, kd_18, kd_20, kd_22, kd_142, kd_145, kd_147, kd_24, e1, g1]
  · rcases g5 with ⟨x1, x2, x3, x4⟩ | ⟨x1, q, x2, x3, x4, x5⟩
    · exact Or.inl ⟨by rw [← rsM_congr eR]; exact x1, by rw [← rsM_congr eR]; exact x2, x3, x4⟩
    · exact Or.inr ⟨by rw [← rsM_congr eR]; exact x1, q, by rw [← eR 7 t (by omega) (by omega)]; exact x2, x3, x4, x5⟩
theorem W_deed (h : RW M P) (hB : CB M n sp t hl) (hT : CT M t) {lt : Int} (hlt : lt = 116 ∨ lt = 110 ∨ lt = 108) (st : Int) : ∃ (v : Int) (N : Mem) (Q : PMem) (R : Mem) (K : Nat), evM 48 [Rf 47, Rf 1] (Hp M P) = some (none, Hp R Q) ∧ evM 40 [Rf 1, I lt, I st] (Hp R Q) = some (some (I v), Hp N Q) ∧ StepQ M P N Q ∧ (∀ a b, 1 ≤ a → a < 24 → R a b = M a b) ∧ CB R n sp t hl ∧ CT R t ∧ ∃ q : Nat, M 7 t = (q : Int) ∧ q ≤ sp ∧ ((rsD M (hl t) q lt st ≠ 0 ∧ v = rsD M (hl t) q lt st ∧ v < 10 ∧ N = wr R 1 9 (ad (R 1 9) 1)) ∨ (rsD M (hl t) q lt st = 0 ∧ 10 ≤ v ∧ Done R n sp t hl q lt st v N)) := by
  obtain ⟨K, hK, e1, hO⟩ := rec_go h
  have eR : ∀ a b, 1 ≤ a → a < 24 → rcM M P K a b = M a b := fun a b x y => hO a b (by omega)
  have hB' := CB_same hB eR
  have hT' := CT_same hT eR
  obtain ⟨v, C', g1, g2, g3, g4, q, g5, g6, g7⟩ := C_deed hB' hT' (rcP P K) hlt st
  refine ⟨v, C', rcP P K, rcM M P K, K, e1, g1, rec_step h hK g2 g3, eR, hB', hT', q, by rw [← eR 7 t (by omega) (by omega)]; exact g5, g6, ?_⟩
  rcases g7 with ⟨x1, x2, x3, x4⟩ | ⟨x1, x2, x3⟩
  · exact Or.inl ⟨by rw [← rsD_congr eR]; exact x1, by rw [← rsD_congr eR]; exact x2, x3, x4⟩
  · exact Or.inr ⟨by rw [← rsD_congr eR]; exact x1, x2, x3⟩
theorem W_take (h : evM 48 [Rf 47, Rf 1] (Hp M P) = some (none, Hp E Q)) {v : Int} (h2 : evM 40 [Rf 1, I 116, I 0] (Hp E Q) = some (some (I v), Hp N Q)) : evM 89 [Rf 0] (Hp M P) = some (some (I v), Hp N Q) := by
  simp only [en89, s89_0, s89_1, s89_4, s89_5, s89_8, s89_11, s89_12, s89_15, s89_17, s89_18, s89_21, cont_some, rl_some, rl_none, if_true, if_false, kd_0, kd_1, kd_2, kd_5, kd_47, kd_141, kd_144, rf_0_0, rf_0_1, rf_0_2, rf_0_3, rf_0_4, rf_1_0, rf_1_1, rf_1_2, rf_2_0, rf_5_0, rf_5_1, rf_5_2, rf_5_3, rf_5_4, rf_5_5, rf_5_6, rf_5_7, rf_47_0, rf_141_0, rf_144_0, rf_144_1, kd_3, kd_6, kd_8, kd_10, kd_12, kd_14, kd_16, kd_18, kd_20, kd_22, kd_142, kd_145, kd_147, kd_24, h, h2]
theorem W_lay {st : Int} (h : evM 48 [Rf 47, Rf 1] (Hp M P) = some (none, Hp E Q)) {v : Int} (h2 : evM 40 [Rf 1, I 108, I st] (Hp E Q) = some (some (I v), Hp N Q)) : evM 90 [Rf 0, I st] (Hp M P) = some (some (I v), Hp N Q) := by
  simp only [en90, s90_0, s90_1, s90_4, s90_5, s90_8, s90_11, s90_12, s90_15, s90_17, s90_18, s90_21, cont_some, rl_some, rl_none, if_true, if_false, kd_0, kd_1, kd_2, kd_5, kd_47, kd_141, kd_144, rf_0_0, rf_0_1, rf_0_2, rf_0_3, rf_0_4, rf_1_0, rf_1_1, rf_1_2, rf_2_0, rf_5_0, rf_5_1, rf_5_2, rf_5_3, rf_5_4, rf_5_5, rf_5_6, rf_5_7, rf_47_0, rf_141_0, rf_144_0, rf_144_1, kd_3, kd_6, kd_8, kd_10, kd_12, kd_14, kd_16, kd_18, kd_20, kd_22, kd_142, kd_145, kd_147, kd_24, h, h2]
theorem W_noth (h : evM 48 [Rf 47, Rf 1] (Hp M P) = some (none, Hp E Q)) {v : Int} (h2 : evM 40 [Rf 1, I 110, I 0] (Hp E Q) = some (some (I v), Hp N Q)) : evM 91 [Rf 0] (Hp M P) = some (some (I v), Hp N Q) := by
  simp only [en91, s91_0, s91_1, s91_4, s91_5, s91_8, s91_11, s91_12, s91_15, s91_17, s91_18, s91_21, cont_some, rl_some, rl_none, if_true, if_false, kd_0, kd_1, kd_2, kd_5, kd_47, kd_141, kd_144, rf_0_0, rf_0_1, rf_0_2, rf_0_3, rf_0_4, rf_1_0, rf_1_1, rf_1_2, rf_2_0, rf_5_0, rf_5_1, rf_5_2, rf_5_3, rf_5_4, rf_5_5, rf_5_6, rf_5_7, rf_47_0, rf_141_0, rf_144_0, rf_144_1, kd_3, kd_6, kd_8, kd_10, kd_12, kd_14, kd_16, kd_18, kd_20, kd_22, kd_142, kd_145, kd_147, kd_24, h, h2]
theorem W_beginN {d x : Int} (hc : ¬ ((2 ≤ d ∧ d ≤ 4) ∧ (0 ≤ x ∧ x ≤ 9999))) : evM 87 [Rf 0, I d, I x] (Hp M P) = some (some (I (-1)), Hp M P) := by
  by_cases c1 : d < 2
  · simp only [en87, s87_0, s87_1, s87_2, s87_5, s87_6, s87_7, s87_10, s87_11, s87_14, s87_15, s87_18, s87_21, s87_22, s87_23, s87_24, s87_27, s87_28, s87_31, s87_34, s87_35, s87_38, s87_39, s87_40, s87_43, s87_44, s87_47, s87_50, cont_some, rl_some, rl_none, if_true, if_false, kd_0, kd_1, kd_2, kd_5, kd_47, kd_141, kd_144, rf_0_0, rf_0_1, rf_0_2, rf_0_3, rf_0_4, rf_1_0, rf_1_1, rf_1_2, rf_2_0, rf_5_0, rf_5_1, rf_5_2, rf_5_3, rf_5_4, rf_5_5, rf_5_6, rf_5_7, rf_47_0, rf_141_0, rf_144_0, rf_144_1, kd_3, kd_6, kd_8, kd_10, kd_12, kd_14, kd_16, kd_18, kd_20, kd_22, kd_142, kd_145, kd_147, kd_24, c1]
  · by_cases c2 : 4 < d
    · simp only [en87, s87_0, s87_1, s87_2, s87_5, s87_6, s87_7, s87_10, s87_11, s87_14, s87_15, s87_18, s87_21, s87_22, s87_23, s87_24, s87_27, s87_28, s87_31, s87_34, s87_35, s87_38, s87_39, s87_40, s87_43, s87_44, s87_47, s87_50, cont_some, rl_some, rl_none, if_true, if_false, kd_0, kd_1, kd_2, kd_5, kd_47, kd_141, kd_144, rf_0_0, rf_0_1, rf_0_2, rf_0_3, rf_0_4, rf_1_0, rf_1_1, rf_1_2, rf_2_0, rf_5_0, rf_5_1, rf_5_2, rf_5_3, rf_5_4, rf_5_5, rf_5_6, rf_5_7, rf_47_0, rf_141_0, rf_144_0, rf_144_1, kd_3, kd_6, kd_8, kd_10, kd_12, kd_14, kd_16, kd_18, kd_20, kd_22, kd_142, kd_145, kd_147, kd_24, c1, c2]
    · by_cases c3 : x < 0
      · simp only [en87, s87_0, s87_1, s87_2, s87_5, s87_6, s87_7, s87_10, s87_11, s87_14, s87_15, s87_18, s87_21, s87_22, s87_23, s87_24, s87_27, s87_28, s87_31, s87_34, s87_35, s87_38, s87_39, s87_40, s87_43, s87_44, s87_47, s87_50, cont_some, rl_some, rl_none, if_true, if_false, kd_0, kd_1, kd_2, kd_5, kd_47, kd_141, kd_144, rf_0_0, rf_0_1, rf_0_2, rf_0_3, rf_0_4, rf_1_0, rf_1_1, rf_1_2, rf_2_0, rf_5_0, rf_5_1, rf_5_2, rf_5_3, rf_5_4, rf_5_5, rf_5_6, rf_5_7, rf_47_0, rf_141_0, rf_144_0, rf_144_1, kd_3, kd_6, kd_8, kd_10, kd_12, kd_14, kd_16, kd_18, kd_20, kd_22, kd_142, kd_145, kd_147, kd_24, c1, c2, c3]
      · have c4 : ¬ x < 10000 := by omega
        simp only [en87, s87_0, s87_1, s87_2, s87_5, s87_6, s87_7, s87_10, s87_11, s87_14, s87_15, s87_18, s87_21, s87_22, s87_23, s87_24, s87_27, s87_28, s87_31, s87_34, s87_35, s87_38, s87_39, s87_40, s87_43, s87_44, s87_47, s87_50, cont_some, rl_some, rl_none, if_true, if_false, kd_0, kd_1, kd_2, kd_5, kd_47, kd_141, kd_144, rf_0_0, rf_0_1, rf_0_2, rf_0_3, rf_0_4, rf_1_0, rf_1_1, rf_1_2, rf_2_0, rf_5_0, rf_5_1, rf_5_2, rf_5_3, rf_5_4, rf_5_5, rf_5_6, rf_5_7, rf_47_0, rf_141_0, rf_144_0, rf_144_1, kd_3, kd_6, kd_8, kd_10, kd_12, kd_14, kd_16, kd_18, kd_20, kd_22, kd_142, kd_145, kd_147, kd_24, c1, c2, c3, c4]
theorem W_begin (h : RW M P) (h2 : 2 ≤ n) (hn : n ≤ 4) {x : Int} (h0 : 0 ≤ x) (h1 : x ≤ 9999) : ∃ (N : Mem) (Q : PMem) (R : Mem), evM 87 [Rf 0, I (n : Int), I x] (Hp M P) = some (some (I (sumN (fun s => psum (N 4 (s + 1))) 16)), Hp N Q) ∧ StepQ M P N Q ∧ R 1 9 = M 1 9 ∧ N = deM R n x ∧ CB N n 16 0 (fun _ => 0) ∧ CT N 0 := by
  obtain ⟨K, hK, e1, hO⟩ := rec_go h
  have hB := CB_begin (C := rcM M P K) (n := n) h2 hn h0 h1
  obtain ⟨v3, v4, v5, v6, v7, v8, v9⟩ := de_1 (C := rcM M P K) (d := (n : Int)) (x := x)
  have hT : CT (deM (rcM M P K) n x) 0 := Or.inl ⟨by omega, by omega, Or.inr ⟨v6, de_0 (by omega) (by omega)⟩⟩
  have g1 := g_deal (M := rcM M P K) (P := rcP P K) (d := (n : Int)) h0 h1
  have g2 := begin_val (C := rcM M P K) (P := rcP P K) h2 hn h0 h1
  have c1 : ¬ (n : Int) < 2 := by omega
  have c2 : ¬ (4 : Int) < (n : Int) := by omega
  have c3 : ¬ x < 0 := by omega
  have c4 : x < 10000 := by omega
  refine ⟨deM (rcM M P K) n x, rcP P K, rcM M P K, ?_, rec_step h hK de_fr ⟨n, 16, 0, _, hB, hT⟩, hO 1 9 (by omega), rfl, hB, hT⟩
  simp only [en87, s87_0, s87_1, s87_2, s87_5, s87_6, s87_7, s87_10, s87_11, s87_14, s87_15, s87_18, s87_21, s87_22, s87_23, s87_24, s87_27, s87_28, s87_31, s87_34, s87_35, s87_38, s87_39, s87_40, s87_43, s87_44, s87_47, s87_50, cont_some, rl_some, rl_none, if_true, if_false, kd_0, kd_1, kd_2, kd_5, kd_47, kd_141, kd_144, rf_0_0, rf_0_1, rf_0_2, rf_0_3, rf_0_4, rf_1_0, rf_1_1, rf_1_2, rf_2_0, rf_5_0, rf_5_1, rf_5_2, rf_5_3, rf_5_4, rf_5_5, rf_5_6, rf_5_7, rf_47_0, rf_141_0, rf_144_0, rf_144_1, kd_3, kd_6, kd_8, kd_10, kd_12, kd_14, kd_16, kd_18, kd_20, kd_22, kd_142, kd_145, kd_147, kd_24, c1, c2, c3, c4, e1, g1, g2]
theorem W_undo0 (hK : M 47 1 = 0) : evM 106 [Rf 0] (Hp M P) = some (some (I (-2)), Hp M P) := by
  simp only [en106, s106_0, s106_1, s106_4, s106_5, s106_8, s106_11, cont_some, rl_some, rl_none, if_true, if_false, kd_0, kd_1, kd_2, kd_5, kd_47, kd_141, kd_144, rf_0_0, rf_0_1, rf_0_2, rf_0_3, rf_0_4, rf_1_0, rf_1_1, rf_1_2, rf_2_0, rf_5_0, rf_5_1, rf_5_2, rf_5_3, rf_5_4, rf_5_5, rf_5_6, rf_5_7, rf_47_0, rf_141_0, rf_144_0, rf_144_1, kd_3, kd_6, kd_8, kd_10, kd_12, kd_14, kd_16, kd_18, kd_20, kd_22, kd_142, kd_145, kd_147, kd_24, h_back0 hK]
theorem W_undo {k : Nat} (h : RW M P) (hK : M 47 1 = ((k + 1 : Nat) : Int)) : ∃ N, evM 106 [Rf 0] (Hp M P) = some (some (I (k : Int)), Hp N P) ∧ RW N P ∧ N 47 1 = (k : Int) ∧ (∀ o b, cS o b = true → N (o + 1) b = M (P k + o) b) ∧ (∀ a b, 24 ≤ a → a < 47 → N a b = M a b) ∧ N 0 5 = M 0 5 := by
  obtain ⟨hM, ⟨K', k1, k4, hP, hI, hA⟩, hS, hPd⟩ := id h
  have eK : K' = k + 1 := by rw [hK] at k1; omega
  subst eK
  have hb := hP k (by omega)
  have hG := hA k (by omega)
  have z6 := GC_16 hG
  have b1 : 1 ≤ P k := by unfold hB at hb; omega
  have e6 : blk M (P k) 1 6 = M (P k) 6 := by have := blk_e (A := M) (o := 0) (k := 6) b1; exact this
  rw [e6] at z6
  have hc := h_back (M := M) hP k1 (by omega) z6
  obtain ⟨N, eN⟩ : ∃ N, N = wr (cpG M 1 (P k)) 47 1 (k : Int) := ⟨_, rfl⟩
  rw [← eN] at hc
  have nO : ∀ a b, (a = 0 ∨ 24 ≤ a) → (a ≠ 47 ∨ b ≠ 1) → N a b = M a b := by
    intro a b x y
    rw [eN, wr_app, if_neg (by omega), cpG_out (by omega)]
  have nG : ∀ o b, cS o b = true → N (o + 1) b = M (P k + o) b := by
    intro o b hcs
    have ho := cS_sm _ _ hcs
    rw [eN, wr_app, if_neg (by omega), Nat.add_comm o 1, cpG_in hcs]
  refine ⟨N, ?_, ⟨?_, ⟨k, ?_, by omega, hP, hI, fun j hj => ?_⟩, ?_, ?_⟩, ?_, nG, fun a b x y => nO a b (by omega) (by omega), nO 0 5 (by omega) (by omega)⟩
  · simp only [en106, s106_0, s106_1, s106_4, s106_5, s106_8, s106_11, cont_some, rl_some, rl_none, if_true, if_false, kd_0, kd_1, kd_2, kd_5, kd_47, kd_141, kd_144, rf_0_0, rf_0_1, rf_0_2, rf_0_3, rf_0_4, rf_1_0, rf_1_1, rf_1_2, rf_2_0, rf_5_0, rf_5_1, rf_5_2, rf_5_3, rf_5_4, rf_5_5, rf_5_6, rf_5_7, rf_47_0, rf_141_0, rf_144_0, rf_144_1, kd_3, kd_6, kd_8, kd_10, kd_12, kd_14, kd_16, kd_18, kd_20, kd_22, kd_142, kd_145, kd_147, kd_24, hc]
  · apply GC_castS hG
    intro o b hcs
    rw [nG o b hcs, blk_e b1]
  · rw [eN, wr_at]
  · apply GC_castS (hA j (by omega))
    intro o b hcs
    have ho := cS_sm _ _ hcs
    have a := hP j (by omega)
    unfold hB at a
    rw [blk_e (by omega), blk_e (by omega), nO (P j + o) b (by omega) (by omega)]
  · unfold SC at *
    rw [nO 0 5 (by omega) (by omega)]
    rcases hS with x | ⟨x, y⟩
    · exact Or.inl x
    · refine Or.inr ⟨x, GC_castS y ?_⟩
      intro o b hcs
      have ho := cS_sm _ _ hcs
      rw [blk_e (by omega), blk_e (by omega), nO (24 + o) b (by omega) (by omega)]
  · obtain ⟨L, l1, l2⟩ := hPd
    exact ⟨L, l1, by rw [nO 141 1 (by omega) (by omega)]; exact l2⟩
  · rw [eN, wr_at]
theorem W_save (h : RW M P) : ∃ N, evM 107 [Rf 0] (Hp M P) = some (some (I (M 1 4)), Hp N P) ∧ RW N P ∧ N 0 5 = 1 ∧ (∀ o b, cS o b = true → N (24 + o) b = M (o + 1) b) ∧ (∀ a b, (a < 24 ∨ 47 ≤ a) → (a ≠ 0 ∨ b ≠ 5) → N a b = M a b) := by
  obtain ⟨hM, ⟨K, k1, k4, hP, hI, hA⟩, hS, hPd⟩ := id h
  have hc := cp_game (M := M) (P := P) (b := 24) (b2 := 1) (Or.inr (Or.inl rfl)) (Or.inl rfl) (by unfold far; omega) (GC_16 hM)
  obtain ⟨N, eN⟩ : ∃ N, N = wr (cpG M 24 1) 0 5 1 := ⟨_, rfl⟩
  have nO : ∀ a b, (a < 24 ∨ 47 ≤ a) → (a ≠ 0 ∨ b ≠ 5) → N a b = M a b := by
    intro a b x y
    rw [eN, wr_app, if_neg (by omega), cpG_out (by omega)]
  have nG : ∀ o b, cS o b = true → N (24 + o) b = M (o + 1) b := by
    intro o b hcs
    have ho := cS_sm _ _ hcs
    rw [eN, wr_app, if_neg (by omega), cpG_in hcs, Nat.add_comm 1 o]
  have n14 : N 1 4 = M 1 4 := nO 1 4 (by omega) (by omega)
  have n05 : N 0 5 = 1 := by rw [eN, wr_at]
  refine ⟨N, ?_, ⟨GC_cast hM (fun a b x y => nO a b (by omega) (by omega)), ⟨K, by rw [nO 47 1 (by omega) (by omega)]; exact k1, k4, hP, hI, fun j hj => ?_⟩, Or.inr ⟨n05, ?_⟩, ?_⟩, n05, nG, nO⟩
  · simp only [en107, s107_0, s107_1, s107_4, s107_5, s107_8, s107_11, s107_12, s107_13, s107_16, s107_17, s107_20, s107_23, cont_some, rl_some, rl_none, if_true, if_false, kd_0, kd_1, kd_2, kd_5, kd_47, kd_141, kd_144, rf_0_0, rf_0_1, rf_0_2, rf_0_3, rf_0_4, rf_1_0, rf_1_1, rf_1_2, rf_2_0, rf_5_0, rf_5_1, rf_5_2, rf_5_3, rf_5_4, rf_5_5, rf_5_6, rf_5_7, rf_47_0, rf_141_0, rf_144_0, rf_144_1, kd_3, kd_6, kd_8, kd_10, kd_12, kd_14, kd_16, kd_18, kd_20, kd_22, kd_142, kd_145, kd_147, kd_24, hc, or_true, ← eN, n14]
  · apply GC_castS (hA j hj)
    intro o b hcs
    have ho := cS_sm _ _ hcs
    have a := hP j (by omega)
    unfold hB at a
    rw [blk_e (by omega), blk_e (by omega), nO (P j + o) b (by omega) (by omega)]
  · apply GC_castS hM
    intro o b hcs
    rw [blk_e (by omega), nG o b hcs]
  · obtain ⟨L, l1, l2⟩ := hPd
    exact ⟨L, l1, by rw [nO 141 1 (by omega) (by omega)]; exact l2⟩
theorem W_restoreN (h : M 0 5 = 0) : evM 108 [Rf 0] (Hp M P) = some (some (I (-2)), Hp M P) := by
  simp only [en108, s108_0, s108_1, s108_4, s108_7, s108_9, s108_10, s108_11, s108_14, s108_15, s108_18, s108_21, s108_22, s108_25, s108_26, s108_29, s108_32, s108_33, s108_36, s108_39, cont_some, rl_some, rl_none, if_true, if_false, kd_0, kd_1, kd_2, kd_5, kd_47, kd_141, kd_144, rf_0_0, rf_0_1, rf_0_2, rf_0_3, rf_0_4, rf_1_0, rf_1_1, rf_1_2, rf_2_0, rf_5_0, rf_5_1, rf_5_2, rf_5_3, rf_5_4, rf_5_5, rf_5_6, rf_5_7, rf_47_0, rf_141_0, rf_144_0, rf_144_1, kd_3, kd_6, kd_8, kd_10, kd_12, kd_14, kd_16, kd_18, kd_20, kd_22, kd_142, kd_145, kd_147, kd_24, h]
theorem W_restore (h : RW M P) (h5 : M 0 5 = 1) : ∃ N Q, evM 108 [Rf 0] (Hp M P) = some (some (I (N 1 4)), Hp N Q) ∧ StepQ M P N Q ∧ RecOK M P N Q ∧ (∀ o b, cS o b = true → N (o + 1) b = M (24 + o) b) := by
  obtain ⟨K, hK, e1, hO⟩ := rec_go h
  have hG24 : GC (blk M 24) := by
    rcases h.2.2.1 with x | x
    · omega
    · exact x.2
  have z6 := GC_16 hG24
  have e6 : blk M 24 1 6 = M 24 6 := rfl
  rw [e6] at z6
  have r246 : rcM M P K 24 6 = M 24 6 := hO _ _ (by omega)
  have hc := cp_game (M := rcM M P K) (P := rcP P K) (b := 1) (b2 := 24) (Or.inl rfl) (Or.inr (Or.inl rfl)) (by unfold far; omega) (by rw [r246]; exact z6)
  obtain ⟨C', eC⟩ : ∃ C', C' = cpG (rcM M P K) 1 24 := ⟨_, rfl⟩
  rw [← eC] at hc
  have hfr : frC (rcM M P K) C' := by
    intro a b x
    rw [eC, cpG_out (by omega)]
  have nG : ∀ o b, cS o b = true → C' (o + 1) b = M (24 + o) b := by
    intro o b hcs
    have ho := cS_sm _ _ hcs
    rw [eC, Nat.add_comm o 1, cpG_in hcs, hO _ _ (by omega)]
  have hGC : GC C' := by
    apply GC_castS hG24
    intro o b hcs
    rw [blk_e (by omega), nG o b hcs]
  have c0 : ¬ (1 : Int) = 0 := by omega
  obtain ⟨L, l1, l2⟩ := h.2.2.2
  obtain ⟨k1, k4, hP, hI, hA⟩ := id hK
  have hp : PC C' := ⟨L, l1, by rw [hfr 141 1 (by omega), rcM_o hP k4 (by omega)]; exact l2⟩
  obtain ⟨w1, w2⟩ := rec_W h hK (frH_of hfr) hp hGC
  refine ⟨C', rcP P K, ?_, ⟨w1, Or.inr w2⟩, w2, nG⟩
  simp only [en108, s108_0, s108_1, s108_4, s108_7, s108_9, s108_10, s108_11, s108_14, s108_15, s108_18, s108_21, s108_22, s108_25, s108_26, s108_29, s108_32, s108_33, s108_36, s108_39, cont_some, rl_some, rl_none, if_true, if_false, kd_0, kd_1, kd_2, kd_5, kd_47, kd_141, kd_144, rf_0_0, rf_0_1, rf_0_2, rf_0_3, rf_0_4, rf_1_0, rf_1_1, rf_1_2, rf_2_0, rf_5_0, rf_5_1, rf_5_2, rf_5_3, rf_5_4, rf_5_5, rf_5_6, rf_5_7, rf_47_0, rf_141_0, rf_144_0, rf_144_1, kd_3, kd_6, kd_8, kd_10, kd_12, kd_14, kd_16, kd_18, kd_20, kd_22, kd_142, kd_145, kd_147, kd_24, h5, c0, e1, hc]
end Ops
