/-! ===== chances, and ways home ===== -/
section Bounds
variable {M : Mem} {P : PMem} {n sp t : Nat} {hl : Nat → Nat}
theorem chF_b (h : Nat) (up : Bool) (q : Nat) (pl : Int) : 0 ≤ chF M n sp t h up q pl ∧ chF M n sp t h up q pl ≤ 9 := by
  have b2 := ind_b (M := M) (n := n) (sp := sp) (t := t) h up q pl 2
  have b3 := ind_b (M := M) (n := n) (sp := sp) (t := t) h up q pl 3
  have b4 := ind_b (M := M) (n := n) (sp := sp) (t := t) h up q pl 4
  have b5 := ind_b (M := M) (n := n) (sp := sp) (t := t) h up q pl 5
  have b6 := ind_b (M := M) (n := n) (sp := sp) (t := t) h up q pl 6
  unfold chF
  omega
theorem v_chances (h : CB M n sp t hl) (pl back w : Int) : ∃ v : Int, evM 102 [Rf 0, I pl, I back, I w] (Hp M P) = some (some (I v), Hp M P) ∧ (¬ (0 ≤ pl ∧ pl ≤ (sp : Int) ∧ 0 ≤ w ∧ w ≤ 1) → v = -1) ∧ (0 ≤ pl ∧ pl ≤ (sp : Int) ∧ 0 ≤ w ∧ w ≤ 1 → (rsM M t back = 0 → 0 ≤ v ∧ v ≤ 9) ∧ (rsM M t back ≠ 0 → v = -2)) := by
  have htn := h.tn
  have h4 := h.cN.2
  have ht4 : t < 4 := by omega
  have h2 := h.cS.1
  by_cases c1 : 0 ≤ pl ∧ pl ≤ (sp : Int)
  · have c1' : ¬ pl < 0 := by omega
    have c1'' : ¬ (sp : Int) < pl := by omega
    by_cases c2 : 0 ≤ w ∧ w ≤ 1
    · have c2' : ¬ w < 0 := by omega
      have gw := g_whyM (P := P) (back := back) h.tt ht4
      by_cases c3 : rsM M t back = 0
      · obtain ⟨q, hqs, hq⟩ := h.pl t htn
        rw [c3] at gw
        have hh := h.ch t htn
        have x1 := o_thr (P := P) (pl := pl) (back := back) h.cN h.cS h.tt ht4 hh.2 hh.1 hq hqs
        have x2 := o_sum (P := P) (pl := pl) (back := back) h.cN h.cS h.tt ht4 hh.2 hh.1 hq hqs
        have hb := chF_b (M := M) (n := n) (sp := sp) (t := t) (hl t) (decide (back ≠ 0 ∨ M 9 t = 1)) q pl
        refine ⟨chF M n sp t (hl t) (decide (back ≠ 0 ∨ M 9 t = 1)) q pl, ?_, fun z => absurd ⟨c1.1, c1.2, c2.1, c2.2⟩ z, fun _ => ⟨fun _ => hb, fun z => absurd c3 z⟩⟩
        by_cases c4 : w = 0
        · subst c4
          have d1 : (0 : Int) ≤ 1 := by omega
          have d2 : ¬ (0 : Int) < 0 := by omega
          simp only [en102, s102_0, s102_1, s102_4, s102_5, s102_6, s102_9, s102_12, s102_15, s102_18, s102_19, s102_22, s102_23, s102_24, s102_27, s102_28, s102_29, s102_30, s102_33, s102_34, s102_37, s102_40, s102_42, s102_43, s102_44, s102_47, s102_48, s102_51, s102_52, s102_55, s102_56, s102_57, s102_60, s102_63, s102_64, s102_67, s102_68, s102_71, s102_72, s102_73, s102_76, cont_some, rl_some, rl_none, if_true, if_false, kd_0, kd_1, kd_2, kd_5, kd_47, kd_141, kd_144, rf_0_0, rf_0_1, rf_0_2, rf_0_3, rf_0_4, rf_1_0, rf_1_1, rf_1_2, rf_2_0, rf_5_0, rf_5_1, rf_5_2, rf_5_3, rf_5_4, rf_5_5, rf_5_6, rf_5_7, rf_47_0, rf_141_0, rf_144_0, rf_144_1, kd_3, kd_6, kd_8, kd_10, kd_12, kd_14, kd_16, kd_18, kd_20, kd_22, kd_142, kd_145, kd_147, kd_24, h2, c1', c1'', d1, d2, gw, x1]
        · simp only [en102, s102_0, s102_1, s102_4, s102_5, s102_6, s102_9, s102_12, s102_15, s102_18, s102_19, s102_22, s102_23, s102_24, s102_27, s102_28, s102_29, s102_30, s102_33, s102_34, s102_37, s102_40, s102_42, s102_43, s102_44, s102_47, s102_48, s102_51, s102_52, s102_55, s102_56, s102_57, s102_60, s102_63, s102_64, s102_67, s102_68, s102_71, s102_72, s102_73, s102_76, cont_some, rl_some, rl_none, if_true, if_false, kd_0, kd_1, kd_2, kd_5, kd_47, kd_141, kd_144, rf_0_0, rf_0_1, rf_0_2, rf_0_3, rf_0_4, rf_1_0, rf_1_1, rf_1_2, rf_2_0, rf_5_0, rf_5_1, rf_5_2, rf_5_3, rf_5_4, rf_5_5, rf_5_6, rf_5_7, rf_47_0, rf_141_0, rf_144_0, rf_144_1, kd_3, kd_6, kd_8, kd_10, kd_12, kd_14, kd_16, kd_18, kd_20, kd_22, kd_142, kd_145, kd_147, kd_24, h2, c1', c1'', c2', c2, gw, c4, x2]
      · refine ⟨-2, ?_, fun z => absurd ⟨c1.1, c1.2, c2.1, c2.2⟩ z, fun _ => ⟨fun z => absurd z c3, fun _ => rfl⟩⟩
        simp only [en102, s102_0, s102_1, s102_4, s102_5, s102_6, s102_9, s102_12, s102_15, s102_18, s102_19, s102_22, s102_23, s102_24, s102_27, s102_28, s102_29, s102_30, s102_33, s102_34, s102_37, s102_40, s102_42, s102_43, s102_44, s102_47, s102_48, s102_51, s102_52, s102_55, s102_56, s102_57, s102_60, s102_63, s102_64, s102_67, s102_68, s102_71, s102_72, s102_73, s102_76, cont_some, rl_some, rl_none, if_true, if_false, kd_0, kd_1, kd_2, kd_5, kd_47, kd_141, kd_144, rf_0_0, rf_0_1, rf_0_2, rf_0_3, rf_0_4, rf_1_0, rf_1_1, rf_1_2, rf_2_0, rf_5_0, rf_5_1, rf_5_2, rf_5_3, rf_5_4, rf_5_5, rf_5_6, rf_5_7, rf_47_0, rf_141_0, rf_144_0, rf_144_1, kd_3, kd_6, kd_8, kd_10, kd_12, kd_14, kd_16, kd_18, kd_20, kd_22, kd_142, kd_145, kd_147, kd_24, h2, c1', c1'', c2', c2, gw, c3]
    · refine ⟨-1, ?_, fun _ => rfl, fun z => absurd ⟨z.2.2.1, z.2.2.2⟩ c2⟩
      by_cases c3 : w < 0
      · simp only [en102, s102_0, s102_1, s102_4, s102_5, s102_6, s102_9, s102_12, s102_15, s102_18, s102_19, s102_22, s102_23, s102_24, s102_27, s102_28, s102_29, s102_30, s102_33, s102_34, s102_37, s102_40, s102_42, s102_43, s102_44, s102_47, s102_48, s102_51, s102_52, s102_55, s102_56, s102_57, s102_60, s102_63, s102_64, s102_67, s102_68, s102_71, s102_72, s102_73, s102_76, cont_some, rl_some, rl_none, if_true, if_false, kd_0, kd_1, kd_2, kd_5, kd_47, kd_141, kd_144, rf_0_0, rf_0_1, rf_0_2, rf_0_3, rf_0_4, rf_1_0, rf_1_1, rf_1_2, rf_2_0, rf_5_0, rf_5_1, rf_5_2, rf_5_3, rf_5_4, rf_5_5, rf_5_6, rf_5_7, rf_47_0, rf_141_0, rf_144_0, rf_144_1, kd_3, kd_6, kd_8, kd_10, kd_12, kd_14, kd_16, kd_18, kd_20, kd_22, kd_142, kd_145, kd_147, kd_24, h2, c1', c1'', c3]
      · have c4 : ¬ w ≤ 1 := by omega
        simp only [en102, s102_0, s102_1, s102_4, s102_5, s102_6, s102_9, s102_12, s102_15, s102_18, s102_19, s102_22, s102_23, s102_24, s102_27, s102_28, s102_29, s102_30, s102_33, s102_34, s102_37, s102_40, s102_42, s102_43, s102_44, s102_47, s102_48, s102_51, s102_52, s102_55, s102_56, s102_57, s102_60, s102_63, s102_64, s102_67, s102_68, s102_71, s102_72, s102_73, s102_76, cont_some, rl_some, rl_none, if_true, if_false, kd_0, kd_1, kd_2, kd_5, kd_47, kd_141, kd_144, rf_0_0, rf_0_1, rf_0_2, rf_0_3, rf_0_4, rf_1_0, rf_1_1, rf_1_2, rf_2_0, rf_5_0, rf_5_1, rf_5_2, rf_5_3, rf_5_4, rf_5_5, rf_5_6, rf_5_7, rf_47_0, rf_141_0, rf_144_0, rf_144_1, kd_3, kd_6, kd_8, kd_10, kd_12, kd_14, kd_16, kd_18, kd_20, kd_22, kd_142, kd_145, kd_147, kd_24, h2, c1', c1'', c3, c4]
  · refine ⟨-1, ?_, fun _ => rfl, fun z => absurd ⟨z.1, z.2.1⟩ c1⟩
    by_cases c3 : pl < 0
    · simp only [en102, s102_0, s102_1, s102_4, s102_5, s102_6, s102_9, s102_12, s102_15, s102_18, s102_19, s102_22, s102_23, s102_24, s102_27, s102_28, s102_29, s102_30, s102_33, s102_34, s102_37, s102_40, s102_42, s102_43, s102_44, s102_47, s102_48, s102_51, s102_52, s102_55, s102_56, s102_57, s102_60, s102_63, s102_64, s102_67, s102_68, s102_71, s102_72, s102_73, s102_76, cont_some, rl_some, rl_none, if_true, if_false, kd_0, kd_1, kd_2, kd_5, kd_47, kd_141, kd_144, rf_0_0, rf_0_1, rf_0_2, rf_0_3, rf_0_4, rf_1_0, rf_1_1, rf_1_2, rf_2_0, rf_5_0, rf_5_1, rf_5_2, rf_5_3, rf_5_4, rf_5_5, rf_5_6, rf_5_7, rf_47_0, rf_141_0, rf_144_0, rf_144_1, kd_3, kd_6, kd_8, kd_10, kd_12, kd_14, kd_16, kd_18, kd_20, kd_22, kd_142, kd_145, kd_147, kd_24, c3]
    · have c4 : (sp : Int) < pl := by omega
      simp only [en102, s102_0, s102_1, s102_4, s102_5, s102_6, s102_9, s102_12, s102_15, s102_18, s102_19, s102_22, s102_23, s102_24, s102_27, s102_28, s102_29, s102_30, s102_33, s102_34, s102_37, s102_40, s102_42, s102_43, s102_44, s102_47, s102_48, s102_51, s102_52, s102_55, s102_56, s102_57, s102_60, s102_63, s102_64, s102_67, s102_68, s102_71, s102_72, s102_73, s102_76, cont_some, rl_some, rl_none, if_true, if_false, kd_0, kd_1, kd_2, kd_5, kd_47, kd_141, kd_144, rf_0_0, rf_0_1, rf_0_2, rf_0_3, rf_0_4, rf_1_0, rf_1_1, rf_1_2, rf_2_0, rf_5_0, rf_5_1, rf_5_2, rf_5_3, rf_5_4, rf_5_5, rf_5_6, rf_5_7, rf_47_0, rf_141_0, rf_144_0, rf_144_1, kd_3, kd_6, kd_8, kd_10, kd_12, kd_14, kd_16, kd_18, kd_20, kd_22, kd_142, kd_145, kd_147, kd_24, h2, c3, c4]
/-! bounds of the ways -/
def p9 : Nat → Int
  | 0 => 1
  | k + 1 => 9 * p9 k
theorem p9_b {k : Nat} (h : k ≤ 6) : 1 ≤ p9 k ∧ p9 k ≤ 531441 := by
  have : k = 0 ∨ k = 1 ∨ k = 2 ∨ k = 3 ∨ k = 4 ∨ k = 5 ∨ k = 6 := by omega
  rcases this with rfl | rfl | rfl | rfl | rfl | rfl | rfl <;> decide
def nn (Q : Nat → Int) : Prop := ∀ x, x < 17 → 0 ≤ Q x
theorem up1_b {Q : Nat → Int} {l : Nat} {v : Int} (hQ : nn Q) (hl : l < 17) (hv : 0 ≤ v) (hB : sumN Q 17 + v ≤ 2000000000) : nn (up1 Q l v) ∧ sumN (up1 Q l v) 17 = sumN Q 17 + v := by
  have h1 := sumN_one (f := Q) 17 hQ l hl
  have h0 := hQ l hl
  have e : ad (Q l) v = Q l + v := ad_eq (by omega) (by omega)
  have el : up1 Q l v l = Q l + v := by unfold up1; rw [if_pos rfl, e]
  have eo : ∀ i, i ≠ l → up1 Q l v i = Q i := fun i hi => by unfold up1; rw [if_neg hi]
  refine ⟨fun x hx => ?_, ?_⟩
  · by_cases c : x = l
    · rw [c, el]; omega
    · rw [eo x c]; exact hQ x hx
  · rw [sumN_upd (f := Q) (k := l) 17 hl eo, el]
    omega
theorem aW_b {G : Nat → Nat} {w : Int} (hG : ∀ s, G s < 17) (hw : 0 ≤ w) (hw2 : w ≤ 100000000) {Q : Nat → Int} (hQ : nn Q) (hB : sumN Q 17 + 9 * w ≤ 2000000000) : nn (aW G w 5 2 Q) ∧ sumN (aW G w 5 2 Q) 17 = sumN Q 17 + 9 * w := by
  have t2 : tsh 2 = 1 := rfl
  have t3 : tsh 3 = 2 := rfl
  have t4 : tsh 4 = 3 := rfl
  have t5 : tsh 5 = 2 := rfl
  have t6 : tsh 6 = 1 := rfl
  have m1 : ml w 1 = w := by rw [ml_eq (by omega) (by omega)]; omega
  have m2 : ml w 2 = 2 * w := by rw [ml_eq (by omega) (by omega)]; omega
  have m3 : ml w 3 = 3 * w := by rw [ml_eq (by omega) (by omega)]; omega
  show nn (up1 (up1 (up1 (up1 (up1 Q (G 2) (ml w (tsh 2))) (G 3) (ml w (tsh 3))) (G 4) (ml w (tsh 4))) (G 5) (ml w (tsh 5))) (G 6) (ml w (tsh 6))) ∧ sumN (up1 (up1 (up1 (up1 (up1 Q (G 2) (ml w (tsh 2))) (G 3) (ml w (tsh 3))) (G 4) (ml w (tsh 4))) (G 5) (ml w (tsh 5))) (G 6) (ml w (tsh 6))) 17 = _
  rw [t2, t3, t4, t5, t6, m1, m2, m3]
  obtain ⟨a1, a2⟩ := up1_b (v := w) hQ (hG 2) hw (by omega)
  obtain ⟨b1, b2⟩ := up1_b (v := 2 * w) a1 (hG 3) (by omega) (by omega)
  obtain ⟨c1, c2⟩ := up1_b (v := 3 * w) b1 (hG 4) (by omega) (by omega)
  obtain ⟨d1, d2⟩ := up1_b (v := 2 * w) c1 (hG 5) (by omega) (by omega)
  obtain ⟨e1, e2⟩ := up1_b (v := w) d1 (hG 6) hw (by omega)
  exact ⟨e1, by omega⟩
theorem mU_b {F : Nat → Nat → Nat} {W : Nat → Int} (hF : ∀ p s, p ≤ sp → F p s ≤ sp) (h16 : sp ≤ 16) (hW : nn W) (hWB : sumN W 17 ≤ 100000000) : ∀ (m p : Nat) (Q : Nat → Int), p + m = sp + 1 → 1 ≤ p → nn Q → sumN Q 17 = 9 * sumN W p → nn (mU F W m p Q) ∧ sumN (mU F W m p Q) 17 = 9 * sumN W (sp + 1) := by
  intro m
  induction m with
  | zero =>
    intro p Q hp _ hQ hs
    have e : p = sp + 1 := by omega
    subst e
    exact ⟨hQ, hs⟩
  | succ m ih =>
    intro p Q hp h1 hQ hs
    have hle : ∀ k, k ≤ 17 → sumN W k ≤ sumN W 17 := by
      intro k hk
      have e : (17 : Nat) = k + (17 - k) := by omega
      rw [e, sumN_split]
      have := sumN_nn (f := fun i => W (k + i)) (17 - k) (fun i hi => hW (k + i) (by omega))
      omega
    have b1 := hle (p + 1) (by omega)
    have b0 := sumN_nn (f := W) p (fun i hi => hW i (by omega))
    have hp0 := hW p (by omega)
    have e1 : sumN W (p + 1) = sumN W p + W p := rfl
    show nn (mU F W m (p + 1) (if 0 < W p then aW (F p) (W p) 5 2 Q else Q)) ∧ sumN (mU F W m (p + 1) (if 0 < W p then aW (F p) (W p) 5 2 Q else Q)) 17 = _
    by_cases c : 0 < W p
    · rw [if_pos c]
      obtain ⟨a1, a2⟩ := aW_b (G := F p) (w := W p) (fun s => by have := hF p s (by omega); omega) hp0 (by omega) hQ (by omega)
      exact ih (p + 1) _ (by omega) (by omega) a1 (by omega)
    · rw [if_neg c]
      exact ih (p + 1) _ (by omega) (by omega) hQ (by omega)
theorem sU_b {W : Nat → Int} (hW : nn W) (hWB : sumN W 17 ≤ 100000000) : nn (sU W) ∧ sumN (sU W) 17 = 9 * sumN W 1 := by
  have h1 := sumN_one (f := W) 17 hW 0 (by omega)
  have h0 := hW 0 (by omega)
  have e : ml (W 0) 9 = 9 * W 0 := by rw [ml_eq (by omega) (by omega)]; omega
  have ew : sumN W 1 = W 0 := by simp only [sumN]; omega
  refine ⟨fun x hx => ?_, ?_⟩
  · unfold sU
    split
    · rw [e]; omega
    · omega
  · have := sumN_upd (f := fun _ => (0 : Int)) (g := sU W) (k := 0) 17 (by omega) (fun i hi => by unfold sU; rw [if_neg hi])
    rw [this, sumN_0 (f := fun _ => (0 : Int)) 17 (fun _ _ => rfl), ew]
    unfold sU
    rw [if_pos rfl, e]
    omega
theorem hm_b {F : Nat → Nat → Nat} (hF : ∀ p s, p ≤ sp → F p s ≤ sp) (h16 : sp ≤ 16) : ∀ (k j : Nat) (W : Nat → Int), j + k ≤ 6 → nn W → sumN W 17 ≤ p9 j → 0 ≤ hm F sp k W 0 ∧ hm F sp k W 0 ≤ p9 (j + k) := by
  intro k
  induction k with
  | zero =>
    intro j W _ hW hB
    have h1 := sumN_one (f := W) 17 hW 0 (by omega)
    have h0 := hW 0 (by omega)
    have e : j + 0 = j := rfl
    rw [e]
    show 0 ≤ W 0 ∧ W 0 ≤ p9 j
    omega
  | succ k ih =>
    intro j W hj hW hB
    have hb := p9_b (k := j) (by omega)
    obtain ⟨a1, a2⟩ := sU_b hW (by omega)
    obtain ⟨b1, b2⟩ := mU_b hF h16 hW (by omega) sp 1 (sU W) (by omega) (by omega) a1 a2
    have hle : sumN W (sp + 1) ≤ sumN W 17 := by
      have e : (17 : Nat) = (sp + 1) + (16 - sp) := by omega
      have q := sumN_split (f := W) (a := sp + 1) (16 - sp)
      rw [← e] at q
      have := sumN_nn (f := fun i => W (sp + 1 + i)) (16 - sp) (fun i hi => hW (sp + 1 + i) (by omega))
      omega
    have e9 : p9 (j + 1) = 9 * p9 j := rfl
    have := ih (j + 1) (mU F W sp 1 (sU W)) (by omega) b1 (by omega)
    rw [show j + 1 + k = j + (k + 1) by omega] at this
    exact this
theorem v_home (h : CB M n sp t hl) (hT : CT M t) (mv : Int) : ∃ (v : Int) (N : Mem), evM 103 [Rf 0, I mv] (Hp M P) = some (some (I v), Hp N P) ∧ (∀ a b, a ≠ 146 → a ≠ 148 → N a b = M a b) ∧ (¬ (1 ≤ mv ∧ mv ≤ 6) → v = -1) ∧ (1 ≤ mv ∧ mv ≤ 6 → (M 1 4 < 3 ∧ M 1 6 = 0 ∧ 0 < M 7 t → 0 ≤ v ∧ v ≤ 531441) ∧ (¬ (M 1 4 < 3 ∧ M 1 6 = 0 ∧ 0 < M 7 t) → v = -2)) := by
  have htn := h.tn
  have h4 := h.cN.2
  have h16 := h.cS.2
  have ht4 : t < 4 := by omega
  have d0 : ¬ (1 : Int) = 0 := by omega
  by_cases c1 : 1 ≤ mv ∧ mv ≤ 6
  · obtain ⟨K, rfl⟩ : ∃ K : Nat, mv = (K : Int) := ⟨mv.toNat, by omega⟩
    have c1' : ¬ (K : Int) < 1 := by omega
    have gw := g_whyM (M := M) (P := P) (back := 0) h.tt ht4
    by_cases h3 : M 1 4 < 3
    · have h3' : ¬ (3 : Int) ≤ M 1 4 := by omega
      by_cases h6 : M 1 6 = 0
      · have r0 : rsM M t 0 = 0 := by unfold rsM; rw [if_neg h3', if_pos h6, if_pos rfl]
        rw [r0] at gw
        obtain ⟨q, hqs, hq⟩ := h.pl t htn
        have gp := g_place (P := P) h.tt ht4
        rw [hq] at gp
        by_cases c2 : q = 0
        · subst c2
          have e0 : ((0 : Nat) : Int) = 0 := rfl
          rw [e0] at gp
          refine ⟨-2, M, ?_, fun _ _ _ _ => rfl, fun z => absurd c1 z, fun _ => ⟨fun z => by have := z.2.2; omega, fun _ => rfl⟩⟩
          simp only [en103, s103_0, s103_1, s103_2, s103_5, s103_6, s103_8, s103_11, s103_12, s103_13, s103_14, s103_17, s103_18, s103_21, s103_24, s103_25, s103_28, s103_31, s103_34, s103_36, s103_37, s103_38, s103_41, s103_42, s103_45, s103_46, s103_49, cont_some, rl_some, rl_none, if_true, if_false, kd_0, kd_1, kd_2, kd_5, kd_47, kd_141, kd_144, rf_0_0, rf_0_1, rf_0_2, rf_0_3, rf_0_4, rf_1_0, rf_1_1, rf_1_2, rf_2_0, rf_5_0, rf_5_1, rf_5_2, rf_5_3, rf_5_4, rf_5_5, rf_5_6, rf_5_7, rf_47_0, rf_141_0, rf_144_0, rf_144_1, kd_3, kd_6, kd_8, kd_10, kd_12, kd_14, kd_16, kd_18, kd_20, kd_22, kd_142, kd_145, kd_147, kd_24, c1', c1, gw, gp]
        · have c3 : ¬ (q : Int) = 0 := by omega
          have hh := h.ch t htn
          obtain ⟨N, n1, n2⟩ := o_home (P := P) h.cN h.cS h.tt ht4 hh.2 hh.1 hq hqs (K := K) (by omega)
          have hsum : sumN (fun x => if x = q then (1 : Int) else 0) 17 ≤ p9 0 := by
            have := sumN_upd (f := fun _ => (0 : Int)) (g := fun x => if x = q then (1 : Int) else 0) (k := q) 17 (by omega) (fun i hi => by rw [if_neg hi])
            rw [this, sumN_0 (f := fun _ => (0 : Int)) 17 (fun _ _ => rfl), if_pos rfl]
            show (0 : Int) + (1 - 0) ≤ 1
            omega
          have hb := hm_b (F := lnd M n sp t (hl t) true) (fun p s hp => landF_le _ _ hp) h16 K 0 (fun x => if x = q then 1 else 0) (by omega) (fun x _ => by show 0 ≤ if x = q then (1 : Int) else 0; split <;> omega) hsum
          have hb2 := p9_b (k := 0 + K) (by omega)
          refine ⟨hm (lnd M n sp t (hl t) true) sp K (fun x => if x = q then 1 else 0) 0, N, ?_, n2, fun z => absurd c1 z, fun _ => ⟨fun _ => by omega, fun z => absurd ⟨h3, h6, by omega⟩ z⟩⟩
          simp only [en103, s103_0, s103_1, s103_2, s103_5, s103_6, s103_8, s103_11, s103_12, s103_13, s103_14, s103_17, s103_18, s103_21, s103_24, s103_25, s103_28, s103_31, s103_34, s103_36, s103_37, s103_38, s103_41, s103_42, s103_45, s103_46, s103_49, cont_some, rl_some, rl_none, if_true, if_false, kd_0, kd_1, kd_2, kd_5, kd_47, kd_141, kd_144, rf_0_0, rf_0_1, rf_0_2, rf_0_3, rf_0_4, rf_1_0, rf_1_1, rf_1_2, rf_2_0, rf_5_0, rf_5_1, rf_5_2, rf_5_3, rf_5_4, rf_5_5, rf_5_6, rf_5_7, rf_47_0, rf_141_0, rf_144_0, rf_144_1, kd_3, kd_6, kd_8, kd_10, kd_12, kd_14, kd_16, kd_18, kd_20, kd_22, kd_142, kd_145, kd_147, kd_24, c1', c1, gw, gp, c3, n1]
      · have r0 : rsM M t 0 = 3 := by unfold rsM; rw [if_neg h3', if_neg h6]
        rw [r0] at gw
        have d3 : ¬ (3 : Int) = 0 := by omega
        refine ⟨-2, M, ?_, fun _ _ _ _ => rfl, fun z => absurd c1 z, fun _ => ⟨fun z => absurd z.2.1 h6, fun _ => rfl⟩⟩
        simp only [en103, s103_0, s103_1, s103_2, s103_5, s103_6, s103_8, s103_11, s103_12, s103_13, s103_14, s103_17, s103_18, s103_21, s103_24, s103_25, s103_28, s103_31, s103_34, s103_36, s103_37, s103_38, s103_41, s103_42, s103_45, s103_46, s103_49, cont_some, rl_some, rl_none, if_true, if_false, kd_0, kd_1, kd_2, kd_5, kd_47, kd_141, kd_144, rf_0_0, rf_0_1, rf_0_2, rf_0_3, rf_0_4, rf_1_0, rf_1_1, rf_1_2, rf_2_0, rf_5_0, rf_5_1, rf_5_2, rf_5_3, rf_5_4, rf_5_5, rf_5_6, rf_5_7, rf_47_0, rf_141_0, rf_144_0, rf_144_1, kd_3, kd_6, kd_8, kd_10, kd_12, kd_14, kd_16, kd_18, kd_20, kd_22, kd_142, kd_145, kd_147, kd_24, c1', c1, gw, d3]
    · have r0 : rsM M t 0 = 1 := by unfold rsM; rw [if_pos (by omega)]
      rw [r0] at gw
      refine ⟨-2, M, ?_, fun _ _ _ _ => rfl, fun z => absurd c1 z, fun _ => ⟨fun z => absurd z.1 h3, fun _ => rfl⟩⟩
      simp only [en103, s103_0, s103_1, s103_2, s103_5, s103_6, s103_8, s103_11, s103_12, s103_13, s103_14, s103_17, s103_18, s103_21, s103_24, s103_25, s103_28, s103_31, s103_34, s103_36, s103_37, s103_38, s103_41, s103_42, s103_45, s103_46, s103_49, cont_some, rl_some, rl_none, if_true, if_false, kd_0, kd_1, kd_2, kd_5, kd_47, kd_141, kd_144, rf_0_0, rf_0_1, rf_0_2, rf_0_3, rf_0_4, rf_1_0, rf_1_1, rf_1_2, rf_2_0, rf_5_0, rf_5_1, rf_5_2, rf_5_3, rf_5_4, rf_5_5, rf_5_6, rf_5_7, rf_47_0, rf_141_0, rf_144_0, rf_144_1, kd_3, kd_6, kd_8, kd_10, kd_12, kd_14, kd_16, kd_18, kd_20, kd_22, kd_142, kd_145, kd_147, kd_24, c1', c1, gw, d0]
  · refine ⟨-1, M, ?_, fun _ _ _ _ => rfl, fun _ => rfl, fun z => absurd z c1⟩
    by_cases c2 : mv < 1
    · simp only [en103, s103_0, s103_1, s103_2, s103_5, s103_6, s103_8, s103_11, s103_12, s103_13, s103_14, s103_17, s103_18, s103_21, s103_24, s103_25, s103_28, s103_31, s103_34, s103_36, s103_37, s103_38, s103_41, s103_42, s103_45, s103_46, s103_49, cont_some, rl_some, rl_none, if_true, if_false, kd_0, kd_1, kd_2, kd_5, kd_47, kd_141, kd_144, rf_0_0, rf_0_1, rf_0_2, rf_0_3, rf_0_4, rf_1_0, rf_1_1, rf_1_2, rf_2_0, rf_5_0, rf_5_1, rf_5_2, rf_5_3, rf_5_4, rf_5_5, rf_5_6, rf_5_7, rf_47_0, rf_141_0, rf_144_0, rf_144_1, kd_3, kd_6, kd_8, kd_10, kd_12, kd_14, kd_16, kd_18, kd_20, kd_22, kd_142, kd_145, kd_147, kd_24, c2]
    · have c3 : ¬ mv ≤ 6 := by omega
      simp only [en103, s103_0, s103_1, s103_2, s103_5, s103_6, s103_8, s103_11, s103_12, s103_13, s103_14, s103_17, s103_18, s103_21, s103_24, s103_25, s103_28, s103_31, s103_34, s103_36, s103_37, s103_38, s103_41, s103_42, s103_45, s103_46, s103_49, cont_some, rl_some, rl_none, if_true, if_false, kd_0, kd_1, kd_2, kd_5, kd_47, kd_141, kd_144, rf_0_0, rf_0_1, rf_0_2, rf_0_3, rf_0_4, rf_1_0, rf_1_1, rf_1_2, rf_2_0, rf_5_0, rf_5_1, rf_5_2, rf_5_3, rf_5_4, rf_5_5, rf_5_6, rf_5_7, rf_47_0, rf_141_0, rf_144_0, rf_144_1, kd_3, kd_6, kd_8, kd_10, kd_12, kd_14, kd_16, kd_18, kd_20, kd_22, kd_142, kd_145, kd_147, kd_24, c2, c3]
end Bounds
