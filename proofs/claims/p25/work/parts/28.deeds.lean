/-! ===== Game: the end of a round ===== -/
section Ends
variable {M : Mem} {P : PMem} {n sp t : Nat} {hl : Nat → Nat}
def vOk (L : List Int) : Prop := ∀ x ∈ L, 0 ≤ x ∧ x ≤ 15
theorem vOk_app {A B : List Int} (ha : vOk A) (hb : vOk B) : vOk (A ++ B) := fun x hx => by
  rcases List.mem_append.mp hx with h | h
  · exact ha x h
  · exact hb x h
theorem vOk_nil : vOk [] := fun x h => by cases h
theorem vOk_stL (c : Int) : vOk (stkL c) := fun x hx => by
  unfold stkL stp at hx
  obtain ⟨k, -, rfl⟩ := List.mem_map.mp hx
  exact pva_b _ _
theorem vOk_dvp (d k : Nat) : vOk (dvp M d k) := fun x hx => by
  unfold dvp at hx
  obtain ⟨i, -, h⟩ := List.mem_flatMap.mp hx
  exact vOk_stL _ x h
theorem vOk_plp (p k : Nat) : vOk (plp M hl p k) := fun x hx => by
  unfold plp at hx
  obtain ⟨i, -, h⟩ := List.mem_flatMap.mp hx
  split at h
  · exact vOk_dvp _ _ x h
  · cases h
theorem vOk_skF : ∀ p, vOk (skF M hl n p) := by
  intro p
  induction p with
  | zero => exact vOk_plp _ _
  | succ p ih => exact vOk_app (vOk_plp _ _) ih
theorem vOk_get {L : List Int} (h : vOk L) {k : Nat} (hk : k < L.length) : 0 ≤ L.getD k 0 ∧ L.getD k 0 ≤ 15 := by
  rw [List.getD_eq_getElem?_getD, List.getElem?_eq_getElem hk]
  exact h _ (List.getElem_mem hk)
theorem nbL_congr {M N : Mem} {k : Nat} (h : ∀ s, s < k → M 4 (s + 1) = N 4 (s + 1)) : nbL M k = nbL N k := by
  unfold nbL
  congr 1
  exact List.map_congr_left fun s hs => h s (List.mem_range.mp hs)
theorem skF_congr {M N : Mem} {hl : Nat → Nat} {n : Nat} (h7 : N 7 = M 7) (h11 : N 11 = M 11) (h15 : N 15 = M 15) : ∀ p, skF N hl n p = skF M hl n p := by
  have ed : ∀ d k, dvp N d k = dvp M d k := fun d k => by unfold dvp; rw [h15]
  have ep : ∀ p k, plp N hl p k = plp M hl p k := fun p k => by
    unfold plp
    simp only [h7, h11, ed]
  intro p
  induction p with
  | zero => exact ep _ _
  | succ p ih => simp only [skF]; rw [ep, ih]
/-- the game behind the end of a round -/
def erM (M : Mem) (n sp : Nat) (hl : Nat → Nat) : Mem :=
  wr (wr (toS (wr (layP (layP (brg (putL M 23 0 (skF M hl n sp)) hl n) 0 (nbL M sp)) (nbL M sp).length (chk 0 (skF M hl n sp))) 1 5 (arg (M 7) (n - 1) 1 0 : Int))) 1 7 25) 1 4 (ad (M 1 4) 1)
theorem toS_o {a b : Nat} (h : a ≠ 7 ∧ a ≠ 9 ∧ a ≠ 11 ∧ a ≠ 13) : toS M a b = M a b := by
  unfold toS
  rw [wp_app, if_neg (by omega), wp_app, if_neg (by omega), wp_app, if_neg (by omega), wp_app, if_neg (by omega)]
theorem g_end (h1 : CN M n) (h2 : CH M n hl) (h3 : CPi M n hl) (h4 : CS M sp) (hn : 1 ≤ n) (hL : (skF M hl n sp).length ≤ 16) (hB : (nbL M sp).length + (chk 0 (skF M hl n sp)).length ≤ 16) : evM 44 [Rf 1] (Hp M P) = some (none, Hp (erM M n sp hl) P) := by
  have a2 := h4.2
  obtain ⟨L, eL⟩ : ∃ L, L = skF M hl n sp := ⟨_, rfl⟩
  obtain ⟨B, eB⟩ : ∃ B, B = nbL M sp := ⟨_, rfl⟩
  rw [← eL] at hL
  rw [← eL, ← eB] at hB
  have s1 := c_sink (P := P) h1 h2 h3 (p := sp) (by omega) (by rw [← eL]; exact hL)
  rw [← eL] at s1
  -- brought
  have n1 : ∀ a b : Nat, a ≠ 23 → putL M 23 0 L a b = M a b := fun a b h => putL_o h
  have s2 := c_bring (M := putL M 23 0 L) (P := P) (hl := hl) ⟨by rw [n1 5 8 (by omega)]; exact h1.1, h1.2⟩ (fun d hd => ⟨(h2 d hd).1, by rw [n1 13 d (by omega)]; exact (h2 d hd).2⟩) (fun d hd i hi => by rw [n1 15 _ (by omega)]; exact h3 d hd i hi)
  obtain ⟨N2, eN2⟩ : ∃ N2, N2 = brg (putL M 23 0 L) hl n := ⟨_, rfl⟩
  rw [← eN2] at s2
  have n2 : ∀ a b : Nat, a ≠ 23 → a ≠ 17 → a ≠ 19 → a ≠ 21 → N2 a b = M a b := fun a b q1 q2 q3 q4 => by rw [eN2, brg_o q2 q3 q4, n1 a b q1]
  have n2l : ∀ k, k < L.length → N2 23 k = L.getD k 0 := fun k hk => by
    rw [eN2, brg_o (by omega) (by omega) (by omega)]
    have := putL_at (M := M) (j := 23) (b := 0) hk
    rwa [Nat.zero_add] at this
  -- closed up
  have s3 := p_close (M := N2) (P := P) (sp := sp) ⟨by rw [n2 2 1 (by omega) (by omega) (by omega) (by omega)]; exact h4.1, a2⟩
  have eB2 : nbL N2 sp = B := by rw [eB]; exact nbL_congr fun s hs => n2 4 (s + 1) (by omega) (by omega) (by omega) (by omega)
  rw [eB2] at s3
  -- new stacks
  have s4 := p_stk (M := layP N2 0 B) (P := P) (L := L) (b := B.length) (by rw [layP_sp, Nat.zero_add]) hL (fun k hk => by
    rw [layP_o (by omega) (by omega)]
    exact ⟨n2l k hk, vOk_get (by rw [eL]; exact vOk_skF _) hk⟩) hB
  obtain ⟨N4, eN4⟩ : ∃ N4, N4 = layP (layP N2 0 B) B.length (chk 0 L) := ⟨_, rfl⟩
  rw [← eN4] at s4
  have n4 : ∀ a b : Nat, a ≠ 23 → a ≠ 17 → a ≠ 19 → a ≠ 21 → a ≠ 4 → a ≠ 2 → N4 a b = M a b := fun a b q1 q2 q3 q4 q5 q6 => by rw [eN4, layP_o q5 q6, layP_o q5 q6, n2 a b q1 q2 q3 q4]
  have s5 := c_deep (M := N4) (P := P) (n := n) ⟨by rw [n4 5 8 (by omega) (by omega) (by omega) (by omega) (by omega) (by omega)]; exact h1.1, h1.2⟩ hn
  have e7 : N4 7 = M 7 := by funext b; exact n4 7 b (by omega) (by omega) (by omega) (by omega) (by omega) (by omega)
  rw [e7] at s5
  have s6 := c_toShip (M := wr N4 1 5 (arg (M 7) (n - 1) 1 0 : Int)) (P := P)
  have e14 : toS (wr N4 1 5 (arg (M 7) (n - 1) 1 0 : Int)) 1 4 = M 1 4 := by
    rw [toS_o (by omega), wr_app, if_neg (by omega), n4 1 4 (by omega) (by omega) (by omega) (by omega) (by omega) (by omega)]
  have e14b : wr (toS (wr N4 1 5 (arg (M 7) (n - 1) 1 0 : Int))) 1 7 25 1 4 = M 1 4 := by rw [wr_app, if_neg (by omega), e14]
  have ef : wr (wr (toS (wr N4 1 5 (arg (M 7) (n - 1) 1 0 : Int))) 1 7 25) 1 4 (ad (M 1 4) 1) = erM M n sp hl := by
    unfold erM
    rw [← eL, ← eB, eN4, eN2]
  simp only [en44, s44_0, s44_1, s44_4, s44_5, s44_8, s44_9, s44_12, s44_15, s44_18, s44_19, s44_20, s44_23, s44_26, s44_27, s44_30, s44_33, s44_34, s44_37, s44_38, s44_41, s44_42, s44_45, s44_46, s44_47, s44_50, s44_53, s44_56, s44_57, s44_60, s44_63, s44_64, s44_66, s44_69, s44_70, s44_71, s44_74, s44_75, s44_76, s44_79, cont_some, rl_some, rl_none, if_true, if_false, kd_0, kd_1, kd_2, kd_5, kd_47, kd_141, kd_144, rf_0_0, rf_0_1, rf_0_2, rf_0_3, rf_0_4, rf_1_0, rf_1_1, rf_1_2, rf_2_0, rf_5_0, rf_5_1, rf_5_2, rf_5_3, rf_5_4, rf_5_5, rf_5_6, rf_5_7, rf_47_0, rf_141_0, rf_144_0, rf_144_1, kd_3, kd_6, kd_8, kd_10, kd_12, kd_14, kd_16, kd_18, kd_20, kd_22, kd_142, kd_145, kd_147, kd_24, h4.1, s1, s2, s3, s4, s5, s6, e14b, ef]
end Ends
/-! ===== Game: a deed ===== -/
section Deeds
variable {M : Mem} {P : PMem} {n sp t : Nat} {hl : Nat → Nat}
def rsD (M : Mem) (h q : Nat) (lt st : Int) : Int :=
  if 3 ≤ M 1 4 then 1 else if M 1 6 = 0 then 2 else if lt = 110 then 0 else if q = 0 then 5 else
    if lt = 116 then (if M 4 q = 0 then 6 else if h < 6 then 0 else 8) else (if st < 0 ∨ (h : Int) ≤ st then 6 else if M 4 q = 0 then 0 else 7)
theorem g_whyT (ht : M 1 5 = (t : Int)) (h4 : t < 4) {h q : Nat} (hh : M 13 t = (h : Int)) (hq : M 7 t = (q : Int)) (hq16 : q ≤ 16) : evM 42 [Rf 1] (Hp M P) = some (some (I (if M 4 q = 0 then 6 else if h < 6 then 0 else 8)), Hp M P) := by
  by_cases c1 : M 4 q = 0
  · simp only [en42, s42_0, s42_1, s42_4, s42_5, s42_8, s42_11, s42_14, s42_16, s42_17, s42_18, s42_21, s42_24, s42_25, s42_28, s42_31, s42_33, s42_36, s42_37, s42_40, s42_42, cont_some, rl_some, rl_none, if_true, if_false, kd_0, kd_1, kd_2, kd_5, kd_47, kd_141, kd_144, rf_0_0, rf_0_1, rf_0_2, rf_0_3, rf_0_4, rf_1_0, rf_1_1, rf_1_2, rf_2_0, rf_5_0, rf_5_1, rf_5_2, rf_5_3, rf_5_4, rf_5_5, rf_5_6, rf_5_7, rf_47_0, rf_141_0, rf_144_0, rf_144_1, kd_3, kd_6, kd_8, kd_10, kd_12, kd_14, kd_16, kd_18, kd_20, kd_22, kd_142, kd_145, kd_147, kd_24, g_place ht h4, hq, p_at hq16, c1]
  · by_cases c2 : h < 6
    · have c3 : ¬ (6 : Int) ≤ (h : Int) := by omega
      simp only [en42, s42_0, s42_1, s42_4, s42_5, s42_8, s42_11, s42_14, s42_16, s42_17, s42_18, s42_21, s42_24, s42_25, s42_28, s42_31, s42_33, s42_36, s42_37, s42_40, s42_42, cont_some, rl_some, rl_none, if_true, if_false, kd_0, kd_1, kd_2, kd_5, kd_47, kd_141, kd_144, rf_0_0, rf_0_1, rf_0_2, rf_0_3, rf_0_4, rf_1_0, rf_1_1, rf_1_2, rf_2_0, rf_5_0, rf_5_1, rf_5_2, rf_5_3, rf_5_4, rf_5_5, rf_5_6, rf_5_7, rf_47_0, rf_141_0, rf_144_0, rf_144_1, kd_3, kd_6, kd_8, kd_10, kd_12, kd_14, kd_16, kd_18, kd_20, kd_22, kd_142, kd_145, kd_147, kd_24, g_place ht h4, hq, p_at hq16, c1, ht, row_get R_he, rg_n h4, hh, c2, c3]
    · have c3 : (6 : Int) ≤ (h : Int) := by omega
      simp only [en42, s42_0, s42_1, s42_4, s42_5, s42_8, s42_11, s42_14, s42_16, s42_17, s42_18, s42_21, s42_24, s42_25, s42_28, s42_31, s42_33, s42_36, s42_37, s42_40, s42_42, cont_some, rl_some, rl_none, if_true, if_false, kd_0, kd_1, kd_2, kd_5, kd_47, kd_141, kd_144, rf_0_0, rf_0_1, rf_0_2, rf_0_3, rf_0_4, rf_1_0, rf_1_1, rf_1_2, rf_2_0, rf_5_0, rf_5_1, rf_5_2, rf_5_3, rf_5_4, rf_5_5, rf_5_6, rf_5_7, rf_47_0, rf_141_0, rf_144_0, rf_144_1, kd_3, kd_6, kd_8, kd_10, kd_12, kd_14, kd_16, kd_18, kd_20, kd_22, kd_142, kd_145, kd_147, kd_24, g_place ht h4, hq, p_at hq16, c1, ht, row_get R_he, rg_n h4, hh, c2, c3]
theorem g_whyL (ht : M 1 5 = (t : Int)) (h4 : t < 4) {h q : Nat} (hh : M 13 t = (h : Int)) (hq : M 7 t = (q : Int)) (hq16 : q ≤ 16) {st : Int} : evM 43 [Rf 1, I st] (Hp M P) = some (some (I (if st < 0 ∨ (h : Int) ≤ st then 6 else if M 4 q = 0 then 0 else 7)), Hp M P) := by
  by_cases c1 : st < 0
  · simp only [en43, s43_0, s43_1, s43_4, s43_5, s43_6, s43_9, s43_12, s43_13, s43_16, s43_19, s43_22, s43_24, s43_25, s43_26, s43_29, s43_30, s43_33, s43_36, s43_39, s43_40, s43_43, s43_45, cont_some, rl_some, rl_none, if_true, if_false, kd_0, kd_1, kd_2, kd_5, kd_47, kd_141, kd_144, rf_0_0, rf_0_1, rf_0_2, rf_0_3, rf_0_4, rf_1_0, rf_1_1, rf_1_2, rf_2_0, rf_5_0, rf_5_1, rf_5_2, rf_5_3, rf_5_4, rf_5_5, rf_5_6, rf_5_7, rf_47_0, rf_141_0, rf_144_0, rf_144_1, kd_3, kd_6, kd_8, kd_10, kd_12, kd_14, kd_16, kd_18, kd_20, kd_22, kd_142, kd_145, kd_147, kd_24, c1, true_or]
  · by_cases c2 : (h : Int) ≤ st
    · have c2' : ¬ st < (h : Int) := by omega
      simp only [en43, s43_0, s43_1, s43_4, s43_5, s43_6, s43_9, s43_12, s43_13, s43_16, s43_19, s43_22, s43_24, s43_25, s43_26, s43_29, s43_30, s43_33, s43_36, s43_39, s43_40, s43_43, s43_45, cont_some, rl_some, rl_none, if_true, if_false, kd_0, kd_1, kd_2, kd_5, kd_47, kd_141, kd_144, rf_0_0, rf_0_1, rf_0_2, rf_0_3, rf_0_4, rf_1_0, rf_1_1, rf_1_2, rf_2_0, rf_5_0, rf_5_1, rf_5_2, rf_5_3, rf_5_4, rf_5_5, rf_5_6, rf_5_7, rf_47_0, rf_141_0, rf_144_0, rf_144_1, kd_3, kd_6, kd_8, kd_10, kd_12, kd_14, kd_16, kd_18, kd_20, kd_22, kd_142, kd_145, kd_147, kd_24, c1, ht, row_get R_he, rg_n h4, hh, c2, c2', or_true]
    · have c2' : st < (h : Int) := by omega
      by_cases c3 : M 4 q = 0
      · simp only [en43, s43_0, s43_1, s43_4, s43_5, s43_6, s43_9, s43_12, s43_13, s43_16, s43_19, s43_22, s43_24, s43_25, s43_26, s43_29, s43_30, s43_33, s43_36, s43_39, s43_40, s43_43, s43_45, cont_some, rl_some, rl_none, if_true, if_false, kd_0, kd_1, kd_2, kd_5, kd_47, kd_141, kd_144, rf_0_0, rf_0_1, rf_0_2, rf_0_3, rf_0_4, rf_1_0, rf_1_1, rf_1_2, rf_2_0, rf_5_0, rf_5_1, rf_5_2, rf_5_3, rf_5_4, rf_5_5, rf_5_6, rf_5_7, rf_47_0, rf_141_0, rf_144_0, rf_144_1, kd_3, kd_6, kd_8, kd_10, kd_12, kd_14, kd_16, kd_18, kd_20, kd_22, kd_142, kd_145, kd_147, kd_24, c1, ht, row_get R_he, rg_n h4, hh, c2, c2', or_false, g_place ht h4, hq, p_at hq16, c3]
      · simp only [en43, s43_0, s43_1, s43_4, s43_5, s43_6, s43_9, s43_12, s43_13, s43_16, s43_19, s43_22, s43_24, s43_25, s43_26, s43_29, s43_30, s43_33, s43_36, s43_39, s43_40, s43_43, s43_45, cont_some, rl_some, rl_none, if_true, if_false, kd_0, kd_1, kd_2, kd_5, kd_47, kd_141, kd_144, rf_0_0, rf_0_1, rf_0_2, rf_0_3, rf_0_4, rf_1_0, rf_1_1, rf_1_2, rf_2_0, rf_5_0, rf_5_1, rf_5_2, rf_5_3, rf_5_4, rf_5_5, rf_5_6, rf_5_7, rf_47_0, rf_141_0, rf_144_0, rf_144_1, kd_3, kd_6, kd_8, kd_10, kd_12, kd_14, kd_16, kd_18, kd_20, kd_22, kd_142, kd_145, kd_147, kd_24, c1, ht, row_get R_he, rg_n h4, hh, c2, c2', or_false, g_place ht h4, hq, p_at hq16, c3]
theorem g_whyD (ht : M 1 5 = (t : Int)) (h4 : t < 4) {h q : Nat} (hh : M 13 t = (h : Int)) (hq : M 7 t = (q : Int)) (hq16 : q ≤ 16) {lt st : Int} : evM 41 [Rf 1, I lt, I st] (Hp M P) = some (some (I (rsD M h q lt st)), Hp M P) := by
  unfold rsD
  have d1 := g_whyT (P := P) ht h4 hh hq hq16
  have d2 := g_whyL (P := P) ht h4 hh hq hq16 (st := st)
  by_cases c1 : 3 ≤ M 1 4
  · simp only [en41, s41_0, s41_1, s41_4, s41_7, s41_8, s41_9, s41_10, s41_13, s41_16, s41_17, s41_18, s41_19, s41_21, s41_24, s41_25, s41_26, s41_27, s41_30, s41_33, s41_34, s41_35, s41_36, s41_38, s41_41, s41_42, s41_45, s41_48, s41_49, s41_50, s41_53, cont_some, rl_some, rl_none, if_true, if_false, kd_0, kd_1, kd_2, kd_5, kd_47, kd_141, kd_144, rf_0_0, rf_0_1, rf_0_2, rf_0_3, rf_0_4, rf_1_0, rf_1_1, rf_1_2, rf_2_0, rf_5_0, rf_5_1, rf_5_2, rf_5_3, rf_5_4, rf_5_5, rf_5_6, rf_5_7, rf_47_0, rf_141_0, rf_144_0, rf_144_1, kd_3, kd_6, kd_8, kd_10, kd_12, kd_14, kd_16, kd_18, kd_20, kd_22, kd_142, kd_145, kd_147, kd_24, g_over, c1, Int.one_ne_zero]
  · by_cases c2 : M 1 6 = 0
    · simp only [en41, s41_0, s41_1, s41_4, s41_7, s41_8, s41_9, s41_10, s41_13, s41_16, s41_17, s41_18, s41_19, s41_21, s41_24, s41_25, s41_26, s41_27, s41_30, s41_33, s41_34, s41_35, s41_36, s41_38, s41_41, s41_42, s41_45, s41_48, s41_49, s41_50, s41_53, cont_some, rl_some, rl_none, if_true, if_false, kd_0, kd_1, kd_2, kd_5, kd_47, kd_141, kd_144, rf_0_0, rf_0_1, rf_0_2, rf_0_3, rf_0_4, rf_1_0, rf_1_1, rf_1_2, rf_2_0, rf_5_0, rf_5_1, rf_5_2, rf_5_3, rf_5_4, rf_5_5, rf_5_6, rf_5_7, rf_47_0, rf_141_0, rf_144_0, rf_144_1, kd_3, kd_6, kd_8, kd_10, kd_12, kd_14, kd_16, kd_18, kd_20, kd_22, kd_142, kd_145, kd_147, kd_24, g_over, c1, c2]
    · by_cases c3 : lt = 110
      · simp only [en41, s41_0, s41_1, s41_4, s41_7, s41_8, s41_9, s41_10, s41_13, s41_16, s41_17, s41_18, s41_19, s41_21, s41_24, s41_25, s41_26, s41_27, s41_30, s41_33, s41_34, s41_35, s41_36, s41_38, s41_41, s41_42, s41_45, s41_48, s41_49, s41_50, s41_53, cont_some, rl_some, rl_none, if_true, if_false, kd_0, kd_1, kd_2, kd_5, kd_47, kd_141, kd_144, rf_0_0, rf_0_1, rf_0_2, rf_0_3, rf_0_4, rf_1_0, rf_1_1, rf_1_2, rf_2_0, rf_5_0, rf_5_1, rf_5_2, rf_5_3, rf_5_4, rf_5_5, rf_5_6, rf_5_7, rf_47_0, rf_141_0, rf_144_0, rf_144_1, kd_3, kd_6, kd_8, kd_10, kd_12, kd_14, kd_16, kd_18, kd_20, kd_22, kd_142, kd_145, kd_147, kd_24, g_over, c1, c2, c3]
      · by_cases c4 : q = 0
        · have c4' : ((q : Nat) : Int) = 0 := by omega
          rw [c4'] at hq
          simp only [en41, s41_0, s41_1, s41_4, s41_7, s41_8, s41_9, s41_10, s41_13, s41_16, s41_17, s41_18, s41_19, s41_21, s41_24, s41_25, s41_26, s41_27, s41_30, s41_33, s41_34, s41_35, s41_36, s41_38, s41_41, s41_42, s41_45, s41_48, s41_49, s41_50, s41_53, cont_some, rl_some, rl_none, if_true, if_false, kd_0, kd_1, kd_2, kd_5, kd_47, kd_141, kd_144, rf_0_0, rf_0_1, rf_0_2, rf_0_3, rf_0_4, rf_1_0, rf_1_1, rf_1_2, rf_2_0, rf_5_0, rf_5_1, rf_5_2, rf_5_3, rf_5_4, rf_5_5, rf_5_6, rf_5_7, rf_47_0, rf_141_0, rf_144_0, rf_144_1, kd_3, kd_6, kd_8, kd_10, kd_12, kd_14, kd_16, kd_18, kd_20, kd_22, kd_142, kd_145, kd_147, kd_24, g_over, c1, c2, c3, g_place ht h4, hq, c4]
        · have c4' : ¬ ((q : Nat) : Int) = 0 := by omega
          have hx : ¬ (116 : Int) = 110 := by omega
          by_cases c5 : lt = 116
          · simp only [hx, en41, s41_0, s41_1, s41_4, s41_7, s41_8, s41_9, s41_10, s41_13, s41_16, s41_17, s41_18, s41_19, s41_21, s41_24, s41_25, s41_26, s41_27, s41_30, s41_33, s41_34, s41_35, s41_36, s41_38, s41_41, s41_42, s41_45, s41_48, s41_49, s41_50, s41_53, cont_some, rl_some, rl_none, if_true, if_false, kd_0, kd_1, kd_2, kd_5, kd_47, kd_141, kd_144, rf_0_0, rf_0_1, rf_0_2, rf_0_3, rf_0_4, rf_1_0, rf_1_1, rf_1_2, rf_2_0, rf_5_0, rf_5_1, rf_5_2, rf_5_3, rf_5_4, rf_5_5, rf_5_6, rf_5_7, rf_47_0, rf_141_0, rf_144_0, rf_144_1, kd_3, kd_6, kd_8, kd_10, kd_12, kd_14, kd_16, kd_18, kd_20, kd_22, kd_142, kd_145, kd_147, kd_24, g_over, c1, c2, c3, g_place ht h4, hq, c4, c4', c5, d1]
          · simp only [en41, s41_0, s41_1, s41_4, s41_7, s41_8, s41_9, s41_10, s41_13, s41_16, s41_17, s41_18, s41_19, s41_21, s41_24, s41_25, s41_26, s41_27, s41_30, s41_33, s41_34, s41_35, s41_36, s41_38, s41_41, s41_42, s41_45, s41_48, s41_49, s41_50, s41_53, cont_some, rl_some, rl_none, if_true, if_false, kd_0, kd_1, kd_2, kd_5, kd_47, kd_141, kd_144, rf_0_0, rf_0_1, rf_0_2, rf_0_3, rf_0_4, rf_1_0, rf_1_1, rf_1_2, rf_2_0, rf_5_0, rf_5_1, rf_5_2, rf_5_3, rf_5_4, rf_5_5, rf_5_6, rf_5_7, rf_47_0, rf_141_0, rf_144_0, rf_144_1, kd_3, kd_6, kd_8, kd_10, kd_12, kd_14, kd_16, kd_18, kd_20, kd_22, kd_142, kd_145, kd_147, kd_24, g_over, c1, c2, c3, g_place ht h4, hq, c4, c4', c5, d2]
/-- behind a deed that left the game D -/
def tlM (D : Mem) (n sp t : Nat) (hl : Nat → Nat) : Mem :=
  if D 1 7 = 0 ∨ sumA (D 11) 4 = D 5 8 then erM (wr D 1 6 0) n sp hl else wr (wr D 1 6 0) 1 5 (nxO (D 11) n t n t : Int)
theorem g_tail (h1 : CN M n) (h2 : CH M n hl) (h3 : CPi M n hl) (h4 : CS M sp) (ht : M 1 5 = (t : Int)) (htn : t < n) (hL : (skF M hl n sp).length ≤ 16) (hB : (nbL M sp).length + (chk 0 (skF M hl n sp)).length ≤ 16) {l1 l2 l3 l4 : AV} {x : Int} : evL 40 137 [Rf 1, l1, l2, l3, l4, I x] [] (Hp M P) = some (some (I x), Hp (tlM M n sp t hl) P) := by
  obtain ⟨N, eN⟩ : ∃ N, N = wr M 1 6 0 := ⟨_, rfl⟩
  have n1 : ∀ a b : Nat, a ≠ 1 → N a b = M a b := fun a b h => by rw [eN, wr_app, if_neg (by omega)]
  have n15 : N 1 5 = (t : Int) := by rw [eN, wr_app, if_neg (by omega)]; exact ht
  have n17 : N 1 7 = M 1 7 := by rw [eN, wr_app, if_neg (by omega)]
  have n11 : N 11 = M 11 := by funext b; exact n1 11 b (by omega)
  have g1 : CN N n := ⟨by rw [n1 5 8 (by omega)]; exact h1.1, h1.2⟩
  have g2 : CH N n hl := fun d hd => ⟨(h2 d hd).1, by rw [n1 13 d (by omega)]; exact (h2 d hd).2⟩
  have g3 : CPi N n hl := fun d hd i hi => by rw [n1 15 _ (by omega)]; exact h3 d hd i hi
  have g4 : CS N sp := ⟨by rw [n1 2 1 (by omega)]; exact h4.1, h4.2⟩
  have eS : skF N hl n sp = skF M hl n sp := by
    have e15 : N 15 = M 15 := by funext b; exact n1 15 b (by omega)
    have e7 : N 7 = M 7 := by funext b; exact n1 7 b (by omega)
    exact skF_congr e7 n11 e15 sp
  have eB : nbL N sp = nbL M sp := nbL_congr fun s _ => n1 4 (s + 1) (by omega)
  have e1 := g_end (P := P) g1 g2 g3 g4 (by omega) (by rw [eS]; exact hL) (by rw [eS, eB]; exact hB)
  have e2 := c_next (P := P) g1 htn
  have e3 := c_allHome (M := N) (P := P)
  rw [n11, n1 5 8 (by omega)] at e3
  rw [n11] at e2
  unfold tlM
  rw [← eN]
  by_cases c1 : M 1 7 = 0
  · rw [if_pos (Or.inl c1)]
    simp only [en40, s40_0, s40_1, s40_2, s40_3, s40_6, s40_7, s40_8, s40_11, s40_12, s40_13, s40_16, s40_17, s40_18, s40_21, s40_22, s40_23, s40_24, s40_27, s40_29, s40_31, s40_33, s40_34, s40_36, s40_39, s40_40, s40_43, s40_44, s40_47, s40_48, s40_51, s40_53, s40_56, s40_59, s40_60, s40_63, s40_65, s40_66, s40_69, s40_71, s40_72, s40_75, s40_78, s40_79, s40_82, s40_85, s40_86, s40_88, s40_91, s40_92, s40_94, s40_97, s40_98, s40_101, s40_103, s40_104, s40_107, s40_108, s40_111, s40_112, s40_115, s40_118, s40_120, s40_121, s40_124, s40_127, s40_128, s40_131, s40_134, s40_135, s40_137, s40_138, s40_139, s40_142, s40_143, s40_146, s40_149, s40_150, s40_153, s40_156, s40_159, s40_160, s40_163, s40_166, s40_167, s40_168, s40_171, s40_172, s40_175, s40_178, s40_181, s40_183, cont_some, rl_some, rl_none, if_true, if_false, kd_0, kd_1, kd_2, kd_5, kd_47, kd_141, kd_144, rf_0_0, rf_0_1, rf_0_2, rf_0_3, rf_0_4, rf_1_0, rf_1_1, rf_1_2, rf_2_0, rf_5_0, rf_5_1, rf_5_2, rf_5_3, rf_5_4, rf_5_5, rf_5_6, rf_5_7, rf_47_0, rf_141_0, rf_144_0, rf_144_1, kd_3, kd_6, kd_8, kd_10, kd_12, kd_14, kd_16, kd_18, kd_20, kd_22, kd_142, kd_145, kd_147, kd_24, true_or, ← eN, n17, c1, e1]
  · by_cases c2 : sumA (M 11) 4 = M 5 8
    · rw [if_pos (Or.inr c2)]
      rw [if_pos c2] at e3
      simp only [en40, s40_0, s40_1, s40_2, s40_3, s40_6, s40_7, s40_8, s40_11, s40_12, s40_13, s40_16, s40_17, s40_18, s40_21, s40_22, s40_23, s40_24, s40_27, s40_29, s40_31, s40_33, s40_34, s40_36, s40_39, s40_40, s40_43, s40_44, s40_47, s40_48, s40_51, s40_53, s40_56, s40_59, s40_60, s40_63, s40_65, s40_66, s40_69, s40_71, s40_72, s40_75, s40_78, s40_79, s40_82, s40_85, s40_86, s40_88, s40_91, s40_92, s40_94, s40_97, s40_98, s40_101, s40_103, s40_104, s40_107, s40_108, s40_111, s40_112, s40_115, s40_118, s40_120, s40_121, s40_124, s40_127, s40_128, s40_131, s40_134, s40_135, s40_137, s40_138, s40_139, s40_142, s40_143, s40_146, s40_149, s40_150, s40_153, s40_156, s40_159, s40_160, s40_163, s40_166, s40_167, s40_168, s40_171, s40_172, s40_175, s40_178, s40_181, s40_183, cont_some, rl_some, rl_none, if_true, if_false, kd_0, kd_1, kd_2, kd_5, kd_47, kd_141, kd_144, rf_0_0, rf_0_1, rf_0_2, rf_0_3, rf_0_4, rf_1_0, rf_1_1, rf_1_2, rf_2_0, rf_5_0, rf_5_1, rf_5_2, rf_5_3, rf_5_4, rf_5_5, rf_5_6, rf_5_7, rf_47_0, rf_141_0, rf_144_0, rf_144_1, kd_3, kd_6, kd_8, kd_10, kd_12, kd_14, kd_16, kd_18, kd_20, kd_22, kd_142, kd_145, kd_147, kd_24, true_or, ← eN, n17, c1, e1, e3, Int.one_ne_zero]
    · rw [if_neg (by rintro (q | q); exact c1 q; exact c2 q)]
      rw [if_neg c2] at e3
      simp only [en40, s40_0, s40_1, s40_2, s40_3, s40_6, s40_7, s40_8, s40_11, s40_12, s40_13, s40_16, s40_17, s40_18, s40_21, s40_22, s40_23, s40_24, s40_27, s40_29, s40_31, s40_33, s40_34, s40_36, s40_39, s40_40, s40_43, s40_44, s40_47, s40_48, s40_51, s40_53, s40_56, s40_59, s40_60, s40_63, s40_65, s40_66, s40_69, s40_71, s40_72, s40_75, s40_78, s40_79, s40_82, s40_85, s40_86, s40_88, s40_91, s40_92, s40_94, s40_97, s40_98, s40_101, s40_103, s40_104, s40_107, s40_108, s40_111, s40_112, s40_115, s40_118, s40_120, s40_121, s40_124, s40_127, s40_128, s40_131, s40_134, s40_135, s40_137, s40_138, s40_139, s40_142, s40_143, s40_146, s40_149, s40_150, s40_153, s40_156, s40_159, s40_160, s40_163, s40_166, s40_167, s40_168, s40_171, s40_172, s40_175, s40_178, s40_181, s40_183, cont_some, rl_some, rl_none, if_true, if_false, kd_0, kd_1, kd_2, kd_5, kd_47, kd_141, kd_144, rf_0_0, rf_0_1, rf_0_2, rf_0_3, rf_0_4, rf_1_0, rf_1_1, rf_1_2, rf_2_0, rf_5_0, rf_5_1, rf_5_2, rf_5_3, rf_5_4, rf_5_5, rf_5_6, rf_5_7, rf_47_0, rf_141_0, rf_144_0, rf_144_1, kd_3, kd_6, kd_8, kd_10, kd_12, kd_14, kd_16, kd_18, kd_20, kd_22, kd_142, kd_145, kd_147, kd_24, true_or, ← eN, n17, c1, e3, n15, e2]
end Deeds
