/-! ===== rows of values laid one behind the other ===== -/
def putL (M : Mem) (j b : Nat) (L : List Int) : Mem := fun a k => if a = j ∧ b ≤ k ∧ k < b + L.length then L.getD (k - b) 0 else M a k
theorem putL_nil {M : Mem} {j b : Nat} : putL M j b [] = M := by
  funext a k
  unfold putL
  rw [if_neg (by simp only [List.length_nil]; omega)]
theorem putL_o {M : Mem} {j b a k : Nat} {L : List Int} (h : a ≠ j) : putL M j b L a k = M a k := by
  unfold putL
  rw [if_neg (fun q => h q.1)]
theorem putL_lt {M : Mem} {j b a k : Nat} {L : List Int} (h : k < b) : putL M j b L a k = M a k := by
  unfold putL
  rw [if_neg (by omega)]
theorem putL_ge {M : Mem} {j b a k : Nat} {L : List Int} (h : b + L.length ≤ k) : putL M j b L a k = M a k := by
  unfold putL
  rw [if_neg (by omega)]
theorem putL_at {M : Mem} {j b k : Nat} {L : List Int} (h : k < L.length) : putL M j b L j (b + k) = L.getD k 0 := by
  unfold putL
  rw [if_pos (by omega), Nat.add_sub_cancel_left]
theorem putL_snoc {M : Mem} {j b : Nat} {L : List Int} {v : Int} : wr (putL M j b L) j (b + L.length) v = putL M j b (L ++ [v]) := by
  funext a k
  unfold wr putL
  rw [List.length_append, List.length_singleton]
  by_cases h : a = j ∧ k = b + L.length
  · obtain ⟨rfl, rfl⟩ := h
    rw [if_pos ⟨rfl, rfl⟩, if_pos (by omega), Nat.add_sub_cancel_left]
    simp [List.getD_eq_getElem?_getD]
  · rw [if_neg h]
    by_cases h2 : a = j ∧ b ≤ k ∧ k < b + L.length
    · rw [if_pos h2, if_pos (by omega)]
      simp [List.getD_eq_getElem?_getD, List.getElem?_append_left (show k - b < L.length by omega)]
    · rw [if_neg h2, if_neg (by omega)]
/-! ===== treasures that sink ===== -/
section Sink
variable {M : Mem} {P : PMem} {n : Nat} {hl : Nat → Nat}
def stp (c : Int) (k : Nat) : List Int := (List.range k).map fun x : Nat => pva c (x : Int)
def stkL (c : Int) : List Int := stp c (pcnt c).toNat
theorem stp_len (c : Int) (k : Nat) : (stp c k).length = k := by simp [stp]
theorem stp_succ (c : Int) (k : Nat) : stp c (k + 1) = stp c k ++ [pva c (k : Int)] := by simp [stp, List.range_succ]
def dvp (M : Mem) (d k : Nat) : List Int := (List.range k).flatMap fun i => stkL (M 15 (6 * d + i))
theorem dvp_succ (d k : Nat) : dvp M d (k + 1) = dvp M d k ++ stkL (M 15 (6 * d + k)) := by simp [dvp, List.range_succ]
theorem dvp_mono {d : Nat} : ∀ {k j : Nat}, k ≤ j → (dvp M d k).length ≤ (dvp M d j).length := by
  intro k j h
  induction h with
  | refl => exact Nat.le_refl _
  | step _ ih => rw [dvp_succ, List.length_append]; omega
theorem s_in_loop {d b i : Nat} {c b0 : Int} (hc0 : 0 ≤ c) (hc1 : c < 16384) (hi : i ≤ 10) (hb : b + (pcnt c).toNat ≤ 16) {L : List Int} (hL : L.length = b) : ∀ (m x : Nat), x + m = (pcnt c).toNat → evL 24 37 [Rf 5, I (d : Int), Rf 22, I b0, I ((b + x : Nat) : Int), I (i : Int), I c, I (x : Int)] [] (Hp (putL M 23 0 (L ++ stp c x)) P) = evL 24 6 [Rf 5, I (d : Int), Rf 22, I b0, I ((b + (pcnt c).toNat : Nat) : Int), I ((i + 1 : Nat) : Int), I c, I (pcnt c)] [] (Hp (putL M 23 0 (L ++ stkL c)) P) := by
  have hp := pcnt_b hc0 hc1
  intro m
  induction m with
  | zero =>
    intro x hx
    have e : x = (pcnt c).toNat := by omega
    subst e
    have e2 : (((pcnt c).toNat : Nat) : Int) = pcnt c := by omega
    rw [s24_37]
    simp only [en24, s24_0, s24_1, s24_3, s24_4, s24_8, s24_9, s24_12, s24_13, s24_16, s24_19, s24_20, s24_23, s24_24, s24_26, s24_29, s24_32, s24_34, s24_35, s24_39, s24_41, s24_44, s24_47, s24_48, s24_50, s24_52, s24_54, s24_57, s24_60, s24_63, s24_66, s24_69, s24_72, s24_75, s24_77, cont_some, rl_some, rl_none, if_true, if_false, kd_0, kd_1, kd_2, kd_5, kd_47, kd_141, kd_144, rf_0_0, rf_0_1, rf_0_2, rf_0_3, rf_0_4, rf_1_0, rf_1_1, rf_1_2, rf_2_0, rf_5_0, rf_5_1, rf_5_2, rf_5_3, rf_5_4, rf_5_5, rf_5_6, rf_5_7, rf_47_0, rf_141_0, rf_144_0, rf_144_1, kd_3, kd_6, kd_8, kd_10, kd_12, kd_14, kd_16, kd_18, kd_20, kd_22, kd_142, kd_145, kd_147, kd_24, pile_size hc0 hc1, e2, Int.le_refl, ad_n i (by omega)]
    rfl
  | succ m ih =>
    intro x hx
    have c1 : ¬ pcnt c ≤ (x : Int) := by omega
    have e3 : wr (putL M 23 0 (L ++ stp c x)) 23 (b + x) (pva c (x : Int)) = putL M 23 0 (L ++ stp c (x + 1)) := by
      rw [stp_succ, ← List.append_assoc, ← putL_snoc]
      congr 1
      simp [stp_len, hL]
    have e4 : ad ((b + x : Nat) : Int) 1 = ((b + (x + 1) : Nat) : Int) := ad_n (b + x) (by omega)
    rw [s24_37]
    simp only [en24, s24_0, s24_1, s24_3, s24_4, s24_8, s24_9, s24_12, s24_13, s24_16, s24_19, s24_20, s24_23, s24_24, s24_26, s24_29, s24_32, s24_34, s24_35, s24_39, s24_41, s24_44, s24_47, s24_48, s24_50, s24_52, s24_54, s24_57, s24_60, s24_63, s24_66, s24_69, s24_72, s24_75, s24_77, cont_some, rl_some, rl_none, if_true, if_false, kd_0, kd_1, kd_2, kd_5, kd_47, kd_141, kd_144, rf_0_0, rf_0_1, rf_0_2, rf_0_3, rf_0_4, rf_1_0, rf_1_1, rf_1_2, rf_2_0, rf_5_0, rf_5_1, rf_5_2, rf_5_3, rf_5_4, rf_5_5, rf_5_6, rf_5_7, rf_47_0, rf_141_0, rf_144_0, rf_144_1, kd_3, kd_6, kd_8, kd_10, kd_12, kd_14, kd_16, kd_18, kd_20, kd_22, kd_142, kd_145, kd_147, kd_24, pile_size hc0 hc1, c1, pile_val hc0 hc1 (x := (x : Int)) (by omega), row_set R_lo, rs_n (show b + x < 16 by omega), e3, e4, ad_n x (by omega)]
    exact ih (x + 1) (by omega)
theorem s_out_loop (h2 : CH M n hl) (h3 : CPi M n hl) (h1 : n ≤ 4) {d : Nat} {b0 : Int} (hd : d < n) {L : List Int} (hL : L.length + (dvp M d (hl d)).length ≤ 16) : ∀ (m i : Nat), i + m = hl d → ∀ l6 l7 : AV, evL 24 6 [Rf 5, I (d : Int), Rf 22, I b0, I ((L.length + (dvp M d i).length : Nat) : Int), I (i : Int), l6, l7] [] (Hp (putL M 23 0 (L ++ dvp M d i)) P) = some (some (I ((L.length + (dvp M d (hl d)).length : Nat) : Int)), Hp (putL M 23 0 (L ++ dvp M d (hl d))) P) := by
  have hd4 : d < 4 := by omega
  obtain ⟨hk6, hk⟩ := h2 d hd
  intro m
  induction m with
  | zero =>
    intro i hi l6 l7
    have e : i = hl d := by omega
    subst e
    have e13 : putL M 23 0 (L ++ dvp M d (hl d)) 13 d = (hl d : Int) := by rw [putL_o (by omega)]; exact hk
    rw [s24_6]
    simp only [en24, s24_0, s24_1, s24_3, s24_4, s24_8, s24_9, s24_12, s24_13, s24_16, s24_19, s24_20, s24_23, s24_24, s24_26, s24_29, s24_32, s24_34, s24_35, s24_39, s24_41, s24_44, s24_47, s24_48, s24_50, s24_52, s24_54, s24_57, s24_60, s24_63, s24_66, s24_69, s24_72, s24_75, s24_77, cont_some, rl_some, rl_none, if_true, if_false, kd_0, kd_1, kd_2, kd_5, kd_47, kd_141, kd_144, rf_0_0, rf_0_1, rf_0_2, rf_0_3, rf_0_4, rf_1_0, rf_1_1, rf_1_2, rf_2_0, rf_5_0, rf_5_1, rf_5_2, rf_5_3, rf_5_4, rf_5_5, rf_5_6, rf_5_7, rf_47_0, rf_141_0, rf_144_0, rf_144_1, kd_3, kd_6, kd_8, kd_10, kd_12, kd_14, kd_16, kd_18, kd_20, kd_22, kd_142, kd_145, kd_147, kd_24, row_get R_he, rg_n hd4, e13, Int.le_refl]
  | succ m ih =>
    intro i hi l6 l7
    have e13 : putL M 23 0 (L ++ dvp M d i) 13 d = (hl d : Int) := by rw [putL_o (by omega)]; exact hk
    have e15 : putL M 23 0 (L ++ dvp M d i) 15 (6 * d + i) = M 15 (6 * d + i) := putL_o (by omega)
    have c1 : ¬ (hl d : Int) ≤ (i : Int) := by omega
    obtain ⟨p0, p1⟩ := h3 d hd i (by omega)
    have hpb := pcnt_b p0 p1
    have hm := dvp_mono (M := M) (d := d) (show i + 1 ≤ hl d by omega)
    rw [dvp_succ, List.length_append] at hm
    have hst : (stkL (M 15 (6 * d + i))).length = (pcnt (M 15 (6 * d + i))).toNat := stp_len _ _
    rw [s24_6]
    simp only [en24, s24_0, s24_1, s24_3, s24_4, s24_8, s24_9, s24_12, s24_13, s24_16, s24_19, s24_20, s24_23, s24_24, s24_26, s24_29, s24_32, s24_34, s24_35, s24_39, s24_41, s24_44, s24_47, s24_48, s24_50, s24_52, s24_54, s24_57, s24_60, s24_63, s24_66, s24_69, s24_72, s24_75, s24_77, cont_some, rl_some, rl_none, if_true, if_false, kd_0, kd_1, kd_2, kd_5, kd_47, kd_141, kd_144, rf_0_0, rf_0_1, rf_0_2, rf_0_3, rf_0_4, rf_1_0, rf_1_1, rf_1_2, rf_2_0, rf_5_0, rf_5_1, rf_5_2, rf_5_3, rf_5_4, rf_5_5, rf_5_6, rf_5_7, rf_47_0, rf_141_0, rf_144_0, rf_144_1, kd_3, kd_6, kd_8, kd_10, kd_12, kd_14, kd_16, kd_18, kd_20, kd_22, kd_142, kd_145, kd_147, kd_24, row_get R_he, rg_n hd4, e13, c1, cr_cell (show d ≤ 4 by omega) (show i ≤ 6 by omega), row_get R_pi, rg_n (show 6 * d + i < 24 by omega), e15]
    have h := s_in_loop (M := M) (P := P) (d := d) (b := L.length + (dvp M d i).length) (i := i) (c := M 15 (6 * d + i)) (b0 := b0) p0 p1 (by omega) (by omega) (L := L ++ dvp M d i) (by simp) (pcnt (M 15 (6 * d + i))).toNat 0 (by omega)
    have e0 : stp (M 15 (6 * d + i)) 0 = [] := rfl
    rw [e0, List.append_nil] at h
    have e1 : ((0 : Nat) : Int) = 0 := rfl
    rw [Nat.add_zero, e1] at h
    rw [h, List.append_assoc, ← dvp_succ]
    have e5 : L.length + (dvp M d i).length + (pcnt (M 15 (6 * d + i))).toNat = L.length + (dvp M d (i + 1)).length := by rw [dvp_succ, List.length_append, hst]; omega
    rw [e5]
    exact ih (i + 1) (by omega) _ _
theorem c_sinkD (h2 : CH M n hl) (h3 : CPi M n hl) (h1 : n ≤ 4) {d : Nat} (hd : d < n) {L : List Int} (hL : L.length + (dvp M d (hl d)).length ≤ 16) : evM 24 [Rf 5, I (d : Int), Rf 22, I (L.length : Int)] (Hp (putL M 23 0 L) P) = some (some (I (((L ++ dvp M d (hl d)).length : Nat) : Int)), Hp (putL M 23 0 (L ++ dvp M d (hl d))) P) := by
  simp only [en24, s24_0, s24_1, s24_3, s24_4, s24_8, s24_9, s24_12, s24_13, s24_16, s24_19, s24_20, s24_23, s24_24, s24_26, s24_29, s24_32, s24_34, s24_35, s24_39, s24_41, s24_44, s24_47, s24_48, s24_50, s24_52, s24_54, s24_57, s24_60, s24_63, s24_66, s24_69, s24_72, s24_75, s24_77]
  have h := s_out_loop (P := P) h2 h3 h1 (b0 := (L.length : Int)) hd hL (hl d) 0 (by omega) (Db 0) (Db 0)
  have e0 : dvp M d 0 = [] := rfl
  rw [e0, List.append_nil, List.length_nil, Nat.add_zero] at h
  rw [List.length_append]
  exact h
/-- what sinks from a place: of its divers from 0 to k-1 -/
def plp (M : Mem) (hl : Nat → Nat) (p k : Nat) : List Int := (List.range k).flatMap fun d => if M 7 d = (p : Int) ∧ ¬ M 11 d = 1 then dvp M d (hl d) else []
theorem plp_succ (p k : Nat) : plp M hl p (k + 1) = plp M hl p k ++ (if M 7 k = (p : Int) ∧ ¬ M 11 k = 1 then dvp M k (hl k) else []) := by simp [plp, List.range_succ]
theorem plp_mono {p : Nat} : ∀ {k j : Nat}, k ≤ j → (plp M hl p k).length ≤ (plp M hl p j).length := by
  intro k j h
  induction h with
  | refl => exact Nat.le_refl _
  | step _ ih => rw [plp_succ, List.length_append]; omega
/-- from place p down to the ship -/
def skF (M : Mem) (hl : Nat → Nat) (n : Nat) : Nat → List Int
  | 0 => plp M hl 0 n
  | p + 1 => plp M hl (p + 1) n ++ skF M hl n p
theorem k_in_loop (h1 : CN M n) (h2 : CH M n hl) (h3 : CPi M n hl) {p : Nat} {la : Int} {A : List Int} (hA : A.length + (plp M hl p n).length ≤ 16) (hp : p ≤ 1000) : ∀ (m d : Nat), d + m = n → evL 23 13 [Rf 5, Rf 22, I la, I ((A.length + (plp M hl p d).length : Nat) : Int), I (p : Int), I (d : Int)] [] (Hp (putL M 23 0 (A ++ plp M hl p d)) P) = evL 23 5 [Rf 5, Rf 22, I la, I ((A.length + (plp M hl p n).length : Nat) : Int), I (ad (p : Int) (-1)), I (n : Int)] [] (Hp (putL M 23 0 (A ++ plp M hl p n)) P) := by
  have h4 := h1.2
  have h5 := h1.1
  intro m
  induction m with
  | zero =>
    intro d hd
    have e : d = n := by omega
    subst e
    have e8 : putL M 23 0 (A ++ plp M hl p d) 5 8 = (d : Int) := by rw [putL_o (by omega)]; exact h5
    rw [s23_13]
    simp only [en23, s23_0, s23_1, s23_2, s23_3, s23_7, s23_10, s23_11, s23_15, s23_16, s23_19, s23_22, s23_23, s23_26, s23_28, s23_31, s23_33, s23_36, s23_37, s23_39, s23_42, s23_45, s23_46, s23_48, s23_49, s23_50, s23_53, s23_54, s23_57, s23_60, s23_63, s23_66, s23_67, cont_some, rl_some, rl_none, if_true, if_false, kd_0, kd_1, kd_2, kd_5, kd_47, kd_141, kd_144, rf_0_0, rf_0_1, rf_0_2, rf_0_3, rf_0_4, rf_1_0, rf_1_1, rf_1_2, rf_2_0, rf_5_0, rf_5_1, rf_5_2, rf_5_3, rf_5_4, rf_5_5, rf_5_6, rf_5_7, rf_47_0, rf_141_0, rf_144_0, rf_144_1, kd_3, kd_6, kd_8, kd_10, kd_12, kd_14, kd_16, kd_18, kd_20, kd_22, kd_142, kd_145, kd_147, kd_24, e8, Int.le_refl]
  | succ m ih =>
    intro d hd
    have hd2 : d < n := by omega
    have hd4 : d < 4 := by omega
    have c1 : ¬ (n : Int) ≤ (d : Int) := by omega
    have e8 : putL M 23 0 (A ++ plp M hl p d) 5 8 = (n : Int) := by rw [putL_o (by omega)]; exact h5
    have e7 : putL M 23 0 (A ++ plp M hl p d) 7 d = M 7 d := putL_o (by omega)
    have e11 : putL M 23 0 (A ++ plp M hl p d) 11 d = M 11 d := putL_o (by omega)
    have hm := plp_mono (M := M) (hl := hl) (p := p) (show d + 1 ≤ n by omega)
    rw [plp_succ] at hm
    rw [s23_13]
    by_cases c2 : M 7 d = (p : Int)
    · by_cases c3 : M 11 d = 1
      · have ep : plp M hl p (d + 1) = plp M hl p d := by rw [plp_succ, if_neg (fun q => q.2 c3), List.append_nil]
        have hh := c_home (M := putL M 23 0 (A ++ plp M hl p d)) (P := P) hd4
        rw [e11, if_pos c3] at hh
        simp only [en23, s23_0, s23_1, s23_2, s23_3, s23_7, s23_10, s23_11, s23_15, s23_16, s23_19, s23_22, s23_23, s23_26, s23_28, s23_31, s23_33, s23_36, s23_37, s23_39, s23_42, s23_45, s23_46, s23_48, s23_49, s23_50, s23_53, s23_54, s23_57, s23_60, s23_63, s23_66, s23_67, cont_some, rl_some, rl_none, if_true, if_false, kd_0, kd_1, kd_2, kd_5, kd_47, kd_141, kd_144, rf_0_0, rf_0_1, rf_0_2, rf_0_3, rf_0_4, rf_1_0, rf_1_1, rf_1_2, rf_2_0, rf_5_0, rf_5_1, rf_5_2, rf_5_3, rf_5_4, rf_5_5, rf_5_6, rf_5_7, rf_47_0, rf_141_0, rf_144_0, rf_144_1, kd_3, kd_6, kd_8, kd_10, kd_12, kd_14, kd_16, kd_18, kd_20, kd_22, kd_142, kd_145, kd_147, kd_24, e8, c1, row_get R_pl, rg_n hd4, e7, c2, hh, Int.one_ne_zero, ad_n d (by omega)]
        have := ih (d + 1) (by omega)
        rw [ep] at this
        exact this
      · have ep : plp M hl p (d + 1) = plp M hl p d ++ dvp M d (hl d) := by rw [plp_succ, if_pos ⟨c2, c3⟩]
        rw [if_pos ⟨c2, c3⟩, List.length_append] at hm
        have hh := c_home (M := putL M 23 0 (A ++ plp M hl p d)) (P := P) hd4
        rw [e11, if_neg c3] at hh
        have hs := c_sinkD (P := P) h2 h3 h4 hd2 (L := A ++ plp M hl p d) (by rw [List.length_append]; omega)
        rw [List.length_append] at hs
        simp only [en23, s23_0, s23_1, s23_2, s23_3, s23_7, s23_10, s23_11, s23_15, s23_16, s23_19, s23_22, s23_23, s23_26, s23_28, s23_31, s23_33, s23_36, s23_37, s23_39, s23_42, s23_45, s23_46, s23_48, s23_49, s23_50, s23_53, s23_54, s23_57, s23_60, s23_63, s23_66, s23_67, cont_some, rl_some, rl_none, if_true, if_false, kd_0, kd_1, kd_2, kd_5, kd_47, kd_141, kd_144, rf_0_0, rf_0_1, rf_0_2, rf_0_3, rf_0_4, rf_1_0, rf_1_1, rf_1_2, rf_2_0, rf_5_0, rf_5_1, rf_5_2, rf_5_3, rf_5_4, rf_5_5, rf_5_6, rf_5_7, rf_47_0, rf_141_0, rf_144_0, rf_144_1, kd_3, kd_6, kd_8, kd_10, kd_12, kd_14, kd_16, kd_18, kd_20, kd_22, kd_142, kd_145, kd_147, kd_24, e8, c1, row_get R_pl, rg_n hd4, e7, c2, hh, hs, ad_n d (by omega)]
        have := ih (d + 1) (by omega)
        rw [ep, ← List.append_assoc, ← List.length_append, ← List.append_assoc] at this
        exact this
    · have ep : plp M hl p (d + 1) = plp M hl p d := by rw [plp_succ, if_neg (fun q => c2 q.1), List.append_nil]
      simp only [en23, s23_0, s23_1, s23_2, s23_3, s23_7, s23_10, s23_11, s23_15, s23_16, s23_19, s23_22, s23_23, s23_26, s23_28, s23_31, s23_33, s23_36, s23_37, s23_39, s23_42, s23_45, s23_46, s23_48, s23_49, s23_50, s23_53, s23_54, s23_57, s23_60, s23_63, s23_66, s23_67, cont_some, rl_some, rl_none, if_true, if_false, kd_0, kd_1, kd_2, kd_5, kd_47, kd_141, kd_144, rf_0_0, rf_0_1, rf_0_2, rf_0_3, rf_0_4, rf_1_0, rf_1_1, rf_1_2, rf_2_0, rf_5_0, rf_5_1, rf_5_2, rf_5_3, rf_5_4, rf_5_5, rf_5_6, rf_5_7, rf_47_0, rf_141_0, rf_144_0, rf_144_1, kd_3, kd_6, kd_8, kd_10, kd_12, kd_14, kd_16, kd_18, kd_20, kd_22, kd_142, kd_145, kd_147, kd_24, e8, c1, row_get R_pl, rg_n hd4, e7, c2, ad_n d (by omega)]
      have := ih (d + 1) (by omega)
      rw [ep] at this
      exact this
theorem c_sink_loop (h1 : CN M n) (h2 : CH M n hl) (h3 : CPi M n hl) {la : Int} : ∀ (p : Nat), p ≤ 1000 → ∀ (A : List Int) (l5 : AV), A.length + (skF M hl n p).length ≤ 16 → evL 23 5 [Rf 5, Rf 22, I la, I (A.length : Int), I (p : Int), l5] [] (Hp (putL M 23 0 A) P) = some (some (I (((A ++ skF M hl n p).length : Nat) : Int)), Hp (putL M 23 0 (A ++ skF M hl n p)) P) := by
  intro p
  induction p with
  | zero =>
    intro hp A l5 hA
    have hk := k_in_loop (P := P) h1 h2 h3 (p := 0) (la := la) (A := A) hA (by omega) n 0 (by omega)
    have e0 : plp M hl 0 0 = [] := rfl
    have e1 : ((0 : Nat) : Int) = 0 := rfl
    rw [e0, List.append_nil, List.length_nil, Nat.add_zero, e1] at hk
    have e2 : ad 0 (-1) = -1 := ad_eq (by omega) (by omega)
    rw [e1, s23_5]
    simp only [en23, s23_0, s23_1, s23_2, s23_3, s23_7, s23_10, s23_11, s23_15, s23_16, s23_19, s23_22, s23_23, s23_26, s23_28, s23_31, s23_33, s23_36, s23_37, s23_39, s23_42, s23_45, s23_46, s23_48, s23_49, s23_50, s23_53, s23_54, s23_57, s23_60, s23_63, s23_66, s23_67, cont_some, rl_some, rl_none, if_true, if_false, kd_0, kd_1, kd_2, kd_5, kd_47, kd_141, kd_144, rf_0_0, rf_0_1, rf_0_2, rf_0_3, rf_0_4, rf_1_0, rf_1_1, rf_1_2, rf_2_0, rf_5_0, rf_5_1, rf_5_2, rf_5_3, rf_5_4, rf_5_5, rf_5_6, rf_5_7, rf_47_0, rf_141_0, rf_144_0, rf_144_1, kd_3, kd_6, kd_8, kd_10, kd_12, kd_14, kd_16, kd_18, kd_20, kd_22, kd_142, kd_145, kd_147, kd_24, Int.lt_irrefl]
    rw [hk, s23_5, e2]
    have c2 : (-1 : Int) < 0 := by omega
    simp only [en23, s23_0, s23_1, s23_2, s23_3, s23_7, s23_10, s23_11, s23_15, s23_16, s23_19, s23_22, s23_23, s23_26, s23_28, s23_31, s23_33, s23_36, s23_37, s23_39, s23_42, s23_45, s23_46, s23_48, s23_49, s23_50, s23_53, s23_54, s23_57, s23_60, s23_63, s23_66, s23_67, cont_some, rl_some, rl_none, if_true, if_false, kd_0, kd_1, kd_2, kd_5, kd_47, kd_141, kd_144, rf_0_0, rf_0_1, rf_0_2, rf_0_3, rf_0_4, rf_1_0, rf_1_1, rf_1_2, rf_2_0, rf_5_0, rf_5_1, rf_5_2, rf_5_3, rf_5_4, rf_5_5, rf_5_6, rf_5_7, rf_47_0, rf_141_0, rf_144_0, rf_144_1, kd_3, kd_6, kd_8, kd_10, kd_12, kd_14, kd_16, kd_18, kd_20, kd_22, kd_142, kd_145, kd_147, kd_24, c2, List.length_append, skF]
  | succ p ih =>
    intro hp A l5 hA
    have hA2 : A.length + ((plp M hl (p + 1) n).length + (skF M hl n p).length) ≤ 16 := by
      have : (skF M hl n (p + 1)).length = (plp M hl (p + 1) n).length + (skF M hl n p).length := by simp [skF]
      omega
    have hk := k_in_loop (P := P) h1 h2 h3 (p := p + 1) (la := la) (A := A) (by omega) hp n 0 (by omega)
    have e0 : plp M hl (p + 1) 0 = [] := rfl
    have e1 : ((0 : Nat) : Int) = 0 := rfl
    rw [e0, List.append_nil, List.length_nil, Nat.add_zero, e1] at hk
    have c1 : ¬ ((p + 1 : Nat) : Int) < 0 := by omega
    have e2 : ad ((p + 1 : Nat) : Int) (-1) = (p : Int) := by rw [ad_eq (by omega) (by omega)]; omega
    rw [e2] at hk
    rw [s23_5]
    simp only [en23, s23_0, s23_1, s23_2, s23_3, s23_7, s23_10, s23_11, s23_15, s23_16, s23_19, s23_22, s23_23, s23_26, s23_28, s23_31, s23_33, s23_36, s23_37, s23_39, s23_42, s23_45, s23_46, s23_48, s23_49, s23_50, s23_53, s23_54, s23_57, s23_60, s23_63, s23_66, s23_67, cont_some, rl_some, rl_none, if_true, if_false, kd_0, kd_1, kd_2, kd_5, kd_47, kd_141, kd_144, rf_0_0, rf_0_1, rf_0_2, rf_0_3, rf_0_4, rf_1_0, rf_1_1, rf_1_2, rf_2_0, rf_5_0, rf_5_1, rf_5_2, rf_5_3, rf_5_4, rf_5_5, rf_5_6, rf_5_7, rf_47_0, rf_141_0, rf_144_0, rf_144_1, kd_3, kd_6, kd_8, kd_10, kd_12, kd_14, kd_16, kd_18, kd_20, kd_22, kd_142, kd_145, kd_147, kd_24, c1]
    rw [hk]
    have := ih (by omega) (A ++ plp M hl (p + 1) n) (I (n : Int)) (by rw [List.length_append]; omega)
    rw [List.append_assoc, List.length_append] at this
    exact this
theorem c_sink (h1 : CN M n) (h2 : CH M n hl) (h3 : CPi M n hl) {p : Nat} (hp : p ≤ 1000) (hA : (skF M hl n p).length ≤ 16) : evM 23 [Rf 5, Rf 22, I (p : Int)] (Hp M P) = some (some (I (((skF M hl n p).length : Nat) : Int)), Hp (putL M 23 0 (skF M hl n p)) P) := by
  simp only [en23, s23_0, s23_1, s23_2, s23_3, s23_7, s23_10, s23_11, s23_15, s23_16, s23_19, s23_22, s23_23, s23_26, s23_28, s23_31, s23_33, s23_36, s23_37, s23_39, s23_42, s23_45, s23_46, s23_48, s23_49, s23_50, s23_53, s23_54, s23_57, s23_60, s23_63, s23_66, s23_67]
  have h := c_sink_loop (P := P) h1 h2 h3 (la := (p : Int)) p hp [] (Db 0) (by simpa using hA)
  rw [putL_nil, List.nil_append] at h
  exact h
end Sink
