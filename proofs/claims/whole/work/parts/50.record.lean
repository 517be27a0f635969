section Rec
variable {M C' E : Mem} {P : PMem} {K : Nat}
theorem rcM_o {a b : Nat} (hP : PO P) (hK : K ≤ 4) (h : a < 47 ∨ 141 ≤ a) : rcM M P K a b = M a b := by
  have h0 := hP 0 (by omega)
  unfold hB at h0
  unfold rcM
  by_cases c : K < 4
  · have h1 := hP K c
    unfold hB at h1
    rw [if_pos c, wr_app, if_neg (by omega), cpG_out (by omega)]
  · rw [if_neg c, wr_app, if_neg (by omega), cpG_out (by omega), wr_app, if_neg (by omega)]
theorem rcM_n (K : Nat) (hP : PO P) (hK : K ≤ 4) : rcM M P K 47 1 = ((min (K + 1) 4 : Nat) : Int) := by
  unfold rcM
  by_cases c : K < 4
  · rw [if_pos c, wr_app, if_pos ⟨rfl, rfl⟩, Nat.min_eq_left (by omega)]
  · rw [if_neg c, wr_app, if_pos ⟨rfl, rfl⟩, Nat.min_eq_right (by omega)]
    rfl
theorem rdM_o {D : Mem} {a b : Nat} (h : a ≠ 151) (h2 : a ≠ 149 ∨ b ≠ 2) : rdM D K a b = D a b := by
  unfold rdM
  by_cases c : K < 4
  · rw [if_pos c, wr_app, if_neg (by omega)]
    unfold cpY
    rw [if_neg (by omega)]
  · rw [if_neg c, wr_app, if_neg (by omega)]
    unfold cpY
    rw [if_neg (by omega), wr_app, if_neg (by omega)]
    unfold shY
    rw [if_neg (by omega)]
theorem rdM_n {D : Mem} (hK : K ≤ 4) : rdM D K 149 2 = ((min (K + 1) 4 : Nat) : Int) := by
  unfold rdM
  by_cases c : K < 4
  · rw [if_pos c, wr_app, if_pos ⟨rfl, rfl⟩, Nat.min_eq_left (by omega)]
  · rw [if_neg c, wr_app, if_pos ⟨rfl, rfl⟩, Nat.min_eq_right (by omega)]
    rfl
theorem rotP_v : rotP P 0 = P 1 ∧ rotP P 1 = P 2 ∧ rotP P 2 = P 3 ∧ rotP P 3 = P 0 := by
  unfold rotP upP
  exact ⟨rfl, rfl, rfl, rfl⟩
theorem blk_e {A : Mem} {b o k : Nat} (h : 1 ≤ b) : blk A b (o + 1) k = A (b + o) k := by
  unfold blk
  rw [show b - 1 + (o + 1) = b + o by omega]
theorem rec_R (h : R M P) (hK : RH M P K) (h1 : frC (rcM M P K) C') (h2 : frD (rdM C' K) E) (hG : RG C' E) : R E (rcP P K) := by
  obtain ⟨hM, _, hS, hPd, hW⟩ := h
  obtain ⟨k1, k2, k4, hP, hI, hA⟩ := hK
  -- cells that none of it touches
  have f1 : ∀ a b, a = 0 ∨ 24 ≤ a → a ≠ 150 → a ≠ 151 → a ≠ 154 → ¬ (a = 149 ∧ b = 10) → ¬ (a = 149 ∧ b = 2) → E a b = rcM M P K a b := by
    intro a b x1 x2 x3 x4 x5 x6
    rw [h2 a b x2 x4 x5, rdM_o x3 (by omega), h1 a b x1]
  have f2 : ∀ a b, a = 0 ∨ (24 ≤ a ∧ (a < 47 ∨ 141 ≤ a)) → a ≠ 150 → a ≠ 151 → a ≠ 154 → ¬ (a = 149 ∧ b = 10) → ¬ (a = 149 ∧ b = 2) → E a b = M a b := by
    intro a b x1 x2 x3 x4 x5 x6
    rw [f1 a b (by omega) x2 x3 x4 x5 x6, rcM_o hP k4 (by omega)]
  have f3 : ∀ b, E 151 b = rdM C' K 151 b := fun b => h2 151 b (by omega) (by omega) (by omega)
  have g150 : ∀ b, C' 150 b = M 150 b := fun b => by rw [h1 150 b (by omega), rcM_o hP k4 (by omega)]
  have g151 : ∀ b, C' 151 b = M 151 b := fun b => by rw [h1 151 b (by omega), rcM_o hP k4 (by omega)]
  have hmain : RG E E := RG_cast hG (fun a b x y => by rw [h2 a b (by omega) (by omega) (by omega), rdM_o (by omega) (by omega)]) (fun _ => rfl)
  have far' : ∀ i j, i < 4 → j < 4 → i ≠ j → P i + 23 ≤ P j ∨ P j + 23 ≤ P i := by
    intro i j hi hj hne
    have a := hP i hi
    have b := hP j hj
    have : P i ≠ P j := fun e => hne (hI i j hi hj e)
    unfold hB at a b
    omega
  have row : ∀ j o b, j < 4 → o < 23 → E (P j + o) b = rcM M P K (P j + o) b := by
    intro j o b hj ho
    have a := hP j hj
    unfold hB at a
    exact f1 _ _ (by omega) (by omega) (by omega) (by omega) (by omega) (by omega)
  have p1 : ∀ j, j < 4 → 1 ≤ P j := fun j hj => by have a := hP j hj; unfold hB at a; omega
  have hist : ∃ K', RH E (rcP P K) K' := by
    refine ⟨min (K + 1) 4, ?_, ?_, Nat.min_le_right _ _, ?_, ?_, ?_⟩
    · rw [f1 47 1 (by omega) (by omega) (by omega) (by omega) (by omega) (by omega)]; exact rcM_n K hP k4
    · rw [h2 149 2 (by omega) (by omega) (by omega)]; exact rdM_n k4
    · unfold rcP
      split
      · exact hP
      · obtain ⟨r0, r1, r2, r3⟩ := rotP_v (P := P)
        intro j hj
        have : j = 0 ∨ j = 1 ∨ j = 2 ∨ j = 3 := by omega
        rcases this with rfl | rfl | rfl | rfl
        · rw [r0]; exact hP 1 (by omega)
        · rw [r1]; exact hP 2 (by omega)
        · rw [r2]; exact hP 3 (by omega)
        · rw [r3]; exact hP 0 (by omega)
    · unfold rcP
      split
      · exact hI
      · obtain ⟨r0, r1, r2, r3⟩ := rotP_v (P := P)
        have rv : ∀ j, j < 4 → rotP P j = P ((j + 1) % 4) := by
          intro j hj
          have : j = 0 ∨ j = 1 ∨ j = 2 ∨ j = 3 := by omega
          rcases this with rfl | rfl | rfl | rfl
          · exact r0
          · exact r1
          · exact r2
          · exact r3
        intro i j hi hj e
        rw [rv i hi, rv j hj] at e
        have := hI _ _ (by omega) (by omega) e
        omega
    · intro j hj
      by_cases c : K < 4
      · have eP : rcP P K = P := by unfold rcP; rw [if_pos c]
        have eM : ∀ o b, j < 4 → o < 23 → E (P j + o) b = cpG M (P K) 1 (P j + o) b := by
          intro o b hj4 ho
          have a := hP j hj4
          unfold hB at a
          rw [row j o b hj4 ho]
          unfold rcM
          rw [if_pos c, wr_app, if_neg (by omega)]
        have e151 : ∀ b, E 151 b = cpY C' 150 0 151 (77 * K) 77 151 b := by
          intro b
          rw [f3]
          unfold rdM
          rw [if_pos c, wr_app, if_neg (by omega)]
        rw [eP]
        by_cases c2 : j = K
        · subst c2
          apply RG_castS hM
          · intro o b hcs
            have ho := cS_sm _ _ hcs
            rw [blk_e (p1 j c), eM o b c ho, cpG_in hcs, Nat.add_comm 1 o]
          · intro b hb
            unfold sli
            rw [e151]
            unfold cpY
            rw [if_pos ⟨rfl, by omega, by omega⟩, show 0 + (77 * j + b - 77 * j) = b by omega, g150]
        · have hjK : j < K := by omega
          apply RG_castS (hA j hjK)
          · intro o b hcs
            have ho := cS_sm _ _ hcs
            have := far' j K (by omega) c c2
            rw [blk_e (p1 j (by omega)), blk_e (p1 j (by omega)), eM o b (by omega) ho, cpG_out (by omega)]
          · intro b hb
            unfold sli
            rw [e151]
            unfold cpY
            rw [if_neg (by omega), g151]
      · have eK : K = 4 := by omega
        subst eK
        have eP : rcP P 4 = rotP P := by unfold rcP; rw [if_neg (by omega)]
        have e151 : ∀ b, E 151 b = cpY (wr (shY C' 231) 149 2 3) 150 0 151 231 77 151 b := by
          intro b
          rw [f3]
          unfold rdM
          rw [if_neg (by omega), wr_app, if_neg (by omega)]
        have eM : ∀ i o b, i < 4 → o < 23 → E (P i + o) b = cpG (wr M 47 1 3) (P 0) 1 (P i + o) b := by
          intro i o b hi4 ho
          have a := hP i hi4
          unfold hB at a
          rw [row i o b hi4 ho]
          unfold rcM
          rw [if_neg (by omega), wr_app, if_neg (by omega)]
        obtain ⟨r0, r1, r2, r3⟩ := rotP_v (P := P)
        rw [eP]
        by_cases c2 : j = 3
        · subst c2
          rw [r3]
          apply RG_castS hM
          · intro o b hcs
            have ho := cS_sm _ _ hcs
            rw [blk_e (p1 0 (by omega)), eM 0 o b (by omega) ho, cpG_in hcs, Nat.add_comm 1 o, wr_app, if_neg (by omega)]
          · intro b hb
            unfold sli
            rw [e151]
            unfold cpY
            rw [if_pos ⟨rfl, by omega, by omega⟩, show 0 + (77 * 3 + b - 231) = b by omega, wr_app, if_neg (by omega)]
            unfold shY
            rw [if_neg (by omega), g150]
        · have hj3 : j < 3 := by omega
          have rj : rotP P j = P (j + 1) := by
            have : j = 0 ∨ j = 1 ∨ j = 2 := by omega
            rcases this with rfl | rfl | rfl
            · exact r0
            · exact r1
            · exact r2
          rw [rj]
          apply RG_castS (hA (j + 1) (by omega))
          · intro o b hcs
            have ho := cS_sm _ _ hcs
            have := far' (j + 1) 0 (by omega) (by omega) (by omega)
            have a := hP (j + 1) (by omega)
            unfold hB at a
            rw [blk_e (p1 (j + 1) (by omega)), blk_e (p1 (j + 1) (by omega)), eM (j + 1) o b (by omega) ho, cpG_out (by omega), wr_app, if_neg (by omega)]
          · intro b hb
            unfold sli
            rw [e151]
            unfold cpY
            rw [if_neg (by omega), wr_app, if_neg (by omega)]
            unfold shY
            rw [if_pos ⟨rfl, by omega⟩, g151, show 77 * j + b + 77 = 77 * (j + 1) + b by omega]
  refine ⟨hmain, hist, ?_, ?_, ?_⟩
  · unfold RSn at *
    rw [f2 0 5 (by omega) (by omega) (by omega) (by omega) (by omega) (by omega), f2 149 4 (by omega) (by omega) (by omega) (by omega) (by omega) (by omega)]
    refine ⟨hS.1, ?_⟩
    rcases hS.2 with x | ⟨x, y⟩
    · exact Or.inl x
    · refine Or.inr ⟨x, RG_castS y ?_ ?_⟩
      · intro o b hcs
        have ho := cS_sm _ _ hcs
        rw [blk_e (by omega), blk_e (by omega), f2 (24 + o) b (by omega) (by omega) (by omega) (by omega) (by omega) (by omega)]
      · intro b hb
        unfold sli
        rw [f2 152 (0 + b) (by omega) (by omega) (by omega) (by omega) (by omega) (by omega)]
  · obtain ⟨L, l1, l2, l3, l4⟩ := hPd
    refine ⟨L, l1, ?_, ?_, ?_⟩
    · rw [f2 141 1 (by omega) (by omega) (by omega) (by omega) (by omega) (by omega)]; exact l2
    · rw [f2 149 6 (by omega) (by omega) (by omega) (by omega) (by omega) (by omega)]; exact l3
    · intro j hj
      rw [f2 143 j (by omega) (by omega) (by omega) (by omega) (by omega) (by omega), f2 153 j (by omega) (by omega) (by omega) (by omega) (by omega) (by omega)]
      exact l4 j hj
  · unfold RWh at *
    rw [f2 0 6 (by omega) (by omega) (by omega) (by omega) (by omega) (by omega), f2 149 7 (by omega) (by omega) (by omega) (by omega) (by omega) (by omega), f2 0 7 (by omega) (by omega) (by omega) (by omega) (by omega) (by omega), f2 149 8 (by omega) (by omega) (by omega) (by omega) (by omega) (by omega)]
    exact hW
end Rec
