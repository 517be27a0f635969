/-! ===== what a move and a deed do to the game ===== -/
section GameOps
variable {C : Mem} {P : PMem} {n sp t : Nat} {hl : Nat → Nat}
theorem stD_ge {f : Nat → Int} {n t p : Nat} : ∀ m x : Nat, p ≤ x → p ≤ stD f n t p m x := by
  intro m
  induction m with
  | zero => intro x _; exact Nat.le_refl _
  | succ m ih =>
    intro x h
    unfold stD
    split
    · exact ih (x + 1) (by omega)
    · exact h
theorem land_up {f : Nat → Int} {n t sp : Nat} : ∀ k p : Nat, landF f n t sp true k p ≤ p := by
  intro k
  induction k with
  | zero => intro p; exact Nat.le_refl _
  | succ k ih =>
    intro p
    show landF f n t sp true k (go1 f n t sp true p) ≤ p
    have h1 := ih (go1 f n t sp true p)
    have h2 : go1 f n t sp true p ≤ p := by
      unfold go1
      rw [if_pos rfl]
      have := stU_le f n t (p - 1)
      omega
    omega
theorem land_dn {f : Nat → Int} {n t sp : Nat} : ∀ k p : Nat, p ≤ landF f n t sp false k p := by
  intro k
  induction k with
  | zero => intro p; exact Nat.le_refl _
  | succ k ih =>
    intro p
    show p ≤ landF f n t sp false k (go1 f n t sp false p)
    have h1 := ih (go1 f n t sp false p)
    have h2 : p ≤ go1 f n t sp false p := by
      unfold go1
      rw [if_neg (by decide)]
      exact stD_ge _ _ (by omega)
    omega
theorem rsM_0 {back : Int} (h : rsM C t back = 0) : C 1 4 < 3 ∧ C 1 6 = 0 := by
  unfold rsM at h
  by_cases c1 : 3 ≤ C 1 4
  · rw [if_pos c1] at h; omega
  · rw [if_neg c1] at h
    by_cases c2 : C 1 6 = 0
    · exact ⟨by omega, c2⟩
    · rw [if_neg c2] at h; omega
theorem CT_l (hT : CT C t) (h3 : C 1 4 < 3) : 0 ≤ C 1 4 ∧ (C 1 6 = 1 ∨ (C 1 6 = 0 ∧ C 11 t = 0)) := by
  rcases hT with x | x
  · exact ⟨x.1, x.2.2⟩
  · omega
theorem CT_r (hT : CT C t) : 0 ≤ C 1 4 ∧ C 1 4 ≤ 3 := by
  rcases hT with x | x <;> omega
theorem C_move (h : CB C n sp t hl) (hT : CT C t) (P : PMem) (back : Int) : ∃ (v : Int) (C' : Mem), evM 36 [Rf 1, I back] (Hp C P) = some (some (I v), Hp C' P) ∧ frC C C' ∧ GC C' ∧ (0 < v ∧ v ≤ 26) ∧ ((rsM C t back ≠ 0 ∧ v = rsM C t back ∧ v < 10 ∧ C' = wr C 1 9 (ad (C 1 9) 1)) ∨ (rsM C t back = 0 ∧ ∃ q : Nat, C 7 t = (q : Int) ∧ q ≤ sp ∧ v = 10 + (mvP C n sp t (hl t) q back : Int) ∧ C' = mvM C n sp t (hl t) q back)) := by
  have hn := h.cN.2
  have htn := h.tn
  have h4 : t < 4 := by omega
  have hb := rsM_b C t back
  by_cases c1 : rsM C t back = 0
  · obtain ⟨h3, h6⟩ := rsM_0 c1
    obtain ⟨q, hqs, hq⟩ := h.pl t htn
    have hhl := h.ch t htn
    obtain ⟨h0, h11⟩ := CT_l hT h3
    have h11' : C 11 t = 0 := by
      rcases h11 with x | x
      · omega
      · exact x.2
    have hpl : mvP C n sp t (hl t) q back ≤ sp := landF_le _ _ hqs
    have h16 := h.cS.2
    have hB := CB_move (back := back) h hq hqs h11' h3
    refine ⟨10 + (mvP C n sp t (hl t) q back : Int), mvM C n sp t (hl t) q back, g_move h.cN h.cS h.tt htn hhl.2 hhl.1 hq hqs h.l1 h.k1 c1, mvM_fr, ⟨n, sp, t, hl, hB, ?_⟩, by omega, Or.inr ⟨c1, q, hq, hqs, rfl, rfl⟩⟩
    obtain ⟨v3, v6, v7, v8⟩ := mvM_1 (C := C) (n := n) (sp := sp) (t := t) (h := hl t) (q := q) (back := back)
    left
    rw [mvM_o (a := 1) (b := 4) (by omega), v6]
    exact ⟨h0, h3, Or.inl rfl⟩
  · have e := g_moveNo (M := C) (P := P) h.tt h4 (back := back) c1
    exact ⟨rsM C t back, _, e, frC_wr (by omega), ⟨n, sp, t, hl, CB_ref h, CT_ref hT⟩, by omega, Or.inl ⟨c1, rfl, by omega, rfl⟩⟩
theorem rsD_0 {h q : Nat} {lt st : Int} (c0 : rsD C h q lt st = 0) : C 1 4 < 3 ∧ C 1 6 ≠ 0 ∧ (lt = 110 ∨ (q ≠ 0 ∧ (lt = 116 → C 4 q ≠ 0 ∧ h < 6) ∧ (lt ≠ 116 → ¬ (st < 0 ∨ (h : Int) ≤ st) ∧ C 4 q = 0))) := by
  unfold rsD at c0
  by_cases c1 : 3 ≤ C 1 4
  · rw [if_pos c1] at c0; omega
  · rw [if_neg c1] at c0
    by_cases c2 : C 1 6 = 0
    · rw [if_pos c2] at c0; omega
    · rw [if_neg c2] at c0
      refine ⟨by omega, c2, ?_⟩
      by_cases c3 : lt = 110
      · exact Or.inl c3
      · rw [if_neg c3] at c0
        right
        by_cases c4 : q = 0
        · rw [if_pos c4] at c0; omega
        · rw [if_neg c4] at c0
          refine ⟨c4, fun c5 => ?_, fun c5 => ?_⟩
          · rw [if_pos c5] at c0
            by_cases c6 : C 4 q = 0
            · rw [if_pos c6] at c0; omega
            · rw [if_neg c6] at c0
              by_cases c7 : h < 6
              · exact ⟨c6, c7⟩
              · rw [if_neg c7] at c0; omega
          · rw [if_neg c5] at c0
            by_cases c6 : st < 0 ∨ (h : Int) ≤ st
            · rw [if_pos c6] at c0; omega
            · rw [if_neg c6] at c0
              by_cases c7 : C 4 q = 0
              · exact ⟨c6, c7⟩
              · rw [if_neg c7] at c0; omega
theorem tkM_1 {h q b : Nat} : tkM C t h q 1 b = C 1 b := by
  unfold tkM
  rw [wr_ne (by omega), wr_ne (by omega), wr_ne (by omega)]
theorem lyM_1 {k q i b : Nat} : lyM C t k q i 1 b = C 1 b := by
  unfold lyM shP
  rw [wr_ne (by omega), wr_ne (by omega), if_neg (by omega)]
/-- the deed that was done: by its letter -/
def Done (C : Mem) (n sp t : Nat) (hl : Nat → Nat) (q : Nat) (lt st v : Int) (C' : Mem) : Prop :=
  (lt = 110 ∧ v = 10 ∧ C' = tlM C n sp t hl) ∨ (lt = 116 ∧ v = 11 + (hl t : Int) ∧ 1 ≤ q ∧ C 4 q ≠ 0 ∧ hl t < 6 ∧ C' = tlM (tkM C t (hl t) q) n sp t (hlS hl t (hl t + 1))) ∨ (lt = 108 ∧ 1 ≤ q ∧ C 4 q = 0 ∧ ∃ i k : Nat, st = (i : Int) ∧ hl t = k + 1 ∧ i ≤ k ∧ v = 10 + (k : Int) ∧ C' = tlM (lyM C t k q i) n sp t (hlS hl t k))
theorem C_deed (h : CB C n sp t hl) (hT : CT C t) (P : PMem) {lt : Int} (hlt : lt = 116 ∨ lt = 110 ∨ lt = 108) (st : Int) : ∃ (v : Int) (C' : Mem), evM 40 [Rf 1, I lt, I st] (Hp C P) = some (some (I v), Hp C' P) ∧ frC C C' ∧ GC C' ∧ (0 < v ∧ v ≤ 26) ∧ ∃ q : Nat, C 7 t = (q : Int) ∧ q ≤ sp ∧ ((rsD C (hl t) q lt st ≠ 0 ∧ v = rsD C (hl t) q lt st ∧ v < 10 ∧ C' = wr C 1 9 (ad (C 1 9) 1)) ∨ (rsD C (hl t) q lt st = 0 ∧ 10 ≤ v ∧ Done C n sp t hl q lt st v C')) := by
  have hn := h.cN.2
  have htn := h.tn
  have h4 : t < 4 := by omega
  have h16 := h.cS.2
  obtain ⟨q, hqs, hq⟩ := h.pl t htn
  have hh := (h.ch t htn).2
  have hh6 := (h.ch t htn).1
  have hp := rsD_pos C (hl t) q lt st
  by_cases c0 : rsD C (hl t) q lt st = 0
  · obtain ⟨h3, h6, hx⟩ := rsD_0 c0
    obtain ⟨h0, -⟩ := CT_l hT h3
    rcases hlt with rfl | rfl | rfl
    · rcases hx with x | ⟨x1, x2, -⟩
      · omega
      · obtain ⟨x3, x4⟩ := x2 rfl
        have hB := CB_take h hq (by omega) hqs x4 x3 h3
        refine ⟨11 + (hl t : Int), _, g_take (P := P) h.tt h4 hh x4 hq (by omega) c0 (CB_TOk hB), frC_tr tkM_fr tlM_fr, CG_turn hB (by rw [tkM_1]; exact ⟨h0, h3⟩), by omega, q, hq, hqs, Or.inr ⟨c0, by omega, Or.inr (Or.inl ⟨rfl, rfl, by omega, x3, x4, rfl⟩)⟩⟩
    · refine ⟨10, _, g_noth (P := P) h.tt h4 hh hq (by omega) c0 (CB_TOk h), tlM_fr, CG_turn h ⟨h0, h3⟩, by omega, q, hq, hqs, Or.inr ⟨c0, by omega, Or.inl ⟨rfl, rfl, rfl⟩⟩⟩
    · rcases hx with x | ⟨x1, -, x2⟩
      · omega
      · obtain ⟨x3, x4⟩ := x2 (by omega)
        obtain ⟨i, ei⟩ : ∃ i : Nat, st = (i : Int) := ⟨st.toNat, by omega⟩
        obtain ⟨k, ek⟩ : ∃ k : Nat, hl t = k + 1 := ⟨hl t - 1, by omega⟩
        subst ei
        have hi : i ≤ k := by omega
        have hB := CB_lay h hq (by omega) hqs ek hi x4 h3
        have c0' := c0
        rw [ek] at c0 hh
        refine ⟨10 + (k : Int), _, g_lay (P := P) h.tt h4 hh (by omega) hi hq (by omega) c0 (CB_TOk hB), frC_tr lyM_fr tlM_fr, CG_turn hB (by rw [lyM_1]; exact ⟨h0, h3⟩), by omega, q, hq, hqs, Or.inr ⟨c0', by omega, Or.inr (Or.inr ⟨rfl, by omega, x4, i, k, rfl, ek, hi, rfl, rfl⟩)⟩⟩
  · exact ⟨rsD C (hl t) q lt st, _, g_deedNo (P := P) h.tt h4 hh hq (by omega) c0, frC_wr (by omega), ⟨n, sp, t, hl, CB_ref h, CT_ref hT⟩, by omega, q, hq, hqs, Or.inl ⟨c0, rfl, by omega, rfl⟩⟩
/-- the turn's end -/
theorem tl_spec (h : CB C n sp t hl) (hr : 0 ≤ C 1 4 ∧ C 1 4 < 3) : tlM C n sp t hl 1 6 = 0 ∧ tlM C n sp t hl 1 9 = C 1 9 ∧ (tlM C n sp t hl 1 4 = C 1 4 + 1 ∨ ∀ a b, (a ≠ 1 ∨ (b ≠ 5 ∧ b ≠ 6)) → tlM C n sp t hl a b = C a b) := by
  unfold tlM
  by_cases c : C 1 7 = 0 ∨ sumA (C 11) 4 = C 5 8
  · rw [if_pos c]
    refine ⟨?_, ?_, Or.inl ?_⟩
    · rw [erM_1, if_neg (by omega), if_neg (by omega), if_neg (by omega), wr_at]
    · rw [erM_1, if_neg (by omega), if_neg (by omega), if_neg (by omega), wr_ne (by omega)]
    · rw [erM_1, if_pos rfl, wr_ne (by omega), ad_eq (by omega) (by omega)]
  · rw [if_neg c]
    refine ⟨?_, ?_, Or.inr fun a b x => ?_⟩
    · rw [wr_ne (by omega), wr_at]
    · rw [wr_ne (by omega), wr_ne (by omega)]
    · rw [wr_ne (by omega), wr_ne (by omega)]
end GameOps
