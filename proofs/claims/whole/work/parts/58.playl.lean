section Play2
variable {M N C D : Mem} {P : PMem} {L p : Nat} {f : Nat → Int}
/-- what is seen of a memory in the heap -/
theorem Hp_inj {A B : Mem} {P : PMem} (h : Hp A P = Hp B P) {i j : Nat} (hi : i < NN) (hj : j < ln i) (hk : kd i ≠ 101) (hr : RF i j = none) : A i j = B i j := by
  have h1 : (Hp A P)[i]? = (Hp B P)[i]? := by rw [h]
  rw [Hp_get hi, Hp_get hi] at h1
  have h2 := congrArg Prod.snd (Option.some.inj h1)
  have h3 : ((List.range (ln i)).map (vl A P i))[j]? = ((List.range (ln i)).map (vl B P i))[j]? := by
    have h2' : (List.range (ln i)).map (vl A P i) = (List.range (ln i)).map (vl B P i) := h2
    rw [h2']
  rw [ob_get hj, ob_get hj, vl_int hk hr, vl_int hk hr] at h3
  exact Sum.inl.inj (Option.some.inj h3)
theorem cS_in : ∀ o, o < 23 → ∀ b, b < 24 → cS o b = true → b < ln (o + 1) ∧ kd (o + 1) ≠ 101 ∧ RF (o + 1) b = none := by decide +kernel
theorem cS_b24 {o b : Nat} (h : cS o b = true) : b < 24 := by
  unfold cS un1 un at h
  simp only [Bool.or_eq_true, Bool.and_eq_true, decide_eq_true_eq, Bool.false_eq_true, false_or] at h
  omega
theorem Hp_cS {A B : Mem} {P : PMem} (h : Hp A P = Hp B P) {o b : Nat} (hc : cS o b = true) : A (o + 1) b = B (o + 1) b := by
  have ho := cS_sm o b hc
  obtain ⟨h1, h2, h3⟩ := cS_in o ho b (cS_b24 hc) hc
  exact Hp_inj h (by unfold NN; omega) h1 h2 h3
theorem G_move2 (hG : RG C D) (P : PMem) (back : Int) : ∃ (v : Int) (C' : Mem), evM 36 [Rf 1, I back] (Hp C P) = some (some (I v), Hp C' P) ∧ frC C C' ∧ (0 < v ∧ v < 2000000) ∧ ∀ D' : Mem, RG C D' → ∃ E, evM 134 [Rf 149, I back] (Hp D' P) = some (some (I v), Hp E P) ∧ RG C' E ∧ frD D' E := by
  obtain ⟨v, C', g1, g2, g3, -⟩ := G_move hG P back
  refine ⟨v, C', g1, g2, g3, fun D' hG' => ?_⟩
  obtain ⟨v2, C2, a1, a2, a3, a4⟩ := G_move hG' P back
  rw [g1] at a1
  have e := Prod.mk.inj (Option.some.inj a1)
  have e1 : v = v2 := Sum.inl.inj (Option.some.inj e.1)
  obtain ⟨E, x1, x2, x3⟩ := a4 D' (fun _ => rfl)
  rw [← e1] at x1
  exact ⟨E, x1, RG_castS x2 (fun o b hc => Hp_cS e.2 hc) (fun _ _ => rfl), x3⟩
theorem G_deed2 (hG : RG C D) (P : PMem) {lt : Int} (hl : lt = 116 ∨ lt = 110 ∨ lt = 108) (st : Int) : ∃ (v : Int) (C' : Mem), evM 40 [Rf 1, I lt, I st] (Hp C P) = some (some (I v), Hp C' P) ∧ frC C C' ∧ (0 < v ∧ v < 2000000) ∧ ∀ D' : Mem, RG C D' → D' 149 14 = lt → (lt = 108 → D' 149 15 = st) → ∃ E, evM 158 [Rf 149] (Hp D' P) = some (some (I v), Hp E P) ∧ RG C' E ∧ frD D' E := by
  obtain ⟨v, C', g1, g2, g3, -⟩ := G_deed hG P hl st
  refine ⟨v, C', g1, g2, g3, fun D' hG' h14 h15 => ?_⟩
  obtain ⟨v2, C2, a1, a2, a3, a4⟩ := G_deed hG' P hl st
  rw [g1] at a1
  have e := Prod.mk.inj (Option.some.inj a1)
  have e1 : v = v2 := Sum.inl.inj (Option.some.inj e.1)
  obtain ⟨E, x1, x2, x3⟩ := a4 D' (fun _ => rfl) h14 h15
  rw [← e1] at x1
  exact ⟨E, x1, RG_castS x2 (fun o b hc => Hp_cS e.2 hc) (fun _ _ => rfl), x3⟩
theorem RG_D {D' : Mem} (h : RG C D) (e : ∀ b, D' 150 b = D 150 b) : RG C D' := RG_cast h (fun _ _ _ _ => rfl) e
theorem RG_C {C' : Mem} (h : RG C D) (e : ∀ a b, 1 ≤ a → a < 24 → C' a b = C a b) : RG C' D := RG_cast h e (fun _ => rfl)
theorem turn_A (h6 : D 149 6 = (L : Int)) (h60 : L ≤ 60) (h11 : D 149 11 = (p : Int)) (h12 : D 149 12 = 1) (hf : D 153 = f) (hr : ∀ j, j < L → 33 ≤ f j ∧ f j ≤ 126) (hp : p < L) (t1 : tnF f L p = 1) :
    ∃ A, A = tuM (wr D 149 8 (p : Int)) ∧ A 149 13 = f p ∧ A 149 14 = gl f L (p + 1) ∧ A 149 15 = gl f L (p + 2) - 48 ∧ A 149 11 = (tnS f L p : Int) ∧ A 149 12 = 1 ∧ A 149 8 = (p : Int) ∧ A 149 7 = D 149 7 ∧ frQ D A ∧ ∀ b, A 150 b = D 150 b := by
  obtain ⟨B, eB⟩ : ∃ B, B = wr D 149 8 (p : Int) := ⟨_, rfl⟩
  have bO : ∀ a b, a ≠ 149 ∨ b ≠ 8 → B a b = D a b := fun a b h => by rw [eB, wr_ne (by omega)]
  have b153 : B 153 = f := by rw [← hf]; exact funext fun j => bO _ _ (by omega)
  obtain ⟨u1, u2, u3, u4⟩ := tu_spec (M := B) (L := L) (p := p) (by rw [bO _ _ (by omega)]; exact h11) (by omega) (by rw [bO _ _ (by omega)]; exact h6) (by rw [bO _ _ (by omega)]; exact h12) (by rw [b153]; exact hr)
  rw [b153] at u1 u2 u3 u4
  obtain ⟨u5, u6⟩ := u4 t1
  rw [gl_in hp] at u3
  rw [t1] at u1
  refine ⟨tuM B, by rw [eB], u3, u5, u6, u2, u1, ?_, ?_, ?_, ?_⟩
  · rw [tu_o (by omega), eB, wr_at]
  · rw [tu_o (by omega), bO _ _ (by omega)]
  · refine frQ_tr ?_ frQ_tu
    rw [eB]
    exact frQ_wr (by omega)
  · intro b
    rw [tu_o (by omega), bO _ _ (by omega)]
theorem ad_d0 {d : Int} (h0 : 0 ≤ d) (h1 : d ≤ 1000) : ad d 0 = d := by rw [ad_eq (by omega) (by omega)]; omega
theorem ad_d1 {d : Int} (h0 : 0 ≤ d) (h1 : d ≤ 1000) : ad d 1 = d + 1 := by rw [ad_eq (by omega) (by omega)]
theorem pl_loop (h60 : L ≤ 60) (hr : ∀ j, j < L → 33 ≤ f j ∧ f j ≤ 126) : ∀ (m p : Nat), p + m = L → ffF f L (L - p) p 1 = -4 → ∀ (C D : Mem) (d : Int) (l4 l5 : AV), RG C D → (∀ j, j < L → C 143 j = f j) → C 0 6 = 0 → 0 ≤ d → d ≤ 2 * p →
    ∃ (C' : Mem) (v : Int) (l3' l4' l5' : AV), evL 95 43 [Rf 0, I d, I (L : Int), I (p : Int), l4, l5] [] (Hp C P) = evL 95 172 [Rf 0, I v, I (L : Int), l3', l4', l5'] [] (Hp C' P) ∧ frP C C' ∧ ∀ D', RG C D' → D' 149 6 = (L : Int) → D' 149 7 = 0 → D' 149 11 = (p : Int) → D' 149 12 = 1 → D' 153 = f → ∀ k2 k3 : AV, ∃ (E : Mem) (k2' k3' : AV), evL 159 26 [Rf 149, I d, k2, k3] [] (Hp D' P) = evL 159 158 [Rf 149, I v, k2', k3'] [] (Hp E P) ∧ RG C' E ∧ frQ D' E ∧ E 149 7 = C' 0 6 ∧ (E 149 7 ≠ 0 → E 149 8 = C' 0 7) := by
  intro m
  induction m using Nat.strongRecOn with
  | ind m ih =>
    intro p hm hff C D d l4 l5 hG hl h0 hd0 hd1
    by_cases c : p < L
    · rcases turn_ff (f := f) (Or.inl c) with ⟨t1, t2, t3, t5, t6, t7, t8⟩ | ⟨-, -, t3⟩
      · obtain ⟨v1, C1, g1, g2, g3, g4⟩ := G_move2 hG P (if f p = 117 then 1 else 0)
        have e1 := cl_move (d := d) (l4 := l4) (l5 := l5) (P := P) (v := v1) (C' := C1) h0 c h60 (by rw [hl p c]; exact t5) (by rw [hl p c]; exact g1)
        by_cases cv : v1 < 10
        · -- the move is refused
          rw [if_pos cv] at e1
          obtain ⟨C', eC⟩ : ∃ C', C' = wr (wr C1 0 6 v1) 0 7 (p : Int) := ⟨_, rfl⟩
          have c6 : C' 0 6 = v1 := by rw [eC, wr_ne (by omega), wr_at]
          have c7 : C' 0 7 = (p : Int) := by rw [eC, wr_at]
          rw [← eC] at e1
          refine ⟨C', d, _, _, _, e1.trans (cl_stop (C := C') (p := p + 1) (Or.inl (by rw [c6]; omega))), ?_, ?_⟩
          · rw [eC]; exact frP_tr (frP_tr (frP_of g2) (frP_wr (by omega))) (frP_wr (by omega))
          · intro D' hD h6 h7 h11 h12 hf k2 k3
            obtain ⟨A, eA, a13, a14, a15, a11, a12, a8, a7, aQ, a150⟩ := turn_A h6 h60 h11 h12 hf hr c t1
            obtain ⟨E1, x1, x2, x3⟩ := g4 A (RG_D hD a150)
            have em := ml_move (P := P) (d := d) (k2 := k2) (k3 := k3) (v := v1) (E := E1) h7 c h6 h60 h11 (by rw [← eA, a13]; exact t5) (by rw [← eA, a13]; exact x1)
            obtain ⟨E, eE⟩ : ∃ E, E = wr E1 149 7 v1 := ⟨_, rfl⟩
            have q7 : E 149 7 = v1 := by rw [eE, wr_at]
            have q8 : E 149 8 = (p : Int) := by rw [eE, wr_ne (by omega), x3 149 8 (by omega) (by omega) (by omega), a8]
            rw [if_pos cv, ad_d0 hd0 (by omega), ← eE, ml_no (by omega)] at em
            refine ⟨E, _, _, em, ?_, ?_, by rw [q7, c6], fun _ => by rw [q8, c7]⟩
            · refine RG_cast x2 (fun a b y z => ?_) (fun b => ?_)
              · rw [eC, wr_ne (by omega), wr_ne (by omega)]
              · rw [eE, wr_ne (by omega)]
            · rw [eE]; exact frQ_tr (frQ_tr aQ (frQ_of x3)) (frQ_wr (by omega))
        · -- the move is done
          rw [if_neg cv, ad_d1 hd0 (by omega)] at e1
          obtain ⟨E0, y1, y2, y3⟩ := g4 D hG
          have l1 : ∀ j, j < L → C1 143 j = f j := fun j hj => by rw [g2 143 j (by omega)]; exact hl j hj
          have z1 : C1 0 6 = 0 := by rw [g2 0 6 (by omega)]; exact h0
          have hlt : f (p + 1) = 116 ∨ f (p + 1) = 110 ∨ f (p + 1) = 108 := by
            rcases t7 with ⟨x, -⟩ | ⟨x, -⟩ <;> omega
          obtain ⟨st, est⟩ : ∃ st, st = sb (rg C1 143 60 ((p + 1 + 1 : Nat) : Int)) 48 := ⟨_, rfl⟩
          have hst : f (p + 1) = 108 → st = f (p + 2) - 48 := by
            intro h8
            rcases t7 with ⟨x, -⟩ | ⟨-, x1, x2, x3, -⟩
            · omega
            · rw [est, rg_n (by omega), l1 (p + 1 + 1) (by omega), sb_eq (by show -2147483648 ≤ f (p + 2) - 48; omega) (by show f (p + 2) - 48 ≤ 2147483647; omega)]
          obtain ⟨v2, C2, b1, b2, b3, b4⟩ := G_deed2 y2 P hlt st
          have e2 := cl_deed (d := d + 1) (l4 := I (C 143 p)) (l5 := I v1) (P := P) (v := v2) (C' := C2) z1 t6 h60 (by rw [l1 (p + 1) t6]; exact hlt) (by rw [← est, l1 (p + 1) t6]; exact b1)
          -- the reference's run of the same
          have ref : ∀ D', RG C D' → D' 149 6 = (L : Int) → D' 149 7 = 0 → D' 149 11 = (p : Int) → D' 149 12 = 1 → D' 153 = f → ∀ k2 k3 : AV, ∃ E2, evL 159 26 [Rf 149, I d, k2, k3] [] (Hp D' P) = (if v2 < 10 then evL 159 26 [Rf 149, I (d + 1), I v1, I v2] [] (Hp (wr E2 149 7 v2) P) else evL 159 26 [Rf 149, I (d + 2), I v1, I v2] [] (Hp (wr E2 149 7 0) P)) ∧ RG C2 E2 ∧ frQ D' E2 ∧ E2 149 8 = ((p + 1 : Nat) : Int) ∧ E2 149 11 = (tnS f L p : Int) ∧ E2 149 12 = 1 := by
            intro D' hD h6 h7 h11 h12 hf k2 k3
            obtain ⟨A, eA, a13, a14, a15, a11, a12, a8, a7, aQ, a150⟩ := turn_A h6 h60 h11 h12 hf hr c t1
            obtain ⟨E1, x1, x2, x3⟩ := g4 A (RG_D hD a150)
            have em := ml_move (P := P) (d := d) (k2 := k2) (k3 := k3) (v := v1) (E := E1) h7 c h6 h60 h11 (by rw [← eA, a13]; exact t5) (by rw [← eA, a13]; exact x1)
            rw [if_neg cv, ad_d1 hd0 (by omega)] at em
            obtain ⟨D2, eD2⟩ : ∃ D2, D2 = wr E1 149 7 0 := ⟨_, rfl⟩
            have q7 : D2 149 7 = 0 := by rw [eD2, wr_at]
            have q8 : D2 149 8 = (p : Int) := by rw [eD2, wr_ne (by omega), x3 149 8 (by omega) (by omega) (by omega), a8]
            obtain ⟨D3, eD3⟩ : ∃ D3, D3 = wr D2 149 8 ((p + 1 : Nat) : Int) := ⟨_, rfl⟩
            have d3 : ∀ b, b ≠ 7 → b ≠ 8 → b ≠ 10 → D3 149 b = A 149 b := fun b y1 y2 y3 => by rw [eD3, wr_ne (by omega), eD2, wr_ne (by omega), x3 149 b (by omega) (by omega) (by omega)]
            have hD3 : RG C1 D3 := RG_D x2 (fun b => by rw [eD3, wr_ne (by omega), eD2, wr_ne (by omega)])
            obtain ⟨E2, r1, r2, r3⟩ := b4 D3 hD3 (by rw [d3 14 (by omega) (by omega) (by omega), a14, gl_in t6]) (fun h8 => by
              rcases t7 with ⟨x, -⟩ | ⟨-, w1, -⟩
              · omega
              · rw [d3 15 (by omega) (by omega) (by omega), a15, gl_in w1, hst h8])
            have ed := ml_deed (P := P) (d := d + 1) (k2 := I v1) (k3 := k3) (v := v2) (E := E2) q7 q8 (by omega) (by rw [← eD3]; exact r1)
            rw [← eD2, ed, ad_d0 (d := d + 1) (by omega) (by omega), ad_d1 (d := d + 1) (by omega) (by omega)] at em
            refine ⟨E2, ?_, r2, ?_, ?_, ?_, ?_⟩
            · rw [em, show d + 1 + 1 = d + 2 by omega]
            · refine frQ_tr (frQ_tr aQ (frQ_of x3)) (frQ_tr ?_ (frQ_of r3))
              rw [eD3, eD2]
              exact frQ_tr (frQ_wr (by omega)) (frQ_wr (by omega))
            · rw [r3 149 8 (by omega) (by omega) (by omega), eD3, wr_at]
            · rw [r3 149 11 (by omega) (by omega) (by omega), d3 11 (by omega) (by omega) (by omega), a11]
            · rw [r3 149 12 (by omega) (by omega) (by omega), d3 12 (by omega) (by omega) (by omega), a12]
          by_cases cw : v2 < 10
          · -- the deed is refused
            rw [if_pos cw] at e2
            obtain ⟨C', eC⟩ : ∃ C', C' = wr (wr C2 0 6 v2) 0 7 ((p + 1 : Nat) : Int) := ⟨_, rfl⟩
            have c6 : C' 0 6 = v2 := by rw [eC, wr_ne (by omega), wr_at]
            have c7 : C' 0 7 = ((p + 1 : Nat) : Int) := by rw [eC, wr_at]
            rw [← eC] at e2
            refine ⟨C', d + 1, _, _, _, e1.trans (e2.trans (cl_stop (C := C') (p := p + 1 + 1) (Or.inl (by rw [c6]; omega)))), ?_, ?_⟩
            · rw [eC]; exact frP_tr (frP_tr (frP_tr (frP_of g2) (frP_of b2)) (frP_wr (by omega))) (frP_wr (by omega))
            · intro D' hD h6 h7 h11 h12 hf k2 k3
              obtain ⟨E2, r1, r2, r3, r4, r5, r6⟩ := ref D' hD h6 h7 h11 h12 hf k2 k3
              obtain ⟨E, eE⟩ : ∃ E, E = wr E2 149 7 v2 := ⟨_, rfl⟩
              have q7 : E 149 7 = v2 := by rw [eE, wr_at]
              have q8 : E 149 8 = ((p + 1 : Nat) : Int) := by rw [eE, wr_ne (by omega), r4]
              rw [if_pos cw, ← eE] at r1
              refine ⟨E, _, _, r1.trans (ml_stop (D := E) (Or.inl (by rw [q7]; omega))), ?_, ?_, by rw [q7, c6], fun _ => by rw [q8, c7]⟩
              · refine RG_cast r2 (fun a b y z => ?_) (fun b => ?_)
                · rw [eC, wr_ne (by omega), wr_ne (by omega)]
                · rw [eE, wr_ne (by omega)]
              · rw [eE]; exact frQ_tr r3 (frQ_wr (by omega))
          · -- the deed is done
            rw [if_neg cw, ad_d1 (d := d + 1) (by omega) (by omega), show d + 1 + 1 = d + 2 by omega] at e2
            obtain ⟨E0', y1', y2', y3'⟩ := b4 (wr (wr E0 149 14 (f (p + 1))) 149 15 st) (RG_D y2 (fun b => by rw [wr_ne (by omega), wr_ne (by omega)])) (by rw [wr_ne (by omega), wr_at]) (fun _ => by rw [wr_at])
            have l2 : ∀ j, j < L → C2 143 j = f j := fun j hj => by rw [b2 143 j (by omega)]; exact l1 j hj
            have z2 : C2 0 6 = 0 := by rw [b2 0 6 (by omega)]; exact z1
            have e3 : ∃ l4' : AV, evL 95 43 [Rf 0, I (d + 2), I (L : Int), I ((p + 1 + 1 : Nat) : Int), I (C1 143 (p + 1)), I v2] [] (Hp C2 P) = evL 95 43 [Rf 0, I (d + 2), I (L : Int), I (tnS f L p : Int), l4', I v2] [] (Hp C2 P) := by
              rcases t7 with ⟨-, w⟩ | ⟨-, w1, w2, w3, w⟩
              · rw [w]; exact ⟨_, rfl⟩
              · rw [w]
                have l22 : C2 143 (p + 1 + 1) = f (p + 2) := l2 _ w1
                exact ⟨_, cl_dig z2 w1 h60 (by rw [l22]; exact w2) (by rw [l22]; exact w3)⟩
            obtain ⟨l4', e3⟩ := e3
            obtain ⟨C', v, l3'', l4'', l5'', i1, i2, i3⟩ := ih (L - tnS f L p) (by omega) (tnS f L p) (by omega) (by rw [← t8]; exact hff) C2 E0' (d + 2) l4' (I v2) y2' l2 z2 (by omega) (by omega)
            refine ⟨C', v, l3'', l4'', l5'', e1.trans (e2.trans (e3.trans i1)), frP_tr (frP_tr (frP_of g2) (frP_of b2)) i2, ?_⟩
            intro D' hD h6 h7 h11 h12 hf k2 k3
            obtain ⟨E2, r1, r2, r3, r4, r5, r6⟩ := ref D' hD h6 h7 h11 h12 hf k2 k3
            rw [if_neg cw] at r1
            obtain ⟨D4, eD4⟩ : ∃ D4, D4 = wr E2 149 7 0 := ⟨_, rfl⟩
            rw [← eD4] at r1
            have f4 : frQ D' D4 := by rw [eD4]; exact frQ_tr r3 (frQ_wr (by omega))
            obtain ⟨E, k2', k3', j1, j2, j3, j4, j5⟩ := i3 D4 (RG_D r2 (fun b => by rw [eD4, wr_ne (by omega)])) (by rw [f4 149 6 (by omega) (by omega) (by omega)]; exact h6) (by rw [eD4, wr_at]) (by rw [eD4, wr_ne (by omega), r5]) (by rw [eD4, wr_ne (by omega), r6]) (by rw [← hf]; exact funext fun j => f4 153 j (by omega) (by omega) (by omega)) (I v1) (I v2)
            exact ⟨E, k2', k3', r1.trans j1, j2, frQ_tr f4 j3, j4, j5⟩
      · omega
    · refine ⟨C, d, _, _, _, cl_stop (Or.inr (by omega)), frP_rf, ?_⟩
      intro D' hD h6 h7 h11 h12 hf k2 k3
      exact ⟨D', k2, k3, ml_stop (Or.inr (by rw [h6, h11]; omega)), hD, frQ_rf, by rw [h7, h0], fun h => absurd h7 h⟩
end Play2
