section GDeed
variable {C D : Mem} {n sp t : Nat} {hl : Nat → Nat}
theorem nxO_lt {f : Nat → Int} {d0 : Nat} (hd : d0 < n) : ∀ (m x : Nat), x < n → nxO f n d0 m x < n := by
  intro m
  induction m with
  | zero => intro x _; exact hd
  | succ m ih =>
    intro x hx
    have hy : (x + 1) % n < n := Nat.mod_lt _ (by omega)
    rw [nxO, nx_mod hx]
    by_cases c : f ((x + 1) % n) = 1
    · rw [if_pos c]; exact ih _ hy
    · rw [if_neg c]; exact hy
theorem nxO_out {f : Nat → Int} {d0 : Nat} : ∀ (m x : Nat), x < n → (∃ i, 1 ≤ i ∧ i ≤ m ∧ f ((x + i) % n) ≠ 1) → f (nxO f n d0 m x) ≠ 1 := by
  intro m
  induction m with
  | zero => rintro x _ ⟨i, i1, i2, _⟩; omega
  | succ m ih =>
    rintro x hx ⟨i, i1, i2, i3⟩
    have hy : (x + 1) % n < n := Nat.mod_lt _ (by omega)
    rw [nxO, nx_mod hx]
    by_cases c1 : f ((x + 1) % n) = 1
    · rw [if_pos c1]
      have hi : i ≠ 1 := by rintro rfl; exact i3 c1
      exact ih _ hy ⟨i - 1, by omega, by omega, by
        rw [Nat.mod_add_mod, show x + 1 + (i - 1) = x + i by omega]
        exact i3⟩
    · rw [if_neg c1]; exact c1
theorem nxO_ok {f : Nat → Int} (ht : t < n) (he : ∃ e, e < n ∧ f e ≠ 1) : f (nxO f n t n t) ≠ 1 := by
  obtain ⟨e, e1, e2⟩ := he
  apply nxO_out n t ht
  by_cases h : t < e
  · refine ⟨e - t, by omega, by omega, ?_⟩
    rw [show t + (e - t) = e by omega, Nat.mod_eq_of_lt e1]; exact e2
  · refine ⟨e + n - t, by omega, by omega, ?_⟩
    rw [show t + (e + n - t) = e + n by omega, Nat.add_mod_right, Nat.mod_eq_of_lt e1]; exact e2
theorem erM_fr : frC C (erM C n sp hl) := fun a b x => erM_o (by omega)
theorem tlM_fr : frC C (tlM C n sp t hl) := by
  unfold tlM
  split
  · exact frC_tr (frC_wr (by omega)) erM_fr
  · exact frC_tr (frC_wr (by omega)) (frC_wr (by omega))
theorem enR_fr {x : Nat} (hs : sp ≤ 16) : frD D (enR D C n sp hl x) := by
  intro a b h1 h2 h3
  unfold enR
  rw [wr_app, if_neg (by omega), wr_app, if_neg (by omega), bgR_o (by omega), wr_app, if_neg (by omega)]
  unfold enR0 lyX
  rw [if_neg (by omega), if_neg (by omega), clR_o (by omega) hs, skM_o (by omega) (by omega), erX_o (by omega)]
theorem etR_fr {x : Nat} (hs : sp ≤ 16) : frD D (etR D C n sp t hl x) := by
  unfold etR
  split
  · exact enR_fr hs
  · exact frD_tr frD_wr frD_wr
theorem RB_0 (h : RB C D n sp t hl) : RB (wr C 1 6 0) D n sp t hl :=
  RB_cast2 h (fun a b _ _ q => by rw [wr_app, if_neg (by omega)]) (fun _ _ _ => rfl) (by rw [wr_app, if_neg (by omega)]; exact h.tt) h.tn
theorem G_turn (h : RB C D n sp t hl) (hr : 0 ≤ C 1 4 ∧ C 1 4 < 3) {x : Nat} (hx : ∀ e, e < n → lk x e = true) : RG (tlM C n sp t hl) (etR D (wr C 1 6 0) n sp t hl x) := by
  have h0 := RB_0 h
  have hr0 : wr C 1 6 0 1 4 = C 1 4 := by rw [wr_app, if_neg (by omega)]
  have hc : (D 150 4 = 0 ∨ alH (mHo D) n = 1) ↔ (C 1 7 = 0 ∨ sumA (C 11) 4 = C 5 8) := by rw [h.tank, home_eq h]
  unfold tlM etR
  by_cases c : C 1 7 = 0 ∨ sumA (C 11) 4 = C 5 8
  · rw [if_pos c, if_pos (hc.2 c)]
    obtain ⟨v1, v2, v3, v4, v8⟩ := enR_v (D := D) (C := wr C 1 6 0) (n := n) (sp := sp) (hl := hl) (x := x)
    have ht1 : ad (C 1 4) 1 = C 1 4 + 1 := ad_eq (by omega) (by omega)
    have ha := arg_lt (n := n) (f := wr C 1 6 0 7) (n - 1) 1 0 (by have := h.n2; omega) (by have := h.n2; omega) (by omega)
    refine ⟨n, _, _, _, RB_end h0 hx (by rw [hr0]; exact hr), ?_⟩
    have f4 : erM (wr C 1 6 0) n sp hl 1 4 = C 1 4 + 1 := by rw [erM_1, if_pos rfl, hr0, ht1]
    have f6 : erM (wr C 1 6 0) n sp hl 1 6 = 0 := by rw [erM_1, if_neg (by omega), if_neg (by omega), if_neg (by omega), wr_app, if_pos ⟨rfl, rfl⟩]
    rw [h.rd, ht1] at v2 v3
    by_cases c3 : C 1 4 + 1 = 3
    · right
      rw [if_pos c3] at v2 v3
      exact ⟨by rw [f4]; exact c3, v2, v3, f6⟩
    · left
      rw [if_neg c3] at v2 v3
      exact ⟨by rw [f4]; omega, by rw [f4]; omega, v2, by rw [v3, f6], Or.inr ⟨f6, erM_0 (by omega) (by have := h.cN.2; omega)⟩⟩
  · rw [if_neg c, if_neg (fun q => c (hc.1 q))]
    have e11 : (wr C 1 6 0 11 : Nat → Int) = C 11 := funext fun b => by rw [wr_app, if_neg (by omega)]
    rw [e11]
    have hlt := nxO_lt (f := C 11) h.tn n t h.tn
    have hne : alH (mHo D) n ≠ 1 := fun q => c (hc.1 (Or.inr q))
    obtain ⟨e, e1, e2⟩ := alH_no n hne
    have hout := nxO_ok (f := C 11) h.tn ⟨e, e1, by rw [← h.ho e e1]; exact e2⟩
    refine ⟨n, sp, nxO (C 11) n t n t, hl, RB_cast2 h ?_ ?_ ?_ hlt, ?_⟩
    · intro a b _ _ q
      rw [wr_app, if_neg (by omega), wr_app, if_neg (by omega)]
    · intro b q1 q2
      rw [wr_app, if_neg (by omega), wr_app, if_neg (by omega)]
    · rw [wr_app, if_pos ⟨rfl, rfl⟩]
    · left
      refine ⟨?_, ?_, ?_, ?_, ?_⟩
      · rw [wr_app, if_neg (by omega), wr_app, if_neg (by omega)]; exact hr.1
      · rw [wr_app, if_neg (by omega), wr_app, if_neg (by omega)]; exact hr.2
      · rw [wr_app, if_neg (by omega), wr_app, if_pos ⟨rfl, rfl⟩]
      · rw [wr_app, if_pos ⟨rfl, rfl⟩, wr_app, if_neg (by omega), wr_app, if_pos ⟨rfl, rfl⟩]
      · right
        refine ⟨by rw [wr_app, if_neg (by omega), wr_app, if_pos ⟨rfl, rfl⟩], ?_⟩
        rw [wr_app, if_neg (by omega), wr_app, if_neg (by omega)]
        rcases h.h1 _ hlt with q | q
        · exact q
        · exact absurd q hout
/-! reasons -/
theorem rd_left (h : RT C D t) (hr : C 1 4 < 3) : rdR D = if C 1 6 = 0 then 2 else 0 := by
  unfold rdR
  rcases h with ⟨a1, a2, a3, a4, a5⟩ | ⟨a1, _⟩
  · rw [a4]
    rcases a5 with a5 | ⟨a5, _⟩
    · rw [a5]; rfl
    · rw [a5]; rfl
  · omega
theorem rd_right (h : RT C D t) (hr : C 1 4 = 3) : rdR D = 1 := by
  unfold rdR
  rcases h with ⟨a1, a2, a3, a4, a5⟩ | ⟨a1, a2, a3, _⟩
  · omega
  · rw [if_pos a3]
theorem rsD_over {h q : Nat} {lt st : Int} (hr : C 1 4 = 3) : rsD C h q lt st = 1 := by
  unfold rsD
  rw [if_pos (by omega)]
theorem rsD_pos (C : Mem) (h q : Nat) (lt st : Int) : 0 ≤ rsD C h q lt st ∧ rsD C h q lt st ≤ 8 := by
  unfold rsD
  split; omega
  split; omega
  split; omega
  split; omega
  split
  · split; omega; split <;> omega
  · split; omega; split <;> omega
theorem G_cast (h : RB C D n sp t hl) (hT : RT C D t) : ∀ D' : Mem, (∀ b, D' 150 b = D 150 b) → RB C D' n sp t hl ∧ RT C D' t :=
  fun _ ha => ⟨RB_cast h (fun _ _ _ _ => rfl) ha, RT_cast hT (fun _ _ _ _ => rfl) ha⟩
theorem RT_l (hT : RT C D t) (h3 : C 1 4 < 3) : 0 ≤ C 1 4 ∧ C 1 4 < 3 ∧ D 150 2 = (t : Int) ∧ D 150 3 = C 1 6 ∧ (C 1 6 = 1 ∨ (C 1 6 = 0 ∧ C 11 t = 0)) := by
  rcases hT with h | h
  · exact h
  · have := h.1; omega
theorem RT_3 (hT : RT C D t) (h3 : ¬ C 1 4 < 3) : C 1 4 = 3 ∧ D 150 2 = ((0 : Nat) : Int) := by
  rcases hT with h | h
  · have := h.2.1; omega
  · exact ⟨h.1, h.2.1⟩
theorem G_noth (hG : RG C D) (P : PMem) (st : Int) : ∃ (v : Int) (C' : Mem), evM 40 [Rf 1, I 110, I st] (Hp C P) = some (some (I v), Hp C' P) ∧ frC C C' ∧ (0 < v ∧ v < 2000000) ∧ ∀ D' : Mem, (∀ b, D' 150 b = D 150 b) → ∃ E, evM 145 [Rf 149] (Hp D' P) = some (some (I v), Hp E P) ∧ RG C' E ∧ frD D' E := by
  obtain ⟨n, sp, t, hl, h, hT⟩ := hG
  have hD := G_cast h hT
  have hn := h.cN.2
  have htn := h.tn
  have h4 : t < 4 := by omega
  have h16 := h.cS.2
  obtain ⟨q, hqs, hq⟩ := h.pl t htn
  have hh := (h.ch t htn).2
  by_cases c3 : C 1 4 < 3
  · have e2 : rsD C (hl t) q 110 st = if C 1 6 = 0 then 2 else 0 := by
      unfold rsD
      rw [if_neg (by omega), if_pos rfl]
    by_cases c6 : C 1 6 = 0
    · rw [if_pos c6] at e2
      refine ⟨2, _, ?_, frC_wr (j := 1) (b := 9) (v := ad (C 1 9) 1) (by omega), by omega, fun D' ha => ?_⟩
      · have := g_deedNo (M := C) (P := P) h.tt h4 hh hq (by omega) (lt := 110) (st := st) (by rw [e2]; omega)
        rw [e2] at this; exact this
      · obtain ⟨h', hT'⟩ := hD D' ha
        have e1 := rd_left hT' c3
        rw [if_pos c6] at e1
        have := m_nothNo (M := D') (P := P) (by rw [e1]; omega)
        rw [e1] at this
        exact ⟨_, this, ⟨n, sp, t, hl, RB_ref h', RT_ref hT'⟩, frD_wr⟩
    · rw [if_neg c6] at e2
      refine ⟨10, _, g_noth (P := P) h.tt h4 hh hq (by omega) e2 (RB_TOk h), tlM_fr, by omega, fun D' ha => ?_⟩
      obtain ⟨h', hT'⟩ := hD D' ha
      have e1 := rd_left hT' c3
      rw [if_neg c6] at e1
      obtain ⟨a1, a2, a3, a4, a5⟩ := RT_l hT' c3
      obtain ⟨x, x1, x2⟩ := m_goNoth (P := P) e1 a3 htn (RB_EOk (RB_0 h'))
      exact ⟨_, x2, G_turn h' ⟨a1, a2⟩ x1, etR_fr h16⟩
  · obtain ⟨c3', _⟩ := RT_3 hT c3
    refine ⟨1, _, ?_, frC_wr (j := 1) (b := 9) (v := ad (C 1 9) 1) (by omega), by omega, fun D' ha => ?_⟩
    · have := g_deedNo (M := C) (P := P) h.tt h4 hh hq (by omega) (lt := 110) (st := st) (by rw [rsD_over c3']; omega)
      rw [rsD_over c3'] at this; exact this
    · obtain ⟨h', hT'⟩ := hD D' ha
      have e1 := rd_right hT' c3'
      have := m_nothNo (M := D') (P := P) (by rw [e1]; omega)
      rw [e1] at this
      exact ⟨_, this, ⟨n, sp, t, hl, RB_ref h', RT_ref hT'⟩, frD_wr⟩
end GDeed
