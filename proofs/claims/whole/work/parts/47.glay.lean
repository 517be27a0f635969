section GLay
variable {C D : Mem} {n sp t : Nat} {hl : Nat → Nat}
theorem lyM_fr {k q i : Nat} : frC C (lyM C t k q i) := by
  intro a b x
  unfold lyM shP
  rw [wr_app, if_neg (by omega), wr_app, if_neg (by omega), if_neg (by omega)]
theorem lyR_fr {k q i : Nat} : frD D (lyR D t k q i) := by
  intro a b x y z
  unfold lyR shR
  rw [wr_app, if_neg (by omega), wr_app, if_neg (by omega), if_neg (by omega), wr_app, if_neg (by omega)]
theorem RB_lay (h : RB C D n sp t hl) {q k i : Nat} (hq : C 7 t = (q : Int)) (hq1 : 1 ≤ q) (hqs : q ≤ sp) (hk : hl t = k + 1) (hi : i ≤ k) (hb : C 4 q = 0) : RB (lyM C t k q i) (lyR D t k q i) n sp t (hlS hl t k) := by
  have htn := h.tn
  have hn := h.cN.2
  have h16 := h.cS.2
  have hk6 := (h.ch t htn).1
  have cC (a b : Nat) (x : (a ≠ 15 ∨ b < 6 * t ∨ 6 * t + k ≤ b) ∧ (a ≠ 13 ∨ b ≠ t) ∧ (a ≠ 4 ∨ b ≠ q)) : lyM C t k q i a b = C a b := by
    unfold lyM shP
    rw [wr_app, if_neg (by omega), wr_app, if_neg (by omega), if_neg (by omega)]
  have cf (a : Nat) (x : a ≠ 15 ∧ a ≠ 13 ∧ a ≠ 4) : lyM C t k q i a = C a := funext fun b => cC a b (by omega)
  have c15 (j : Nat) (hj : j < k) : lyM C t k q i 15 (6 * t + j) = if i ≤ j then C 15 (6 * t + (j + 1)) else C 15 (6 * t + j) := by
    unfold lyM shP
    rw [wr_app, if_neg (by omega), wr_app, if_neg (by omega)]
    by_cases c : i ≤ j
    · rw [if_pos c, if_pos (by omega)]; rfl
    · rw [if_neg c, if_neg (by omega)]
  have c13 : lyM C t k q i 13 t = (k : Int) := by
    unfold lyM
    rw [wr_app, if_neg (by omega), wr_app, if_pos ⟨rfl, rfl⟩]
  have c4 : lyM C t k q i 4 q = C 15 (6 * t + i) := by
    unfold lyM
    rw [wr_app, if_pos ⟨rfl, rfl⟩]
  have s3 := sl_div (d := t) (w := 3) (by omega)
  have e3 : sl t 3 + 1 = sl t 4 := rfl
  have ej (j : Nat) : sl t (4 + j) = sl t 4 + j := by unfold sl; omega
  have dD (b : Nat) (x : b ≠ 8 + q ∧ b ≠ sl t 3 ∧ (b < sl t 4 ∨ sl t 4 + k < b)) : lyR D t k q i 150 b = D 150 b := by
    unfold lyR shR
    rw [ej, ej, wr_app, if_neg (by omega), wr_app, if_neg (by omega), if_neg (by omega), wr_app, if_neg (by omega)]
  have dS (d w : Nat) (hw : w < 13) (x : d ≠ t ∨ w < 3 ∨ 4 + k < w) : lyR D t k q i 150 (sl d w) = D 150 (sl d w) := by
    have s := sl_div (d := d) (w := w) hw
    apply dD
    unfold sl at *
    omega
  have d3 : lyR D t k q i 150 (sl t 3) = (k : Int) := by
    unfold lyR
    rw [wr_app, if_pos ⟨rfl, rfl⟩]
  have d4 (j : Nat) (hj : j < k) : lyR D t k q i 150 (sl t (4 + j)) = if i ≤ j then D 150 (sl t (4 + (j + 1))) else D 150 (sl t (4 + j)) := by
    unfold lyR shR
    rw [ej k, ej i, ej j, ej (j + 1), wr_app, if_neg (by omega), wr_app, if_neg (by omega)]
    by_cases c : i ≤ j
    · rw [if_pos c, if_pos (by omega), wr_app, if_neg (by omega)]; rfl
    · rw [if_neg c, if_neg (by omega), wr_app, if_neg (by omega)]
  have d8 : lyR D t k q i 150 (8 + q) = D 150 (sl t (4 + i)) := by
    unfold lyR shR
    rw [ej k, ej i, wr_app, if_neg (by omega), wr_app, if_neg (by omega), if_neg (by omega), wr_app, if_pos ⟨rfl, rfl⟩]
  have ht : hlS hl t k t = k := by unfold hlS; rw [if_pos rfl]
  have hne (d : Nat) (x : d ≠ t) : hlS hl t k d = hl d := by unfold hlS; rw [if_neg x]
  exact RB.make
    (cN := ⟨by rw [cC 5 8 (by omega)]; exact h.cN.1, hn⟩)
    (mN := ⟨by rw [dD 0 (by omega)]; exact h.mN.1, hn⟩)
    (n2 := h.n2)
    (cS := ⟨by rw [cC 2 1 (by omega)]; exact h.cS.1, h16⟩)
    (mS := ⟨by rw [dD 8 (by omega)]; exact h.mS.1, h16⟩)
    (pa := fun s hs => by
      by_cases c : s + 1 = q
      · have e : 9 + s = 8 + q := by omega
        rw [c, c4, e, d8]
        exact Or.inr (h.ks t htn i (by omega))
      · rw [cC 4 (s + 1) (by omega), dD (9 + s) (by omega)]; exact h.pa s hs)
    (ch := fun d hd => by
      by_cases c : d = t
      · rw [c, ht, c13]; exact ⟨by omega, rfl⟩
      · rw [hne d c, cC 13 d (by omega)]; exact h.ch d hd)
    (mh := fun d hd => by
      by_cases c : d = t
      · rw [c, ht, d3]; exact ⟨by omega, rfl⟩
      · rw [hne d c, dS d 3 (by omega) (Or.inl c)]; exact h.mh d hd)
    (ks := fun d hd j hj => by
      by_cases c : d = t
      · subst c
        rw [ht] at hj
        rw [c15 j hj, d4 j hj]
        by_cases c2 : i ≤ j
        · rw [if_pos c2, if_pos c2]; exact h.ks d hd (j + 1) (by omega)
        · rw [if_neg c2, if_neg c2]; exact h.ks d hd j (by omega)
      · rw [hne d c] at hj
        have := (h.ch d hd).1
        rw [cC 15 (6 * d + j) (by omega), dS d (4 + j) (by omega) (Or.inl c)]; exact h.ks d hd j hj)
    (pl := fun d hd => by rw [cf 7 (by omega)]; exact h.pl d hd)
    (ml := fun d hd => by rw [cf 7 (by omega), dS d 0 (by omega) (by omega)]; exact h.ml d hd)
    (uq := fun d e hd he => by rw [cf 7 (by omega)]; exact h.uq d e hd he)
    (up := fun d hd => by rw [cf 9 (by omega), dS d 1 (by omega) (by omega)]; exact h.up d hd)
    (u1 := fun d hd => by rw [cf 9 (by omega)]; exact h.u1 d hd)
    (ho := fun d hd => by rw [cf 11 (by omega), dS d 2 (by omega) (by omega)]; exact h.ho d hd)
    (h1 := fun d hd => by rw [cf 11 (by omega)]; exact h.h1 d hd)
    (hp := fun d hd => by rw [cf 11 (by omega), cf 7 (by omega)]; exact h.hp d hd)
    (uh := fun d hd => by rw [cf 11 (by omega), cf 7 (by omega), cf 9 (by omega)]; exact h.uh d hd)
    (sc := fun d hd => by rw [cf 17 (by omega), dS d 10 (by omega) (by omega)]; exact h.sc d hd)
    (ow := fun d hd => by rw [cf 19 (by omega), dS d 11 (by omega) (by omega)]; exact h.ow d hd)
    (dr := fun d hd => by rw [cf 21 (by omega), dS d 12 (by omega) (by omega)]; exact h.dr d hd)
    (z := fun d h1 h2 => by rw [cf 11 (by omega), cf 17 (by omega), cf 19 (by omega)]; exact h.z d h1 h2)
    (lot := by rw [cf 1 (by omega), dD 5 (by omega)]; exact h.lot)
    (l1 := by rw [cf 1 (by omega)]; exact h.l1)
    (tank := by rw [cf 1 (by omega), dD 4 (by omega)]; exact h.tank)
    (k1 := by rw [cf 1 (by omega)]; exact h.k1)
    (dice := by rw [cf 1 (by omega), dD 6 (by omega)]; exact h.dice)
    (ref := by rw [cf 1 (by omega), dD 7 (by omega)]; exact h.ref)
    (tt := by rw [cf 1 (by omega)]; exact h.tt)
    (tn := htn)
    (rd := by rw [cf 1 (by omega), dD 1 (by omega)]; exact h.rd)
    (o1 := fun d hd => by rw [cf 19 (by omega)]; exact h.o1 d hd)
    (co := by
      have eq1 : q = (q - 1) + 1 := by omega
      have e1 : sumN (fun s => pcnt (lyM C t k q i 4 (s + 1))) sp = sumN (fun s => pcnt (C 4 (s + 1))) sp + (pcnt (lyM C t k q i 4 (q - 1 + 1)) - pcnt (C 4 (q - 1 + 1))) :=
        sumN_upd (f := fun s => pcnt (C 4 (s + 1))) (g := fun s => pcnt (lyM C t k q i 4 (s + 1))) (k := q - 1) sp (by omega) (fun j hj => by show pcnt (lyM C t k q i 4 (j + 1)) = _; rw [cC 4 (j + 1) (by omega)])
      have e3 : tr1 (lyM C t k q i) (hlS hl t k) t + pcnt (C 15 (6 * t + i)) = tr1 C hl t := by
        unfold tr1
        rw [ht, hk]
        rw [← sumN_del (f := fun j => pcnt (C 15 (6 * t + j))) (i := i) k hi]
        congr 1
        apply sumN_congr
        intro j hj
        rw [c15 j hj]
        by_cases c : i ≤ j
        · rw [if_pos c, if_pos c]
        · rw [if_neg c, if_neg c]
      have e4 : sumN (tr1 (lyM C t k q i) (hlS hl t k)) n + pcnt (C 15 (6 * t + i)) = sumN (tr1 C hl) n := by
        have e5 : sumN (tr1 (lyM C t k q i) (hlS hl t k)) n = sumN (fun d => if d = t then tr1 C hl t - pcnt (C 15 (6 * t + i)) else tr1 C hl d) n := by
          apply sumN_congr
          intro d hd
          by_cases c : d = t
          · rw [if_pos c, c]; omega
          · rw [if_neg c]
            unfold tr1
            rw [hne d c]
            apply sumN_congr
            intro j hj
            have := (h.ch d hd).1
            rw [cC 15 (6 * d + j) (by omega)]
        rw [e5, sumN_upd (f := tr1 C hl) (k := t) n htn (fun j hj => by rw [if_neg hj]), if_pos rfl]
        omega
      have co := h.co
      rw [e1, cf 19 (by omega), ← eq1, c4, hb]
      have : pcnt 0 = 0 := rfl
      omega)
theorem G_lay (hG : RG C D) (P : PMem) (st : Int) : ∃ (v : Int) (C' : Mem), evM 40 [Rf 1, I 108, I st] (Hp C P) = some (some (I v), Hp C' P) ∧ frC C C' ∧ (0 < v ∧ v < 2000000) ∧ ∀ D' : Mem, (∀ b, D' 150 b = D 150 b) → ∃ E, evM 144 [Rf 149, I st] (Hp D' P) = some (some (I v), Hp E P) ∧ RG C' E ∧ frD D' E := by
  obtain ⟨n, sp, t, hl, h, hT⟩ := hG
  have hD := G_cast h hT
  have hn := h.cN.2
  have htn := h.tn
  have h4 : t < 4 := by omega
  have h16 := h.cS.2
  obtain ⟨q, hqs, hq⟩ := h.pl t htn
  have hh := (h.ch t htn).2
  have hh6 := (h.ch t htn).1
  by_cases c3 : C 1 4 < 3
  · have hDq : ∀ D : Mem, RB C D n sp t hl → D 150 (sl t 0) = (q : Int) := fun D h => by rw [h.ml t htn]; exact hq
    have e2 : ∀ D : Mem, RB C D n sp t hl → RT C D t → rsD C (hl t) q 108 st = rlR D (hl t) q st := by
      intro D h hT
      have e1 := rd_left hT c3
      have hB0 : q ≠ 0 → (C 4 q = 0 ↔ mAt D q ≤ 0) := by
        intro hq0
        have hB := h.pa (q - 1) (by omega)
        rw [show q - 1 + 1 = q by omega, show 9 + (q - 1) = 8 + q by omega] at hB
        have : mAt D q = D 150 (8 + q) := by unfold mAt; rw [if_neg hq0]
        rw [this]
        have b0 := encB_0 hB
        have bc := encB_c hB
        omega
      unfold rlR
      rw [e1]
      unfold rsD
      rw [if_neg (by omega)]
      by_cases c6 : C 1 6 = 0
      · rw [if_pos c6, if_pos c6, if_neg (show ¬ (2 : Int) ≤ 0 by omega)]
      · rw [if_neg c6, if_neg c6, if_neg (show ¬ (108 : Int) = 110 by omega), if_pos (show (0 : Int) ≤ 0 by omega)]
        by_cases cq : q = 0
        · rw [if_pos cq, if_pos (show (q : Int) = 0 by omega)]
        · rw [if_neg cq, if_neg (show ¬ (q : Int) = 0 by omega), if_neg (show ¬ (108 : Int) = 116 by omega)]
          by_cases cs : st < 0 ∨ (hl t : Int) ≤ st
          · rw [if_pos cs, if_neg (show ¬ (0 ≤ st ∧ st < (hl t : Int)) by omega)]
          · rw [if_neg cs, if_pos (show 0 ≤ st ∧ st < (hl t : Int) by omega)]
            by_cases cb : C 4 q = 0
            · rw [if_pos cb, if_pos ((hB0 cq).1 cb)]
            · rw [if_neg cb, if_neg (fun z => cb ((hB0 cq).2 z))]
    by_cases c0 : rsD C (hl t) q 108 st = 0
    · have hall : q ≠ 0 ∧ ¬ (st < 0 ∨ (hl t : Int) ≤ st) ∧ C 4 q = 0 := by
        unfold rsD at c0
        rw [if_neg (by omega)] at c0
        by_cases c6 : C 1 6 = 0
        · rw [if_pos c6] at c0; omega
        · rw [if_neg c6, if_neg (show ¬ (108 : Int) = 110 by omega)] at c0
          by_cases cq : q = 0
          · rw [if_pos cq] at c0; omega
          · rw [if_neg cq, if_neg (show ¬ (108 : Int) = 116 by omega)] at c0
            by_cases cs : st < 0 ∨ (hl t : Int) ≤ st
            · rw [if_pos cs] at c0; omega
            · rw [if_neg cs] at c0
              by_cases cb : C 4 q = 0
              · exact ⟨cq, cs, cb⟩
              · rw [if_neg cb] at c0; omega
      obtain ⟨hq0, hst, hb⟩ := hall
      obtain ⟨i, ei⟩ : ∃ i : Nat, st = (i : Int) := ⟨st.toNat, by omega⟩
      obtain ⟨k, ek⟩ : ∃ k : Nat, hl t = k + 1 := ⟨hl t - 1, by omega⟩
      subst ei
      have hi : i ≤ k := by omega
      have r14 : lyM C t k q i 1 4 = C 1 4 := by
        unfold lyM shP
        rw [wr_app, if_neg (by omega), wr_app, if_neg (by omega), if_neg (by omega)]
      have c0' := c0
      rw [ek] at c0 hh
      refine ⟨10 + (k : Int), _, g_lay (P := P) h.tt h4 hh (by omega) hi hq (by omega) c0 (RB_TOk (RB_lay h hq (by omega) hqs ek hi hb)), frC_tr lyM_fr tlM_fr, by omega, fun D' ha => ?_⟩
      obtain ⟨h', hT'⟩ := hD D' ha
      obtain ⟨a1, a2, a3, a4, a5⟩ := RT_l hT' c3
      have hR := RB_lay h' hq (by omega) hqs ek hi hb
      have e2' := e2 D' h' hT'
      rw [ek] at e2'
      obtain ⟨x, x1, x2⟩ := m_goLay (P := P) a3 htn hn (by rw [(h'.mh t htn).2, ek]) (by omega) hi (hDq D' h') (by omega) (by omega) (by rw [← e2']; exact c0) (RB_EOk (RB_0 hR))
      refine ⟨_, ?_, G_turn hR (by rw [r14]; exact ⟨a1, a2⟩) x1, frD_tr lyR_fr (etR_fr h16)⟩
      rw [x2]
      push_cast
      rfl
    · have hp := rsD_pos C (hl t) q 108 st
      refine ⟨rsD C (hl t) q 108 st, _, g_deedNo (P := P) h.tt h4 hh hq (by omega) c0, frC_wr (by omega), by omega, fun D' ha => ?_⟩
      obtain ⟨h', hT'⟩ := hD D' ha
      obtain ⟨a1, a2, a3, a4, a5⟩ := RT_l hT' c3
      have := m_layNo (M := D') (P := P) a3 h4 (h'.mh t htn).2 hh6 (hDq D' h') (by omega) (by rw [← e2 D' h' hT']; exact c0)
      rw [← e2 D' h' hT'] at this
      exact ⟨_, this, ⟨n, sp, t, hl, RB_ref h', RT_ref hT'⟩, frD_wr⟩
  · obtain ⟨c3', _⟩ := RT_3 hT c3
    have h0n : 0 < n := by omega
    obtain ⟨q0, hqs0, hq0⟩ := h.pl 0 h0n
    refine ⟨1, _, ?_, frC_wr (j := 1) (b := 9) (v := ad (C 1 9) 1) (by omega), by omega, fun D' ha => ?_⟩
    · have := g_deedNo (M := C) (P := P) h.tt h4 hh hq (by omega) (lt := 108) (st := st) (by rw [rsD_over c3']; omega)
      rw [rsD_over c3'] at this; exact this
    · obtain ⟨h', hT'⟩ := hD D' ha
      have e1 := rd_right hT' c3'
      obtain ⟨_, hD2⟩ := RT_3 hT' c3
      have er : rlR D' (hl 0) q0 st = 1 := by unfold rlR; rw [e1, if_neg (by omega)]
      have := m_layNo (M := D') (P := P) hD2 (by omega) (h'.mh 0 h0n).2 (h'.mh 0 h0n).1 (by rw [h'.ml 0 h0n]; exact hq0) (by omega) (st := st) (by rw [er]; omega)
      rw [er] at this
      exact ⟨_, this, ⟨n, sp, t, hl, RB_ref h', RT_ref hT'⟩, frD_wr⟩
end GLay
