section GTake
variable {C D : Mem} {n sp t : Nat} {hl : Nat → Nat}
theorem sumN_upd {f g : Nat → Int} {k : Nat} : ∀ n : Nat, k < n → (∀ i, i ≠ k → g i = f i) → sumN g n = sumN f n + (g k - f k) := by
  intro n
  induction n with
  | zero => intro h; omega
  | succ n ih =>
    intro hk h
    simp only [sumN]
    by_cases e : k = n
    · subst e
      rw [sumN_congr (f := g) (g := f) k (fun i hi => h i (by omega))]
      omega
    · rw [ih (by omega) h, h n (fun q => e q.symm)]
      omega
theorem sumN_del {f : Nat → Int} {i : Nat} : ∀ k : Nat, i ≤ k → sumN (fun j => if i ≤ j then f (j + 1) else f j) k + f i = sumN f (k + 1) := by
  intro k
  induction k with
  | zero =>
    intro h
    have : i = 0 := by omega
    subst this
    simp [sumN]
  | succ k ih =>
    intro h
    by_cases e : i = k + 1
    · subst e
      rw [sumN_congr (f := fun j => if k + 1 ≤ j then f (j + 1) else f j) (g := f) (k + 1) (fun j hj => by show (if k + 1 ≤ j then _ else _) = _; rw [if_neg (by omega)])]
      rfl
    · have := ih (by omega)
      simp only [sumN] at this ⊢
      rw [if_pos (by omega)]
      omega
def hlS (hl : Nat → Nat) (t k : Nat) : Nat → Nat := fun d => if d = t then k else hl d
theorem RB_take (h : RB C D n sp t hl) {q : Nat} (hq : C 7 t = (q : Int)) (hq1 : 1 ≤ q) (hqs : q ≤ sp) (h6 : hl t < 6) (hb : C 4 q ≠ 0) : RB (tkM C t (hl t) q) (tkR D t (hl t) q) n sp t (hlS hl t (hl t + 1)) := by
  have htn := h.tn
  have hn := h.cN.2
  have h16 := h.cS.2
  have eq1 : q = (q - 1) + 1 := by omega
  have hB := h.pa (q - 1) (by omega)
  rw [← eq1] at hB
  have hS : encS (C 4 q) (D 150 (9 + (q - 1))) := encB_S hB (fun z => hb ((encB_0 hB).2 z))
  have hat : mAt D q = D 150 (9 + (q - 1)) := by unfold mAt; rw [if_neg (by omega), show 8 + q = 9 + (q - 1) by omega]
  have cC (a b : Nat) (x : (a ≠ 15 ∨ b ≠ 6 * t + hl t) ∧ (a ≠ 13 ∨ b ≠ t) ∧ (a ≠ 4 ∨ b ≠ q)) : tkM C t (hl t) q a b = C a b := by
    unfold tkM
    rw [wr_app, if_neg (by omega), wr_app, if_neg (by omega), wr_app, if_neg (by omega)]
  have cf (a : Nat) (x : a ≠ 15 ∧ a ≠ 13 ∧ a ≠ 4) : tkM C t (hl t) q a = C a := funext fun b => cC a b (by omega)
  have s3 := sl_div (d := t) (w := 3) (by omega)
  have s4 := sl_div (d := t) (w := 4 + hl t) (by omega)
  have dD (b : Nat) (x : b ≠ sl t (4 + hl t) ∧ b ≠ sl t 3 ∧ b ≠ 8 + q) : tkR D t (hl t) q 150 b = D 150 b := by
    unfold tkR
    rw [wr_app, if_neg (by omega), wr_app, if_neg (by omega), wr_app, if_neg (by omega)]
  have dS (d w : Nat) (hw : w < 13) (x : d ≠ t ∨ (w ≠ 3 ∧ w ≠ 4 + hl t)) : tkR D t (hl t) q 150 (sl d w) = D 150 (sl d w) := by
    have s := sl_div (d := d) (w := w) hw
    exact dD _ ⟨fun z => by have := sl_inj hw (by omega) z; omega, fun z => by have := sl_inj hw (by omega) z; omega, by omega⟩
  have d3 : tkR D t (hl t) q 150 (sl t 3) = ((hl t + 1 : Nat) : Int) := by
    unfold tkR
    rw [wr_app, if_neg (by omega), wr_app, if_pos ⟨rfl, rfl⟩]
  have d4 : tkR D t (hl t) q 150 (sl t (4 + hl t)) = mAt D q := by
    have ne : sl t (4 + hl t) ≠ sl t 3 := fun z => by have := sl_inj (by omega) (by omega) z; omega
    unfold tkR
    rw [wr_app, if_neg (by omega), wr_app, if_neg (by omega), wr_app, if_pos ⟨rfl, rfl⟩]
  have c15 : tkM C t (hl t) q 15 (6 * t + hl t) = C 4 q := by
    unfold tkM
    rw [wr_app, if_neg (by omega), wr_app, if_neg (by omega), wr_app, if_pos ⟨rfl, rfl⟩]
  have c13 : tkM C t (hl t) q 13 t = ((hl t + 1 : Nat) : Int) := by
    unfold tkM
    rw [wr_app, if_neg (by omega), wr_app, if_pos ⟨rfl, rfl⟩]
  have c4 : tkM C t (hl t) q 4 q = 0 := by
    unfold tkM
    rw [wr_app, if_pos ⟨rfl, rfl⟩]
  have d8 : tkR D t (hl t) q 150 (8 + q) = 0 := by
    unfold tkR
    rw [wr_app, if_pos ⟨rfl, rfl⟩]
  have ht : hlS hl t (hl t + 1) t = hl t + 1 := by unfold hlS; rw [if_pos rfl]
  have hne (d : Nat) (x : d ≠ t) : hlS hl t (hl t + 1) d = hl d := by unfold hlS; rw [if_neg x]
  exact RB.make
    (cN := ⟨by rw [cC 5 8 (by omega)]; exact h.cN.1, hn⟩)
    (mN := ⟨by rw [dD 0 (by omega)]; exact h.mN.1, hn⟩)
    (n2 := h.n2)
    (cS := ⟨by rw [cC 2 1 (by omega)]; exact h.cS.1, h16⟩)
    (mS := ⟨by rw [dD 8 (by omega)]; exact h.mS.1, h16⟩)
    (pa := fun s hs => by
      by_cases c : s + 1 = q
      · have e : 9 + s = 8 + q := by omega
        rw [c, c4, e, d8]
        exact Or.inl ⟨rfl, rfl⟩
      · rw [cC 4 (s + 1) (by omega), dD (9 + s) (by omega)]; exact h.pa s hs)
    (ch := fun d hd => by
      by_cases c : d = t
      · rw [c, ht, c13]; exact ⟨by omega, rfl⟩
      · rw [hne d c, cC 13 d (by omega)]; exact h.ch d hd)
    (mh := fun d hd => by
      by_cases c : d = t
      · rw [c, ht, d3]; exact ⟨by omega, rfl⟩
      · rw [hne d c, dS d 3 (by omega) (Or.inl c)]; exact h.mh d hd)
    (ks := fun d hd i hi => by
      by_cases c : d = t
      · subst c
        rw [ht] at hi
        by_cases c2 : i = hl d
        · rw [c2, c15, d4, hat]; exact hS
        · rw [cC 15 (6 * d + i) (by omega), dS d (4 + i) (by omega) (by omega)]; exact h.ks d hd i (by omega)
      · rw [hne d c] at hi
        have := (h.ch d hd).1
        rw [cC 15 (6 * d + i) (by omega), dS d (4 + i) (by omega) (Or.inl c)]; exact h.ks d hd i hi)
    (pl := fun d hd => by rw [cf 7 (by omega)]; exact h.pl d hd)
    (ml := fun d hd => by rw [cf 7 (by omega), dS d 0 (by omega) (by omega)]; exact h.ml d hd)
    (uq := fun d e hd he => by rw [cf 7 (by omega)]; exact h.uq d e hd he)
    (up := fun d hd => by rw [cf 9 (by omega), dS d 1 (by omega) (by omega)]; exact h.up d hd)
    (u1 := fun d hd => by rw [cf 9 (by omega)]; exact h.u1 d hd)
    (ho := fun d hd => by rw [cf 11 (by omega), dS d 2 (by omega) (by omega)]; exact h.ho d hd)
    (h1 := fun d hd => by rw [cf 11 (by omega)]; exact h.h1 d hd)
    (hp := fun d hd => by rw [cf 11 (by omega), cf 7 (by omega)]; exact h.hp d hd)
    (uh := fun d hd => by rw [cf 11 (by omega), cf 7 (by omega), cf 9 (by omega)]; exact h.uh d hd)
    (sc := fun d hd => by rw [cf 17 (by omega), dS d 10 (by omega) (by omega)]; exact h.sc d hd)
    (ow := fun d hd => by rw [cf 19 (by omega), dS d 11 (by omega) (by omega)]; exact h.ow d hd)
    (dr := fun d hd => by rw [cf 21 (by omega), dS d 12 (by omega) (by omega)]; exact h.dr d hd)
    (z := fun d h1 h2 => by rw [cf 11 (by omega), cf 17 (by omega), cf 19 (by omega)]; exact h.z d h1 h2)
    (lot := by rw [cf 1 (by omega), dD 5 (by omega)]; exact h.lot)
    (l1 := by rw [cf 1 (by omega)]; exact h.l1)
    (tank := by rw [cf 1 (by omega), dD 4 (by omega)]; exact h.tank)
    (k1 := by rw [cf 1 (by omega)]; exact h.k1)
    (dice := by rw [cf 1 (by omega), dD 6 (by omega)]; exact h.dice)
    (ref := by rw [cf 1 (by omega), dD 7 (by omega)]; exact h.ref)
    (tt := by rw [cf 1 (by omega)]; exact h.tt)
    (tn := htn)
    (rd := by rw [cf 1 (by omega), dD 1 (by omega)]; exact h.rd)
    (o1 := fun d hd => by rw [cf 19 (by omega)]; exact h.o1 d hd)
    (co := by
      have e1 : sumN (fun s => pcnt (tkM C t (hl t) q 4 (s + 1))) sp = sumN (fun s => pcnt (C 4 (s + 1))) sp + (pcnt (tkM C t (hl t) q 4 (q - 1 + 1)) - pcnt (C 4 (q - 1 + 1))) :=
        sumN_upd (f := fun s => pcnt (C 4 (s + 1))) (g := fun s => pcnt (tkM C t (hl t) q 4 (s + 1))) (k := q - 1) sp (by omega) (fun i hi => by show pcnt (tkM C t (hl t) q 4 (i + 1)) = _; rw [cC 4 (i + 1) (by omega)])
      have e2 : ∀ d, d ≠ t → tr1 (tkM C t (hl t) q) (hlS hl t (hl t + 1)) d = tr1 C hl d ∨ n ≤ d := by
        intro d hd
        by_cases hdn : n ≤ d
        · exact Or.inr hdn
        · left
          unfold tr1
          rw [hne d hd]
          apply sumN_congr
          intro i hi
          have := (h.ch d (by omega)).1
          rw [cC 15 (6 * d + i) (by omega)]
      have e3 : tr1 (tkM C t (hl t) q) (hlS hl t (hl t + 1)) t = tr1 C hl t + pcnt (C 4 q) := by
        unfold tr1
        rw [ht]
        simp only [sumN]
        rw [c15, sumN_congr (f := fun i => pcnt (tkM C t (hl t) q 15 (6 * t + i))) (g := fun i => pcnt (C 15 (6 * t + i))) (hl t) (fun i hi => by show pcnt (tkM C t (hl t) q 15 (6 * t + i)) = _; rw [cC 15 (6 * t + i) (by omega)])]
      have e4 : sumN (tr1 (tkM C t (hl t) q) (hlS hl t (hl t + 1))) n = sumN (tr1 C hl) n + pcnt (C 4 q) := by
        have e5 : sumN (tr1 (tkM C t (hl t) q) (hlS hl t (hl t + 1))) n = sumN (fun d => if d = t then tr1 C hl t + pcnt (C 4 q) else tr1 C hl d) n := by
          apply sumN_congr
          intro d hd
          by_cases c : d = t
          · rw [if_pos c, c, e3]
          · rw [if_neg c]
            rcases e2 d c with z | z
            · exact z
            · omega
        rw [e5, sumN_upd (f := tr1 C hl) (k := t) n htn (fun i hi => by rw [if_neg hi]), if_pos rfl]
        omega
      have co := h.co
      rw [e1, e4, cf 19 (by omega), ← eq1, c4]
      have : pcnt 0 = 0 := rfl
      omega)
theorem tkM_fr {h q : Nat} : frC C (tkM C t h q) := frC_tr (frC_tr (frC_wr (by omega)) (frC_wr (by omega))) (frC_wr (by omega))
theorem tkR_fr {h q : Nat} : frD D (tkR D t h q) := frD_tr (frD_tr frD_wr frD_wr) frD_wr
theorem G_take (hG : RG C D) (P : PMem) (st : Int) : ∃ (v : Int) (C' : Mem), evM 40 [Rf 1, I 116, I st] (Hp C P) = some (some (I v), Hp C' P) ∧ frC C C' ∧ (0 < v ∧ v < 2000000) ∧ ∀ D' : Mem, (∀ b, D' 150 b = D 150 b) → ∃ E, evM 143 [Rf 149] (Hp D' P) = some (some (I v), Hp E P) ∧ RG C' E ∧ frD D' E := by
  obtain ⟨n, sp, t, hl, h, hT⟩ := hG
  have hD := G_cast h hT
  have hn := h.cN.2
  have htn := h.tn
  have h4 : t < 4 := by omega
  have h16 := h.cS.2
  obtain ⟨q, hqs, hq⟩ := h.pl t htn
  have hh := (h.ch t htn).2
  have hh6 := (h.ch t htn).1
  by_cases c3 : C 1 4 < 3
  · have hDq : ∀ D : Mem, RB C D n sp t hl → D 150 (sl t 0) = (q : Int) := fun D h => by rw [h.ml t htn]; exact hq
    have e2 : ∀ D : Mem, RB C D n sp t hl → RT C D t → rsD C (hl t) q 116 st = rtR D (hl t) q := by
      intro D h hT
      have e1 := rd_left hT c3
      have hB0 : q ≠ 0 → (C 4 q = 0 ↔ mAt D q = 0) := by
        intro hq0
        have hB := h.pa (q - 1) (by omega)
        rw [show q - 1 + 1 = q by omega, show 9 + (q - 1) = 8 + q by omega] at hB
        have : mAt D q = D 150 (8 + q) := by unfold mAt; rw [if_neg hq0]
        rw [this]
        exact encB_0 hB
      unfold rtR
      rw [e1]
      unfold rsD
      rw [if_neg (by omega)]
      by_cases c6 : C 1 6 = 0
      · rw [if_pos c6, if_pos c6, if_neg (show ¬ (2 : Int) ≤ 0 by omega)]
      · rw [if_neg c6, if_neg c6, if_neg (show ¬ (116 : Int) = 110 by omega), if_pos (show (0 : Int) ≤ 0 by omega)]
        by_cases cq : q = 0
        · rw [if_pos cq, if_pos (show (q : Int) = 0 by omega)]
        · rw [if_neg cq, if_neg (show ¬ (q : Int) = 0 by omega), if_pos rfl]
          by_cases cb : C 4 q = 0
          · rw [if_pos cb, if_pos ((hB0 cq).1 cb)]
          · rw [if_neg cb, if_neg (fun z => cb ((hB0 cq).2 z))]
            by_cases ch6 : hl t < 6
            · rw [if_pos ch6, if_neg (by omega)]
            · rw [if_neg ch6, if_pos (by omega)]
    by_cases c0 : rsD C (hl t) q 116 st = 0
    · have hq0 : q ≠ 0 := by
        intro z
        unfold rsD at c0
        rw [if_neg (by omega)] at c0
        by_cases c6 : C 1 6 = 0
        · rw [if_pos c6] at c0; omega
        · rw [if_neg c6, if_neg (by omega), if_pos z] at c0; omega
      have hb : C 4 q ≠ 0 := by
        intro z
        unfold rsD at c0
        rw [if_neg (by omega)] at c0
        by_cases c6 : C 1 6 = 0
        · rw [if_pos c6] at c0; omega
        · rw [if_neg c6, if_neg (by omega), if_neg hq0, if_pos rfl, if_pos z] at c0; omega
      have hl6 : hl t < 6 := by
        by_cases z : hl t < 6
        · exact z
        · exfalso
          unfold rsD at c0
          rw [if_neg (by omega)] at c0
          by_cases c6 : C 1 6 = 0
          · rw [if_pos c6] at c0; omega
          · rw [if_neg c6, if_neg (by omega), if_neg hq0, if_pos rfl, if_neg hb, if_neg z] at c0; omega
      have r14 : tkM C t (hl t) q 1 4 = C 1 4 := by
        unfold tkM
        rw [wr_app, if_neg (by omega), wr_app, if_neg (by omega), wr_app, if_neg (by omega)]
      refine ⟨11 + (hl t : Int), _, g_take (P := P) h.tt h4 hh hl6 hq (by omega) c0 (RB_TOk (RB_take h hq (by omega) hqs hl6 hb)), frC_tr tkM_fr tlM_fr, by omega, fun D' ha => ?_⟩
      obtain ⟨h', hT'⟩ := hD D' ha
      obtain ⟨a1, a2, a3, a4, a5⟩ := RT_l hT' c3
      have hR := RB_take h' hq (by omega) hqs hl6 hb
      obtain ⟨x, x1, x2⟩ := m_goTake (P := P) a3 htn hn (h'.mh t htn).2 hl6 (hDq D' h') (by omega) (by omega) (by rw [← e2 D' h' hT']; exact c0) (RB_EOk (RB_0 hR))
      refine ⟨_, ?_, G_turn hR (by rw [r14]; exact ⟨a1, a2⟩) x1, frD_tr tkR_fr (etR_fr h16)⟩
      rw [x2]
      push_cast
      rfl
    · have hp := rsD_pos C (hl t) q 116 st
      refine ⟨rsD C (hl t) q 116 st, _, g_deedNo (P := P) h.tt h4 hh hq (by omega) c0, frC_wr (by omega), by omega, fun D' ha => ?_⟩
      obtain ⟨h', hT'⟩ := hD D' ha
      obtain ⟨a1, a2, a3, a4, a5⟩ := RT_l hT' c3
      have := m_takeNo (M := D') (P := P) a3 h4 (h'.mh t htn).2 (hDq D' h') (by omega) (by rw [← e2 D' h' hT']; exact c0)
      rw [← e2 D' h' hT'] at this
      exact ⟨_, this, ⟨n, sp, t, hl, RB_ref h', RT_ref hT'⟩, frD_wr⟩
  · obtain ⟨c3', _⟩ := RT_3 hT c3
    have h0n : 0 < n := by omega
    obtain ⟨q0, hqs0, hq0⟩ := h.pl 0 h0n
    refine ⟨1, _, ?_, frC_wr (j := 1) (b := 9) (v := ad (C 1 9) 1) (by omega), by omega, fun D' ha => ?_⟩
    · have := g_deedNo (M := C) (P := P) h.tt h4 hh hq (by omega) (lt := 116) (st := st) (by rw [rsD_over c3']; omega)
      rw [rsD_over c3'] at this; exact this
    · obtain ⟨h', hT'⟩ := hD D' ha
      have e1 := rd_right hT' c3'
      obtain ⟨_, hD2⟩ := RT_3 hT' c3
      have er : rtR D' (hl 0) q0 = 1 := by unfold rtR; rw [e1, if_neg (by omega)]
      have := m_takeNo (M := D') (P := P) hD2 (by omega) (h'.mh 0 h0n).2 (by rw [h'.ml 0 h0n]; exact hq0) (by omega) (by rw [er]; omega)
      rw [er] at this
      exact ⟨_, this, ⟨n, sp, t, hl, RB_ref h', RT_ref hT'⟩, frD_wr⟩
end GTake
