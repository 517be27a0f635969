section GLay
variable {C : Mem} {n sp t : Nat} {hl : Nat → Nat}
theorem lyM_fr {k q i : Nat} : frC C (lyM C t k q i) := by
  intro a b x
  unfold lyM shP
  rw [wr_app, if_neg (by omega), wr_app, if_neg (by omega), if_neg (by omega)]
theorem CB_lay (h : CB C n sp t hl) {q k i : Nat} (hq : C 7 t = (q : Int)) (hq1 : 1 ≤ q) (hqs : q ≤ sp) (hk : hl t = k + 1) (hi : i ≤ k) (hb : C 4 q = 0) (h3 : C 1 4 < 3) : CB (lyM C t k q i) n sp t (hlS hl t k) := by
  have htn := h.tn
  have hn := h.cN.2
  have h16 := h.cS.2
  have hk6 := (h.ch t htn).1
  have cC (a b : Nat) (x : (a ≠ 15 ∨ b < 6 * t ∨ 6 * t + k ≤ b) ∧ (a ≠ 13 ∨ b ≠ t) ∧ (a ≠ 4 ∨ b ≠ q)) : lyM C t k q i a b = C a b := by
    unfold lyM shP
    rw [wr_app, if_neg (by omega), wr_app, if_neg (by omega), if_neg (by omega)]
  have cf (a : Nat) (x : a ≠ 15 ∧ a ≠ 13 ∧ a ≠ 4) : lyM C t k q i a = C a := funext fun b => cC a b (by omega)
  have c15 (j : Nat) (hj : j < k) : lyM C t k q i 15 (6 * t + j) = if i ≤ j then C 15 (6 * t + (j + 1)) else C 15 (6 * t + j) := by
    unfold lyM shP
    rw [wr_app, if_neg (by omega), wr_app, if_neg (by omega)]
    by_cases c : i ≤ j
    · rw [if_pos c, if_pos (by omega)]; rfl
    · rw [if_neg c, if_neg (by omega)]
  have c13 : lyM C t k q i 13 t = (k : Int) := by
    unfold lyM
    rw [wr_app, if_neg (by omega), wr_app, if_pos ⟨rfl, rfl⟩]
  have c4 : lyM C t k q i 4 q = C 15 (6 * t + i) := by
    unfold lyM
    rw [wr_app, if_pos ⟨rfl, rfl⟩]
  have ht : hlS hl t k t = k := by unfold hlS; rw [if_pos rfl]
  have hne (d : Nat) (x : d ≠ t) : hlS hl t k d = hl d := by unfold hlS; rw [if_neg x]
  exact CB.make
    (cN := ⟨by rw [cC 5 8 (by omega)]; exact h.cN.1, hn⟩)
    (n2 := h.n2)
    (cS := ⟨by rw [cC 2 1 (by omega)]; exact h.cS.1, h16⟩)
    (pa := fun s hs => by
      by_cases c : s + 1 = q
      · rw [c, c4]
        exact Or.inr (h.ks t htn i (by omega))
      · rw [cC 4 (s + 1) (by omega)]; exact h.pa s hs)
    (ch := fun d hd => by
      by_cases c : d = t
      · rw [c, ht, c13]; exact ⟨by omega, rfl⟩
      · rw [hne d c, cC 13 d (by omega)]; exact h.ch d hd)
    (ks := fun d hd j hj => by
      by_cases c : d = t
      · subst c
        rw [ht] at hj
        rw [c15 j hj]
        by_cases c2 : i ≤ j
        · rw [if_pos c2]; exact h.ks d hd (j + 1) (by omega)
        · rw [if_neg c2]; exact h.ks d hd j (by omega)
      · rw [hne d c] at hj
        have := (h.ch d hd).1
        rw [cC 15 (6 * d + j) (by omega)]; exact h.ks d hd j hj)
    (pl := fun d hd => by rw [cf 7 (by omega)]; exact h.pl d hd)
    (uq := fun d e hd he => by rw [cf 7 (by omega)]; exact h.uq d e hd he)
    (u1 := fun d hd => by rw [cf 9 (by omega)]; exact h.u1 d hd)
    (h1 := fun d hd => by rw [cf 11 (by omega)]; exact h.h1 d hd)
    (hp := fun d hd => by rw [cf 11 (by omega), cf 7 (by omega)]; exact h.hp d hd)
    (uh := fun d hd => by rw [cf 11 (by omega), cf 7 (by omega), cf 9 (by omega)]; exact h.uh d hd)
    (z := fun d h1 h2 => by rw [cf 11 (by omega), cf 17 (by omega), cf 19 (by omega)]; exact h.z d h1 h2)
    (l1 := by rw [cf 1 (by omega)]; exact h.l1)
    (k1 := by rw [cf 1 (by omega)]; exact h.k1)
    (tt := by rw [cf 1 (by omega)]; exact h.tt)
    (tn := htn)
    (o1 := fun d hd => by rw [cf 19 (by omega)]; exact h.o1 d hd)
    (co := by
      have eq1 : q = (q - 1) + 1 := by omega
      have e1 : sumN (fun s => pcnt (lyM C t k q i 4 (s + 1))) sp = sumN (fun s => pcnt (C 4 (s + 1))) sp + (pcnt (lyM C t k q i 4 (q - 1 + 1)) - pcnt (C 4 (q - 1 + 1))) :=
        sumN_upd (f := fun s => pcnt (C 4 (s + 1))) (g := fun s => pcnt (lyM C t k q i 4 (s + 1))) (k := q - 1) sp (by omega) (fun j hj => by show pcnt (lyM C t k q i 4 (j + 1)) = _; rw [cC 4 (j + 1) (by omega)])
      have e3 : tr1 (lyM C t k q i) (hlS hl t k) t + pcnt (C 15 (6 * t + i)) = tr1 C hl t := by
        unfold tr1
        rw [ht, hk]
        rw [← sumN_del (f := fun j => pcnt (C 15 (6 * t + j))) (i := i) k hi]
        congr 1
        apply sumN_congr
        intro j hj
        rw [c15 j hj]
        by_cases c : i ≤ j
        · rw [if_pos c, if_pos c]
        · rw [if_neg c, if_neg c]
      have e4 : sumN (tr1 (lyM C t k q i) (hlS hl t k)) n + pcnt (C 15 (6 * t + i)) = sumN (tr1 C hl) n := by
        have e5 : sumN (tr1 (lyM C t k q i) (hlS hl t k)) n = sumN (fun d => if d = t then tr1 C hl t - pcnt (C 15 (6 * t + i)) else tr1 C hl d) n := by
          apply sumN_congr
          intro d hd
          by_cases c : d = t
          · rw [if_pos c, c]; omega
          · rw [if_neg c]
            unfold tr1
            rw [hne d c]
            apply sumN_congr
            intro j hj
            have := (h.ch d hd).1
            rw [cC 15 (6 * d + j) (by omega)]
        rw [e5, sumN_upd (f := tr1 C hl) (k := t) n htn (fun j hj => by rw [if_neg hj]), if_pos rfl]
        omega
      have co := h.co
      rw [e1, cf 19 (by omega), ← eq1, c4, hb]
      have : pcnt 0 = 0 := rfl
      omega)
    (dr := fun d hd => by rw [cf 21 (by omega), cf 1 (by omega)]; exact h.dr d hd)
    (di := by rw [cf 1 (by omega)]; exact h.di)
    (ov := fun x => by rw [cf 1 (by omega)] at x; omega)
end GLay
