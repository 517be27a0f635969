section GTake
variable {C : Mem} {n sp t : Nat} {hl : Nat → Nat}
theorem sumN_upd {f g : Nat → Int} {k : Nat} : ∀ n : Nat, k < n → (∀ i, i ≠ k → g i = f i) → sumN g n = sumN f n + (g k - f k) := by
  intro n
  induction n with
  | zero => intro h; omega
  | succ n ih =>
    intro hk h
    simp only [sumN]
    by_cases e : k = n
    · subst e
      rw [sumN_congr (f := g) (g := f) k (fun i hi => h i (by omega))]
      omega
    · rw [ih (by omega) h, h n (fun q => e q.symm)]
      omega
theorem sumN_del {f : Nat → Int} {i : Nat} : ∀ k : Nat, i ≤ k → sumN (fun j => if i ≤ j then f (j + 1) else f j) k + f i = sumN f (k + 1) := by
  intro k
  induction k with
  | zero =>
    intro h
    have : i = 0 := by omega
    subst this
    simp [sumN]
  | succ k ih =>
    intro h
    by_cases e : i = k + 1
    · subst e
      rw [sumN_congr (f := fun j => if k + 1 ≤ j then f (j + 1) else f j) (g := f) (k + 1) (fun j hj => by show (if k + 1 ≤ j then _ else _) = _; rw [if_neg (by omega)])]
      rfl
    · have := ih (by omega)
      simp only [sumN] at this ⊢
      rw [if_pos (by omega)]
      omega
def hlS (hl : Nat → Nat) (t k : Nat) : Nat → Nat := fun d => if d = t then k else hl d
theorem CB_take (h : CB C n sp t hl) {q : Nat} (hq : C 7 t = (q : Int)) (hq1 : 1 ≤ q) (hqs : q ≤ sp) (h6 : hl t < 6) (hb : C 4 q ≠ 0) (h3 : C 1 4 < 3) : CB (tkM C t (hl t) q) n sp t (hlS hl t (hl t + 1)) := by
  have htn := h.tn
  have hn := h.cN.2
  have h16 := h.cS.2
  have eq1 : q = (q - 1) + 1 := by omega
  have cC (a b : Nat) (x : (a ≠ 15 ∨ b ≠ 6 * t + hl t) ∧ (a ≠ 13 ∨ b ≠ t) ∧ (a ≠ 4 ∨ b ≠ q)) : tkM C t (hl t) q a b = C a b := by
    unfold tkM
    rw [wr_app, if_neg (by omega), wr_app, if_neg (by omega), wr_app, if_neg (by omega)]
  have cf (a : Nat) (x : a ≠ 15 ∧ a ≠ 13 ∧ a ≠ 4) : tkM C t (hl t) q a = C a := funext fun b => cC a b (by omega)
  have c15 : tkM C t (hl t) q 15 (6 * t + hl t) = C 4 q := by
    unfold tkM
    rw [wr_app, if_neg (by omega), wr_app, if_neg (by omega), wr_app, if_pos ⟨rfl, rfl⟩]
  have c13 : tkM C t (hl t) q 13 t = ((hl t + 1 : Nat) : Int) := by
    unfold tkM
    rw [wr_app, if_neg (by omega), wr_app, if_pos ⟨rfl, rfl⟩]
  have c4 : tkM C t (hl t) q 4 q = 0 := by
    unfold tkM
    rw [wr_app, if_pos ⟨rfl, rfl⟩]
  have ht : hlS hl t (hl t + 1) t = hl t + 1 := by unfold hlS; rw [if_pos rfl]
  have hne (d : Nat) (x : d ≠ t) : hlS hl t (hl t + 1) d = hl d := by unfold hlS; rw [if_neg x]
  have hS : 4096 ≤ C 4 q ∧ C 4 q < 16384 := by
    have := h.pa (q - 1) (by omega)
    rw [← eq1] at this
    rcases this with x | x
    · exact absurd x hb
    · exact x
  exact CB.make
    (cN := ⟨by rw [cC 5 8 (by omega)]; exact h.cN.1, hn⟩)
    (n2 := h.n2)
    (cS := ⟨by rw [cC 2 1 (by omega)]; exact h.cS.1, h16⟩)
    (pa := fun s hs => by
      by_cases c : s + 1 = q
      · rw [c, c4]; exact Or.inl rfl
      · rw [cC 4 (s + 1) (by omega)]; exact h.pa s hs)
    (ch := fun d hd => by
      by_cases c : d = t
      · rw [c, ht, c13]; exact ⟨by omega, rfl⟩
      · rw [hne d c, cC 13 d (by omega)]; exact h.ch d hd)
    (ks := fun d hd i hi => by
      by_cases c : d = t
      · subst c
        rw [ht] at hi
        by_cases c2 : i = hl d
        · rw [c2, c15]; exact hS
        · rw [cC 15 (6 * d + i) (by omega)]; exact h.ks d hd i (by omega)
      · rw [hne d c] at hi
        have := (h.ch d hd).1
        rw [cC 15 (6 * d + i) (by omega)]; exact h.ks d hd i hi)
    (pl := fun d hd => by rw [cf 7 (by omega)]; exact h.pl d hd)
    (uq := fun d e hd he => by rw [cf 7 (by omega)]; exact h.uq d e hd he)
    (u1 := fun d hd => by rw [cf 9 (by omega)]; exact h.u1 d hd)
    (h1 := fun d hd => by rw [cf 11 (by omega)]; exact h.h1 d hd)
    (hp := fun d hd => by rw [cf 11 (by omega), cf 7 (by omega)]; exact h.hp d hd)
    (uh := fun d hd => by rw [cf 11 (by omega), cf 7 (by omega), cf 9 (by omega)]; exact h.uh d hd)
    (z := fun d h1 h2 => by rw [cf 11 (by omega), cf 17 (by omega), cf 19 (by omega)]; exact h.z d h1 h2)
    (l1 := by rw [cf 1 (by omega)]; exact h.l1)
    (k1 := by rw [cf 1 (by omega)]; exact h.k1)
    (tt := by rw [cf 1 (by omega)]; exact h.tt)
    (tn := htn)
    (o1 := fun d hd => by rw [cf 19 (by omega)]; exact h.o1 d hd)
    (co := by
      have e1 : sumN (fun s => pcnt (tkM C t (hl t) q 4 (s + 1))) sp = sumN (fun s => pcnt (C 4 (s + 1))) sp + (pcnt (tkM C t (hl t) q 4 (q - 1 + 1)) - pcnt (C 4 (q - 1 + 1))) :=
        sumN_upd (f := fun s => pcnt (C 4 (s + 1))) (g := fun s => pcnt (tkM C t (hl t) q 4 (s + 1))) (k := q - 1) sp (by omega) (fun i hi => by show pcnt (tkM C t (hl t) q 4 (i + 1)) = _; rw [cC 4 (i + 1) (by omega)])
      have e2 : ∀ d, d ≠ t → tr1 (tkM C t (hl t) q) (hlS hl t (hl t + 1)) d = tr1 C hl d ∨ n ≤ d := by
        intro d hd
        by_cases hdn : n ≤ d
        · exact Or.inr hdn
        · left
          unfold tr1
          rw [hne d hd]
          apply sumN_congr
          intro i hi
          have := (h.ch d (by omega)).1
          rw [cC 15 (6 * d + i) (by omega)]
      have e3 : tr1 (tkM C t (hl t) q) (hlS hl t (hl t + 1)) t = tr1 C hl t + pcnt (C 4 q) := by
        unfold tr1
        rw [ht]
        simp only [sumN]
        rw [c15, sumN_congr (f := fun i => pcnt (tkM C t (hl t) q 15 (6 * t + i))) (g := fun i => pcnt (C 15 (6 * t + i))) (hl t) (fun i hi => by show pcnt (tkM C t (hl t) q 15 (6 * t + i)) = _; rw [cC 15 (6 * t + i) (by omega)])]
      have e4 : sumN (tr1 (tkM C t (hl t) q) (hlS hl t (hl t + 1))) n = sumN (tr1 C hl) n + pcnt (C 4 q) := by
        have e5 : sumN (tr1 (tkM C t (hl t) q) (hlS hl t (hl t + 1))) n = sumN (fun d => if d = t then tr1 C hl t + pcnt (C 4 q) else tr1 C hl d) n := by
          apply sumN_congr
          intro d hd
          by_cases c : d = t
          · rw [if_pos c, c, e3]
          · rw [if_neg c]
            rcases e2 d c with z | z
            · exact z
            · omega
        rw [e5, sumN_upd (f := tr1 C hl) (k := t) n htn (fun i hi => by rw [if_neg hi]), if_pos rfl]
        omega
      have co := h.co
      rw [e1, e4, cf 19 (by omega), ← eq1, c4]
      have : pcnt 0 = 0 := rfl
      omega)
    (dr := fun d hd => by rw [cf 21 (by omega), cf 1 (by omega)]; exact h.dr d hd)
    (di := by rw [cf 1 (by omega)]; exact h.di)
    (ov := fun x => by rw [cf 1 (by omega)] at x; omega)
theorem tkM_fr {h q : Nat} : frC C (tkM C t h q) := frC_tr (frC_tr (frC_wr (by omega)) (frC_wr (by omega))) (frC_wr (by omega))
end GTake
