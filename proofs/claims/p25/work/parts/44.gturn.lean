section GTurn
variable {C : Mem} {n sp t : Nat} {hl : Nat → Nat}
theorem sumN_split {f : Nat → Int} {a : Nat} : ∀ b : Nat, sumN f (a + b) = sumN f a + sumN (fun i => f (a + i)) b := by
  intro b
  induction b with
  | zero => simp [sumN]
  | succ b ih =>
    rw [← Nat.add_assoc]
    simp only [sumN]
    rw [ih]
    omega
theorem arg_lt {f : Nat → Int} : ∀ m d b, b < d + m → d + m ≤ n → (b < d) → arg f m d b < n := by
  intro m
  induction m with
  | zero => intro d b h1 h2 h3; unfold arg; omega
  | succ m ih =>
    intro d b h1 h2 h3
    unfold arg
    split
    · exact ih (d + 1) d (by omega) (by omega) (by omega)
    · exact ih (d + 1) b (by omega) (by omega) (by omega)
theorem tr1_nn (h : CB C n sp t hl) {d : Nat} (hd : d < n) : 0 ≤ tr1 C hl d := by
  apply sumN_nn
  intro i hi
  have := h.ks d hd i hi
  unfold pcnt
  omega
theorem pa_nn (h : CB C n sp t hl) {s : Nat} (hs : s < sp) : 0 ≤ C 4 (s + 1) ∧ C 4 (s + 1) < 16384 := by
  rcases h.pa s hs with x | x <;> omega
theorem CB_count (h : CB C n sp t hl) : ((skF C hl n sp).length : Int) = sumN (fun d => if C 11 d = 1 then 0 else tr1 C hl d) n ∧ (skF C hl n sp).length ≤ 16 ∧ (nbL C sp).length + (skF C hl n sp).length ≤ 16 ∧ (chk 0 (skF C hl n sp)).length = ((skF C hl n sp).length + 2) / 3 ∧ (nbL C sp).length + ((skF C hl n sp).length + 2) / 3 ≤ 16 := by
  have e := sk_total h.pl (fun d hd i hi => by have := h.ks d hd i hi; omega)
  obtain ⟨a2, a3, a4⟩ := nb_spec h.pa sp (Nat.le_refl _)
  obtain ⟨c1, c2, c3⟩ := chk_spec _ (skF C hl n sp) (Nat.le_refl _) (vOk_skF _)
  have le : sumN (fun d => if C 11 d = 1 then 0 else tr1 C hl d) n ≤ sumN (tr1 C hl) n := sumN_le n (fun d hd => by
    have := tr1_nn h hd
    show (if C 11 d = 1 then 0 else tr1 C hl d) ≤ _
    split <;> omega)
  have o := sumN_nn (f := C 19) 4 (fun d hd => (h.o1 d hd).1)
  have p := sumN_nn (f := fun s => pcnt (C 4 (s + 1))) sp (fun s hs => by have := pa_nn h hs; show 0 ≤ pcnt (C 4 (s + 1)); unfold pcnt; omega)
  have co := h.co
  refine ⟨e, by omega, by omega, c1, by omega⟩
theorem CB_TOk (h : CB C n sp t hl) : TOk C n sp t hl := by
  obtain ⟨b1, b2, b3, b4, b6⟩ := CB_count h
  exact ⟨h.cN, h.ch, fun d hd i hi => by have := h.ks d hd i hi; omega, h.cS, h.tt, h.tn, b2, by omega⟩
theorem CB_end (h : CB C n sp t hl) (hr : 0 ≤ C 1 4 ∧ C 1 4 < 3) : CB (erM C n sp hl) n ((nbL C sp).length + (chk 0 (skF C hl n sp)).length) (arg (C 7) (n - 1) 1 0) (fun _ => 0) := by
  obtain ⟨b1, b2, b3, b4, b6⟩ := CB_count h
  obtain ⟨a2, a3, a4⟩ := nb_spec h.pa sp (Nat.le_refl _)
  obtain ⟨c1, c2, c3⟩ := chk_spec _ (skF C hl n sp) (Nat.le_refl _) (vOk_skF _)
  have hn := h.cN.2
  have hn2 := h.n2
  have hs := h.cS.2
  have ht1 : ad (C 1 4) 1 = C 1 4 + 1 := ad_eq (by omega) (by omega)
  have o := sumN_nn (f := C 19) 4 (fun d hd => (h.o1 d hd).1)
  have p := sumN_nn (f := fun s => pcnt (C 4 (s + 1))) sp (fun s hs => by have := pa_nn h hs; show 0 ≤ pcnt (C 4 (s + 1)); unfold pcnt; omega)
  have co := h.co
  have b19 : ∀ d, d < n → 0 ≤ C 19 d + tr1 C hl d ∧ C 19 d + tr1 C hl d ≤ 16 := by
    intro d hd
    have q1 := sumN_one (f := C 19) 4 (fun d hd => (h.o1 d hd).1) d (by omega)
    have q2 := sumN_one (f := tr1 C hl) n (fun d hd => tr1_nn h hd) d hd
    have q3 := tr1_nn h hd
    have q4 := (h.o1 d (by omega)).1
    omega
  have e19 : ∀ d, d < n → erM C n sp hl 19 d = C 19 d + (if C 11 d = 1 then tr1 C hl d else 0) := by
    intro d hd
    rw [erM_19 hd]
    by_cases c : C 11 d = 1
    · rw [if_pos c, if_pos c, ad_eq (by have := b19 d hd; omega) (by have := b19 d hd; omega)]
    · rw [if_neg c, if_neg c, Int.add_zero]
  exact CB.make
    (cN := ⟨by rw [erM_o (by omega)]; exact h.cN.1, hn⟩)
    (n2 := hn2)
    (cS := ⟨erM_2, by omega⟩)
    (pa := fun s hs' => by
      by_cases c : s < (nbL C sp).length
      · rw [erM_4a c]
        exact Or.inr (a2 s c)
      · have e : s = (nbL C sp).length + (s - (nbL C sp).length) := by omega
        have e3 : erM C n sp hl 4 (s + 1) = (chk 0 (skF C hl n sp)).getD (s - (nbL C sp).length) 0 := by
          have := erM_4b (C := C) (n := n) (sp := sp) (hl := hl) (s := s - (nbL C sp).length) (by omega)
          rw [← e] at this
          exact this
        rw [e3]
        have := encS_c (c2 (s - (nbL C sp).length) (by omega))
        exact Or.inr ⟨this.1, this.2.1⟩)
    (ch := fun d hd => ⟨by omega, by rw [erM_0 (by omega) (by omega)]; rfl⟩)
    (ks := fun d hd i hi => by omega)
    (pl := fun d hd => ⟨0, by omega, by rw [erM_0 (by omega) (by omega)]; rfl⟩)
    (uq := fun d e hd he _ => Or.inr (erM_0 (by omega) (by omega)))
    (u1 := fun d hd => Or.inl (erM_0 (by omega) (by omega)))
    (h1 := fun d hd => Or.inl (erM_0 (by omega) (by omega)))
    (hp := fun d hd _ => erM_0 (by omega) (by omega))
    (uh := fun d hd q => by rw [erM_0 (by omega) (by omega)] at q; omega)
    (z := fun d h1 h2 => ⟨erM_0 (by omega) h2, by rw [erM_ge (by omega) h1]; exact (h.z d h1 h2).2.1, by rw [erM_ge (by omega) h1]; exact (h.z d h1 h2).2.2⟩)
    (l1 := by rw [erM_1, if_neg (by omega), if_neg (by omega), if_neg (by omega)]; exact h.l1)
    (k1 := by rw [erM_1, if_neg (by omega), if_pos rfl]; omega)
    (tt := by rw [erM_1, if_neg (by omega), if_neg (by omega), if_pos rfl])
    (tn := arg_lt (n - 1) 1 0 (by omega) (by omega) (by omega))
    (o1 := fun d hd => by
      by_cases c : d < n
      · rw [e19 d c]
        have q := b19 d c
        have q2 := h.o1 d hd
        split <;> omega
      · rw [erM_ge (by omega) (by omega)]; exact h.o1 d hd)
    (co := by
      have z1 : sumN (tr1 (erM C n sp hl) (fun _ => 0)) n = 0 := sumN_0 n (fun d hd => rfl)
      have z2 : sumN (fun s => pcnt (erM C n sp hl 4 (s + 1))) ((nbL C sp).length + (chk 0 (skF C hl n sp)).length) = sumL (nbL C sp) + sumL (chk 0 (skF C hl n sp)) := by
        rw [sumN_split]
        unfold sumL
        rw [sumN_congr (f := fun s => pcnt (erM C n sp hl 4 (s + 1))) (g := fun i => pcnt ((nbL C sp).getD i 0)) (nbL C sp).length (fun i hi => by show pcnt (erM C n sp hl 4 (i + 1)) = _; rw [erM_4a hi])]
        rw [sumN_congr (f := fun i => pcnt (erM C n sp hl 4 ((nbL C sp).length + i + 1))) (g := fun i => pcnt ((chk 0 (skF C hl n sp)).getD i 0)) (chk 0 (skF C hl n sp)).length (fun i hi => by show pcnt (erM C n sp hl 4 ((nbL C sp).length + i + 1)) = _; rw [erM_4b hi])]
      have g0 : ∀ d, d < 4 → erM C n sp hl 19 d = C 19 d + (if d < n ∧ C 11 d = 1 then tr1 C hl d else 0) := by
        intro d hd
        by_cases c : d < n
        · rw [e19 d c]
          by_cases c2 : C 11 d = 1
          · rw [if_pos c2, if_pos ⟨c, c2⟩]
          · rw [if_neg c2, if_neg (fun q => c2 q.2)]
        · rw [erM_ge (by omega) (by omega), if_neg (fun q => c q.1), Int.add_zero]
      have z3 : sumN (erM C n sp hl 19) 4 = sumN (C 19) 4 + sumN (fun d => if d < n ∧ C 11 d = 1 then tr1 C hl d else 0) 4 := by
        rw [← sumN_add]
        exact sumN_congr 4 g0
      have z4 : sumN (fun d => if d < n ∧ C 11 d = 1 then tr1 C hl d else 0) 4 = sumN (fun d => if C 11 d = 1 then tr1 C hl d else 0) n := by
        have e : (4 : Nat) = n + (4 - n) := by omega
        rw [e, sumN_split, sumN_0 (4 - n) (fun i hi => by show (if n + i < n ∧ _ then _ else _) = _; rw [if_neg (by omega)]), Int.add_zero]
        apply sumN_congr
        intro d hd
        by_cases c2 : C 11 d = 1
        · rw [if_pos ⟨hd, c2⟩, if_pos c2]
        · rw [if_neg (fun q => c2 q.2), if_neg c2]
      have z5 : sumN (fun d => if C 11 d = 1 then tr1 C hl d else 0) n + sumN (fun d => if C 11 d = 1 then 0 else tr1 C hl d) n = sumN (tr1 C hl) n := by
        rw [← sumN_add]
        apply sumN_congr
        intro d hd
        by_cases c2 : C 11 d = 1
        · rw [if_pos c2, if_pos c2]; omega
        · rw [if_neg c2, if_neg c2]; omega
      rw [z1, z2, z3, z4, a3, c3]
      omega)
    (dr := fun d hd => by
      have q := h.dr d hd
      rw [erM_21 hd, erM_1, if_pos rfl, ht1]
      split
      · omega
      · rw [ad_eq (by omega) (by omega)]; omega)
    (di := by rw [erM_1, if_neg (by omega), if_neg (by omega), if_neg (by omega)]; exact h.di)
    (ov := fun _ d hd => ⟨erM_0 (by omega) (by omega), erM_0 (by omega) (by omega), erM_0 (by omega) (by omega), rfl⟩)
end GTurn
