section GMove
variable {C : Mem} {n sp t : Nat} {hl : Nat → Nat}
theorem bool_01 {x : Int} {b : Prop} [Decidable b] : (if b then (1 : Int) else 0) = 0 ∨ (if b then (1 : Int) else 0) = 1 := by split <;> simp
theorem rsM_b (C : Mem) (t : Nat) (back : Int) : 0 ≤ rsM C t back ∧ rsM C t back ≤ 4 := by
  unfold rsM
  split; omega; split; split; omega; split <;> omega; omega
theorem mvM_o {h q : Nat} {back : Int} {a b : Nat} (x : a ≠ 7 ∧ a ≠ 9 ∧ a ≠ 11 ∧ (a ≠ 1 ∨ (b ≠ 3 ∧ b ≠ 6 ∧ b ≠ 7 ∧ b ≠ 8))) : mvM C n sp t h q back a b = C a b := by
  have e0 : mvM0 C t h back a b = C a b := by
    unfold mvM0
    split
    · rw [wr_app, if_neg (by omega)]
    · rw [wr_app, if_neg (by omega), wr_app, if_neg (by omega)]
  have e1 : mvM1 C n sp t h q back a b = C a b := by
    unfold mvM1
    rw [wr_app, if_neg (by omega), wr_app, if_neg (by omega), wr_app, if_neg (by omega), e0]
  unfold mvM
  rw [wr_app, if_neg (by omega)]
  split
  · rw [wr_app, if_neg (by omega), e1]
  · exact e1
theorem mvM_1 {h q : Nat} {back : Int} : mvM C n sp t h q back 1 3 = ltF (ltF (C 1 3)) ∧ mvM C n sp t h q back 1 6 = 1 ∧ mvM C n sp t h q back 1 7 = (if (h : Int) < C 1 7 then C 1 7 - h else 0) ∧ mvM C n sp t h q back 1 8 = mvDi (C 1 3) := by
  have e0 : mvM0 C t h back 1 7 = (if (h : Int) < C 1 7 then C 1 7 - h else 0) := by
    unfold mvM0
    split
    · rw [wr_app, if_pos ⟨rfl, rfl⟩]
    · rw [wr_app, if_neg (by omega), wr_app, if_pos ⟨rfl, rfl⟩]
  unfold mvM
  refine ⟨?_, ?_, ?_, ?_⟩
  · rw [wr_app, if_neg (by omega)]
    split
    · rw [wr_app, if_neg (by omega)]
      unfold mvM1
      rw [wr_app, if_neg (by omega), wr_app, if_neg (by omega), wr_app, if_pos ⟨rfl, rfl⟩]
    · unfold mvM1
      rw [wr_app, if_neg (by omega), wr_app, if_neg (by omega), wr_app, if_pos ⟨rfl, rfl⟩]
  · rw [wr_app, if_pos ⟨rfl, rfl⟩]
  · rw [wr_app, if_neg (by omega)]
    split
    · rw [wr_app, if_neg (by omega)]
      unfold mvM1
      rw [wr_app, if_neg (by omega), wr_app, if_neg (by omega), wr_app, if_neg (by omega), e0]
    · unfold mvM1
      rw [wr_app, if_neg (by omega), wr_app, if_neg (by omega), wr_app, if_neg (by omega), e0]
  · rw [wr_app, if_neg (by omega)]
    split
    · rw [wr_app, if_neg (by omega)]
      unfold mvM1
      rw [wr_app, if_neg (by omega), wr_app, if_pos ⟨rfl, rfl⟩]
    · unfold mvM1
      rw [wr_app, if_neg (by omega), wr_app, if_pos ⟨rfl, rfl⟩]
theorem mvM_7 {h q : Nat} {back : Int} {d : Nat} : mvM C n sp t h q back 7 d = if d = t then (mvP C n sp t h q back : Int) else C 7 d := by
  have e0 : mvM0 C t h back 7 d = C 7 d := by
    unfold mvM0
    split
    · rw [wr_app, if_neg (by omega)]
    · rw [wr_app, if_neg (by omega), wr_app, if_neg (by omega)]
  have e1 : mvM1 C n sp t h q back 7 d = if d = t then (mvP C n sp t h q back : Int) else C 7 d := by
    unfold mvM1
    rw [wr_app]
    by_cases x : d = t
    · rw [if_pos ⟨rfl, x⟩, if_pos x]
    · rw [if_neg (fun y => x y.2), if_neg x, wr_app, if_neg (by omega), wr_app, if_neg (by omega), e0]
  unfold mvM
  rw [wr_app, if_neg (by omega)]
  split
  · rw [wr_app, if_neg (by omega), e1]
  · exact e1
theorem mvM_9 {h q : Nat} {back : Int} {d : Nat} : mvM C n sp t h q back 9 d = if d = t ∧ back ≠ 0 then 1 else C 9 d := by
  have e0 : mvM0 C t h back 9 d = if d = t ∧ back ≠ 0 then 1 else C 9 d := by
    unfold mvM0
    by_cases y : back = 0
    · rw [if_pos y, if_neg (show ¬ (d = t ∧ back ≠ 0) from fun z => z.2 y), wr_app, if_neg (by omega)]
    · rw [if_neg y, wr_app]
      by_cases x : d = t
      · rw [if_pos ⟨rfl, x⟩, if_pos ⟨x, y⟩]
      · rw [if_neg (fun z => x z.2), if_neg (show ¬ (d = t ∧ back ≠ 0) from fun z => x z.1), wr_app, if_neg (by omega)]
  have e1 : mvM1 C n sp t h q back 9 d = if d = t ∧ back ≠ 0 then 1 else C 9 d := by
    unfold mvM1
    rw [wr_app, if_neg (by omega), wr_app, if_neg (by omega), wr_app, if_neg (by omega), e0]
  unfold mvM
  rw [wr_app, if_neg (by omega)]
  split
  · rw [wr_app, if_neg (by omega), e1]
  · exact e1
theorem mvM_11 {h q : Nat} {back : Int} {d : Nat} : mvM C n sp t h q back 11 d = if d = t ∧ (back ≠ 0 ∨ C 9 t = 1) ∧ mvP C n sp t h q back = 0 then 1 else C 11 d := by
  have e0 : mvM0 C t h back 11 d = C 11 d := by
    unfold mvM0
    split
    · rw [wr_app, if_neg (by omega)]
    · rw [wr_app, if_neg (by omega), wr_app, if_neg (by omega)]
  have e1 : mvM1 C n sp t h q back 11 d = C 11 d := by
    unfold mvM1
    rw [wr_app, if_neg (by omega), wr_app, if_neg (by omega), wr_app, if_neg (by omega), e0]
  unfold mvM
  rw [wr_app, if_neg (by omega)]
  by_cases y : (back ≠ 0 ∨ C 9 t = 1) ∧ mvP C n sp t h q back = 0
  · rw [if_pos y, wr_app]
    by_cases x : d = t
    · rw [if_pos ⟨rfl, x⟩, if_pos ⟨x, y⟩]
    · rw [if_neg (fun z => x z.2), if_neg (fun z => x z.1), e1]
  · rw [if_neg y, if_neg (fun z => y z.2), e1]
theorem CB_move (h : CB C n sp t hl) {q : Nat} {back : Int} (hq : C 7 t = (q : Int)) (hqs : q ≤ sp) (h11 : C 11 t = 0) (h3 : C 1 4 < 3) : CB (mvM C n sp t (hl t) q back) n sp t hl := by
  have htn := h.tn
  have hn := h.cN.2
  have h16 := h.cS.2
  obtain ⟨p, ep⟩ : ∃ p, p = mvP C n sp t (hl t) q back := ⟨_, rfl⟩
  have hp : p ≤ sp := by rw [ep]; exact landF_le _ _ hqs
  have c7 (d : Nat) : mvM C n sp t (hl t) q back 7 d = if d = t then (p : Int) else C 7 d := by rw [ep]; exact mvM_7
  have c9 (d : Nat) : mvM C n sp t (hl t) q back 9 d = if d = t ∧ back ≠ 0 then 1 else C 9 d := mvM_9
  have c11 (d : Nat) : mvM C n sp t (hl t) q back 11 d = if d = t ∧ (back ≠ 0 ∨ C 9 t = 1) ∧ p = 0 then 1 else C 11 d := by rw [ep]; exact mvM_11
  obtain ⟨v3, v6, v7, v8⟩ := mvM_1 (C := C) (n := n) (sp := sp) (t := t) (h := hl t) (q := q) (back := back)
  have co (a b : Nat) (x : a ≠ 7 ∧ a ≠ 9 ∧ a ≠ 11 ∧ (a ≠ 1 ∨ (b ≠ 3 ∧ b ≠ 6 ∧ b ≠ 7 ∧ b ≠ 8))) : mvM C n sp t (hl t) q back a b = C a b := mvM_o x
  have cf (a : Nat) (x : a ≠ 7 ∧ a ≠ 9 ∧ a ≠ 11 ∧ a ≠ 1) : mvM C n sp t (hl t) q back a = C a := funext fun b => co a b (by omega)
  have hfree : p = 0 ∨ occ (C 7) t (p : Int) n 0 = false := by
    rw [ep]
    apply land_free _ _ _ hqs
    by_cases x : q = 0
    · exact Or.inl x
    · right
      cases hq2 : occ (C 7) t (q : Int) n 0 with
      | false => rfl
      | true =>
        obtain ⟨e, _, e1, e2, e3⟩ := (occ_iff n 0).1 hq2
        rcases h.uq e t (by omega) htn (by rw [e3, hq]) with y | y
        · exact absurd y e2
        · rw [e3] at y; omega
  have et : tr1 (mvM C n sp t (hl t) q back) hl = tr1 C hl := by unfold tr1; rw [cf 15 (by omega)]
  have ht100 := h.k1
  exact CB.make
    (cN := ⟨by rw [co 5 8 (by omega)]; exact h.cN.1, hn⟩)
    (n2 := h.n2)
    (cS := ⟨by rw [co 2 1 (by omega)]; exact h.cS.1, h16⟩)
    (pa := fun s hs => by rw [cf 4 (by omega)]; exact h.pa s hs)
    (ch := fun d hd => by rw [cf 13 (by omega)]; exact h.ch d hd)
    (ks := fun d hd i hi => by rw [cf 15 (by omega)]; exact h.ks d hd i hi)
    (pl := fun d hd => by
      rw [c7]
      by_cases x : d = t
      · rw [if_pos x]; exact ⟨p, hp, rfl⟩
      · rw [if_neg x]; exact h.pl d hd)
    (uq := fun d e hd he => by
      rw [c7, c7]
      by_cases x : d = t
      · by_cases y : e = t
        · intro _; left; omega
        · rw [if_pos x, if_neg y]
          intro z
          rcases hfree with f | f
          · right; omega
          · exact absurd z.symm (occ_no f e he y)
      · rw [if_neg x]
        by_cases y : e = t
        · rw [if_pos y]
          intro z
          rcases hfree with f | f
          · right; omega
          · exact absurd z (occ_no f d hd x)
        · rw [if_neg y]; exact h.uq d e hd he)
    (u1 := fun d hd => by
      rw [c9]
      split
      · right; rfl
      · exact h.u1 d hd)
    (h1 := fun d hd => by
      rw [c11]
      split
      · right; rfl
      · exact h.h1 d hd)
    (hp := fun d hd => by
      rw [c11, c7]
      by_cases x : d = t
      · rw [if_pos x]
        by_cases y : (back ≠ 0 ∨ C 9 t = 1) ∧ p = 0
        · intro _; have := y.2; omega
        · rw [if_neg (fun z => y z.2), x, h11]; intro z; omega
      · rw [if_neg x, if_neg (fun z => x z.1)]; exact h.hp d hd)
    (uh := fun d hd => by
      rw [c9, c7, c11]
      by_cases x : d = t
      · intro a b
        rw [if_pos x] at b
        have hp0 : p = 0 := by omega
        by_cases y : back = 0
        · rw [if_neg (fun z => z.2 y), x] at a
          rw [if_pos ⟨x, Or.inr a, hp0⟩]
        · rw [if_pos ⟨x, Or.inl y, hp0⟩]
      · rw [if_neg (fun z => x z.1), if_neg x, if_neg (fun z => x z.1)]; exact h.uh d hd)
    (z := fun d h1 h2 => by rw [c11, if_neg (by omega), cf 17 (by omega), cf 19 (by omega)]; exact h.z d h1 h2)
    (l1 := by rw [v3]; exact ltF_b _)
    (k1 := by rw [v7]; split <;> omega)
    (tt := by rw [co 1 5 (by omega)]; exact h.tt)
    (tn := htn)
    (o1 := fun d hd => by rw [cf 19 (by omega)]; exact h.o1 d hd)
    (co := by rw [et, cf 19 (by omega), cf 4 (by omega)]; exact h.co)
    (dr := fun d hd => by rw [cf 21 (by omega), co 1 4 (by omega)]; exact h.dr d hd)
    (di := by rw [v8]; have := mvDi_b (C 1 3); omega)
    (ov := fun x => by rw [co 1 4 (by omega)] at x; omega)
theorem mvM_fr {h q : Nat} {back : Int} : frC C (mvM C n sp t h q back) := fun a b x => mvM_o (by omega)
end GMove
