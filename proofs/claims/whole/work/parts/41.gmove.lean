section GMove
variable {C D : Mem} {n sp t : Nat} {hl : Nat → Nat}
theorem bool_01 {x : Int} {b : Prop} [Decidable b] : (if b then (1 : Int) else 0) = 0 ∨ (if b then (1 : Int) else 0) = 1 := by split <;> simp
theorem rs_same (h : RB C D n sp t hl) (hT : RT C D t) {back : Int} : C 1 4 < 3 → rsM C t back = rmR D t back := by
  intro h3
  have ht := h.tn
  unfold rsM rmR
  rw [if_neg (by omega), h.up t ht, h.ml t ht]
  rcases hT with ⟨a1, a2, a3, a4, a5⟩ | ⟨a1, _⟩
  · rw [a4]
    rcases a5 with a5 | ⟨a5, _⟩
    · rw [a5]; rfl
    · rw [a5]; rfl
  · omega
theorem rs_over (hT : RT C D t) {back : Int} : C 1 4 = 3 → rsM C t back = 1 ∧ ∀ t', rmR D t' back = 1 := by
  intro h3
  rcases hT with ⟨a1, a2, _⟩ | ⟨a1, a2, a3, a4⟩
  · omega
  · unfold rsM rmR
    rw [if_pos (by omega)]
    refine ⟨rfl, fun t' => ?_⟩
    rw [if_pos a3]
theorem rsM_b (C : Mem) (t : Nat) (back : Int) : 0 ≤ rsM C t back ∧ rsM C t back ≤ 4 := by
  unfold rsM
  split; omega; split; split; omega; split <;> omega; omega
theorem mvM_o {h q : Nat} {back : Int} {a b : Nat} (x : a ≠ 7 ∧ a ≠ 9 ∧ a ≠ 11 ∧ (a ≠ 1 ∨ (b ≠ 3 ∧ b ≠ 6 ∧ b ≠ 7 ∧ b ≠ 8))) : mvM C n sp t h q back a b = C a b := by
  have e0 : mvM0 C t h back a b = C a b := by
    unfold mvM0
    split
    · rw [wr_app, if_neg (by omega)]
    · rw [wr_app, if_neg (by omega), wr_app, if_neg (by omega)]
  have e1 : mvM1 C n sp t h q back a b = C a b := by
    unfold mvM1
    rw [wr_app, if_neg (by omega), wr_app, if_neg (by omega), wr_app, if_neg (by omega), e0]
  unfold mvM
  rw [wr_app, if_neg (by omega)]
  split
  · rw [wr_app, if_neg (by omega), e1]
  · exact e1
theorem mvM_1 {h q : Nat} {back : Int} : mvM C n sp t h q back 1 3 = ltF (ltF (C 1 3)) ∧ mvM C n sp t h q back 1 6 = 1 ∧ mvM C n sp t h q back 1 7 = (if (h : Int) < C 1 7 then C 1 7 - h else 0) ∧ mvM C n sp t h q back 1 8 = mvDi (C 1 3) := by
  have e0 : mvM0 C t h back 1 7 = (if (h : Int) < C 1 7 then C 1 7 - h else 0) := by
    unfold mvM0
    split
    · rw [wr_app, if_pos ⟨rfl, rfl⟩]
    · rw [wr_app, if_neg (by omega), wr_app, if_pos ⟨rfl, rfl⟩]
  unfold mvM
  refine ⟨?_, ?_, ?_, ?_⟩
  · rw [wr_app, if_neg (by omega)]
    split
    · rw [wr_app, if_neg (by omega)]
      unfold mvM1
      rw [wr_app, if_neg (by omega), wr_app, if_neg (by omega), wr_app, if_pos ⟨rfl, rfl⟩]
    · unfold mvM1
      rw [wr_app, if_neg (by omega), wr_app, if_neg (by omega), wr_app, if_pos ⟨rfl, rfl⟩]
  · rw [wr_app, if_pos ⟨rfl, rfl⟩]
  · rw [wr_app, if_neg (by omega)]
    split
    · rw [wr_app, if_neg (by omega)]
      unfold mvM1
      rw [wr_app, if_neg (by omega), wr_app, if_neg (by omega), wr_app, if_neg (by omega), e0]
    · unfold mvM1
      rw [wr_app, if_neg (by omega), wr_app, if_neg (by omega), wr_app, if_neg (by omega), e0]
  · rw [wr_app, if_neg (by omega)]
    split
    · rw [wr_app, if_neg (by omega)]
      unfold mvM1
      rw [wr_app, if_neg (by omega), wr_app, if_pos ⟨rfl, rfl⟩]
    · unfold mvM1
      rw [wr_app, if_neg (by omega), wr_app, if_pos ⟨rfl, rfl⟩]
theorem mvM_7 {h q : Nat} {back : Int} {d : Nat} : mvM C n sp t h q back 7 d = if d = t then (mvP C n sp t h q back : Int) else C 7 d := by
  have e0 : mvM0 C t h back 7 d = C 7 d := by
    unfold mvM0
    split
    · rw [wr_app, if_neg (by omega)]
    · rw [wr_app, if_neg (by omega), wr_app, if_neg (by omega)]
  have e1 : mvM1 C n sp t h q back 7 d = if d = t then (mvP C n sp t h q back : Int) else C 7 d := by
    unfold mvM1
    rw [wr_app]
    by_cases x : d = t
    · rw [if_pos ⟨rfl, x⟩, if_pos x]
    · rw [if_neg (fun y => x y.2), if_neg x, wr_app, if_neg (by omega), wr_app, if_neg (by omega), e0]
  unfold mvM
  rw [wr_app, if_neg (by omega)]
  split
  · rw [wr_app, if_neg (by omega), e1]
  · exact e1
theorem mvM_9 {h q : Nat} {back : Int} {d : Nat} : mvM C n sp t h q back 9 d = if d = t ∧ back ≠ 0 then 1 else C 9 d := by
  have e0 : mvM0 C t h back 9 d = if d = t ∧ back ≠ 0 then 1 else C 9 d := by
    unfold mvM0
    by_cases y : back = 0
    · rw [if_pos y, if_neg (show ¬ (d = t ∧ back ≠ 0) from fun z => z.2 y), wr_app, if_neg (by omega)]
    · rw [if_neg y, wr_app]
      by_cases x : d = t
      · rw [if_pos ⟨rfl, x⟩, if_pos ⟨x, y⟩]
      · rw [if_neg (fun z => x z.2), if_neg (show ¬ (d = t ∧ back ≠ 0) from fun z => x z.1), wr_app, if_neg (by omega)]
  have e1 : mvM1 C n sp t h q back 9 d = if d = t ∧ back ≠ 0 then 1 else C 9 d := by
    unfold mvM1
    rw [wr_app, if_neg (by omega), wr_app, if_neg (by omega), wr_app, if_neg (by omega), e0]
  unfold mvM
  rw [wr_app, if_neg (by omega)]
  split
  · rw [wr_app, if_neg (by omega), e1]
  · exact e1
theorem mvM_11 {h q : Nat} {back : Int} {d : Nat} : mvM C n sp t h q back 11 d = if d = t ∧ (back ≠ 0 ∨ C 9 t = 1) ∧ mvP C n sp t h q back = 0 then 1 else C 11 d := by
  have e0 : mvM0 C t h back 11 d = C 11 d := by
    unfold mvM0
    split
    · rw [wr_app, if_neg (by omega)]
    · rw [wr_app, if_neg (by omega), wr_app, if_neg (by omega)]
  have e1 : mvM1 C n sp t h q back 11 d = C 11 d := by
    unfold mvM1
    rw [wr_app, if_neg (by omega), wr_app, if_neg (by omega), wr_app, if_neg (by omega), e0]
  unfold mvM
  rw [wr_app, if_neg (by omega)]
  by_cases y : (back ≠ 0 ∨ C 9 t = 1) ∧ mvP C n sp t h q back = 0
  · rw [if_pos y, wr_app]
    by_cases x : d = t
    · rw [if_pos ⟨rfl, x⟩, if_pos ⟨x, y⟩]
    · rw [if_neg (fun z => x z.2), if_neg (fun z => x z.1), e1]
  · rw [if_neg y, if_neg (fun z => y z.2), e1]
theorem mmR_o {h p : Nat} {back : Int} {b : Nat} (x : b ≠ 3 ∧ b ≠ 4 ∧ b ≠ 5 ∧ b ≠ 6 ∧ b ≠ sl t 0 ∧ b ≠ sl t 1 ∧ b ≠ sl t 2) : mmR D t h p back 150 b = D 150 b := by
  unfold mmR
  rw [wr_app, if_neg (by omega), wr_app, if_neg (by omega), wr_app, if_neg (by omega), wr_app, if_neg (by omega), wr_app, if_neg (by omega), wr_app, if_neg (by omega), wr_app, if_neg (by omega)]
theorem mmR_s {h p : Nat} {back : Int} {d w : Nat} (hw : w < 13) (x : d ≠ t ∨ 3 ≤ w) : mmR D t h p back 150 (sl d w) = D 150 (sl d w) := by
  have s := sl_div (d := d) (w := w) hw
  apply mmR_o
  refine ⟨by omega, by omega, by omega, by omega, fun h => ?_, fun h => ?_, fun h => ?_⟩
  · have := sl_inj hw (by omega) h; omega
  · have := sl_inj hw (by omega) h; omega
  · have := sl_inj hw (by omega) h; omega
theorem mmR_v {h p : Nat} {back : Int} : mmR D t h p back 150 3 = 1 ∧ mmR D t h p back 150 4 = mmT D h ∧ mmR D t h p back 150 5 = ltF (ltF (D 150 5)) ∧ mmR D t h p back 150 6 = mvDi (D 150 5) ∧ mmR D t h p back 150 (sl t 0) = (p : Int) ∧ mmR D t h p back 150 (sl t 1) = mmU D t back ∧ mmR D t h p back 150 (sl t 2) = (if mmU D t back = 1 ∧ p = 0 then 1 else 0) := by
  have s0 := sl_div (d := t) (w := 0) (by omega)
  have s1 := sl_div (d := t) (w := 1) (by omega)
  have s2 := sl_div (d := t) (w := 2) (by omega)
  have n01 : sl t 0 ≠ sl t 1 := by unfold sl; omega
  have n02 : sl t 0 ≠ sl t 2 := by unfold sl; omega
  have n12 : sl t 1 ≠ sl t 2 := by unfold sl; omega
  unfold mmR
  refine ⟨?_, ?_, ?_, ?_, ?_, ?_, ?_⟩
  · rw [wr_app, if_pos ⟨rfl, rfl⟩]
  · rw [wr_app, if_neg (by omega), wr_app, if_neg (by omega), wr_app, if_neg (by omega), wr_app, if_neg (by omega), wr_app, if_neg (by omega), wr_app, if_neg (by omega), wr_app, if_pos ⟨rfl, rfl⟩]
  · rw [wr_app, if_neg (by omega), wr_app, if_neg (by omega), wr_app, if_neg (by omega), wr_app, if_neg (by omega), wr_app, if_pos ⟨rfl, rfl⟩]
  · rw [wr_app, if_neg (by omega), wr_app, if_neg (by omega), wr_app, if_neg (by omega), wr_app, if_pos ⟨rfl, rfl⟩]
  · rw [wr_app, if_neg (by omega), wr_app, if_neg (by omega), wr_app, if_pos ⟨rfl, rfl⟩]
  · rw [wr_app, if_neg (by omega), wr_app, if_neg (by omega), wr_app, if_neg (by omega), wr_app, if_neg (by omega), wr_app, if_neg (by omega), wr_app, if_pos ⟨rfl, rfl⟩]
  · rw [wr_app, if_neg (by omega), wr_app, if_pos ⟨rfl, rfl⟩]
/-- what a move does to both -/
theorem RB_move (h : RB C D n sp t hl) {q : Nat} {back : Int} (hq : C 7 t = (q : Int)) (hqs : q ≤ sp) (h11 : C 11 t = 0) (hz : back ≠ 0 ∨ C 9 t = 1 → 1 ≤ q) : RB (mvM C n sp t (hl t) q back) (mmR D t (hl t) (mvP C n sp t (hl t) q back) back) n sp t hl := by
  have htn := h.tn
  have hn := h.cN.2
  have h16 := h.cS.2
  obtain ⟨p, ep⟩ : ∃ p, p = mvP C n sp t (hl t) q back := ⟨_, rfl⟩
  have hp : p ≤ sp := by rw [ep]; exact landF_le _ _ hqs
  have hU : mmU D t back = (if back ≠ 0 then 1 else C 9 t) := by
    unfold mmU
    by_cases x : back = 0
    · rw [if_pos x, if_neg (fun y => y x), h.up t htn]
    · rw [if_neg x, if_pos x]
  have hU1 : mmU D t back = 1 ↔ (back ≠ 0 ∨ C 9 t = 1) := by
    rw [hU]
    by_cases x : back = 0
    · rw [if_neg (fun y => y x)]; constructor
      · intro y; exact Or.inr y
      · rintro (y | y); exact absurd x y; exact y
    · rw [if_pos x]; exact ⟨fun _ => Or.inl x, fun _ => rfl⟩
  have c7 (d : Nat) : mvM C n sp t (hl t) q back 7 d = if d = t then (p : Int) else C 7 d := by rw [ep]; exact mvM_7
  have c9 (d : Nat) : mvM C n sp t (hl t) q back 9 d = if d = t ∧ back ≠ 0 then 1 else C 9 d := mvM_9
  have c11 (d : Nat) : mvM C n sp t (hl t) q back 11 d = if d = t ∧ (back ≠ 0 ∨ C 9 t = 1) ∧ p = 0 then 1 else C 11 d := by rw [ep]; exact mvM_11
  obtain ⟨v3, v6, v7, v8⟩ := mvM_1 (C := C) (n := n) (sp := sp) (t := t) (h := hl t) (q := q) (back := back)
  rw [← ep]
  obtain ⟨w3, w4, w5, w6, wp, wu, wh⟩ := mmR_v (D := D) (t := t) (h := hl t) (p := p) (back := back)
  have co (a b : Nat) (x : a ≠ 7 ∧ a ≠ 9 ∧ a ≠ 11 ∧ (a ≠ 1 ∨ (b ≠ 3 ∧ b ≠ 6 ∧ b ≠ 7 ∧ b ≠ 8))) : mvM C n sp t (hl t) q back a b = C a b := mvM_o x
  have cf (a : Nat) (x : a ≠ 7 ∧ a ≠ 9 ∧ a ≠ 11 ∧ a ≠ 1) : mvM C n sp t (hl t) q back a = C a := funext fun b => co a b (by omega)
  have dlow (b : Nat) (x : b < 25) (y : b ≠ 3 ∧ b ≠ 4 ∧ b ≠ 5 ∧ b ≠ 6) : mmR D t (hl t) p back 150 b = D 150 b := by
    have s0 := sl_div (d := t) (w := 0) (by omega)
    have s1 := sl_div (d := t) (w := 1) (by omega)
    have s2 := sl_div (d := t) (w := 2) (by omega)
    exact mmR_o (by omega)
  have hfree : p = 0 ∨ occ (C 7) t (p : Int) n 0 = false := by
    rw [ep]
    apply land_free _ _ _ hqs
    by_cases x : q = 0
    · exact Or.inl x
    · right
      cases hq2 : occ (C 7) t (q : Int) n 0 with
      | false => rfl
      | true =>
        obtain ⟨e, _, e1, e2, e3⟩ := (occ_iff n 0).1 hq2
        rcases h.uq e t (by omega) htn (by rw [e3, hq]) with y | y
        · exact absurd y e2
        · rw [e3] at y; omega
  have et : tr1 (mvM C n sp t (hl t) q back) hl = tr1 C hl := by unfold tr1; rw [cf 15 (by omega)]
  have ht100 := h.k1
  exact RB.make
    (cN := ⟨by rw [co 5 8 (by omega)]; exact h.cN.1, hn⟩)
    (mN := ⟨by rw [dlow 0 (by omega) (by omega)]; exact h.mN.1, hn⟩)
    (n2 := h.n2)
    (cS := ⟨by rw [co 2 1 (by omega)]; exact h.cS.1, h16⟩)
    (mS := ⟨by rw [dlow 8 (by omega) (by omega)]; exact h.mS.1, h16⟩)
    (pa := fun s hs => by rw [cf 4 (by omega), dlow (9 + s) (by omega) (by omega)]; exact h.pa s hs)
    (ch := fun d hd => by rw [cf 13 (by omega)]; exact h.ch d hd)
    (mh := fun d hd => by rw [mmR_s (by omega) (by omega)]; exact h.mh d hd)
    (ks := fun d hd i hi => by rw [cf 15 (by omega), mmR_s (by have := (h.ch d hd).1; omega) (by omega)]; exact h.ks d hd i hi)
    (pl := fun d hd => by
      rw [c7]
      by_cases x : d = t
      · rw [if_pos x]; exact ⟨p, hp, rfl⟩
      · rw [if_neg x]; exact h.pl d hd)
    (ml := fun d hd => by
      rw [c7]
      by_cases x : d = t
      · rw [if_pos x, x, wp]
      · rw [if_neg x, mmR_s (by omega) (by omega)]; exact h.ml d hd)
    (uq := fun d e hd he => by
      rw [c7, c7]
      by_cases x : d = t
      · by_cases y : e = t
        · intro _; left; omega
        · rw [if_pos x, if_neg y]
          intro z
          rcases hfree with f | f
          · right; omega
          · exact absurd z.symm (occ_no f e he y)
      · rw [if_neg x]
        by_cases y : e = t
        · rw [if_pos y]
          intro z
          rcases hfree with f | f
          · right; omega
          · exact absurd z (occ_no f d hd x)
        · rw [if_neg y]; exact h.uq d e hd he)
    (up := fun d hd => by
      rw [c9]
      by_cases x : d = t
      · subst x
        rw [wu, hU]
        by_cases y : back = 0
        · rw [if_neg (fun z => z y), if_neg (fun z => z.2 y)]
        · rw [if_pos y, if_pos ⟨rfl, y⟩]
      · rw [if_neg (fun z => x z.1), mmR_s (by omega) (by omega)]; exact h.up d hd)
    (u1 := fun d hd => by
      rw [c9]
      split
      · right; rfl
      · exact h.u1 d hd)
    (ho := fun d hd => by
      rw [c11]
      by_cases x : d = t
      · subst x
        rw [wh]
        by_cases y : (back ≠ 0 ∨ C 9 d = 1) ∧ p = 0
        · rw [if_pos ⟨hU1.2 y.1, y.2⟩, if_pos ⟨rfl, y⟩]
        · rw [if_neg (fun z => y ⟨hU1.1 z.1, z.2⟩), if_neg (fun z => y z.2), h11]
      · rw [if_neg (fun z => x z.1), mmR_s (by omega) (by omega)]; exact h.ho d hd)
    (h1 := fun d hd => by
      rw [c11]
      split
      · right; rfl
      · exact h.h1 d hd)
    (hp := fun d hd => by
      rw [c11, c7]
      by_cases x : d = t
      · rw [if_pos x]
        by_cases y : (back ≠ 0 ∨ C 9 t = 1) ∧ p = 0
        · intro _; have := y.2; omega
        · rw [if_neg (fun z => y z.2), x, h11]; intro z; omega
      · rw [if_neg x, if_neg (fun z => x z.1)]; exact h.hp d hd)
    (uh := fun d hd => by
      rw [c9, c7, c11]
      by_cases x : d = t
      · intro a b
        rw [if_pos x] at b
        have hp0 : p = 0 := by omega
        by_cases y : back = 0
        · rw [if_neg (fun z => z.2 y), x] at a
          rw [if_pos ⟨x, Or.inr a, hp0⟩]
        · rw [if_pos ⟨x, Or.inl y, hp0⟩]
      · rw [if_neg (fun z => x z.1), if_neg x, if_neg (fun z => x z.1)]; exact h.uh d hd)
    (sc := fun d hd => by rw [cf 17 (by omega), mmR_s (by omega) (by omega)]; exact h.sc d hd)
    (ow := fun d hd => by rw [cf 19 (by omega), mmR_s (by omega) (by omega)]; exact h.ow d hd)
    (dr := fun d hd => by rw [cf 21 (by omega), mmR_s (by omega) (by omega)]; exact h.dr d hd)
    (z := fun d h1 h2 => by rw [c11, if_neg (by omega), cf 17 (by omega), cf 19 (by omega)]; exact h.z d h1 h2)
    (lot := by rw [w5, v3, h.lot])
    (l1 := by rw [v3]; exact ltF_b _)
    (tank := by rw [w4, v7]; unfold mmT; rw [h.tank])
    (k1 := by rw [v7]; split <;> omega)
    (dice := by rw [w6, v8, h.lot])
    (ref := by rw [dlow 7 (by omega) (by omega), co 1 9 (by omega)]; exact h.ref)
    (tt := by rw [co 1 5 (by omega)]; exact h.tt)
    (tn := htn)
    (rd := by rw [dlow 1 (by omega) (by omega), co 1 4 (by omega)]; exact h.rd)
    (o1 := fun d hd => by rw [cf 19 (by omega)]; exact h.o1 d hd)
    (co := by rw [et, cf 19 (by omega), cf 4 (by omega)]; exact h.co)
theorem mvM_fr {h q : Nat} {back : Int} : frC C (mvM C n sp t h q back) := fun a b x => mvM_o (by omega)
theorem mmR_fr {h p : Nat} {back : Int} : frD D (mmR D t h p back) := by
  unfold mmR
  exact frD_tr (frD_tr (frD_tr (frD_tr (frD_tr (frD_tr frD_wr frD_wr) frD_wr) frD_wr) frD_wr) frD_wr) frD_wr
theorem GM_cast (h : RB C D n sp t hl) (hT : RT C D t) : ∀ D' : Mem, (∀ b, D' 150 b = D 150 b) → RB C D' n sp t hl ∧ RT C D' t :=
  fun _ ha => ⟨RB_cast h (fun _ _ _ _ => rfl) ha, RT_cast hT (fun _ _ _ _ => rfl) ha⟩
theorem G_move (hG : RG C D) (P : PMem) (back : Int) : ∃ (v : Int) (C' : Mem), evM 36 [Rf 1, I back] (Hp C P) = some (some (I v), Hp C' P) ∧ frC C C' ∧ (0 < v ∧ v < 2000000) ∧ ∀ D' : Mem, (∀ b, D' 150 b = D 150 b) → ∃ E, evM 134 [Rf 149, I back] (Hp D' P) = some (some (I v), Hp E P) ∧ RG C' E ∧ frD D' E := by
  obtain ⟨n, sp, t, hl, h, hT⟩ := hG
  have hD := GM_cast h hT
  have hn := h.cN.2
  have htn := h.tn
  have h4 : t < 4 := by omega
  have hb := rsM_b C t back
  have refC : ∀ r, rsM C t back = r → r ≠ 0 → evM 36 [Rf 1, I back] (Hp C P) = some (some (I r), Hp (wr C 1 9 (ad (C 1 9) 1)) P) := by
    intro r hr hr0
    have := g_moveNo (M := C) (P := P) h.tt h4 (back := back) (by rw [hr]; exact hr0)
    rw [hr] at this
    exact this
  by_cases c3 : C 1 4 < 3
  · have a5 : C 1 6 = 1 ∨ (C 1 6 = 0 ∧ C 11 t = 0) := by
      rcases hT with x | x
      · exact x.2.2.2.2
      · have := x.1; omega
    have hl3 : ∀ D', RT C D' t → D' 150 2 = (t : Int) ∧ 0 ≤ C 1 4 := by
      intro D' x
      rcases x with x | x
      · exact ⟨x.2.2.1, x.1⟩
      · have := x.1; omega
    by_cases c1 : rsM C t back = 0
    · -- a move
      obtain ⟨q, hqs, hq⟩ := h.pl t htn
      have hhl := h.ch t htn
      have h60 : C 1 6 = 0 ∧ C 11 t = 0 := by
        rcases a5 with x | x
        · exfalso
          unfold rsM at c1
          rw [if_neg (by omega), if_neg (by omega)] at c1
          omega
        · exact x
      have hz : back ≠ 0 ∨ C 9 t = 1 → 1 ≤ q := by
        intro x
        by_cases y : q = 0
        · exfalso
          have q0 : C 7 t = 0 := by rw [hq, y]; rfl
          rcases x with x | x
          · unfold rsM at c1
            rw [if_neg (by omega), if_pos h60.1, if_neg x, if_pos (Or.inr q0)] at c1
            omega
          · have := h.uh t htn x q0; omega
        · omega
      have hpl : mvP C n sp t (hl t) q back ≤ sp := landF_le _ _ hqs
      have h16 := h.cS.2
      refine ⟨10 + (mvP C n sp t (hl t) q back : Int), mvM C n sp t (hl t) q back, g_move h.cN h.cS h.tt htn hhl.2 hhl.1 hq hqs h.l1 h.k1 c1, mvM_fr, by omega, fun D' ha => ?_⟩
      obtain ⟨h', hT'⟩ := hD D' ha
      have hs := rs_same h' hT' (back := back) c3
      obtain ⟨a3, a1⟩ := hl3 D' hT'
      have hU1 : mmU D' t back = 1 ↔ (back ≠ 0 ∨ C 9 t = 1) := by
        unfold mmU
        rw [h'.up t htn]
        by_cases x : back = 0
        · rw [if_pos x]; constructor
          · intro y; exact Or.inr y
          · rintro (y | y); exact absurd x y; exact y
        · rw [if_neg x]; exact ⟨fun _ => Or.inl x, fun _ => rfl⟩
      have ep : landF (C 7) n t sp (decide (mmU D' t back = 1)) (mvDi (D' 150 5) - hl t).toNat q = mvP C n sp t (hl t) q back := by
        unfold mvP
        rw [h'.lot]
        congr 1
        exact decide_eq_decide.2 hU1
      refine ⟨mmR D' t (hl t) (mvP C n sp t (hl t) q back) back, ?_, ?_, mmR_fr⟩
      · have := m_goMove (P := P) h'.mN h'.mS h'.ml h'.uq a3 htn (h'.mh t htn).2 hhl.1 (by rw [h'.ml t htn]; exact hq) hqs (by rw [h'.lot]; exact h'.l1) (by rw [h'.tank]; have := h'.k1; omega) (back := back) (by rw [← hs]; exact c1) (fun x => hz (hU1.1 x))
        rw [ep] at this
        rw [this]
        rfl
      · refine ⟨n, sp, t, hl, RB_move h' hq hqs h60.2 hz, ?_⟩
        obtain ⟨v3, v6, v7, v8⟩ := mvM_1 (C := C) (n := n) (sp := sp) (t := t) (h := hl t) (q := q) (back := back)
        obtain ⟨w3, w4, w5, w6, wp, wu, wh⟩ := mmR_v (D := D') (t := t) (h := hl t) (p := mvP C n sp t (hl t) q back) (back := back)
        left
        have s0 := sl_div (d := t) (w := 0) (by omega)
        have s1 := sl_div (d := t) (w := 1) (by omega)
        have s2 := sl_div (d := t) (w := 2) (by omega)
        rw [mvM_o (a := 1) (b := 4) (by omega), v6, w3, mmR_o (b := 2) (by omega)]
        exact ⟨a1, c3, a3, rfl, Or.inl rfl⟩
    · refine ⟨rsM C t back, _, refC _ rfl c1, frC_wr (by omega), by omega, fun D' ha => ?_⟩
      obtain ⟨h', hT'⟩ := hD D' ha
      have hs := rs_same h' hT' (back := back) c3
      have := m_moveNo (M := D') (P := P) (hl3 D' hT').1 h4 (back := back) (by rw [← hs]; exact c1)
      rw [← hs] at this
      exact ⟨_, this, ⟨n, sp, t, hl, RB_ref h', RT_ref hT'⟩, frD_wr⟩
  · have c3' : C 1 4 = 3 := by
      rcases hT with x | x
      · have := x.2.1; omega
      · exact x.1
    obtain ⟨x1, _⟩ := rs_over hT (back := back) c3'
    refine ⟨1, _, refC 1 x1 (by omega), frC_wr (by omega), by omega, fun D' ha => ?_⟩
    obtain ⟨h', hT'⟩ := hD D' ha
    obtain ⟨_, x2⟩ := rs_over hT' (back := back) c3'
    have hD2 : D' 150 2 = ((0 : Nat) : Int) := by
      rcases hT' with x | x
      · have := x.2.1; omega
      · exact x.2.1
    have := m_moveNo (M := D') (P := P) (t := 0) hD2 (by omega) (back := back) (by rw [x2]; omega)
    rw [x2] at this
    exact ⟨_, this, ⟨n, sp, t, hl, RB_ref h', RT_ref hT'⟩, frD_wr⟩
end GMove
