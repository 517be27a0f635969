/-! ===== what always holds of a game of the class (rows 1..23 of C) ===== -/
section Pre
variable {n sp t : Nat}
def UQ (c : Mem) (n : Nat) : Prop := ∀ d e, d < n → e < n → c 7 d = c 7 e → d = e ∨ c 7 d = 0
theorem dvAt_no {f : Nat → Int} {s : Int} : ∀ m d, (∀ e, e < d + m → f e ≠ s) → dvAt f s n m d = -4 := by
  intro m
  induction m with
  | zero => intro d _; rfl
  | succ m ih =>
    intro d h
    rw [dvAt, if_neg (h d (by omega))]
    exact ih (d + 1) fun e he => h e (by omega)
theorem dvAt_yes {f : Nat → Int} {s : Int} {x : Nat} (hx : f x = s) : ∀ m d, d ≤ x → x < d + m → (∀ e, e < d + m → f e = s → e = x) → dvAt f s n m d = (x : Int) := by
  intro m
  induction m with
  | zero => intro d _ _; omega
  | succ m ih =>
    intro d h1 h2 hu
    rw [dvAt]
    by_cases c1 : f d = s
    · rw [if_pos c1, hu d (by omega) c1]
    · rw [if_neg c1]
      have : d ≠ x := fun e => c1 (e ▸ hx)
      exact ih (d + 1) (by omega) (by omega) fun e he => hu e (by omega)
theorem occ_iff {f : Nat → Int} {u : Nat} {s : Int} : ∀ m d, occ f u s m d = true ↔ ∃ e, d ≤ e ∧ e < d + m ∧ e ≠ u ∧ f e = s := by
  intro m
  induction m with
  | zero => intro d; simp only [occ]; constructor
            · intro h; cases h
            · rintro ⟨e, h1, h2, _⟩; omega
  | succ m ih =>
    intro d
    rw [occ, Bool.or_eq_true, Bool.and_eq_true, decide_eq_true_eq, decide_eq_true_eq, ih]
    constructor
    · rintro (⟨h1, h2⟩ | ⟨e, h1, h2, h3, h4⟩)
      · exact ⟨d, by omega, by omega, h1, h2⟩
      · exact ⟨e, by omega, by omega, h3, h4⟩
    · rintro ⟨e, h1, h2, h3, h4⟩
      by_cases he : e = d
      · subst he; exact Or.inl ⟨h3, h4⟩
      · exact Or.inr ⟨e, by omega, by omega, h3, h4⟩
theorem go1_free {f : Nat → Int} {up : Bool} {p : Nat} (h : p = 0 ∨ occ f t (p : Int) n 0 = false) (hp : p ≤ sp) : go1 f n t sp up p = 0 ∨ occ f t ((go1 f n t sp up p : Nat) : Int) n 0 = false := by
  have hu : ∀ x : Nat, stU f n t x = 0 ∨ occ f t ((stU f n t x : Nat) : Int) n 0 = false := by
    intro x
    induction x with
    | zero => exact Or.inl rfl
    | succ x ih =>
      unfold stU
      by_cases c1 : occ f t ((x + 1 : Nat) : Int) n 0 = true
      · rw [if_pos c1]; exact ih
      · rw [if_neg c1]
        right
        cases hq : occ f t ((x + 1 : Nat) : Int) n 0 with
        | true => exact absurd hq c1
        | false => rfl
  have hd : ∀ m x : Nat, stD f n t p m x = 0 ∨ occ f t ((stD f n t p m x : Nat) : Int) n 0 = false := by
    intro m
    induction m with
    | zero => intro x; exact h
    | succ m ih =>
      intro x
      unfold stD
      by_cases c1 : occ f t (x : Int) n 0 = true
      · rw [if_pos c1]; exact ih _
      · rw [if_neg c1]
        right
        cases hq : occ f t (x : Int) n 0 with
        | true => exact absurd hq c1
        | false => rfl
  unfold go1
  cases up with
  | true => exact hu _
  | false => exact hd _ _
theorem land_free {f : Nat → Int} {up : Bool} : ∀ (k p : Nat), (p = 0 ∨ occ f t (p : Int) n 0 = false) → p ≤ sp → landF f n t sp up k p = 0 ∨ occ f t ((landF f n t sp up k p : Nat) : Int) n 0 = false := by
  intro k
  induction k with
  | zero => intro p h _; exact h
  | succ k ih => intro p h hp; exact ih _ (go1_free h hp) (go1_le hp)
theorem occ_no {f : Nat → Int} {s : Int} (h : occ f t s n 0 = false) : ∀ e, e < n → e ≠ t → f e ≠ s := by
  intro e he hne hs
  have : occ f t s n 0 = true := (occ_iff n 0).2 ⟨e, by omega, by omega, hne, hs⟩
  rw [h] at this
  cases this
end Pre
def CB (C : Mem) (n sp t : Nat) (hl : Nat → Nat) : Prop :=
  (CN C n) ∧ (2 ≤ n) ∧ (CS C sp) ∧ (∀ s, s < sp → C 4 (s + 1) = 0 ∨ (4096 ≤ C 4 (s + 1) ∧ C 4 (s + 1) < 16384)) ∧ (CH C n hl) ∧ (∀ d, d < n → ∀ i, i < hl d → 4096 ≤ C 15 (6 * d + i) ∧ C 15 (6 * d + i) < 16384) ∧ (∀ d, d < n → ∃ q : Nat, q ≤ sp ∧ C 7 d = (q : Int)) ∧ (UQ C n) ∧ (∀ d, d < n → C 9 d = 0 ∨ C 9 d = 1) ∧ (∀ d, d < n → C 11 d = 0 ∨ C 11 d = 1) ∧ (∀ d, d < n → C 11 d = 1 → C 7 d = 0) ∧ (∀ d, d < n → C 9 d = 1 → C 7 d = 0 → C 11 d = 1) ∧ (∀ d, n ≤ d → d < 4 → C 11 d = 0 ∧ C 17 d = 0 ∧ C 19 d = 0) ∧ (0 ≤ C 1 3 ∧ C 1 3 ≤ 9999) ∧ (0 ≤ C 1 7 ∧ C 1 7 ≤ 25) ∧ (C 1 5 = (t : Int)) ∧ (t < n) ∧ (∀ d, d < 4 → 0 ≤ C 19 d ∧ C 19 d ≤ 16) ∧ (sumN (fun s => pcnt (C 4 (s + 1))) sp + sumN (tr1 C hl) n + sumN (C 19) 4 = 16) ∧ (∀ d, d < n → 0 ≤ C 21 d ∧ C 21 d ≤ C 1 4) ∧ (0 ≤ C 1 8 ∧ C 1 8 ≤ 6) ∧ (C 1 4 = 3 → ∀ d, d < n → C 7 d = 0 ∧ C 9 d = 0 ∧ C 11 d = 0 ∧ hl d = 0)
theorem CB.cN {C : Mem} {n sp t : Nat} {hl : Nat → Nat} (h : CB C n sp t hl) : CN C n := h.1
theorem CB.n2 {C : Mem} {n sp t : Nat} {hl : Nat → Nat} (h : CB C n sp t hl) : 2 ≤ n := h.2.1
theorem CB.cS {C : Mem} {n sp t : Nat} {hl : Nat → Nat} (h : CB C n sp t hl) : CS C sp := h.2.2.1
theorem CB.pa {C : Mem} {n sp t : Nat} {hl : Nat → Nat} (h : CB C n sp t hl) : ∀ s, s < sp → C 4 (s + 1) = 0 ∨ (4096 ≤ C 4 (s + 1) ∧ C 4 (s + 1) < 16384) := h.2.2.2.1
theorem CB.ch {C : Mem} {n sp t : Nat} {hl : Nat → Nat} (h : CB C n sp t hl) : CH C n hl := h.2.2.2.2.1
theorem CB.ks {C : Mem} {n sp t : Nat} {hl : Nat → Nat} (h : CB C n sp t hl) : ∀ d, d < n → ∀ i, i < hl d → 4096 ≤ C 15 (6 * d + i) ∧ C 15 (6 * d + i) < 16384 := h.2.2.2.2.2.1
theorem CB.pl {C : Mem} {n sp t : Nat} {hl : Nat → Nat} (h : CB C n sp t hl) : ∀ d, d < n → ∃ q : Nat, q ≤ sp ∧ C 7 d = (q : Int) := h.2.2.2.2.2.2.1
theorem CB.uq {C : Mem} {n sp t : Nat} {hl : Nat → Nat} (h : CB C n sp t hl) : UQ C n := h.2.2.2.2.2.2.2.1
theorem CB.u1 {C : Mem} {n sp t : Nat} {hl : Nat → Nat} (h : CB C n sp t hl) : ∀ d, d < n → C 9 d = 0 ∨ C 9 d = 1 := h.2.2.2.2.2.2.2.2.1
theorem CB.h1 {C : Mem} {n sp t : Nat} {hl : Nat → Nat} (h : CB C n sp t hl) : ∀ d, d < n → C 11 d = 0 ∨ C 11 d = 1 := h.2.2.2.2.2.2.2.2.2.1
theorem CB.hp {C : Mem} {n sp t : Nat} {hl : Nat → Nat} (h : CB C n sp t hl) : ∀ d, d < n → C 11 d = 1 → C 7 d = 0 := h.2.2.2.2.2.2.2.2.2.2.1
theorem CB.uh {C : Mem} {n sp t : Nat} {hl : Nat → Nat} (h : CB C n sp t hl) : ∀ d, d < n → C 9 d = 1 → C 7 d = 0 → C 11 d = 1 := h.2.2.2.2.2.2.2.2.2.2.2.1
theorem CB.z {C : Mem} {n sp t : Nat} {hl : Nat → Nat} (h : CB C n sp t hl) : ∀ d, n ≤ d → d < 4 → C 11 d = 0 ∧ C 17 d = 0 ∧ C 19 d = 0 := h.2.2.2.2.2.2.2.2.2.2.2.2.1
theorem CB.l1 {C : Mem} {n sp t : Nat} {hl : Nat → Nat} (h : CB C n sp t hl) : 0 ≤ C 1 3 ∧ C 1 3 ≤ 9999 := h.2.2.2.2.2.2.2.2.2.2.2.2.2.1
theorem CB.k1 {C : Mem} {n sp t : Nat} {hl : Nat → Nat} (h : CB C n sp t hl) : 0 ≤ C 1 7 ∧ C 1 7 ≤ 25 := h.2.2.2.2.2.2.2.2.2.2.2.2.2.2.1
theorem CB.tt {C : Mem} {n sp t : Nat} {hl : Nat → Nat} (h : CB C n sp t hl) : C 1 5 = (t : Int) := h.2.2.2.2.2.2.2.2.2.2.2.2.2.2.2.1
theorem CB.tn {C : Mem} {n sp t : Nat} {hl : Nat → Nat} (h : CB C n sp t hl) : t < n := h.2.2.2.2.2.2.2.2.2.2.2.2.2.2.2.2.1
theorem CB.o1 {C : Mem} {n sp t : Nat} {hl : Nat → Nat} (h : CB C n sp t hl) : ∀ d, d < 4 → 0 ≤ C 19 d ∧ C 19 d ≤ 16 := h.2.2.2.2.2.2.2.2.2.2.2.2.2.2.2.2.2.1
theorem CB.co {C : Mem} {n sp t : Nat} {hl : Nat → Nat} (h : CB C n sp t hl) : sumN (fun s => pcnt (C 4 (s + 1))) sp + sumN (tr1 C hl) n + sumN (C 19) 4 = 16 := h.2.2.2.2.2.2.2.2.2.2.2.2.2.2.2.2.2.2.1
theorem CB.dr {C : Mem} {n sp t : Nat} {hl : Nat → Nat} (h : CB C n sp t hl) : ∀ d, d < n → 0 ≤ C 21 d ∧ C 21 d ≤ C 1 4 := h.2.2.2.2.2.2.2.2.2.2.2.2.2.2.2.2.2.2.2.1
theorem CB.di {C : Mem} {n sp t : Nat} {hl : Nat → Nat} (h : CB C n sp t hl) : 0 ≤ C 1 8 ∧ C 1 8 ≤ 6 := h.2.2.2.2.2.2.2.2.2.2.2.2.2.2.2.2.2.2.2.2.1
theorem CB.ov {C : Mem} {n sp t : Nat} {hl : Nat → Nat} (h : CB C n sp t hl) : C 1 4 = 3 → ∀ d, d < n → C 7 d = 0 ∧ C 9 d = 0 ∧ C 11 d = 0 ∧ hl d = 0 := h.2.2.2.2.2.2.2.2.2.2.2.2.2.2.2.2.2.2.2.2.2
theorem CB.make {C : Mem} {n sp t : Nat} {hl : Nat → Nat} (cN : CN C n) (n2 : 2 ≤ n) (cS : CS C sp) (pa : ∀ s, s < sp → C 4 (s + 1) = 0 ∨ (4096 ≤ C 4 (s + 1) ∧ C 4 (s + 1) < 16384)) (ch : CH C n hl) (ks : ∀ d, d < n → ∀ i, i < hl d → 4096 ≤ C 15 (6 * d + i) ∧ C 15 (6 * d + i) < 16384) (pl : ∀ d, d < n → ∃ q : Nat, q ≤ sp ∧ C 7 d = (q : Int)) (uq : UQ C n) (u1 : ∀ d, d < n → C 9 d = 0 ∨ C 9 d = 1) (h1 : ∀ d, d < n → C 11 d = 0 ∨ C 11 d = 1) (hp : ∀ d, d < n → C 11 d = 1 → C 7 d = 0) (uh : ∀ d, d < n → C 9 d = 1 → C 7 d = 0 → C 11 d = 1) (z : ∀ d, n ≤ d → d < 4 → C 11 d = 0 ∧ C 17 d = 0 ∧ C 19 d = 0) (l1 : 0 ≤ C 1 3 ∧ C 1 3 ≤ 9999) (k1 : 0 ≤ C 1 7 ∧ C 1 7 ≤ 25) (tt : C 1 5 = (t : Int)) (tn : t < n) (o1 : ∀ d, d < 4 → 0 ≤ C 19 d ∧ C 19 d ≤ 16) (co : sumN (fun s => pcnt (C 4 (s + 1))) sp + sumN (tr1 C hl) n + sumN (C 19) 4 = 16) (dr : ∀ d, d < n → 0 ≤ C 21 d ∧ C 21 d ≤ C 1 4) (di : 0 ≤ C 1 8 ∧ C 1 8 ≤ 6) (ov : C 1 4 = 3 → ∀ d, d < n → C 7 d = 0 ∧ C 9 d = 0 ∧ C 11 d = 0 ∧ hl d = 0) : CB C n sp t hl :=
  ⟨cN, n2, cS, pa, ch, ks, pl, uq, u1, h1, hp, uh, z, l1, k1, tt, tn, o1, co, dr, di, ov⟩
/-- whose turn it is, and for what -/
def CT (C : Mem) (t : Nat) : Prop :=
  (0 ≤ C 1 4 ∧ C 1 4 < 3 ∧ (C 1 6 = 1 ∨ (C 1 6 = 0 ∧ C 11 t = 0))) ∨ (C 1 4 = 3 ∧ C 1 6 = 0)
def GC (C : Mem) : Prop := ∃ n sp t hl, CB C n sp t hl ∧ CT C t
/-- nothing but the class's main game is changed -/
def frC (C C' : Mem) : Prop := ∀ a b, a = 0 ∨ 24 ≤ a → C' a b = C a b
section Rel
variable {C : Mem} {n sp t : Nat} {hl : Nat → Nat}
theorem frC_wr {j b : Nat} {v : Int} (h : 1 ≤ j ∧ j < 24) : frC C (wr C j b v) := fun a b' h' => by rw [wr_app, if_neg (by omega)]
theorem frC_tr {A B E : Mem} (h1 : frC A B) (h2 : frC B E) : frC A E := fun a b h => by rw [h2 a b h, h1 a b h]
theorem frC_rf {A : Mem} : frC A A := fun _ _ _ => rfl
theorem cS_0 {b : Nat} (h : b = 3 ∨ b = 4 ∨ b = 5 ∨ b = 6 ∨ b = 7 ∨ b = 8 ∨ b = 9) : cS 0 b = true := by
  rcases h with rfl | rfl | rfl | rfl | rfl | rfl | rfl <;> decide
theorem cS_1 : cS 1 1 = true := by decide
theorem cS_4 : cS 4 8 = true := by decide
theorem cS_3 {b : Nat} (h : b < 17) : cS 3 b = true := by
  have : ∀ b, b < 17 → cS 3 b = true := by decide
  exact this b h
theorem cS_14 {b : Nat} (h : b < 24) : cS 14 b = true := by
  have : ∀ b, b < 24 → cS 14 b = true := by decide
  exact this b h
theorem cS_r {o b : Nat} (h : o = 6 ∨ o = 8 ∨ o = 10 ∨ o = 12 ∨ o = 16 ∨ o = 18 ∨ o = 20) (hb : b < 4) : cS o b = true := by
  have : ∀ b, b < 4 → cS 6 b = true ∧ cS 8 b = true ∧ cS 10 b = true ∧ cS 12 b = true ∧ cS 16 b = true ∧ cS 18 b = true ∧ cS 20 b = true := by decide
  obtain ⟨a1, a2, a3, a4, a5, a6, a7⟩ := this b hb
  rcases h with rfl | rfl | rfl | rfl | rfl | rfl | rfl
  · exact a1
  · exact a2
  · exact a3
  · exact a4
  · exact a5
  · exact a6
  · exact a7
/-- it looks at the cells that are copied alone, the number on turn, the phase and the count of refusals apart -/
theorem CB_cast {C' : Mem} {t' : Nat} (h : CB C n sp t hl) (hc : ∀ o b, cS o b = true → (o ≠ 0 ∨ (b ≠ 5 ∧ b ≠ 6 ∧ b ≠ 9)) → C' (o + 1) b = C (o + 1) b) (h5 : C' 1 5 = (t' : Int)) (ht' : t' < n) : CB C' n sp t' hl := by
  have hn := h.cN.2
  have h16 := h.cS.2
  have e1 : ∀ b, b = 3 ∨ b = 4 ∨ b = 7 ∨ b = 8 → C' 1 b = C 1 b := fun b x => hc 0 b (cS_0 (by omega)) (by omega)
  have e4 : ∀ s, s < 16 → C' 4 (s + 1) = C 4 (s + 1) := fun b x => hc 3 (b + 1) (cS_3 (by omega)) (by omega)
  have e7 : ∀ d, d < 4 → C' 7 d = C 7 d := fun d x => hc 6 d (cS_r (by omega) x) (by omega)
  have e9 : ∀ d, d < 4 → C' 9 d = C 9 d := fun d x => hc 8 d (cS_r (by omega) x) (by omega)
  have e11 : ∀ d, d < 4 → C' 11 d = C 11 d := fun d x => hc 10 d (cS_r (by omega) x) (by omega)
  have e13 : ∀ d, d < 4 → C' 13 d = C 13 d := fun d x => hc 12 d (cS_r (by omega) x) (by omega)
  have e15 : ∀ d i, d < 4 → i < 6 → C' 15 (6 * d + i) = C 15 (6 * d + i) := fun d i x y => hc 14 _ (cS_14 (by omega)) (by omega)
  have e17 : ∀ d, d < 4 → C' 17 d = C 17 d := fun d x => hc 16 d (cS_r (by omega) x) (by omega)
  have e19 : ∀ d, d < 4 → C' 19 d = C 19 d := fun d x => hc 18 d (cS_r (by omega) x) (by omega)
  have e21 : ∀ d, d < 4 → C' 21 d = C 21 d := fun d x => hc 20 d (cS_r (by omega) x) (by omega)
  exact CB.make
    (cN := ⟨by rw [hc 4 8 cS_4 (by omega)]; exact h.cN.1, hn⟩)
    (n2 := h.n2)
    (cS := ⟨by rw [hc 1 1 cS_1 (by omega)]; exact h.cS.1, h16⟩)
    (pa := fun s hs => by rw [e4 s (by omega)]; exact h.pa s hs)
    (ch := fun d hd' => by rw [e13 d (by omega)]; exact h.ch d hd')
    (ks := fun d hd' i hi => by have := (h.ch d hd').1; rw [e15 d i (by omega) (by omega)]; exact h.ks d hd' i hi)
    (pl := fun d hd' => by rw [e7 d (by omega)]; exact h.pl d hd')
    (uq := fun d e' h1 h2 => by rw [e7 d (by omega), e7 e' (by omega)]; exact h.uq d e' h1 h2)
    (u1 := fun d hd' => by rw [e9 d (by omega)]; exact h.u1 d hd')
    (h1 := fun d hd' => by rw [e11 d (by omega)]; exact h.h1 d hd')
    (hp := fun d hd' => by rw [e11 d (by omega), e7 d (by omega)]; exact h.hp d hd')
    (uh := fun d hd' => by rw [e9 d (by omega), e7 d (by omega), e11 d (by omega)]; exact h.uh d hd')
    (z := fun d h1 h2 => by rw [e11 d h2, e17 d h2, e19 d h2]; exact h.z d h1 h2)
    (l1 := by rw [e1 3 (by omega)]; exact h.l1)
    (k1 := by rw [e1 7 (by omega)]; exact h.k1)
    (tt := h5)
    (tn := ht')
    (o1 := fun d hd' => by rw [e19 d hd']; exact h.o1 d hd')
    (co := by
      have z1 : sumN (fun s => pcnt (C' 4 (s + 1))) sp = sumN (fun s => pcnt (C 4 (s + 1))) sp := sumN_congr sp (fun s hs => by show pcnt (C' 4 (s + 1)) = _; rw [e4 s (by omega)])
      have z2 : sumN (tr1 C' hl) n = sumN (tr1 C hl) n := sumN_congr n (fun d hd' => by
        unfold tr1
        apply sumN_congr
        intro i hi
        have := (h.ch d hd').1
        rw [e15 d i (by omega) (by omega)])
      have z3 : sumN (C' 19) 4 = sumN (C 19) 4 := sumN_congr 4 (fun d hd' => e19 d hd')
      rw [z1, z2, z3]
      exact h.co)
    (dr := fun d hd' => by rw [e21 d (by omega), e1 4 (by omega)]; exact h.dr d hd')
    (di := by rw [e1 8 (by omega)]; exact h.di)
    (ov := fun x d hd' => by rw [e1 4 (by omega)] at x; rw [e7 d (by omega), e9 d (by omega), e11 d (by omega)]; exact h.ov x d hd')
theorem CB_castS {C' : Mem} (h : CB C n sp t hl) (hc : ∀ o b, cS o b = true → C' (o + 1) b = C (o + 1) b) : CB C' n sp t hl :=
  CB_cast h (fun o b x _ => hc o b x) (by rw [hc 0 5 (cS_0 (by omega))]; exact h.tt) h.tn
theorem CT_castS {C' : Mem} (h : CT C t) (h4 : t < 4) (hc : ∀ o b, cS o b = true → C' (o + 1) b = C (o + 1) b) : CT C' t := by
  unfold CT
  rw [hc 0 4 (cS_0 (by omega)), hc 0 6 (cS_0 (by omega)), hc 10 t (cS_r (by omega) h4)]
  exact h
theorem GC_castS {C' : Mem} (h : GC C) (hc : ∀ o b, cS o b = true → C' (o + 1) b = C (o + 1) b) : GC C' := by
  obtain ⟨n, sp, t, hl, h1, h2⟩ := h
  have := h1.cN.2
  have := h1.tn
  exact ⟨n, sp, t, hl, CB_castS h1 hc, CT_castS h2 (by omega) hc⟩
theorem GC_cast {C' : Mem} (h : GC C) (hc : ∀ a b, 1 ≤ a → a < 24 → C' a b = C a b) : GC C' :=
  GC_castS h (fun o b x => hc _ _ (by omega) (by have := cS_sm _ _ x; omega))
theorem CB_ref (h : CB C n sp t hl) {v : Int} : CB (wr C 1 9 v) n sp t hl :=
  CB_cast h (fun o b _ y => by rw [wr_app, if_neg (by omega)]) (by rw [wr_app, if_neg (by omega)]; exact h.tt) h.tn
theorem CT_ref {v : Int} (h : CT C t) : CT (wr C 1 9 v) t := by
  unfold CT
  rw [wr_app, if_neg (by omega), wr_app, if_neg (by omega), wr_app, if_neg (by omega)]
  exact h
theorem CB_0 (h : CB C n sp t hl) : CB (wr C 1 6 0) n sp t hl :=
  CB_cast h (fun o b _ y => by rw [wr_app, if_neg (by omega)]) (by rw [wr_app, if_neg (by omega)]; exact h.tt) h.tn
end Rel
