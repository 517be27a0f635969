section Turn
variable {M N : Mem} {P : PMem} {L p : Nat}
def gl (f : Nat → Int) (L p : Nat) : Int := if p < L then f p else 0
theorem hrF_gl (hs : M 149 11 = (p : Int)) (hL : M 149 6 = (L : Int)) : hrF M = gl (M 153) L p := by
  unfold hrF gl
  rw [hs, hL]
  by_cases c : p < L
  · rw [if_pos (by omega), if_pos c]; rfl
  · rw [if_neg (by omega), if_neg c]
theorem tu_o {a b : Nat} (h : a ≠ 149 ∨ b < 11 ∨ 15 < b) : tuM M a b = M a b := by
  have e : tuC (tuB (tuA M)) a b = M a b := by
    unfold tuC
    rw [wr_app, if_neg (by omega)]
    unfold tuB
    rw [tkP_o (by omega), wr_app, if_neg (by omega)]
    unfold tuA
    rw [tkP_o (by omega), wr_app, if_neg (by omega)]
  unfold tuM
  split
  · rw [tkP_o (by omega), e]
  · exact e
/-- what a turn leaves: whether the form still holds, and where -/
def tnS (f : Nat → Int) (L p : Nat) : Nat :=
  if k1F (gl f L p) = 0 then p else if k2F (gl f L (p + 1)) = 0 then p + 1 else if gl f L (p + 1) = 108 then (if 48 ≤ gl f L (p + 2) ∧ gl f L (p + 2) ≤ 53 then p + 3 else p + 2) else p + 2
def tnF (f : Nat → Int) (L p : Nat) : Int :=
  if k1F (gl f L p) = 0 then 0 else if k2F (gl f L (p + 1)) = 0 then 0 else if gl f L (p + 1) = 108 then (if 48 ≤ gl f L (p + 2) ∧ gl f L (p + 2) ≤ 53 then 1 else 0) else 1
theorem tu_spec (hs : M 149 11 = (p : Int)) (hp : p ≤ 100) (hL : M 149 6 = (L : Int)) (h12 : M 149 12 = 1) (hr : ∀ j, j < L → 33 ≤ M 153 j ∧ M 153 j ≤ 126) :
    tuM M 149 12 = tnF (M 153) L p ∧ tuM M 149 11 = (tnS (M 153) L p : Int) ∧ tuM M 149 13 = gl (M 153) L p ∧ (tnF (M 153) L p = 1 → tuM M 149 14 = gl (M 153) L (p + 1) ∧ tuM M 149 15 = gl (M 153) L (p + 2) - 48) := by
  have hgl : ∀ q, 0 ≤ gl (M 153) L q ∧ gl (M 153) L q ≤ 126 := by
    intro q
    unfold gl
    split
    · next c => have := hr q c; omega
    · omega
  -- the first letter
  obtain ⟨A1, a1⟩ : ∃ A, A = wr M 149 13 (hrF M) := ⟨_, rfl⟩
  have g1 := hrF_gl hs hL
  have a12 : A1 149 12 = 1 := by rw [a1, wr_app, if_neg (by omega)]; exact h12
  have a11 : A1 149 11 = (p : Int) := by rw [a1, wr_app, if_neg (by omega)]; exact hs
  obtain ⟨A2, a2⟩ : ∃ A, A = tuA M := ⟨_, rfl⟩
  have a2' : A2 = tkP A1 (k1F (gl (M 153) L p)) := by rw [a2, ← g1, a1]; rfl
  have b13 : A2 149 13 = gl (M 153) L p := by rw [a2', tkP_o (by omega), a1, wr_app, if_pos ⟨rfl, rfl⟩, g1]
  have b12 : A2 149 12 = if k1F (gl (M 153) L p) = 0 then 0 else 1 := by
    rw [a2', tkP_12, a12]
    by_cases c : k1F (gl (M 153) L p) = 0
    · rw [if_pos (Or.inr c), if_pos c]
    · rw [if_neg (by rintro (h | h); omega; exact c h), if_neg c]
  obtain ⟨p1, ep1⟩ : ∃ p1, p1 = (if k1F (gl (M 153) L p) = 0 then p else p + 1) := ⟨_, rfl⟩
  have b11 : A2 149 11 = (p1 : Int) := by
    rw [a2', tkP_11 a11 (by omega), a12, ep1]
    by_cases c : k1F (gl (M 153) L p) = 0
    · rw [if_pos (Or.inr c), if_pos c]
    · rw [if_neg (by rintro (h | h); omega; exact c h), if_neg c]
  have hp1 : p1 ≤ 101 := by rw [ep1]; split <;> omega
  have b6 : A2 149 6 = (L : Int) := by rw [a2', tkP_o (by omega), a1, wr_app, if_neg (by omega)]; exact hL
  have b153 : A2 153 = M 153 := funext fun j => by rw [a2', tkP_o (by omega), a1, wr_app, if_neg (by omega)]
  have g2 := hrF_gl b11 b6
  rw [b153] at g2
  -- the second
  obtain ⟨A3, a3⟩ : ∃ A, A = wr A2 149 14 (hrF A2) := ⟨_, rfl⟩
  have c12 : A3 149 12 = if k1F (gl (M 153) L p) = 0 then 0 else 1 := by rw [a3, wr_app, if_neg (by omega)]; exact b12
  have c11 : A3 149 11 = (p1 : Int) := by rw [a3, wr_app, if_neg (by omega)]; exact b11
  obtain ⟨A4, a4⟩ : ∃ A, A = tuB A2 := ⟨_, rfl⟩
  have a4' : A4 = tkP A3 (k2F (gl (M 153) L p1)) := by rw [a4, ← g2, a3]; rfl
  have d13 : A4 149 13 = gl (M 153) L p := by rw [a4', tkP_o (by omega), a3, wr_app, if_neg (by omega), b13]
  have d14 : A4 149 14 = gl (M 153) L p1 := by rw [a4', tkP_o (by omega), a3, wr_app, if_pos ⟨rfl, rfl⟩, g2]
  have d12 : A4 149 12 = if k1F (gl (M 153) L p) = 0 ∨ k2F (gl (M 153) L p1) = 0 then 0 else 1 := by
    rw [a4', tkP_12, c12]
    by_cases c : k1F (gl (M 153) L p) = 0
    · rw [if_pos c, if_pos (Or.inl rfl), if_pos (Or.inl c)]
    · rw [if_neg c]
      by_cases c' : k2F (gl (M 153) L p1) = 0
      · rw [if_pos (Or.inr c'), if_pos (Or.inr c')]
      · rw [if_neg (by rintro (h | h); omega; exact c' h), if_neg (by rintro (h | h); exact c h; exact c' h)]
  obtain ⟨p2, ep2⟩ : ∃ p2, p2 = (if k1F (gl (M 153) L p) = 0 ∨ k2F (gl (M 153) L p1) = 0 then p1 else p1 + 1) := ⟨_, rfl⟩
  have d11 : A4 149 11 = (p2 : Int) := by
    rw [a4', tkP_11 c11 (by omega), c12, ep2]
    by_cases c : k1F (gl (M 153) L p) = 0
    · rw [if_pos c, if_pos (Or.inl rfl), if_pos (Or.inl c)]
    · rw [if_neg c]
      by_cases c' : k2F (gl (M 153) L p1) = 0
      · rw [if_pos (Or.inr c'), if_pos (Or.inr c')]
      · rw [if_neg (by rintro (h | h); omega; exact c' h), if_neg (by rintro (h | h); exact c h; exact c' h)]
  have hp2 : p2 ≤ 102 := by rw [ep2]; split <;> omega
  have d6 : A4 149 6 = (L : Int) := by rw [a4', tkP_o (by omega), a3, wr_app, if_neg (by omega)]; exact b6
  have d153 : A4 153 = M 153 := funext fun j => by rw [a4', tkP_o (by omega), a3, wr_app, if_neg (by omega), b153]
  have g3 := hrF_gl d11 d6
  rw [d153] at g3
  -- the third
  obtain ⟨A5, a5⟩ : ∃ A, A = tuC A4 := ⟨_, rfl⟩
  have f15 : A5 149 15 = gl (M 153) L p2 - 48 := by
    rw [a5]
    unfold tuC
    have := hgl p2
    rw [wr_app, if_pos ⟨rfl, rfl⟩, g3, sb_eq (by omega) (by omega)]
  have f14 : A5 149 14 = gl (M 153) L p1 := by rw [a5]; unfold tuC; rw [wr_app, if_neg (by omega)]; exact d14
  have f13 : A5 149 13 = gl (M 153) L p := by rw [a5]; unfold tuC; rw [wr_app, if_neg (by omega)]; exact d13
  have f12 : A5 149 12 = if k1F (gl (M 153) L p) = 0 ∨ k2F (gl (M 153) L p1) = 0 then 0 else 1 := by rw [a5]; unfold tuC; rw [wr_app, if_neg (by omega)]; exact d12
  have f11 : A5 149 11 = (p2 : Int) := by rw [a5]; unfold tuC; rw [wr_app, if_neg (by omega)]; exact d11
  have hA : tuC (tuB (tuA M)) = A5 := by rw [a5, a4, a2]
  have hk3 : k3F (A5 149 15) = 0 ↔ ¬ (48 ≤ gl (M 153) L p2 ∧ gl (M 153) L p2 ≤ 53) := by
    rw [f15]
    unfold k3F
    by_cases c : 0 ≤ gl (M 153) L p2 - 48 ∧ gl (M 153) L p2 - 48 ≤ 5
    · rw [if_pos c]
      constructor
      · intro h; omega
      · intro h; exact absurd ⟨by omega, by omega⟩ h
    · rw [if_neg c]
      exact ⟨fun _ h => c ⟨by omega, by omega⟩, fun _ => rfl⟩
  unfold tuM tnF tnS
  rw [hA, f14]
  by_cases c1 : k1F (gl (M 153) L p) = 0
  · rw [if_pos c1] at ep1
    rw [if_pos (Or.inl c1)] at ep2 f12
    rw [if_pos c1, if_pos c1]
    by_cases c4 : gl (M 153) L p1 = 108
    · rw [if_pos c4]
      refine ⟨?_, ?_, ?_, fun h => by omega⟩
      · rw [tkP_12, f12, if_pos (Or.inl rfl)]
      · rw [tkP_11 f11 (by omega), f12, if_pos (Or.inl rfl), ep2, ep1]
      · rw [tkP_o (by omega), f13]
    · rw [if_neg c4]
      exact ⟨f12, by rw [f11, ep2, ep1], f13, fun h => by omega⟩
  · rw [if_neg c1] at ep1
    rw [if_neg c1, if_neg c1]
    by_cases c2 : k2F (gl (M 153) L p1) = 0
    · rw [if_pos (Or.inr c2)] at ep2 f12
      have c2' := c2
      rw [ep1] at c2'
      rw [if_pos c2', if_pos c2']
      have c4 : ¬ gl (M 153) L p1 = 108 := by
        intro h
        unfold k2F at c2
        rw [if_pos (Or.inr (Or.inr h))] at c2
        omega
      rw [if_neg c4]
      exact ⟨f12, by rw [f11, ep2, ep1], f13, fun h => by omega⟩
    · rw [if_neg (by rintro (h | h); exact c1 h; exact c2 h)] at ep2 f12
      have c2' := c2
      rw [ep1] at c2' ep2
      rw [if_neg c2', if_neg c2']
      have e22 : p2 = p + 2 := by omega
      by_cases c4 : gl (M 153) L p1 = 108
      · have c4' := c4
        rw [ep1] at c4'
        rw [if_pos c4, if_pos c4', if_pos c4']
        rw [e22] at hk3 f11 f15
        by_cases c5 : 48 ≤ gl (M 153) L (p + 2) ∧ gl (M 153) L (p + 2) ≤ 53
        · rw [if_pos c5, if_pos c5]
          have c6 : ¬ k3F (A5 149 15) = 0 := fun h => hk3.1 h c5
          refine ⟨?_, ?_, ?_, fun _ => ⟨?_, ?_⟩⟩
          · rw [tkP_12, f12, if_neg (by rintro (h | h); omega; exact c6 h)]
          · rw [tkP_11 f11 (by omega), f12, if_neg (by rintro (h | h); omega; exact c6 h)]
          · rw [tkP_o (by omega), f13]
          · rw [tkP_o (by omega), f14, ep1]
          · rw [tkP_o (by omega), f15]
        · rw [if_neg c5, if_neg c5]
          have c6 : k3F (A5 149 15) = 0 := hk3.2 c5
          refine ⟨?_, ?_, ?_, fun h => by omega⟩
          · rw [tkP_12, if_pos (Or.inr c6)]
          · rw [tkP_11 f11 (by omega), if_pos (Or.inr c6)]
          · rw [tkP_o (by omega), f13]
      · have c4' := c4
        rw [ep1] at c4'
        rw [if_neg c4, if_neg c4', if_neg c4']
        exact ⟨f12, by rw [f11, e22], f13, fun _ => ⟨by rw [f14, ep1], by rw [f15, e22]⟩⟩
end Turn
