section GEnd
variable {C : Mem} {n sp t : Nat} {hl : Nat → Nat}
theorem home_eq (h : CB C n sp t hl) : sumA (C 11) 4 = C 5 8 ↔ ∀ d, d < n → C 11 d = 1 := by
  have hn := h.cN.2
  have hn2 := h.n2
  have b01 : ∀ d, d < 4 → C 11 d = 0 ∨ C 11 d = 1 := fun d hd => by
    by_cases c : d < n
    · exact h.h1 d c
    · exact Or.inl (h.z d (by omega) hd).1
  have b0 := b01 0 (by omega)
  have b1 := b01 1 (by omega)
  have b2 := b01 2 (by omega)
  have b3 := b01 3 (by omega)
  have e : sumA (C 11) 4 = C 11 0 + C 11 1 + C 11 2 + C 11 3 := by
    simp only [sumA]
    rw [ad_eq (x := 0) (by omega) (by omega), ad_eq (x := 0 + C 11 0) (by omega) (by omega), ad_eq (x := 0 + C 11 0 + C 11 1) (by omega) (by omega), ad_eq (by omega) (by omega)]
    omega
  rw [e, h.cN.1]
  constructor
  · intro q d hd
    have z := fun d h1 h2 => (h.z d h1 h2).1
    have hn3 : n = 2 ∨ n = 3 ∨ n = 4 := by omega
    rcases hn3 with rfl | rfl | rfl
    · have z2 := z 2 (by omega) (by omega)
      have z3 := z 3 (by omega) (by omega)
      have : d = 0 ∨ d = 1 := by omega
      rcases this with rfl | rfl <;> omega
    · have z3 := z 3 (by omega) (by omega)
      have : d = 0 ∨ d = 1 ∨ d = 2 := by omega
      rcases this with rfl | rfl | rfl <;> omega
    · have : d = 0 ∨ d = 1 ∨ d = 2 ∨ d = 3 := by omega
      rcases this with rfl | rfl | rfl | rfl <;> omega
  · intro q
    have q' : ∀ d, d < n → C 11 d = 1 := q
    have z := fun d h1 h2 => (h.z d h1 h2).1
    have hn3 : n = 2 ∨ n = 3 ∨ n = 4 := by omega
    rcases hn3 with rfl | rfl | rfl
    · rw [q' 0 (by omega), q' 1 (by omega), z 2 (by omega) (by omega), z 3 (by omega) (by omega)]; rfl
    · rw [q' 0 (by omega), q' 1 (by omega), q' 2 (by omega), z 3 (by omega) (by omega)]; rfl
    · rw [q' 0 (by omega), q' 1 (by omega), q' 2 (by omega), q' 3 (by omega)]; rfl
/-! what the class's end of a round leaves -/
theorem erM_o {a b : Nat} (x : a ≠ 1 ∧ a ≠ 2 ∧ a ≠ 4 ∧ a ≠ 7 ∧ a ≠ 9 ∧ a ≠ 11 ∧ a ≠ 13 ∧ a ≠ 17 ∧ a ≠ 19 ∧ a ≠ 21 ∧ a ≠ 23) : erM C n sp hl a b = C a b := by
  unfold erM
  rw [wr_app, if_neg (by omega), wr_app, if_neg (by omega), toS_o (by omega), wr_app, if_neg (by omega), layP_o (by omega) (by omega), layP_o (by omega) (by omega), brg_o (by omega) (by omega) (by omega), putL_o (by omega)]
theorem erM_1 {b : Nat} : erM C n sp hl 1 b = if b = 4 then ad (C 1 4) 1 else if b = 7 then 25 else if b = 5 then (arg (C 7) (n - 1) 1 0 : Int) else C 1 b := by
  unfold erM
  rw [wr_app]
  by_cases x4 : b = 4
  · rw [if_pos ⟨rfl, x4⟩, if_pos x4]
  · rw [if_neg (fun q => x4 q.2), if_neg x4, wr_app]
    by_cases x7 : b = 7
    · rw [if_pos ⟨rfl, x7⟩, if_pos x7]
    · rw [if_neg (fun q => x7 q.2), if_neg x7, toS_o (by omega), wr_app]
      by_cases x5 : b = 5
      · rw [if_pos ⟨rfl, x5⟩, if_pos x5]
      · rw [if_neg (fun q => x5 q.2), if_neg x5, layP_o (by omega) (by omega), layP_o (by omega) (by omega), brg_o (by omega) (by omega) (by omega), putL_o (by omega)]
theorem erM_0 {a b : Nat} (x : a = 7 ∨ a = 9 ∨ a = 11 ∨ a = 13) (hb : b < 4) : erM C n sp hl a b = 0 := by
  unfold erM
  rw [wr_app, if_neg (by omega), wr_app, if_neg (by omega)]
  unfold toS
  rw [wp_app, wp_app, wp_app, wp_app]
  rcases x with rfl | rfl | rfl | rfl
  · rw [if_neg (by omega), if_neg (by omega), if_neg (by omega), if_pos ⟨rfl, hb⟩]
  · rw [if_neg (by omega), if_neg (by omega), if_pos ⟨rfl, hb⟩]
  · rw [if_neg (by omega), if_pos ⟨rfl, hb⟩]
  · rw [if_pos ⟨rfl, hb⟩]
theorem erM_s {a b : Nat} (x : a = 17 ∨ a = 19 ∨ a = 21) : erM C n sp hl a b = brg (putL C 23 0 (skF C hl n sp)) hl n a b := by
  unfold erM
  rw [wr_app, if_neg (by omega), wr_app, if_neg (by omega), toS_o (by omega), wr_app, if_neg (by omega), layP_o (by omega) (by omega), layP_o (by omega) (by omega)]
theorem erM_17 {d : Nat} (hd : d < n) : erM C n sp hl 17 d = if C 11 d = 1 then ad (C 17 d) (va1 C hl d) else C 17 d := by
  rw [erM_s (Or.inl rfl)]
  unfold brg
  rw [if_pos hd, if_pos rfl]
  rfl
theorem erM_19 {d : Nat} (hd : d < n) : erM C n sp hl 19 d = if C 11 d = 1 then ad (C 19 d) (tr1 C hl d) else C 19 d := by
  rw [erM_s (Or.inr (Or.inl rfl))]
  unfold brg
  rw [if_pos hd, if_neg (by omega), if_pos rfl]
  rfl
theorem erM_21 {d : Nat} (hd : d < n) : erM C n sp hl 21 d = if C 11 d = 1 then C 21 d else ad (C 21 d) 1 := by
  rw [erM_s (Or.inr (Or.inr rfl))]
  unfold brg
  rw [if_pos hd, if_neg (by omega), if_neg (by omega), if_pos rfl]
  rfl
theorem erM_ge {a d : Nat} (x : a = 17 ∨ a = 19 ∨ a = 21) (hd : n ≤ d) : erM C n sp hl a d = C a d := by
  rw [erM_s x, brg_ge hd, putL_o (by omega)]
theorem erM_2 : erM C n sp hl 2 1 = (((nbL C sp).length + (chk 0 (skF C hl n sp)).length : Nat) : Int) := by
  unfold erM
  rw [wr_app, if_neg (by omega), wr_app, if_neg (by omega), toS_o (by omega), wr_app, if_neg (by omega), layP_sp]
theorem erM_4a {s : Nat} (h : s < (nbL C sp).length) : erM C n sp hl 4 (s + 1) = (nbL C sp).getD s 0 := by
  unfold erM
  rw [wr_app, if_neg (by omega), wr_app, if_neg (by omega), toS_o (by omega), wr_app, if_neg (by omega), layP_le (by omega)]
  have := layP_at (M := brg (putL C 23 0 (skF C hl n sp)) hl n) (b := 0) (L := nbL C sp) (k := s) h
  rw [Nat.zero_add, Nat.add_comm] at this
  exact this
theorem erM_4b {s : Nat} (h : s < (chk 0 (skF C hl n sp)).length) : erM C n sp hl 4 ((nbL C sp).length + s + 1) = (chk 0 (skF C hl n sp)).getD s 0 := by
  unfold erM
  rw [wr_app, if_neg (by omega), wr_app, if_neg (by omega), toS_o (by omega), wr_app, if_neg (by omega), show (nbL C sp).length + s + 1 = (nbL C sp).length + 1 + s by omega, layP_at h]
end GEnd
