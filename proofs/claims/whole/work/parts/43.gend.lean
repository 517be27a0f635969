section GEnd
variable {C D : Mem} {n sp t : Nat} {hl : Nat → Nat}
theorem alH_iff {f : Nat → Int} : ∀ k, alH f k = 1 ↔ ∀ d, d < k → f d = 1 := by
  intro k
  induction k with
  | zero => exact ⟨fun _ d hd => by omega, fun _ => rfl⟩
  | succ k ih =>
    unfold alH
    rcases alH_01 f k with h | h
    · rw [if_pos h]
      constructor
      · intro q; omega
      · intro q
        have := ih.2 (fun d hd => q d (by omega))
        omega
    · rw [if_neg (by omega)]
      have hk := ih.1 h
      by_cases c1 : f k = 1
      · rw [if_pos c1]
        exact ⟨fun _ d hd => by
          by_cases e : d = k
          · rw [e]; exact c1
          · exact hk d (by omega), fun _ => rfl⟩
      · rw [if_neg c1]
        exact ⟨fun q => by omega, fun q => absurd (q k (by omega)) c1⟩
theorem home_eq (h : RB C D n sp t hl) : sumA (C 11) 4 = C 5 8 ↔ alH (mHo D) n = 1 := by
  have hn := h.cN.2
  have hn2 := h.n2
  have b01 : ∀ d, d < 4 → C 11 d = 0 ∨ C 11 d = 1 := fun d hd => by
    by_cases c : d < n
    · exact h.h1 d c
    · exact Or.inl (h.z d (by omega) hd).1
  have b0 := b01 0 (by omega)
  have b1 := b01 1 (by omega)
  have b2 := b01 2 (by omega)
  have b3 := b01 3 (by omega)
  have e : sumA (C 11) 4 = C 11 0 + C 11 1 + C 11 2 + C 11 3 := by
    simp only [sumA]
    rw [ad_eq (x := 0) (by omega) (by omega), ad_eq (x := 0 + C 11 0) (by omega) (by omega), ad_eq (x := 0 + C 11 0 + C 11 1) (by omega) (by omega), ad_eq (by omega) (by omega)]
    omega
  rw [e, h.cN.1, alH_iff]
  have hm : ∀ d, d < n → mHo D d = C 11 d := fun d hd => h.ho d hd
  constructor
  · intro q d hd
    rw [hm d hd]
    have z := fun d h1 h2 => (h.z d h1 h2).1
    have hn3 : n = 2 ∨ n = 3 ∨ n = 4 := by omega
    rcases hn3 with rfl | rfl | rfl
    · have z2 := z 2 (by omega) (by omega)
      have z3 := z 3 (by omega) (by omega)
      have : d = 0 ∨ d = 1 := by omega
      rcases this with rfl | rfl <;> omega
    · have z3 := z 3 (by omega) (by omega)
      have : d = 0 ∨ d = 1 ∨ d = 2 := by omega
      rcases this with rfl | rfl | rfl <;> omega
    · have : d = 0 ∨ d = 1 ∨ d = 2 ∨ d = 3 := by omega
      rcases this with rfl | rfl | rfl | rfl <;> omega
  · intro q
    have q' : ∀ d, d < n → C 11 d = 1 := fun d hd => by rw [← hm d hd]; exact q d hd
    have z := fun d h1 h2 => (h.z d h1 h2).1
    have hn3 : n = 2 ∨ n = 3 ∨ n = 4 := by omega
    rcases hn3 with rfl | rfl | rfl
    · rw [q' 0 (by omega), q' 1 (by omega), z 2 (by omega) (by omega), z 3 (by omega) (by omega)]; rfl
    · rw [q' 0 (by omega), q' 1 (by omega), q' 2 (by omega), z 3 (by omega) (by omega)]; rfl
    · rw [q' 0 (by omega), q' 1 (by omega), q' 2 (by omega), q' 3 (by omega)]; rfl
/-! what the class's end of a round leaves -/
theorem erM_o {a b : Nat} (x : a ≠ 1 ∧ a ≠ 2 ∧ a ≠ 4 ∧ a ≠ 7 ∧ a ≠ 9 ∧ a ≠ 11 ∧ a ≠ 13 ∧ a ≠ 17 ∧ a ≠ 19 ∧ a ≠ 21 ∧ a ≠ 23) : erM C n sp hl a b = C a b := by
  unfold erM
  rw [wr_app, if_neg (by omega), wr_app, if_neg (by omega), toS_o (by omega), wr_app, if_neg (by omega), layP_o (by omega) (by omega), layP_o (by omega) (by omega), brg_o (by omega) (by omega) (by omega), putL_o (by omega)]
theorem erM_1 {b : Nat} : erM C n sp hl 1 b = if b = 4 then ad (C 1 4) 1 else if b = 7 then 25 else if b = 5 then (arg (C 7) (n - 1) 1 0 : Int) else C 1 b := by
  unfold erM
  rw [wr_app]
  by_cases x4 : b = 4
  · rw [if_pos ⟨rfl, x4⟩, if_pos x4]
  · rw [if_neg (fun q => x4 q.2), if_neg x4, wr_app]
    by_cases x7 : b = 7
    · rw [if_pos ⟨rfl, x7⟩, if_pos x7]
    · rw [if_neg (fun q => x7 q.2), if_neg x7, toS_o (by omega), wr_app]
      by_cases x5 : b = 5
      · rw [if_pos ⟨rfl, x5⟩, if_pos x5]
      · rw [if_neg (fun q => x5 q.2), if_neg x5, layP_o (by omega) (by omega), layP_o (by omega) (by omega), brg_o (by omega) (by omega) (by omega), putL_o (by omega)]
theorem erM_0 {a b : Nat} (x : a = 7 ∨ a = 9 ∨ a = 11 ∨ a = 13) (hb : b < 4) : erM C n sp hl a b = 0 := by
  unfold erM
  rw [wr_app, if_neg (by omega), wr_app, if_neg (by omega)]
  unfold toS
  rw [wp_app, wp_app, wp_app, wp_app]
  rcases x with rfl | rfl | rfl | rfl
  · rw [if_neg (by omega), if_neg (by omega), if_neg (by omega), if_pos ⟨rfl, hb⟩]
  · rw [if_neg (by omega), if_neg (by omega), if_pos ⟨rfl, hb⟩]
  · rw [if_neg (by omega), if_pos ⟨rfl, hb⟩]
  · rw [if_pos ⟨rfl, hb⟩]
theorem erM_s {a b : Nat} (x : a = 17 ∨ a = 19 ∨ a = 21) : erM C n sp hl a b = brg (putL C 23 0 (skF C hl n sp)) hl n a b := by
  unfold erM
  rw [wr_app, if_neg (by omega), wr_app, if_neg (by omega), toS_o (by omega), wr_app, if_neg (by omega), layP_o (by omega) (by omega), layP_o (by omega) (by omega)]
theorem erM_17 {d : Nat} (hd : d < n) : erM C n sp hl 17 d = if C 11 d = 1 then ad (C 17 d) (va1 C hl d) else C 17 d := by
  rw [erM_s (Or.inl rfl)]
  unfold brg
  rw [if_pos hd, if_pos rfl]
  rfl
theorem erM_19 {d : Nat} (hd : d < n) : erM C n sp hl 19 d = if C 11 d = 1 then ad (C 19 d) (tr1 C hl d) else C 19 d := by
  rw [erM_s (Or.inr (Or.inl rfl))]
  unfold brg
  rw [if_pos hd, if_neg (by omega), if_pos rfl]
  rfl
theorem erM_21 {d : Nat} (hd : d < n) : erM C n sp hl 21 d = if C 11 d = 1 then C 21 d else ad (C 21 d) 1 := by
  rw [erM_s (Or.inr (Or.inr rfl))]
  unfold brg
  rw [if_pos hd, if_neg (by omega), if_neg (by omega), if_pos rfl]
  rfl
theorem erM_ge {a d : Nat} (x : a = 17 ∨ a = 19 ∨ a = 21) (hd : n ≤ d) : erM C n sp hl a d = C a d := by
  rw [erM_s x, brg_ge hd, putL_o (by omega)]
theorem erM_2 : erM C n sp hl 2 1 = (((nbL C sp).length + (chk 0 (skF C hl n sp)).length : Nat) : Int) := by
  unfold erM
  rw [wr_app, if_neg (by omega), wr_app, if_neg (by omega), toS_o (by omega), wr_app, if_neg (by omega), layP_sp]
theorem erM_4a {s : Nat} (h : s < (nbL C sp).length) : erM C n sp hl 4 (s + 1) = (nbL C sp).getD s 0 := by
  unfold erM
  rw [wr_app, if_neg (by omega), wr_app, if_neg (by omega), toS_o (by omega), wr_app, if_neg (by omega), layP_le (by omega)]
  have := layP_at (M := brg (putL C 23 0 (skF C hl n sp)) hl n) (b := 0) (L := nbL C sp) (k := s) h
  rw [Nat.zero_add, Nat.add_comm] at this
  exact this
theorem erM_4b {s : Nat} (h : s < (chk 0 (skF C hl n sp)).length) : erM C n sp hl 4 ((nbL C sp).length + s + 1) = (chk 0 (skF C hl n sp)).getD s 0 := by
  unfold erM
  rw [wr_app, if_neg (by omega), wr_app, if_neg (by omega), toS_o (by omega), wr_app, if_neg (by omega), show (nbL C sp).length + s + 1 = (nbL C sp).length + 1 + s by omega, layP_at h]
/-! what the reference's end of a round leaves -/
theorem bgR_o {A : Mem} {a b : Nat} (x : a ≠ 150 ∨ (b < 25 ∧ b ≠ 4)) : bgR A n a b = A a b := by
  unfold bgR bgP
  rw [if_neg (by omega), wr_app, if_neg (by omega)]
theorem bgR_4 {A : Mem} : bgR A n 150 4 = 25 := by
  unfold bgR bgP
  rw [if_neg (by omega), wr_app, if_pos ⟨rfl, rfl⟩]
theorem bgR_s {A : Mem} {d w : Nat} (hd : d < n) (hw : w < 13) : bgR A n 150 (sl d w) = if w < 10 then 0 else A 150 (sl d w) := by
  have s := sl_div (d := d) (w := w) hw
  unfold bgR bgP
  by_cases c : w < 10
  · rw [if_pos c, if_pos ⟨rfl, by omega, by unfold sl; omega, by omega⟩]
  · rw [if_neg c, if_neg (by omega), wr_app, if_neg (by omega)]
theorem enR_lo {x b : Nat} (hs : sp ≤ 16) (y : b = 0 ∨ b = 5 ∨ b = 6 ∨ b = 7) : enR D C n sp hl x 150 b = D 150 b := by
  unfold enR enR0
  rw [wr_app, if_neg (by omega), wr_app, if_neg (by omega), bgR_o (by omega), wr_app, if_neg (by omega)]
  unfold lyX
  rw [if_neg (by omega), if_neg (by omega), clR_o (by omega) hs, skM_o (by omega) (by omega), erX_o (by omega)]
theorem enR_v {x : Nat} : enR D C n sp hl x 150 1 = ad (D 150 1) 1 ∧ enR D C n sp hl x 150 2 = (if ad (D 150 1) 1 = 3 then 0 else (arg (C 7) (n - 1) 1 0 : Int)) ∧ enR D C n sp hl x 150 3 = (if ad (D 150 1) 1 = 3 then 2 else 0) ∧ enR D C n sp hl x 150 4 = 25 ∧ enR D C n sp hl x 150 8 = (((mNb D sp).length + ((skF C hl n sp).length + 2) / 3 : Nat) : Int) := by
  unfold enR
  refine ⟨?_, ?_, ?_, ?_, ?_⟩
  · rw [wr_app, if_neg (by omega), wr_app, if_neg (by omega), bgR_o (by omega), wr_app, if_pos ⟨rfl, rfl⟩]
  · rw [wr_app, if_neg (by omega), wr_app, if_pos ⟨rfl, rfl⟩]
  · rw [wr_app, if_pos ⟨rfl, rfl⟩]
  · rw [wr_app, if_neg (by omega), wr_app, if_neg (by omega), bgR_4]
  · rw [wr_app, if_neg (by omega), wr_app, if_neg (by omega), bgR_o (by omega), wr_app, if_neg (by omega)]
    unfold enR0 lyX
    rw [if_pos ⟨rfl, rfl⟩]
theorem enR_pa {x s : Nat} (hs : sp ≤ 16) (h : s < (mNb D sp).length) : enR D C n sp hl x 150 (9 + s) = (mNb D sp).getD s 0 := by
  have hlen := mNb_len (M := D) sp
  have hnb : mNb (skM (erX D C hl x) (skF C hl n sp)) sp = mNb D sp := mNb_congr (fun b hb => by rw [skM_o (by omega) (by omega), erX_o (by omega)])
  unfold enR enR0
  rw [wr_app, if_neg (by omega), wr_app, if_neg (by omega), bgR_o (by omega), wr_app, if_neg (by omega)]
  unfold lyX
  rw [if_neg (by omega), if_neg (by omega)]
  unfold clR zr
  rw [wr_app, if_neg (by omega), hnb, if_neg (by omega)]
  exact putL_at h
theorem enR_pb {x s : Nat} (h : (mNb D sp).length + s < 16) : enR D C n sp hl x 150 (9 + ((mNb D sp).length + s)) = vS (skF C hl n sp) s (skF C hl n sp).length := by
  unfold enR enR0
  rw [wr_app, if_neg (by omega), wr_app, if_neg (by omega), bgR_o (by omega), wr_app, if_neg (by omega)]
  unfold lyX
  rw [if_neg (by omega), if_pos (by omega), show 9 + ((mNb D sp).length + s) - 9 - (mNb D sp).length = s by omega]
theorem enR_s {x d w : Nat} (hs : sp ≤ 16) (hd : d < n) (hw : w < 13) (hx : lk x d = true) : enR D C n sp hl x 150 (sl d w) = if w < 10 then 0 else nvF D C hl d w := by
  have s := sl_div (d := d) (w := w) hw
  have s2 : 25 ≤ sl d w := s.2.2
  unfold enR enR0
  rw [wr_app, if_neg (by omega), wr_app, if_neg (by omega), bgR_s hd hw]
  by_cases c : w < 10
  · rw [if_pos c, if_pos c]
  · rw [if_neg c, if_neg c, wr_app, if_neg (by omega)]
    unfold lyX
    rw [if_neg (by omega), if_neg (by omega), clR_o (by omega) hs, skM_o (by omega) (by omega), erX_at hw, if_pos hx]
end GEnd
