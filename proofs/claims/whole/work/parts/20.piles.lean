/-! ===== stacks: the class's number c, the reference's number m ===== -/
def encS (c m : Int) : Prop := ∃ a b e : Int, (0 ≤ a ∧ a ≤ 15 ∧ 0 ≤ b ∧ b ≤ 15 ∧ 0 ≤ e ∧ e ≤ 15) ∧ ((c = 4096 + a ∧ m = a + 1 ∧ b = 0 ∧ e = 0) ∨ (c = 8192 + a + 16 * b ∧ m = a + 1 + 32 * (b + 1) ∧ e = 0) ∨ (c = 12288 + a + 16 * b + 256 * e ∧ m = a + 1 + 32 * (b + 1) + 1024 * (e + 1)))
def encB (c m : Int) : Prop := (c = 0 ∧ m = 0) ∨ encS c m
def pcnt (c : Int) : Int := c / 4096
def pva (c h : Int) : Int := if h = 0 then c % 16 else if h = 1 then c / 16 % 16 else c / 256 % 16
def psum (c : Int) : Int := c % 16 + c / 16 % 16 + c / 256 % 16
theorem encS_c {c m : Int} (h : encS c m) : 4096 ≤ c ∧ c < 16384 ∧ 1 ≤ m ∧ m < 32768 := by
  obtain ⟨a, b, e, h1, h2⟩ := h
  omega
theorem encB_c {c m : Int} (h : encB c m) : 0 ≤ c ∧ c < 16384 ∧ 0 ≤ m ∧ m < 32768 := by
  rcases h with h | h
  · omega
  · have := encS_c h; omega
theorem encB_0 {c m : Int} (h : encB c m) : (c = 0 ↔ m = 0) := by
  rcases h with h | h
  · omega
  · have := encS_c h; omega
theorem encB_S {c m : Int} (h : encB c m) (h0 : m ≠ 0) : encS c m := by
  rcases h with h | h
  · exact absurd h.2 h0
  · exact h
theorem psum_b (c : Int) : 0 ≤ psum c ∧ psum c ≤ 45 := by unfold psum; omega
theorem pcnt_b {c : Int} (h0 : 0 ≤ c) (h1 : c < 16384) : 0 ≤ pcnt c ∧ pcnt c ≤ 3 := by unfold pcnt; omega
/-! the class's functions of a stack -/
theorem pile_size {c : Int} {h : AH} (h0 : 0 ≤ c) (h1 : c < 16384) : evM 75 [I c] h = some (some (I (pcnt c)), h) := by
  have e : shr c 12 = pcnt c := by rw [shr_eq ⟨by omega, by omega⟩ (by omega) (by omega)]; rfl
  simp only [en75, s75_0, s75_1, s75_3, s75_4, e]
theorem pile_val {c x : Int} {h : AH} (h0 : 0 ≤ c) (h1 : c < 16384) (hx : 0 ≤ x ∧ x ≤ 2) : evM 76 [I c, I x] h = some (some (I (pva c x)), h) := by
  simp only [en76, s76_0, s76_1, s76_2, s76_3, s76_4, s76_5, s76_7, s76_8]
  have e1 : ml 4 x = 4 * x := ml_eq (by omega) (by omega)
  rw [e1]
  have h3 : x = 0 ∨ x = 1 ∨ x = 2 := by omega
  rcases h3 with rfl | rfl | rfl
  · rw [shr_eq ⟨by omega, by omega⟩ (by omega) (by omega), show (2 : Int) ^ (4 * (0 : Int)).toNat = 1 from rfl, an_15 (by omega) (by omega)]
    unfold pva
    rw [if_pos rfl]
    congr 4
    omega
  · rw [shr_eq ⟨by omega, by omega⟩ (by omega) (by omega), show (2 : Int) ^ (4 * (1 : Int)).toNat = 16 from rfl, an_15 (by omega) (by omega)]
    rfl
  · rw [shr_eq ⟨by omega, by omega⟩ (by omega) (by omega), show (2 : Int) ^ (4 * (2 : Int)).toNat = 256 from rfl, an_15 (by omega) (by omega)]
    rfl
theorem pva_b (c x : Int) : 0 ≤ pva c x ∧ pva c x ≤ 15 := by
  unfold pva
  split
  · omega
  · split <;> omega
theorem pile_sum {c : Int} {M : Mem} {P : PMem} (h0 : 0 ≤ c) (h1 : c < 16384) : evM 77 [I c] (Hp M P) = some (some (I (psum c)), Hp M P) := by
  have b0 := pva_b c 0
  have b1 := pva_b c 1
  have b2 := pva_b c 2
  have v0 := pile_val (h := Hp M P) h0 h1 (x := 0) (by omega)
  have v1 := pile_val (h := Hp M P) h0 h1 (x := 1) (by omega)
  have v2 := pile_val (h := Hp M P) h0 h1 (x := 2) (by omega)
  have e1 : ad (pva c 0) (pva c 1) = pva c 0 + pva c 1 := ad_eq (by omega) (by omega)
  have e2 : ad (pva c 0 + pva c 1) (pva c 2) = psum c := ad_eq (by omega) (by omega)
  simp only [en77, s77_0, s77_1, s77_2, s77_5, s77_6, s77_7, s77_10, s77_11, s77_12, s77_13, s77_16, s77_17, v0, v1, v2, cont_some, rl_some, e1, e2]
theorem pile_top {c v : Int} {M : Mem} {P : PMem} (h0 : 0 ≤ c) (h1 : c < 12288) (hv : 0 ≤ v ∧ v ≤ 15) : evM 78 [I c, I v] (Hp M P) = some (some (I (c + 4096 + v * (if pcnt c = 0 then 1 else if pcnt c = 1 then 16 else 256))), Hp M P) := by
  have z := pile_size (h := Hp M P) h0 (show c < 16384 by omega)
  have e1 : ad c 4096 = c + 4096 := ad_eq (by omega) (by omega)
  have hb : pcnt c = 0 ∨ pcnt c = 1 ∨ pcnt c = 2 := by unfold pcnt; omega
  have e3 : ml 4 (pcnt c) = 4 * pcnt c := ml_eq (by omega) (by omega)
  simp only [en78, s78_0, s78_1, s78_4, s78_5, s78_6, s78_7, s78_8, s78_11, s78_12, s78_13, s78_14, z, cont_some, rl_some, e1, e3]
  rcases hb with hb | hb | hb
  · rw [hb, if_pos rfl, shl_eq (by omega) (by omega) (by omega) (by show v * 1 ≤ _; omega), show (2 : Int) ^ (4 * (0 : Int)).toNat = 1 from rfl, ad_eq (by omega) (by omega)]
  · rw [hb, if_neg (by omega), if_pos rfl, shl_eq (by omega) (by omega) (by omega) (by show v * 16 ≤ _; omega), show (2 : Int) ^ (4 * (1 : Int)).toNat = 16 from rfl, ad_eq (by omega) (by omega)]
  · rw [hb, if_neg (by omega), if_neg (by omega), shl_eq (by omega) (by omega) (by omega) (by show v * 256 ≤ _; omega), show (2 : Int) ^ (4 * (2 : Int)).toNat = 256 from rfl, ad_eq (by omega) (by omega)]
/-! the reference's functions of a stack -/
theorem m_tre_loop {h : AH} {l0 : AV} : ∀ (k : Nat) (x n : Int), 0 ≤ x → x < 32 ^ k → k ≤ 3 → 0 ≤ n → n + (k : Int) ≤ 10 → evL 113 4 [l0, I n, I x] [] h = some (some (I (n + (if x = 0 then 0 else if x < 32 then 1 else if x < 1024 then 2 else 3))), h) := by
  intro k
  induction k with
  | zero =>
    intro x n h0 h1 _ _ _
    have e : x = 0 := by simp at h1; omega
    subst e
    rw [s113_4]
    simp only [en113, s113_0, s113_1, s113_2, s113_3, s113_5, s113_8, s113_11, s113_12, s113_13, s113_14, s113_15, s113_18, s113_19, Int.le_refl, if_true, Int.add_zero]
  | succ k ih =>
    intro x n h0 h1 hk n0 n1
    by_cases hx : x = 0
    · subst hx
      rw [s113_4]
      simp only [en113, s113_0, s113_1, s113_2, s113_3, s113_5, s113_8, s113_11, s113_12, s113_13, s113_14, s113_15, s113_18, s113_19, Int.le_refl, if_true, Int.add_zero]
    · have c1 : ¬ x ≤ 0 := by omega
      have hx2 : x < 32768 := by
        have : k = 0 ∨ k = 1 ∨ k = 2 := by omega
        rcases this with rfl | rfl | rfl <;> simp at h1 <;> omega
      have e1 : ad n 1 = n + 1 := ad_eq (by omega) (by omega)
      have e2 : shr x 5 = x / 32 := by rw [shr_eq ⟨by omega, by omega⟩ (by omega) (by omega)]; rfl
      rw [s113_4]
      simp only [en113, s113_0, s113_1, s113_2, s113_3, s113_5, s113_8, s113_11, s113_12, s113_13, s113_14, s113_15, s113_18, s113_19, c1, if_false, e1, e2, hx]
      have h3 : x / 32 < 32 ^ k := by
        have : k = 0 ∨ k = 1 ∨ k = 2 := by omega
        rcases this with rfl | rfl | rfl <;> simp at h1 ⊢ <;> omega
      rw [ih (x / 32) (n + 1) (by omega) h3 (by omega) (by omega) (by omega)]
      congr 4
      by_cases q1 : x < 32
      · have : x / 32 = 0 := by omega
        simp [this, q1]
      · by_cases q2 : x < 1024
        · have a1 : x / 32 ≠ 0 := by omega
          have a2 : x / 32 < 32 := by omega
          simp only [a1, a2, q1, q2, if_true, if_false]
          omega
        · have a1 : x / 32 ≠ 0 := by omega
          have a2 : ¬ x / 32 < 32 := by omega
          have a3 : x / 32 < 1024 := by omega
          simp only [a1, a2, a3, q1, q2, if_true, if_false]
          omega
theorem m_tre {c m : Int} {h : AH} (he : encB c m) : evM 113 [I m] h = some (some (I (pcnt c)), h) := by
  have hb := encB_c he
  simp only [en113, s113_0, s113_1, s113_2, s113_3]
  rw [m_tre_loop 3 m 0 (by omega) (by show m < 32768; omega) (by omega) (by omega) (by omega)]
  congr 4
  unfold pcnt
  rcases he with h | ⟨a, b, e, h1, h2⟩
  · rw [h.1, h.2]; rfl
  · rcases h2 with h2 | h2 | h2
    · rw [if_neg (by omega), if_pos (by omega)]; omega
    · rw [if_neg (by omega), if_neg (by omega), if_pos (by omega)]; omega
    · rw [if_neg (by omega), if_neg (by omega), if_neg (by omega)]; omega
theorem m_trv {c m x : Int} {h : AH} (he : encB c m) (hx : 0 ≤ x ∧ x < pcnt c) : evM 114 [I m, I x] h = some (some (I (pva c x)), h) := by
  have hb := encB_c he
  have hx2 : x ≤ 2 := by have := pcnt_b hb.1 hb.2.1; omega
  have e1 : ml 5 x = 5 * x := ml_eq (by omega) (by omega)
  have hx3 : x < c / 4096 := hx.2
  simp only [en114, s114_0, s114_1, s114_2, s114_3, s114_4, s114_5, s114_7, s114_8, s114_9, s114_10, e1]
  have h3 : x = 0 ∨ x = 1 ∨ x = 2 := by omega
  rcases he with h | ⟨a, b, e, h1, h2⟩
  · omega
  rcases h3 with rfl | rfl | rfl
  · rw [shr_eq ⟨by omega, by omega⟩ (by omega) (by omega), show (2 : Int) ^ (5 * (0 : Int)).toNat = 1 from rfl, an_31 (by omega) (by omega), sb_eq (by omega) (by omega)]
    unfold pva
    rw [if_pos rfl]
    congr 4
    omega
  · rw [shr_eq ⟨by omega, by omega⟩ (by omega) (by omega), show (2 : Int) ^ (5 * (1 : Int)).toNat = 32 from rfl, an_31 (by omega) (by omega), sb_eq (by omega) (by omega)]
    unfold pva
    rw [if_neg (by omega), if_pos rfl]
    congr 4
    omega
  · rw [shr_eq ⟨by omega, by omega⟩ (by omega) (by omega), show (2 : Int) ^ (5 * (2 : Int)).toNat = 1024 from rfl, an_31 (by omega) (by omega), sb_eq (by omega) (by omega)]
    unfold pva
    rw [if_neg (by omega), if_neg (by omega)]
    congr 4
    omega
theorem m_val_loop {c m : Int} {M : Mem} {P : PMem} (he : encB c m) : ∀ (j : Nat) (x : Int), 0 ≤ x → x + j = pcnt c → ∀ s : Int, s = (if x = 0 then 0 else if x = 1 then pva c 0 else if x = 2 then pva c 0 + pva c 1 else psum c) → evL 115 4 [I m, I s, I x] [] (Hp M P) = some (some (I (psum c)), Hp M P) := by
  have hb := encB_c he
  have hc := pcnt_b hb.1 hb.2.1
  have b0 := pva_b c 0
  have b1 := pva_b c 1
  have b2 := pva_b c 2
  intro j
  induction j with
  | zero =>
    intro x h0 h1 s hs
    have hx : x = pcnt c := by omega
    rw [s115_4]
    have c1 : pcnt c ≤ x := by omega
    simp only [en115, s115_0, s115_1, s115_2, s115_3, s115_5, s115_6, s115_9, s115_12, s115_13, s115_14, s115_15, s115_18, s115_19, s115_20, s115_23, s115_26, s115_27, m_tre he, cont_some, rl_some, c1, if_true]
    have hps : s = psum c := by
      rw [hs, hx]
      unfold pcnt psum pva
      rcases he with h | ⟨a, b, e, h1, h2⟩
      · rw [h.1]; rfl
      · rcases h2 with h2 | h2 | h2
        · rw [if_neg (by omega), if_pos (by omega)]; simp; omega
        · rw [if_neg (by omega), if_neg (by omega), if_pos (by omega)]; simp; omega
        · rw [if_neg (by omega), if_neg (by omega), if_neg (by omega)]
    rw [hps]
  | succ j ih =>
    intro x h0 h1 s hs
    rw [s115_4]
    have c1 : ¬ pcnt c ≤ x := by omega
    have t1 := m_trv (h := Hp M P) he (x := x) ⟨h0, by omega⟩
    have bx := pva_b c x
    have hx3 : x = 0 ∨ x = 1 ∨ x = 2 := by omega
    have bs : 0 ≤ s ∧ s ≤ 30 := by
      rw [hs]
      rcases hx3 with rfl | rfl | rfl
      · simp
      · simp; omega
      · simp; omega
    have e1 : ad s (pva c x) = s + pva c x := ad_eq (by omega) (by omega)
    have e2 : ad x 1 = x + 1 := ad_eq (by omega) (by omega)
    simp only [en115, s115_0, s115_1, s115_2, s115_3, s115_5, s115_6, s115_9, s115_12, s115_13, s115_14, s115_15, s115_18, s115_19, s115_20, s115_23, s115_26, s115_27, m_tre he, t1, cont_some, rl_some, c1, if_false, e1, e2]
    refine ih (x + 1) (by omega) (by push_cast at h1; omega) _ ?_
    rw [hs]
    rcases hx3 with rfl | rfl | rfl
    · simp
    · simp
    · simp [psum, pva]
theorem m_val {c m : Int} {M : Mem} {P : PMem} (he : encB c m) : evM 115 [I m] (Hp M P) = some (some (I (psum c)), Hp M P) := by
  have hb := encB_c he
  have hc := pcnt_b hb.1 hb.2.1
  simp only [en115, s115_0, s115_1, s115_2, s115_3]
  refine m_val_loop he (pcnt c).toNat 0 (by omega) (by omega) 0 ?_
  rw [if_pos rfl]
