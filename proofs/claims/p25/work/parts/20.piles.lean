/-! ===== stacks: the class's number c, the reference's number m ===== -/
def encS (c m : Int) : Prop := ∃ a b e : Int, (0 ≤ a ∧ a ≤ 15 ∧ 0 ≤ b ∧ b ≤ 15 ∧ 0 ≤ e ∧ e ≤ 15) ∧ ((c = 4096 + a ∧ m = a + 1 ∧ b = 0 ∧ e = 0) ∨ (c = 8192 + a + 16 * b ∧ m = a + 1 + 32 * (b + 1) ∧ e = 0) ∨ (c = 12288 + a + 16 * b + 256 * e ∧ m = a + 1 + 32 * (b + 1) + 1024 * (e + 1)))
def encB (c m : Int) : Prop := (c = 0 ∧ m = 0) ∨ encS c m
def pcnt (c : Int) : Int := c / 4096
def pva (c h : Int) : Int := if h = 0 then c % 16 else if h = 1 then c / 16 % 16 else c / 256 % 16
def psum (c : Int) : Int := c % 16 + c / 16 % 16 + c / 256 % 16
theorem encS_c {c m : Int} (h : encS c m) : 4096 ≤ c ∧ c < 16384 ∧ 1 ≤ m ∧ m < 32768 := by
  obtain ⟨a, b, e, h1, h2⟩ := h
  omega
theorem encB_c {c m : Int} (h : encB c m) : 0 ≤ c ∧ c < 16384 ∧ 0 ≤ m ∧ m < 32768 := by
  rcases h with h | h
  · omega
  · have := encS_c h; omega
theorem encB_0 {c m : Int} (h : encB c m) : (c = 0 ↔ m = 0) := by
  rcases h with h | h
  · omega
  · have := encS_c h; omega
theorem encB_S {c m : Int} (h : encB c m) (h0 : m ≠ 0) : encS c m := by
  rcases h with h | h
  · exact absurd h.2 h0
  · exact h
theorem psum_b (c : Int) : 0 ≤ psum c ∧ psum c ≤ 45 := by unfold psum; omega
theorem pcnt_b {c : Int} (h0 : 0 ≤ c) (h1 : c < 16384) : 0 ≤ pcnt c ∧ pcnt c ≤ 3 := by unfold pcnt; omega
/-! the class's functions of a stack -/
theorem pile_size {c : Int} {h : AH} (h0 : 0 ≤ c) (h1 : c < 16384) : evM 75 [I c] h = some (some (I (pcnt c)), h) := by
  have e : shr c 12 = pcnt c := by rw [shr_eq ⟨by omega, by omega⟩ (by omega) (by omega)]; rfl
  simp only [en75, s75_0, s75_1, s75_3, s75_4, e]
theorem pile_val {c x : Int} {h : AH} (h0 : 0 ≤ c) (h1 : c < 16384) (hx : 0 ≤ x ∧ x ≤ 2) : evM 76 [I c, I x] h = some (some (I (pva c x)), h) := by
  simp only [en76, s76_0, s76_1, s76_2, s76_3, s76_4, s76_5, s76_7, s76_8]
  have e1 : ml 4 x = 4 * x := ml_eq (by omega) (by omega)
  rw [e1]
  have h3 : x = 0 ∨ x = 1 ∨ x = 2 := by omega
  rcases h3 with rfl | rfl | rfl
  · rw [shr_eq ⟨by omega, by omega⟩ (by omega) (by omega), show (2 : Int) ^ (4 * (0 : Int)).toNat = 1 from rfl, an_15 (by omega) (by omega)]
    unfold pva
    rw [if_pos rfl]
    congr 4
    omega
  · rw [shr_eq ⟨by omega, by omega⟩ (by omega) (by omega), show (2 : Int) ^ (4 * (1 : Int)).toNat = 16 from rfl, an_15 (by omega) (by omega)]
    rfl
  · rw [shr_eq ⟨by omega, by omega⟩ (by omega) (by omega), show (2 : Int) ^ (4 * (2 : Int)).toNat = 256 from rfl, an_15 (by omega) (by omega)]
    rfl
theorem pva_b (c x : Int) : 0 ≤ pva c x ∧ pva c x ≤ 15 := by
  unfold pva
  split
  · omega
  · split <;> omega
theorem pile_sum {c : Int} {M : Mem} {P : PMem} (h0 : 0 ≤ c) (h1 : c < 16384) : evM 77 [I c] (Hp M P) = some (some (I (psum c)), Hp M P) := by
  have b0 := pva_b c 0
  have b1 := pva_b c 1
  have b2 := pva_b c 2
  have v0 := pile_val (h := Hp M P) h0 h1 (x := 0) (by omega)
  have v1 := pile_val (h := Hp M P) h0 h1 (x := 1) (by omega)
  have v2 := pile_val (h := Hp M P) h0 h1 (x := 2) (by omega)
  have e1 : ad (pva c 0) (pva c 1) = pva c 0 + pva c 1 := ad_eq (by omega) (by omega)
  have e2 : ad (pva c 0 + pva c 1) (pva c 2) = psum c := ad_eq (by omega) (by omega)
  simp only [en77, s77_0, s77_1, s77_2, s77_5, s77_6, s77_7, s77_10, s77_11, s77_12, s77_13, s77_16, s77_17, v0, v1, v2, cont_some, rl_some, e1, e2]
theorem pile_top {c v : Int} {M : Mem} {P : PMem} (h0 : 0 ≤ c) (h1 : c < 12288) (hv : 0 ≤ v ∧ v ≤ 15) : evM 78 [I c, I v] (Hp M P) = some (some (I (c + 4096 + v * (if pcnt c = 0 then 1 else if pcnt c = 1 then 16 else 256))), Hp M P) := by
  have z := pile_size (h := Hp M P) h0 (show c < 16384 by omega)
  have e1 : ad c 4096 = c + 4096 := ad_eq (by omega) (by omega)
  have hb : pcnt c = 0 ∨ pcnt c = 1 ∨ pcnt c = 2 := by unfold pcnt; omega
  have e3 : ml 4 (pcnt c) = 4 * pcnt c := ml_eq (by omega) (by omega)
  simp only [en78, s78_0, s78_1, s78_4, s78_5, s78_6, s78_7, s78_8, s78_11, s78_12, s78_13, s78_14, z, cont_some, rl_some, e1, e3]
  rcases hb with hb | hb | hb
  · rw [hb, if_pos rfl, shl_eq (by omega) (by omega) (by omega) (by show v * 1 ≤ _; omega), show (2 : Int) ^ (4 * (0 : Int)).toNat = 1 from rfl, ad_eq (by omega) (by omega)]
  · rw [hb, if_neg (by omega), if_pos rfl, shl_eq (by omega) (by omega) (by omega) (by show v * 16 ≤ _; omega), show (2 : Int) ^ (4 * (1 : Int)).toNat = 16 from rfl, ad_eq (by omega) (by omega)]
  · rw [hb, if_neg (by omega), if_neg (by omega), shl_eq (by omega) (by omega) (by omega) (by show v * 256 ≤ _; omega), show (2 : Int) ^ (4 * (2 : Int)).toNat = 256 from rfl, ad_eq (by omega) (by omega)]
