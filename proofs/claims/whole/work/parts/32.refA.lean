/-! ===== the reference: its objects ===== -/
theorem kd_150 : kd 150 = 100 := by decide
theorem kd_151 : kd 151 = 100 := by decide
theorem kd_152 : kd 152 = 100 := by decide
theorem kd_153 : kd 153 = 100 := by decide
theorem kd_154 : kd 154 = 100 := by decide
theorem kd_155 : kd 155 = 100 := by decide
theorem kd_156 : kd 156 = 100 := by decide
theorem ln_150 : ln 150 = 77 := by decide
theorem ln_151 : ln 151 = 308 := by decide
theorem ln_152 : ln 152 = 77 := by decide
theorem ln_153 : ln 153 = 60 := by decide
theorem ln_154 : ln 154 = 16 := by decide
theorem ln_155 : ln 155 = 17 := by decide
theorem ln_156 : ln 156 = 17 := by decide
section Ref
variable {M : Mem} {P : PMem} {c : Mem} {n sp t : Nat} {hl : Nat → Nat}
/-- the cell of a diver's property -/
def sl (d w : Nat) : Nat := 25 + 13 * d + w
theorem m_in {x a b : Int} {h : AH} : evM 110 [I x, I a, I b] h = some (some (I (if a ≤ x ∧ x ≤ b then 1 else 0)), h) := by
  by_cases c1 : x < a
  · rw [if_neg (by omega)]
    simp only [en110, s110_0, s110_1, s110_2, s110_5, s110_6, s110_7, s110_10, s110_11, s110_14, s110_15, c1, if_true, true_or]
  · by_cases c2 : b < x
    · rw [if_neg (by omega)]
      simp only [en110, s110_0, s110_1, s110_2, s110_5, s110_6, s110_7, s110_10, s110_11, s110_14, s110_15, c1, c2, if_true, if_false, true_or]
    · rw [if_pos (by omega)]
      simp only [en110, s110_0, s110_1, s110_2, s110_5, s110_6, s110_7, s110_10, s110_11, s110_14, s110_15, c1, c2, if_false, or_true]
theorem sl_e {d w : Nat} (hd : d < 4) (hw : w < 13) : ad (ad 25 (ml 13 (d : Int))) (w : Int) = ((sl d w : Nat) : Int) := by
  rw [ml_eq (by omega) (by omega), ad_eq (x := 25) (by omega) (by omega), ad_eq (by omega) (by omega)]
  unfold sl
  omega
theorem sl_l {d w : Nat} (hd : d < 4) (hw : w < 13) : sl d w < 77 := by unfold sl; omega
theorem m_of {d w : Nat} (hd : d < 4) (hw : w < 13) : evM 116 [Rf 149, I (d : Int), I (w : Int)] (Hp M P) = some (some (I (M 150 (sl d w))), Hp M P) := by
  have h1 := sl_l hd hw
  simp only [en116, s116_0, s116_1, s116_4, s116_6, s116_8, s116_9, s116_10, s116_11, s116_12, s116_13, s116_14, cont_some, rl_some, rl_none, if_true, if_false, kd_149, rf_149_0, rf_149_1, rf_149_3, rf_149_5, rf_149_9, rf_149_16, rf_149_17, kd_150, kd_151, kd_152, kd_153, kd_154, kd_155, kd_156, ln_150, ln_151, ln_152, ln_153, ln_154, ln_155, ln_156, Int.reduceLE, Int.reduceLT, Int.reduceToNat, Nat.reduceLT, Int.toNat_natCast, Int.natCast_nonneg, true_or, Int.one_ne_zero, ite_self, sl_e hd hw, h1]
theorem m_of0 {d : Nat} (hd : d < 4) : evM 116 [Rf 149, I (d : Int), I 0] (Hp M P) = some (some (I (M 150 (sl d 0))), Hp M P) := m_of (w := 0) hd (by omega)
theorem m_of1 {d : Nat} (hd : d < 4) : evM 116 [Rf 149, I (d : Int), I 1] (Hp M P) = some (some (I (M 150 (sl d 1))), Hp M P) := m_of (w := 1) hd (by omega)
theorem m_of2 {d : Nat} (hd : d < 4) : evM 116 [Rf 149, I (d : Int), I 2] (Hp M P) = some (some (I (M 150 (sl d 2))), Hp M P) := m_of (w := 2) hd (by omega)
theorem m_of3 {d : Nat} (hd : d < 4) : evM 116 [Rf 149, I (d : Int), I 3] (Hp M P) = some (some (I (M 150 (sl d 3))), Hp M P) := m_of (w := 3) hd (by omega)
theorem m_of10 {d : Nat} (hd : d < 4) : evM 116 [Rf 149, I (d : Int), I 10] (Hp M P) = some (some (I (M 150 (sl d 10))), Hp M P) := m_of (w := 10) hd (by omega)
theorem m_of11 {d : Nat} (hd : d < 4) : evM 116 [Rf 149, I (d : Int), I 11] (Hp M P) = some (some (I (M 150 (sl d 11))), Hp M P) := m_of (w := 11) hd (by omega)
theorem m_of12 {d : Nat} (hd : d < 4) : evM 116 [Rf 149, I (d : Int), I 12] (Hp M P) = some (some (I (M 150 (sl d 12))), Hp M P) := m_of (w := 12) hd (by omega)
theorem m_lay {d w : Nat} {v : Int} (hd : d < 4) (hw : w < 13) : evM 117 [Rf 149, I (d : Int), I (w : Int), I v] (Hp M P) = some (none, Hp (wr M 150 (sl d w) v) P) := by
  have h1 := sl_l hd hw
  simp only [en117, s117_0, s117_1, s117_4, s117_6, s117_8, s117_9, s117_10, s117_11, s117_12, s117_13, s117_14, s117_15, cont_some, rl_some, rl_none, if_true, if_false, kd_149, rf_149_0, rf_149_1, rf_149_3, rf_149_5, rf_149_9, rf_149_16, rf_149_17, kd_150, kd_151, kd_152, kd_153, kd_154, kd_155, kd_156, ln_150, ln_151, ln_152, ln_153, ln_154, ln_155, ln_156, Int.reduceLE, Int.reduceLT, Int.reduceToNat, Nat.reduceLT, Int.toNat_natCast, Int.natCast_nonneg, true_or, Int.one_ne_zero, ite_self, sl_e hd hw, h1]
theorem m_lay0 {d : Nat} {v : Int} (hd : d < 4) : evM 117 [Rf 149, I (d : Int), I 0, I v] (Hp M P) = some (none, Hp (wr M 150 (sl d 0) v) P) := m_lay (w := 0) hd (by omega)
theorem m_lay1 {d : Nat} {v : Int} (hd : d < 4) : evM 117 [Rf 149, I (d : Int), I 1, I v] (Hp M P) = some (none, Hp (wr M 150 (sl d 1) v) P) := m_lay (w := 1) hd (by omega)
theorem m_lay2 {d : Nat} {v : Int} (hd : d < 4) : evM 117 [Rf 149, I (d : Int), I 2, I v] (Hp M P) = some (none, Hp (wr M 150 (sl d 2) v) P) := m_lay (w := 2) hd (by omega)
theorem m_lay3 {d : Nat} {v : Int} (hd : d < 4) : evM 117 [Rf 149, I (d : Int), I 3, I v] (Hp M P) = some (none, Hp (wr M 150 (sl d 3) v) P) := m_lay (w := 3) hd (by omega)
theorem m_lay10 {d : Nat} {v : Int} (hd : d < 4) : evM 117 [Rf 149, I (d : Int), I 10, I v] (Hp M P) = some (none, Hp (wr M 150 (sl d 10) v) P) := m_lay (w := 10) hd (by omega)
theorem m_lay11 {d : Nat} {v : Int} (hd : d < 4) : evM 117 [Rf 149, I (d : Int), I 11, I v] (Hp M P) = some (none, Hp (wr M 150 (sl d 11) v) P) := m_lay (w := 11) hd (by omega)
theorem m_lay12 {d : Nat} {v : Int} (hd : d < 4) : evM 117 [Rf 149, I (d : Int), I 12, I v] (Hp M P) = some (none, Hp (wr M 150 (sl d 12) v) P) := m_lay (w := 12) hd (by omega)
/-! the parts of the relation -/
def MN (M : Mem) (n : Nat) : Prop := M 150 0 = (n : Int) ∧ n ≤ 4
def MS (M : Mem) (sp : Nat) : Prop := M 150 8 = (sp : Int) ∧ sp ≤ 16
def MP (c M : Mem) (sp : Nat) : Prop := ∀ s, s < sp → encB (c 4 (s + 1)) (M 150 (9 + s))
def MH (M : Mem) (n : Nat) (hl : Nat → Nat) : Prop := ∀ d, d < n → hl d ≤ 6 ∧ M 150 (sl d 3) = (hl d : Int)
def MK (c M : Mem) (n : Nat) (hl : Nat → Nat) : Prop := ∀ d, d < n → ∀ i, i < hl d → encS (c 15 (6 * d + i)) (M 150 (sl d (4 + i)))
def ML (c M : Mem) (n : Nat) : Prop := ∀ d, d < n → M 150 (sl d 0) = c 7 d
theorem m_isD (h : MN M n) {x : Int} : evM 118 [Rf 149, I x] (Hp M P) = some (some (I (if 0 ≤ x ∧ x < n then 1 else 0)), Hp M P) := by
  have e1 : sb (n : Int) 1 = (n : Int) - 1 := by have := h.2; exact sb_eq (by omega) (by omega)
  have e2 : (0 ≤ x ∧ x ≤ (n : Int) - 1) ↔ (0 ≤ x ∧ x < n) := by omega
  have e3 : (if 0 ≤ x ∧ x < (n : Int) then (1 : Int) else 0) = 0 ∨ (if 0 ≤ x ∧ x < (n : Int) then (1 : Int) else 0) = 1 := by split <;> simp
  simp only [en118, s118_0, s118_1, s118_2, s118_3, s118_6, s118_7, s118_8, s118_9, s118_10, s118_13, cont_some, rl_some, rl_none, if_true, if_false, kd_149, rf_149_0, rf_149_1, rf_149_3, rf_149_5, rf_149_9, rf_149_16, rf_149_17, kd_150, kd_151, kd_152, kd_153, kd_154, kd_155, kd_156, ln_150, ln_151, ln_152, ln_153, ln_154, ln_155, ln_156, Int.reduceLE, Int.reduceLT, Int.reduceToNat, Nat.reduceLT, Int.toNat_natCast, Int.natCast_nonneg, true_or, Int.one_ne_zero, ite_self, h.1, e1, m_in, e2, e3]
theorem m_at {s : Nat} (hs : s < 16) : evM 119 [Rf 149, I ((s + 1 : Nat) : Int)] (Hp M P) = some (some (I (M 150 (9 + s))), Hp M P) := by
  have c1 : ¬ ((s + 1 : Nat) : Int) = 0 := by omega
  have e1 : sb (ad 9 ((s + 1 : Nat) : Int)) 1 = ((9 + s : Nat) : Int) := by rw [ad_eq (by omega) (by omega), sb_eq (by omega) (by omega)]; omega
  have h1 : 9 + s < 77 := by omega
  simp only [en119, s119_0, s119_1, s119_4, s119_5, s119_8, s119_9, s119_12, s119_14, s119_15, s119_16, s119_17, s119_18, s119_19, cont_some, rl_some, rl_none, if_true, if_false, kd_149, rf_149_0, rf_149_1, rf_149_3, rf_149_5, rf_149_9, rf_149_16, rf_149_17, kd_150, kd_151, kd_152, kd_153, kd_154, kd_155, kd_156, ln_150, ln_151, ln_152, ln_153, ln_154, ln_155, ln_156, Int.reduceLE, Int.reduceLT, Int.reduceToNat, Nat.reduceLT, Int.toNat_natCast, Int.natCast_nonneg, true_or, Int.one_ne_zero, ite_self, c1, e1, h1]
theorem m_at0 : evM 119 [Rf 149, I 0] (Hp M P) = some (some (I 0), Hp M P) := by
  simp only [en119, s119_0, s119_1, s119_4, s119_5, s119_8, s119_9, s119_12, s119_14, s119_15, s119_16, s119_17, s119_18, s119_19, cont_some, rl_some, rl_none, if_true, if_false, kd_149, rf_149_0, rf_149_1, rf_149_3, rf_149_5, rf_149_9, rf_149_16, rf_149_17, kd_150, kd_151, kd_152, kd_153, kd_154, kd_155, kd_156, ln_150, ln_151, ln_152, ln_153, ln_154, ln_155, ln_156, Int.reduceLE, Int.reduceLT, Int.reduceToNat, Nat.reduceLT, Int.toNat_natCast, Int.natCast_nonneg, true_or, Int.one_ne_zero, ite_self]
/-- the last one below k -/
def mdA (f : Nat → Int) (s : Int) : Nat → Int
  | 0 => -4
  | k + 1 => if f k = s then (k : Int) else mdA f s k
theorem m_dv_loop (h : MN M n) (hL : ML c M n) {s : Int} : ∀ (m d : Nat), d + m = n → evL 120 5 [Rf 149, I s, I (mdA (c 7) s d), I (d : Int)] [] (Hp M P) = some (some (I (mdA (c 7) s n)), Hp M P) := by
  obtain ⟨h1, h2⟩ := h
  intro m
  induction m with
  | zero =>
    intro d hd
    have e : d = n := by omega
    subst e
    have c1 : (d : Int) ≤ (d : Int) := by omega
    rw [s120_5]
    simp only [en120, s120_0, s120_2, s120_3, s120_4, s120_6, s120_7, s120_10, s120_11, s120_12, s120_15, s120_16, s120_17, s120_18, s120_21, s120_22, s120_25, s120_26, s120_29, s120_30, s120_31, s120_34, s120_37, s120_38, cont_some, rl_some, rl_none, if_true, if_false, kd_149, rf_149_0, rf_149_1, rf_149_3, rf_149_5, rf_149_9, rf_149_16, rf_149_17, kd_150, kd_151, kd_152, kd_153, kd_154, kd_155, kd_156, ln_150, ln_151, ln_152, ln_153, ln_154, ln_155, ln_156, Int.reduceLE, Int.reduceLT, Int.reduceToNat, Nat.reduceLT, Int.toNat_natCast, Int.natCast_nonneg, true_or, Int.one_ne_zero, ite_self, h1, c1]
  | succ m ih =>
    intro d hd
    have c1 : ¬ (n : Int) ≤ (d : Int) := by omega
    have hd4 : d < 4 := by omega
    rw [s120_5]
    by_cases c2 : c 7 d = s
    · have e : mdA (c 7) s (d + 1) = (d : Int) := by unfold mdA; rw [if_pos c2]
      simp only [en120, s120_0, s120_2, s120_3, s120_4, s120_6, s120_7, s120_10, s120_11, s120_12, s120_15, s120_16, s120_17, s120_18, s120_21, s120_22, s120_25, s120_26, s120_29, s120_30, s120_31, s120_34, s120_37, s120_38, cont_some, rl_some, rl_none, if_true, if_false, kd_149, rf_149_0, rf_149_1, rf_149_3, rf_149_5, rf_149_9, rf_149_16, rf_149_17, kd_150, kd_151, kd_152, kd_153, kd_154, kd_155, kd_156, ln_150, ln_151, ln_152, ln_153, ln_154, ln_155, ln_156, Int.reduceLE, Int.reduceLT, Int.reduceToNat, Nat.reduceLT, Int.toNat_natCast, Int.natCast_nonneg, true_or, Int.one_ne_zero, ite_self, h1, c1, m_of0 hd4, hL d (by omega), c2, ad_n d (by omega)]
      rw [← e]
      exact ih (d + 1) (by omega)
    · have e : mdA (c 7) s (d + 1) = mdA (c 7) s d := by rw [mdA, if_neg c2]
      simp only [en120, s120_0, s120_2, s120_3, s120_4, s120_6, s120_7, s120_10, s120_11, s120_12, s120_15, s120_16, s120_17, s120_18, s120_21, s120_22, s120_25, s120_26, s120_29, s120_30, s120_31, s120_34, s120_37, s120_38, cont_some, rl_some, rl_none, if_true, if_false, kd_149, rf_149_0, rf_149_1, rf_149_3, rf_149_5, rf_149_9, rf_149_16, rf_149_17, kd_150, kd_151, kd_152, kd_153, kd_154, kd_155, kd_156, ln_150, ln_151, ln_152, ln_153, ln_154, ln_155, ln_156, Int.reduceLE, Int.reduceLT, Int.reduceToNat, Nat.reduceLT, Int.toNat_natCast, Int.natCast_nonneg, true_or, Int.one_ne_zero, ite_self, h1, c1, m_of0 hd4, hL d (by omega), c2, ad_n d (by omega)]
      rw [← e]
      exact ih (d + 1) (by omega)
theorem m_dv (h : MN M n) (hL : ML c M n) {s : Int} : evM 120 [Rf 149, I s] (Hp M P) = some (some (I (mdA (c 7) s n)), Hp M P) := by
  simp only [en120, s120_0, s120_2, s120_3, s120_4, s120_6, s120_7, s120_10, s120_11, s120_12, s120_15, s120_16, s120_17, s120_18, s120_21, s120_22, s120_25, s120_26, s120_29, s120_30, s120_31, s120_34, s120_37, s120_38]
  exact m_dv_loop h hL n 0 (by omega)
/-- at most one diver at each space -/
def UQ (c : Mem) (n : Nat) : Prop := ∀ d e, d < n → e < n → c 7 d = c 7 e → d = e ∨ c 7 d = 0
theorem mdA_no {f : Nat → Int} {s : Int} : ∀ k, (∀ e, e < k → f e ≠ s) → mdA f s k = -4 := by
  intro k
  induction k with
  | zero => intro _; rfl
  | succ k ih =>
    intro h
    rw [mdA, if_neg (h k (by omega))]
    exact ih fun e he => h e (by omega)
theorem mdA_yes {f : Nat → Int} {s : Int} {d : Nat} (hd : f d = s) : ∀ k, d < k → (∀ e, e < k → f e = s → e = d) → mdA f s k = (d : Int) := by
  intro k
  induction k with
  | zero => intro h; omega
  | succ k ih =>
    intro h hu
    rw [mdA]
    by_cases c1 : f k = s
    · rw [if_pos c1, hu k (by omega) c1]
    · rw [if_neg c1]
      have : k ≠ d := fun e => c1 (e ▸ hd)
      exact ih (by omega) fun e he => hu e (by omega)
theorem dvAt_no {f : Nat → Int} {s : Int} : ∀ m d, (∀ e, e < d + m → f e ≠ s) → dvAt f s n m d = -4 := by
  intro m
  induction m with
  | zero => intro d _; rfl
  | succ m ih =>
    intro d h
    rw [dvAt, if_neg (h d (by omega))]
    exact ih (d + 1) fun e he => h e (by omega)
theorem dvAt_yes {f : Nat → Int} {s : Int} {x : Nat} (hx : f x = s) : ∀ m d, d ≤ x → x < d + m → (∀ e, e < d + m → f e = s → e = x) → dvAt f s n m d = (x : Int) := by
  intro m
  induction m with
  | zero => intro d _ _; omega
  | succ m ih =>
    intro d h1 h2 hu
    rw [dvAt]
    by_cases c1 : f d = s
    · rw [if_pos c1, hu d (by omega) c1]
    · rw [if_neg c1]
      have : d ≠ x := fun e => c1 (e ▸ hx)
      exact ih (d + 1) (by omega) (by omega) fun e he => hu e (by omega)
theorem occ_iff {f : Nat → Int} {u : Nat} {s : Int} : ∀ m d, occ f u s m d = true ↔ ∃ e, d ≤ e ∧ e < d + m ∧ e ≠ u ∧ f e = s := by
  intro m
  induction m with
  | zero => intro d; simp only [occ]; constructor
            · intro h; cases h
            · rintro ⟨e, h1, h2, _⟩; omega
  | succ m ih =>
    intro d
    rw [occ, Bool.or_eq_true, Bool.and_eq_true, decide_eq_true_eq, decide_eq_true_eq, ih]
    constructor
    · rintro (⟨h1, h2⟩ | ⟨e, h1, h2, h3, h4⟩)
      · exact ⟨d, by omega, by omega, h1, h2⟩
      · exact ⟨e, by omega, by omega, h3, h4⟩
    · rintro ⟨e, h1, h2, h3, h4⟩
      by_cases he : e = d
      · subst he; exact Or.inl ⟨h3, h4⟩
      · exact Or.inr ⟨e, by omega, by omega, h3, h4⟩
theorem dv_same (hu : UQ c n) {s : Int} (hs : s ≠ 0) : mdA (c 7) s n = dvAt (c 7) s n n 0 := by
  by_cases h : ∃ d, d < n ∧ c 7 d = s
  · obtain ⟨d, h1, h2⟩ := h
    have hq : ∀ e, e < n → c 7 e = s → e = d := by
      intro e he h3
      rcases hu e d he h1 (by rw [h2, h3]) with h4 | h4
      · exact h4
      · rw [h3] at h4; exact absurd h4 hs
    rw [mdA_yes h2 n h1 hq, dvAt_yes h2 n 0 (by omega) (by omega) (fun e he => hq e (by omega))]
  · have hq : ∀ e, e < n → c 7 e ≠ s := fun e he h3 => h ⟨e, he, h3⟩
    rw [mdA_no n hq, dvAt_no n 0 (fun e he => hq e (by omega))]
theorem free_same (hu : UQ c n) {s : Int} (hs : s ≠ 0) {d : Nat} : (mdA (c 7) s n = -4 ∨ mdA (c 7) s n = (d : Int)) ↔ ¬ occ (c 7) d s n 0 = true := by
  rw [occ_iff]
  by_cases h : ∃ d, d < n ∧ c 7 d = s
  · obtain ⟨x, h1, h2⟩ := h
    have hq : ∀ e, e < n → c 7 e = s → e = x := by
      intro e he h3
      rcases hu e x he h1 (by rw [h2, h3]) with h4 | h4
      · exact h4
      · rw [h3] at h4; exact absurd h4 hs
    rw [mdA_yes h2 n h1 hq]
    constructor
    · rintro (h3 | h3) ⟨e, _, h4, h5, h6⟩
      · omega
      · have := hq e (by omega) h6; omega
    · intro h3
      by_cases hx : x = d
      · right; omega
      · exact absurd ⟨x, by omega, by omega, hx, h2⟩ h3
  · have hq : ∀ e, e < n → c 7 e ≠ s := fun e he h3 => h ⟨e, he, h3⟩
    rw [mdA_no n hq]
    exact ⟨fun _ ⟨e, _, h4, _, h6⟩ => hq e (by omega) h6, fun _ => Or.inl rfl⟩
theorem m_free (h : MN M n) (hL : ML c M n) (hu : UQ c n) {s : Int} (hs : s ≠ 0) {d : Nat} : evM 121 [Rf 149, I s, I (d : Int)] (Hp M P) = some (some (I (if occ (c 7) d s n 0 then 0 else 1)), Hp M P) := by
  have hf := free_same hu hs (d := d)
  by_cases c3 : occ (c 7) d s n 0 = true
  · have hf' : ¬ (mdA (c 7) s n = -4 ∨ mdA (c 7) s n = (d : Int)) := fun h => hf.1 h c3
    have c1 : ¬ mdA (c 7) s n = -4 := fun h => hf' (Or.inl h)
    have c2 : ¬ mdA (c 7) s n = (d : Int) := fun h => hf' (Or.inr h)
    simp only [en121, s121_0, s121_1, s121_2, s121_5, s121_6, s121_7, s121_9, s121_12, s121_13, s121_14, s121_17, s121_18, s121_21, s121_22, cont_some, rl_some, rl_none, if_true, if_false, kd_149, rf_149_0, rf_149_1, rf_149_3, rf_149_5, rf_149_9, rf_149_16, rf_149_17, kd_150, kd_151, kd_152, kd_153, kd_154, kd_155, kd_156, ln_150, ln_151, ln_152, ln_153, ln_154, ln_155, ln_156, Int.reduceLE, Int.reduceLT, Int.reduceToNat, Nat.reduceLT, Int.toNat_natCast, Int.natCast_nonneg, true_or, Int.one_ne_zero, ite_self, m_dv h hL, c1, c2, c3]
  · rw [if_neg c3]
    rcases hf.2 c3 with c1 | c1
    · simp only [en121, s121_0, s121_1, s121_2, s121_5, s121_6, s121_7, s121_9, s121_12, s121_13, s121_14, s121_17, s121_18, s121_21, s121_22, cont_some, rl_some, rl_none, if_true, if_false, kd_149, rf_149_0, rf_149_1, rf_149_3, rf_149_5, rf_149_9, rf_149_16, rf_149_17, kd_150, kd_151, kd_152, kd_153, kd_154, kd_155, kd_156, ln_150, ln_151, ln_152, ln_153, ln_154, ln_155, ln_156, Int.reduceLE, Int.reduceLT, Int.reduceToNat, Nat.reduceLT, Int.toNat_natCast, Int.natCast_nonneg, true_or, Int.one_ne_zero, ite_self, m_dv h hL, c1, or_true]
    · have c2 : ¬ (d : Int) = -4 := by omega
      simp only [en121, s121_0, s121_1, s121_2, s121_5, s121_6, s121_7, s121_9, s121_12, s121_13, s121_14, s121_17, s121_18, s121_21, s121_22, cont_some, rl_some, rl_none, if_true, if_false, kd_149, rf_149_0, rf_149_1, rf_149_3, rf_149_5, rf_149_9, rf_149_16, rf_149_17, kd_150, kd_151, kd_152, kd_153, kd_154, kd_155, kd_156, ln_150, ln_151, ln_152, ln_153, ln_154, ln_155, ln_156, Int.reduceLE, Int.reduceLT, Int.reduceToNat, Nat.reduceLT, Int.toNat_natCast, Int.natCast_nonneg, true_or, Int.one_ne_zero, ite_self, m_dv h hL, c1, c2, or_true]
/-! sums -/
theorem m_vals_loop (hH : MH M n hl) (hK : MK c M n hl) (hn : n ≤ 4) {d : Nat} (hd : d < n) : ∀ (m i : Nat), i + m = hl d → evL 122 4 [Rf 149, I (d : Int), I (sumN (fun i => psum (c 15 (6 * d + i))) i), I (i : Int)] [] (Hp M P) = some (some (I (va1 c hl d)), Hp M P) := by
  obtain ⟨h6, h3⟩ := hH d hd
  intro m
  induction m with
  | zero =>
    intro i hi
    have e : i = hl d := by omega
    subst e
    have c1 : ((hl d : Nat) : Int) ≤ ((hl d : Nat) : Int) := by omega
    rw [s122_4]
    simp only [en122, s122_0, s122_1, s122_2, s122_3, s122_5, s122_6, s122_7, s122_8, s122_11, s122_14, s122_15, s122_16, s122_17, s122_18, s122_19, s122_20, s122_23, s122_26, s122_27, s122_28, s122_31, s122_34, s122_35, cont_some, rl_some, rl_none, if_true, if_false, kd_149, rf_149_0, rf_149_1, rf_149_3, rf_149_5, rf_149_9, rf_149_16, rf_149_17, kd_150, kd_151, kd_152, kd_153, kd_154, kd_155, kd_156, ln_150, ln_151, ln_152, ln_153, ln_154, ln_155, ln_156, Int.reduceLE, Int.reduceLT, Int.reduceToNat, Nat.reduceLT, Int.toNat_natCast, Int.natCast_nonneg, true_or, Int.one_ne_zero, ite_self, m_of3 (show d < 4 by omega), h3, c1]
    rfl
  | succ m ih =>
    intro i hi
    have c1 : ¬ ((hl d : Nat) : Int) ≤ (i : Int) := by omega
    have e1 : ad 4 (i : Int) = ((4 + i : Nat) : Int) := by rw [ad_eq (by omega) (by omega)]; omega
    have hb := sumN_b (f := fun i => psum (c 15 (6 * d + i))) (B := 45) i (fun j _ => psum_b _)
    have hp := psum_b (c 15 (6 * d + i))
    have e2 : ad (sumN (fun i => psum (c 15 (6 * d + i))) i) (psum (c 15 (6 * d + i))) = sumN (fun i => psum (c 15 (6 * d + i))) (i + 1) := by
      rw [ad_eq (by omega) (by omega)]; rfl
    rw [s122_4]
    simp only [en122, s122_0, s122_1, s122_2, s122_3, s122_5, s122_6, s122_7, s122_8, s122_11, s122_14, s122_15, s122_16, s122_17, s122_18, s122_19, s122_20, s122_23, s122_26, s122_27, s122_28, s122_31, s122_34, s122_35, cont_some, rl_some, rl_none, if_true, if_false, kd_149, rf_149_0, rf_149_1, rf_149_3, rf_149_5, rf_149_9, rf_149_16, rf_149_17, kd_150, kd_151, kd_152, kd_153, kd_154, kd_155, kd_156, ln_150, ln_151, ln_152, ln_153, ln_154, ln_155, ln_156, Int.reduceLE, Int.reduceLT, Int.reduceToNat, Nat.reduceLT, Int.toNat_natCast, Int.natCast_nonneg, true_or, Int.one_ne_zero, ite_self, m_of3 (show d < 4 by omega), h3, c1, e1, m_of (w := 4 + i) (show d < 4 by omega) (by omega), m_val (Or.inr (hK d hd i (by omega))), e2, ad_n i (by omega)]
    exact ih (i + 1) (by omega)
theorem m_vals (hH : MH M n hl) (hK : MK c M n hl) (hn : n ≤ 4) {d : Nat} (hd : d < n) : evM 122 [Rf 149, I (d : Int)] (Hp M P) = some (some (I (va1 c hl d)), Hp M P) := by
  simp only [en122, s122_0, s122_1, s122_2, s122_3, s122_5, s122_6, s122_7, s122_8, s122_11, s122_14, s122_15, s122_16, s122_17, s122_18, s122_19, s122_20, s122_23, s122_26, s122_27, s122_28, s122_31, s122_34, s122_35]
  exact m_vals_loop hH hK hn hd (hl d) 0 (by omega)
theorem m_tres_loop (hH : MH M n hl) (hK : MK c M n hl) (hn : n ≤ 4) {d : Nat} (hd : d < n) : ∀ (m i : Nat), i + m = hl d → evL 123 4 [Rf 149, I (d : Int), I (sumN (fun i => pcnt (c 15 (6 * d + i))) i), I (i : Int)] [] (Hp M P) = some (some (I (tr1 c hl d)), Hp M P) := by
  obtain ⟨h6, h3⟩ := hH d hd
  intro m
  induction m with
  | zero =>
    intro i hi
    have e : i = hl d := by omega
    subst e
    have c1 : ((hl d : Nat) : Int) ≤ ((hl d : Nat) : Int) := by omega
    rw [s123_4]
    simp only [en123, s123_0, s123_1, s123_2, s123_3, s123_5, s123_6, s123_7, s123_8, s123_11, s123_14, s123_15, s123_16, s123_17, s123_18, s123_19, s123_20, s123_23, s123_26, s123_27, s123_28, s123_31, s123_34, s123_35, cont_some, rl_some, rl_none, if_true, if_false, kd_149, rf_149_0, rf_149_1, rf_149_3, rf_149_5, rf_149_9, rf_149_16, rf_149_17, kd_150, kd_151, kd_152, kd_153, kd_154, kd_155, kd_156, ln_150, ln_151, ln_152, ln_153, ln_154, ln_155, ln_156, Int.reduceLE, Int.reduceLT, Int.reduceToNat, Nat.reduceLT, Int.toNat_natCast, Int.natCast_nonneg, true_or, Int.one_ne_zero, ite_self, m_of3 (show d < 4 by omega), h3, c1]
    rfl
  | succ m ih =>
    intro i hi
    have c1 : ¬ ((hl d : Nat) : Int) ≤ (i : Int) := by omega
    have e1 : ad 4 (i : Int) = ((4 + i : Nat) : Int) := by rw [ad_eq (by omega) (by omega)]; omega
    have hk (j : Nat) (hj : j < hl d) := encS_c (hK d hd j hj)
    have hb := sumN_b (f := fun i => pcnt (c 15 (6 * d + i))) (B := 3) i (fun j hj => pcnt_b (by have := hk j (by omega); omega) (by have := hk j (by omega); omega))
    have hp : 0 ≤ pcnt (c 15 (6 * d + i)) ∧ pcnt (c 15 (6 * d + i)) ≤ 3 := pcnt_b (by have := hk i (by omega); omega) (by have := hk i (by omega); omega)
    have e2 : ad (sumN (fun i => pcnt (c 15 (6 * d + i))) i) (pcnt (c 15 (6 * d + i))) = sumN (fun i => pcnt (c 15 (6 * d + i))) (i + 1) := by
      rw [ad_eq (by omega) (by omega)]; rfl
    rw [s123_4]
    simp only [en123, s123_0, s123_1, s123_2, s123_3, s123_5, s123_6, s123_7, s123_8, s123_11, s123_14, s123_15, s123_16, s123_17, s123_18, s123_19, s123_20, s123_23, s123_26, s123_27, s123_28, s123_31, s123_34, s123_35, cont_some, rl_some, rl_none, if_true, if_false, kd_149, rf_149_0, rf_149_1, rf_149_3, rf_149_5, rf_149_9, rf_149_16, rf_149_17, kd_150, kd_151, kd_152, kd_153, kd_154, kd_155, kd_156, ln_150, ln_151, ln_152, ln_153, ln_154, ln_155, ln_156, Int.reduceLE, Int.reduceLT, Int.reduceToNat, Nat.reduceLT, Int.toNat_natCast, Int.natCast_nonneg, true_or, Int.one_ne_zero, ite_self, m_of3 (show d < 4 by omega), h3, c1, e1, m_of (w := 4 + i) (show d < 4 by omega) (by omega), m_tre (Or.inr (hK d hd i (by omega))), e2, ad_n i (by omega)]
    exact ih (i + 1) (by omega)
theorem m_tres (hH : MH M n hl) (hK : MK c M n hl) (hn : n ≤ 4) {d : Nat} (hd : d < n) : evM 123 [Rf 149, I (d : Int)] (Hp M P) = some (some (I (tr1 c hl d)), Hp M P) := by
  simp only [en123, s123_0, s123_1, s123_2, s123_3, s123_5, s123_6, s123_7, s123_8, s123_11, s123_14, s123_15, s123_16, s123_17, s123_18, s123_19, s123_20, s123_23, s123_26, s123_27, s123_28, s123_31, s123_34, s123_35]
  exact m_tres_loop hH hK hn hd (hl d) 0 (by omega)
theorem m_path_loop (h : MS M sp) (hP : MP c M sp) : ∀ (m s : Nat), s + m = sp → evL 124 4 [Rf 149, I (sumN (fun s => psum (c 4 (s + 1))) s), I ((s + 1 : Nat) : Int)] [] (Hp M P) = some (some (I (sumN (fun s => psum (c 4 (s + 1))) sp)), Hp M P) := by
  obtain ⟨h1, h2⟩ := h
  intro m
  induction m with
  | zero =>
    intro s hs
    have e : s = sp := by omega
    subst e
    have c1 : (s : Int) < ((s + 1 : Nat) : Int) := by omega
    rw [s124_4]
    simp only [en124, s124_0, s124_1, s124_2, s124_3, s124_5, s124_6, s124_9, s124_11, s124_12, s124_15, s124_16, s124_17, s124_18, s124_21, s124_24, s124_25, s124_26, s124_29, s124_32, s124_33, cont_some, rl_some, rl_none, if_true, if_false, kd_149, rf_149_0, rf_149_1, rf_149_3, rf_149_5, rf_149_9, rf_149_16, rf_149_17, kd_150, kd_151, kd_152, kd_153, kd_154, kd_155, kd_156, ln_150, ln_151, ln_152, ln_153, ln_154, ln_155, ln_156, Int.reduceLE, Int.reduceLT, Int.reduceToNat, Nat.reduceLT, Int.toNat_natCast, Int.natCast_nonneg, true_or, Int.one_ne_zero, ite_self, h1, c1]
  | succ m ih =>
    intro s hs
    have c1 : ¬ (sp : Int) < ((s + 1 : Nat) : Int) := by omega
    have hb := sumN_b (f := fun s => psum (c 4 (s + 1))) (B := 45) s (fun j _ => psum_b _)
    have hp := psum_b (c 4 (s + 1))
    have e2 : ad (sumN (fun s => psum (c 4 (s + 1))) s) (psum (c 4 (s + 1))) = sumN (fun s => psum (c 4 (s + 1))) (s + 1) := by
      rw [ad_eq (by omega) (by omega)]; rfl
    rw [s124_4]
    simp only [en124, s124_0, s124_1, s124_2, s124_3, s124_5, s124_6, s124_9, s124_11, s124_12, s124_15, s124_16, s124_17, s124_18, s124_21, s124_24, s124_25, s124_26, s124_29, s124_32, s124_33, cont_some, rl_some, rl_none, if_true, if_false, kd_149, rf_149_0, rf_149_1, rf_149_3, rf_149_5, rf_149_9, rf_149_16, rf_149_17, kd_150, kd_151, kd_152, kd_153, kd_154, kd_155, kd_156, ln_150, ln_151, ln_152, ln_153, ln_154, ln_155, ln_156, Int.reduceLE, Int.reduceLT, Int.reduceToNat, Nat.reduceLT, Int.toNat_natCast, Int.natCast_nonneg, true_or, Int.one_ne_zero, ite_self, h1, c1, m_at (show s < 16 by omega), m_val (hP s (by omega)), e2, ad_n (s + 1) (by omega)]
    exact ih (s + 1) (by omega)
theorem m_path (h : MS M sp) (hP : MP c M sp) : evM 124 [Rf 149] (Hp M P) = some (some (I (sumN (fun s => psum (c 4 (s + 1))) sp)), Hp M P) := by
  simp only [en124, s124_0, s124_1, s124_2, s124_3, s124_5, s124_6, s124_9, s124_11, s124_12, s124_15, s124_16, s124_17, s124_18, s124_21, s124_24, s124_25, s124_26, s124_29, s124_32, s124_33]
  exact m_path_loop h hP sp 0 (by omega)
end Ref
