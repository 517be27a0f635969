/-! ===== Row: contracts ===== -/
def isRow (i j n : Nat) : Prop := kd i = 6 ∧ rfd i 0 = j ∧ kd j = 100 ∧ ln j = n ∧ n ≤ 1000
def rg (M : Mem) (j n : Nat) (x : Int) : Int := if 0 ≤ x ∧ x < n then M j x.toNat else 0
def rs (M : Mem) (j n : Nat) (x v : Int) : Mem := if 0 ≤ x ∧ x < n then wr M j x.toNat v else M
theorem row_get {i j n : Nat} (h : isRow i j n) {M : Mem} {P : PMem} {x : Int} : evM 80 [Rf i, I x] (Hp M P) = some (some (I (rg M j n x)), Hp M P) := by
  obtain ⟨h1, h2, h3, h4, h5⟩ := h
  have h6 : n ≤ 1000000 := by omega
  unfold rg
  by_cases c1 : x < 0
  · rw [if_neg (by omega)]
    simp only [en80, s80_0, s80_1, s80_4, s80_5, s80_6, s80_9, s80_10, s80_13, s80_14, s80_17, s80_18, s80_19, s80_22, s80_23, c1, if_true]
  · by_cases c2 : (n : Int) ≤ x
    · rw [if_neg (by omega)]
      simp only [en80, s80_0, s80_1, s80_4, s80_5, s80_6, s80_9, s80_10, s80_13, s80_14, s80_17, s80_18, s80_19, s80_22, s80_23, c1, h1, h2, h3, h4, h6, c2, if_true, if_false, true_or]
    · rw [if_pos (by omega)]
      have c3 : 0 ≤ x := by omega
      have c4 : x.toNat < n := by omega
      simp only [en80, s80_0, s80_1, s80_4, s80_5, s80_6, s80_9, s80_10, s80_13, s80_14, s80_17, s80_18, s80_19, s80_22, s80_23, c1, h1, h2, h3, h4, h6, c2, c3, c4, if_false, true_or]
theorem row_set {i j n : Nat} (h : isRow i j n) {M : Mem} {P : PMem} {x v : Int} : evM 81 [Rf i, I x, I v] (Hp M P) = some (none, Hp (rs M j n x v) P) := by
  obtain ⟨h1, h2, h3, h4, h5⟩ := h
  have h6 : n ≤ 1000000 := by omega
  unfold rs
  by_cases c1 : x < 0
  · rw [if_neg (by omega)]
    simp only [en81, s81_0, s81_1, s81_4, s81_5, s81_6, s81_9, s81_10, s81_13, s81_14, s81_17, s81_18, s81_19, s81_20, c1, if_true]
  · by_cases c2 : (n : Int) ≤ x
    · rw [if_neg (by omega)]
      simp only [en81, s81_0, s81_1, s81_4, s81_5, s81_6, s81_9, s81_10, s81_13, s81_14, s81_17, s81_18, s81_19, s81_20, c1, h1, h2, h3, h4, h6, c2, if_true, if_false, true_or]
    · rw [if_pos (by omega)]
      have c3 : 0 ≤ x := by omega
      have c4 : x.toNat < n := by omega
      simp only [en81, s81_0, s81_1, s81_4, s81_5, s81_6, s81_9, s81_10, s81_13, s81_14, s81_17, s81_18, s81_19, s81_20, c1, h1, h2, h3, h4, h6, c2, c3, c4, if_false, true_or]
theorem row_add {i j n : Nat} (h : isRow i j n) {M : Mem} {P : PMem} {x v : Int} : evM 82 [Rf i, I x, I v] (Hp M P) = some (none, Hp (rs M j n x (ad (rg M j n x) v)) P) := by
  have h1 := h.1
  simp only [en82, s82_0, s82_1, s82_2, s82_3, s82_4, s82_7, s82_8, s82_9, s82_12, h1, row_get h, row_set h, cont_some, rl_some, rl_none]
/-- the sum of the first n cells, from 0 on -/
def sumA (f : Nat → Int) : Nat → Int
  | 0 => 0
  | n + 1 => ad (sumA f n) (f n)
theorem row_sum_loop {i j n : Nat} (h : isRow i j n) {M : Mem} {P : PMem} : ∀ (m k : Nat), k + m = n → evL 83 4 [Rf i, I (sumA (M j) k), I (k : Int)] [] (Hp M P) = some (some (I (sumA (M j) n)), Hp M P) := by
  obtain ⟨h1, h2, h3, h4, h5⟩ := h
  have h6 : n ≤ 1000000 := by omega
  intro m
  induction m with
  | zero =>
    intro k hk
    have e : k = n := by omega
    subst e
    rw [s83_4]
    simp only [en83, s83_0, s83_1, s83_2, s83_3, s83_5, s83_6, s83_9, s83_10, s83_13, s83_14, s83_15, s83_18, s83_19, s83_20, s83_21, s83_22, s83_25, s83_28, s83_29, h1, h2, h3, h4, h6, Int.le_refl, if_true, true_or]
  | succ m ih =>
    intro k hk
    rw [s83_4]
    have c2 : ¬ (n : Int) ≤ (k : Int) := by omega
    have c3 : (0 : Int) ≤ (k : Int) := by omega
    have c4 : k < n := by omega
    have e : ad (k : Int) 1 = ((k + 1 : Nat) : Int) := by rw [ad_eq (by omega) (by omega)]; push_cast; rfl
    simp only [en83, s83_0, s83_1, s83_2, s83_3, s83_5, s83_6, s83_9, s83_10, s83_13, s83_14, s83_15, s83_18, s83_19, s83_20, s83_21, s83_22, s83_25, s83_28, s83_29, h1, h2, h3, h4, h6, c2, c3, c4, if_false, true_or, Int.toNat_natCast, e]
    exact ih (k + 1) (by omega)
theorem row_sum {i j n : Nat} (h : isRow i j n) {M : Mem} {P : PMem} : evM 83 [Rf i] (Hp M P) = some (some (I (sumA (M j) n)), Hp M P) := by
  simp only [en83, s83_0, s83_1, s83_2, s83_3]
  exact row_sum_loop h n 0 (by omega)
def wp (M : Mem) (j n : Nat) : Mem := fun a b => if a = j ∧ b < n then 0 else M a b
theorem row_wipe_loop {i j n : Nat} (h : isRow i j n) {M : Mem} {P : PMem} : ∀ (m k : Nat), k + m = n → evL 84 2 [Rf i, I (k : Int)] [] (Hp (wp M j k) P) = some (none, Hp (wp M j n) P) := by
  obtain ⟨h1, h2, h3, h4, h5⟩ := h
  have h6 : n ≤ 1000000 := by omega
  intro m
  induction m with
  | zero =>
    intro k hk
    have e : k = n := by omega
    subst e
    rw [s84_2]
    simp only [en84, s84_0, s84_1, s84_3, s84_4, s84_7, s84_8, s84_11, s84_12, s84_15, s84_16, s84_17, s84_18, s84_21, s84_24, h1, h2, h3, h4, h6, Int.le_refl, if_true, true_or]
  | succ m ih =>
    intro k hk
    rw [s84_2]
    have c2 : ¬ (n : Int) ≤ (k : Int) := by omega
    have c3 : (0 : Int) ≤ (k : Int) := by omega
    have c4 : k < n := by omega
    have e : ad (k : Int) 1 = ((k + 1 : Nat) : Int) := by rw [ad_eq (by omega) (by omega)]; push_cast; rfl
    have e2 : wr (wp M j k) j k 0 = wp M j (k + 1) := by
      funext a b
      unfold wr wp
      by_cases ha : a = j
      · subst ha
        by_cases hb : b = k
        · subst hb; simp
        · by_cases hb2 : b < k
          · simp [hb2, Nat.lt_succ_of_lt hb2]
          · simp [hb, hb2, show ¬ b < k + 1 by omega]
      · simp [ha]
    simp only [en84, s84_0, s84_1, s84_3, s84_4, s84_7, s84_8, s84_11, s84_12, s84_15, s84_16, s84_17, s84_18, s84_21, s84_24, h1, h2, h3, h4, h6, c2, c3, c4, if_false, true_or, Int.toNat_natCast, e, e2]
    exact ih (k + 1) (by omega)
theorem wp_0 {M : Mem} {j : Nat} : wp M j 0 = M := by funext a b; simp [wp]
theorem row_wipe {i j n : Nat} (h : isRow i j n) {M : Mem} {P : PMem} : evM 84 [Rf i] (Hp M P) = some (none, Hp (wp M j n) P) := by
  simp only [en84, s84_0, s84_1]
  have := row_wipe_loop h (M := M) (P := P) n 0 (by omega)
  rw [wp_0] at this
  exact this
/-- a row over a row -/
def cpR (M : Mem) (j n j2 n2 : Nat) : Mem := fun a b => if a = j ∧ b < n then rg M j2 n2 (b : Int) else M a b
theorem row_copy_loop {i j n i2 j2 n2 : Nat} (h : isRow i j n) (hb : isRow i2 j2 n2) (hne : j ≠ j2) {M : Mem} {P : PMem} : ∀ (m k : Nat), k + m = n → evL 85 2 [Rf i, Rf i2, I (k : Int)] [] (Hp (cpR M j k j2 n2) P) = some (none, Hp (cpR M j n j2 n2) P) := by
  obtain ⟨h1, h2, h3, h4, h5⟩ := h
  have h6 : n ≤ 1000000 := by omega
  have hb1 := hb.1
  intro m
  induction m with
  | zero =>
    intro k hk
    have e : k = n := by omega
    subst e
    rw [s85_2]
    simp only [en85, s85_0, s85_1, s85_3, s85_4, s85_7, s85_8, s85_11, s85_12, s85_15, s85_16, s85_17, s85_18, s85_21, s85_22, s85_25, s85_28, h1, h2, h3, h4, h6, Int.le_refl, if_true, true_or]
  | succ m ih =>
    intro k hk
    rw [s85_2]
    have c2 : ¬ (n : Int) ≤ (k : Int) := by omega
    have c3 : (0 : Int) ≤ (k : Int) := by omega
    have c4 : k < n := by omega
    have e : ad (k : Int) 1 = ((k + 1 : Nat) : Int) := by rw [ad_eq (by omega) (by omega)]; push_cast; rfl
    have e2 : wr (cpR M j k j2 n2) j k (rg (cpR M j k j2 n2) j2 n2 (k : Int)) = cpR M j (k + 1) j2 n2 := by
      have e3 : rg (cpR M j k j2 n2) j2 n2 (k : Int) = rg M j2 n2 (k : Int) := by
        unfold rg cpR
        simp [Ne.symm hne]
      rw [e3]
      funext a b
      unfold wr cpR
      by_cases ha : a = j
      · subst ha
        by_cases hb : b = k
        · subst hb; simp
        · by_cases hb2 : b < k
          · simp [hb, hb2, Nat.lt_succ_of_lt hb2]
          · simp [hb, hb2, show ¬ b < k + 1 by omega]
      · simp [ha]
    simp only [en85, s85_0, s85_1, s85_3, s85_4, s85_7, s85_8, s85_11, s85_12, s85_15, s85_16, s85_17, s85_18, s85_21, s85_22, s85_25, s85_28, h1, h2, h3, h4, h6, hb1, c2, c3, c4, if_false, true_or, Int.toNat_natCast, e, row_get hb, cont_some, rl_some, e2]
    exact ih (k + 1) (by omega)
theorem cpR_0 {M : Mem} {j j2 n2 : Nat} : cpR M j 0 j2 n2 = M := by funext a b; simp [cpR]
theorem row_copy {i j n i2 j2 n2 : Nat} (h : isRow i j n) (hb : isRow i2 j2 n2) (hne : j ≠ j2) {M : Mem} {P : PMem} : evM 85 [Rf i, Rf i2] (Hp M P) = some (none, Hp (cpR M j n j2 n2) P) := by
  simp only [en85, s85_0, s85_1]
  have := row_copy_loop h hb hne (M := M) (P := P) n 0 (by omega)
  rw [cpR_0] at this
  exact this
