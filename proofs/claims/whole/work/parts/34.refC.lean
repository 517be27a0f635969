section Ref3
variable {M : Mem} {P : PMem} {c : Mem} {n sp t : Nat} {hl : Nat → Nat}
/-! the deepest not looked at -/
def lk (x e : Nat) : Bool := decide (e < 4 ∧ x / 2 ^ e % 2 = 1)
theorem lk_or : ∀ x, x < 16 → ∀ d, d < 4 → lk x d = false → (x + 2 ^ d < 16 ∧ ∀ e, e < 4 → lk (x + 2 ^ d) e = (lk x e || decide (e = d))) := by decide
theorem lk_big {x e : Nat} (h : 4 ≤ e) : lk x e = false := by unfold lk; rw [decide_eq_false]; omega
theorem lk_add {x d : Nat} (hx : x < 16) (hd : d < 4) (h : lk x d = false) : x + 2 ^ d < 16 ∧ ∀ e, lk (x + 2 ^ d) e = (lk x e || decide (e = d)) := by
  obtain ⟨h1, h2⟩ := lk_or x hx d hd h
  refine ⟨h1, fun e => ?_⟩
  by_cases c : e < 4
  · exact h2 e c
  · rw [lk_big (by omega), lk_big (by omega)]
    have : ¬ e = d := by omega
    simp [this]
theorem lk_an {x d : Nat} (hx : x < 16) (hd : d < 4) : an (shr (x : Int) (d : Int)) 1 = if lk x d = true then 1 else 0 := by
  have e1 : shr (x : Int) (d : Int) = ((x / 2 ^ d : Nat) : Int) := by
    rw [shr_eq ⟨by omega, by omega⟩ (by omega) (by omega), Int.toNat_natCast]
    push_cast
    rfl
  have hb : x / 2 ^ d ≤ x := Nat.div_le_self _ _
  unfold lk
  rw [e1]
  generalize x / 2 ^ d = y at *
  rw [an_1 (by omega) (by omega)]
  by_cases h : y % 2 = 1
  · rw [if_pos (by simp [h, hd])]; omega
  · rw [if_neg (by simp [h])]; omega
theorem lk_or2 : ∀ x, x < 16 → ∀ d, d < 4 → lk x d = false → x ||| 2 ^ d = x + 2 ^ d := by decide
theorem lk_orr {x d : Nat} (hx : x < 16) (hd : d < 4) (h : lk x d = false) : orr (x : Int) (shl 1 (d : Int)) = ((x + 2 ^ d : Nat) : Int) := by
  have hp : 2 ^ d ≤ 8 := by
    have : ∀ d, d < 4 → 2 ^ d ≤ 8 := by decide
    exact this d hd
  have e1 : shl 1 (d : Int) = ((2 ^ d : Nat) : Int) := by
    rw [shl_eq (by omega) (by omega) (by omega) (by rw [Int.toNat_natCast, Int.one_mul]; have : ((2 : Int) ^ d) = ((2 ^ d : Nat) : Int) := by push_cast; rfl
                                                    rw [this]; omega), Int.toNat_natCast, Int.one_mul]
    push_cast
    rfl
  have e2 := lk_or2 x hx d hd h
  rw [e1, nat_orr x (2 ^ d) (by omega), e2]
/-- the deepest, of several the lowest, of the first k -/
def dpO (f : Nat → Int) (L : Nat → Bool) : Nat → Option Nat
  | 0 => none
  | k + 1 => if L k = false ∧ (∀ b ∈ dpO f L k, f b < f k) then some k else dpO f L k
def fo : Option Nat → Int
  | none => -4
  | some d => (d : Int)
theorem dpO_lt {f : Nat → Int} {L : Nat → Bool} : ∀ {k b : Nat}, dpO f L k = some b → b < k := by
  intro k
  induction k with
  | zero => intro b h; cases h
  | succ k ih =>
    intro b h
    unfold dpO at h
    split at h
    · cases h; omega
    · have := ih h; omega
theorem m_deep_loop (h : MN M n) (hL : ML c M n) {x : Nat} (hx : x < 16) : ∀ (m d : Nat) (l4 : AV), d + m = n → evL 139 5 [Rf 149, I (x : Int), I (fo (dpO (c 7) (lk x) d)), I (d : Int), l4] [] (Hp M P) = some (some (I (fo (dpO (c 7) (lk x) n))), Hp M P) := by
  obtain ⟨h1, h2⟩ := h
  intro m
  induction m with
  | zero =>
    intro d l4 hd
    have e : d = n := by omega
    subst e
    have c1 : (d : Int) ≤ (d : Int) := by omega
    rw [s139_5]
    simp only [en139, s139_0, s139_2, s139_3, s139_4, s139_6, s139_7, s139_10, s139_11, s139_12, s139_15, s139_16, s139_17, s139_18, s139_19, s139_20, s139_23, s139_24, s139_26, s139_29, s139_30, s139_31, s139_32, s139_35, s139_36, s139_37, s139_38, s139_41, s139_44, s139_45, s139_48, s139_49, s139_51, s139_53, s139_56, s139_57, s139_60, s139_61, s139_62, s139_65, s139_68, s139_69, cont_some, rl_some, rl_none, if_true, if_false, kd_149, rf_149_0, rf_149_1, rf_149_3, rf_149_5, rf_149_9, rf_149_16, rf_149_17, kd_150, kd_151, kd_152, kd_153, kd_154, kd_155, kd_156, ln_150, ln_151, ln_152, ln_153, ln_154, ln_155, ln_156, Int.reduceLE, Int.reduceLT, Int.reduceToNat, Nat.reduceLT, Int.toNat_natCast, Int.natCast_nonneg, true_or, Int.one_ne_zero, ite_self, h1, c1]
  | succ m ih =>
    intro d l4 hd
    have c1 : ¬ (n : Int) ≤ (d : Int) := by omega
    have hd4 : d < 4 := by omega
    have ih' := fun l4 => ih (d + 1) l4 (by omega)
    rw [s139_5]
    by_cases c2 : lk x d = true
    · have e2 : dpO (c 7) (lk x) (d + 1) = dpO (c 7) (lk x) d := by rw [dpO, if_neg (by rw [c2]; simp)]
      rw [e2] at ih'
      simp only [en139, s139_0, s139_2, s139_3, s139_4, s139_6, s139_7, s139_10, s139_11, s139_12, s139_15, s139_16, s139_17, s139_18, s139_19, s139_20, s139_23, s139_24, s139_26, s139_29, s139_30, s139_31, s139_32, s139_35, s139_36, s139_37, s139_38, s139_41, s139_44, s139_45, s139_48, s139_49, s139_51, s139_53, s139_56, s139_57, s139_60, s139_61, s139_62, s139_65, s139_68, s139_69, cont_some, rl_some, rl_none, if_true, if_false, kd_149, rf_149_0, rf_149_1, rf_149_3, rf_149_5, rf_149_9, rf_149_16, rf_149_17, kd_150, kd_151, kd_152, kd_153, kd_154, kd_155, kd_156, ln_150, ln_151, ln_152, ln_153, ln_154, ln_155, ln_156, Int.reduceLE, Int.reduceLT, Int.reduceToNat, Nat.reduceLT, Int.toNat_natCast, Int.natCast_nonneg, true_or, Int.one_ne_zero, ite_self, h1, c1, lk_an hx hd4, c2, ad_n d (by omega)]
      exact ih' _
    · have c2' : lk x d = false := by cases hq : lk x d with
        | true => exact absurd hq c2
        | false => rfl
      have cf : ¬ (false = true) := by simp
      cases hq : dpO (c 7) (lk x) d with
      | none =>
        have e2 : dpO (c 7) (lk x) (d + 1) = some d := by rw [dpO, if_pos ⟨c2', by rw [hq]; intro b hb; cases hb⟩]
        rw [e2] at ih'
        have e3 : fo none = -4 := rfl
        simp only [en139, s139_0, s139_2, s139_3, s139_4, s139_6, s139_7, s139_10, s139_11, s139_12, s139_15, s139_16, s139_17, s139_18, s139_19, s139_20, s139_23, s139_24, s139_26, s139_29, s139_30, s139_31, s139_32, s139_35, s139_36, s139_37, s139_38, s139_41, s139_44, s139_45, s139_48, s139_49, s139_51, s139_53, s139_56, s139_57, s139_60, s139_61, s139_62, s139_65, s139_68, s139_69, cont_some, rl_some, rl_none, if_true, if_false, kd_149, rf_149_0, rf_149_1, rf_149_3, rf_149_5, rf_149_9, rf_149_16, rf_149_17, kd_150, kd_151, kd_152, kd_153, kd_154, kd_155, kd_156, ln_150, ln_151, ln_152, ln_153, ln_154, ln_155, ln_156, Int.reduceLE, Int.reduceLT, Int.reduceToNat, Nat.reduceLT, Int.toNat_natCast, Int.natCast_nonneg, true_or, Int.one_ne_zero, ite_self, h1, c1, lk_an hx hd4, c2', cf, e3, ad_n d (by omega)]
        exact ih' _
      | some b =>
        have hb := dpO_lt hq
        have e3 : fo (some b) = (b : Int) := rfl
        have c3 : ¬ (b : Int) = -4 := by omega
        by_cases c4 : c 7 d ≤ c 7 b
        · have e2 : dpO (c 7) (lk x) (d + 1) = some b := by
            rw [dpO, if_neg, hq]
            rintro ⟨_, hz⟩
            have := hz b (by rw [hq]; rfl)
            omega
          rw [e2] at ih'
          simp only [en139, s139_0, s139_2, s139_3, s139_4, s139_6, s139_7, s139_10, s139_11, s139_12, s139_15, s139_16, s139_17, s139_18, s139_19, s139_20, s139_23, s139_24, s139_26, s139_29, s139_30, s139_31, s139_32, s139_35, s139_36, s139_37, s139_38, s139_41, s139_44, s139_45, s139_48, s139_49, s139_51, s139_53, s139_56, s139_57, s139_60, s139_61, s139_62, s139_65, s139_68, s139_69, cont_some, rl_some, rl_none, if_true, if_false, kd_149, rf_149_0, rf_149_1, rf_149_3, rf_149_5, rf_149_9, rf_149_16, rf_149_17, kd_150, kd_151, kd_152, kd_153, kd_154, kd_155, kd_156, ln_150, ln_151, ln_152, ln_153, ln_154, ln_155, ln_156, Int.reduceLE, Int.reduceLT, Int.reduceToNat, Nat.reduceLT, Int.toNat_natCast, Int.natCast_nonneg, true_or, Int.one_ne_zero, ite_self, h1, c1, lk_an hx hd4, c2', cf, e3, c3, m_of0 hd4, m_of0 (show b < 4 by omega), hL d (by omega), hL b (by omega), c4, ad_n d (by omega)]
          exact ih' _
        · have e2 : dpO (c 7) (lk x) (d + 1) = some d := by
            rw [dpO, if_pos]
            refine ⟨c2', ?_⟩
            rw [hq]
            intro b' hb'
            cases hb'
            omega
          rw [e2] at ih'
          simp only [en139, s139_0, s139_2, s139_3, s139_4, s139_6, s139_7, s139_10, s139_11, s139_12, s139_15, s139_16, s139_17, s139_18, s139_19, s139_20, s139_23, s139_24, s139_26, s139_29, s139_30, s139_31, s139_32, s139_35, s139_36, s139_37, s139_38, s139_41, s139_44, s139_45, s139_48, s139_49, s139_51, s139_53, s139_56, s139_57, s139_60, s139_61, s139_62, s139_65, s139_68, s139_69, cont_some, rl_some, rl_none, if_true, if_false, kd_149, rf_149_0, rf_149_1, rf_149_3, rf_149_5, rf_149_9, rf_149_16, rf_149_17, kd_150, kd_151, kd_152, kd_153, kd_154, kd_155, kd_156, ln_150, ln_151, ln_152, ln_153, ln_154, ln_155, ln_156, Int.reduceLE, Int.reduceLT, Int.reduceToNat, Nat.reduceLT, Int.toNat_natCast, Int.natCast_nonneg, true_or, Int.one_ne_zero, ite_self, h1, c1, lk_an hx hd4, c2', cf, e3, c3, m_of0 hd4, m_of0 (show b < 4 by omega), hL d (by omega), hL b (by omega), c4, ad_n d (by omega)]
          exact ih' _
theorem m_deep (h : MN M n) (hL : ML c M n) {x : Nat} (hx : x < 16) : evM 139 [Rf 149, I (x : Int)] (Hp M P) = some (some (I (fo (dpO (c 7) (lk x) n))), Hp M P) := by
  simp only [en139, s139_0, s139_2, s139_3, s139_4, s139_6, s139_7, s139_10, s139_11, s139_12, s139_15, s139_16, s139_17, s139_18, s139_19, s139_20, s139_23, s139_24, s139_26, s139_29, s139_30, s139_31, s139_32, s139_35, s139_36, s139_37, s139_38, s139_41, s139_44, s139_45, s139_48, s139_49, s139_51, s139_53, s139_56, s139_57, s139_60, s139_61, s139_62, s139_65, s139_68, s139_69]
  exact m_deep_loop h hL hx n 0 _ (by omega)
theorem dpO_none {f : Nat → Int} {L : Nat → Bool} : ∀ {k : Nat}, dpO f L k = none → ∀ e, e < k → L e = true := by
  intro k
  induction k with
  | zero => intro _ e he; omega
  | succ k ih =>
    intro h e he
    unfold dpO at h
    by_cases c1 : L k = false ∧ (∀ b ∈ dpO f L k, f b < f k)
    · rw [if_pos c1] at h; cases h
    · rw [if_neg c1] at h
      by_cases c2 : e = k
      · subst c2
        cases hq : L e with
        | true => rfl
        | false => exact absurd ⟨hq, by rw [h]; intro b hb; cases hb⟩ c1
      · exact ih h e (by omega)
theorem dpO_spec {f : Nat → Int} {L : Nat → Bool} : ∀ {k b : Nat}, dpO f L k = some b → b < k ∧ L b = false ∧ ∀ e, e < k → L e = false → f e ≤ f b ∧ (f e = f b → b ≤ e) := by
  intro k
  induction k with
  | zero => intro b h; cases h
  | succ k ih =>
    intro b h
    unfold dpO at h
    by_cases c1 : L k = false ∧ (∀ b ∈ dpO f L k, f b < f k)
    · rw [if_pos c1] at h
      cases h
      refine ⟨by omega, c1.1, fun e he hz => ?_⟩
      by_cases c2 : e = k
      · subst c2; exact ⟨by omega, fun _ => by omega⟩
      · cases hq : dpO f L k with
        | none => have := dpO_none hq e (by omega); rw [hz] at this; cases this
        | some x =>
          have h1 := (ih hq).2.2 e (by omega) hz
          have h2 := c1.2 x (by rw [hq]; rfl)
          exact ⟨by omega, fun h3 => by omega⟩
    · rw [if_neg c1] at h
      obtain ⟨h1, h2, h3⟩ := ih h
      refine ⟨by omega, h2, fun e he hz => ?_⟩
      by_cases c2 : e = k
      · subst c2
        have : ¬ f b < f e := fun h4 => c1 ⟨hz, by rw [h]; intro b' hb'; cases hb'; exact h4⟩
        exact ⟨by omega, fun _ => by omega⟩
      · exact h3 e (by omega) hz
theorem dpO_arg {f : Nat → Int} : ∀ m d b, dpO f (fun _ => false) d = some b → dpO f (fun _ => false) (d + m) = some (arg f m d b) := by
  intro m
  induction m with
  | zero => intro d b h; exact h
  | succ m ih =>
    intro d b h
    rw [show d + (m + 1) = d + 1 + m by omega]
    apply ih
    rw [dpO, h]
    by_cases c1 : f b < f d
    · rw [if_pos ⟨rfl, fun b' hb' => by cases hb'; exact c1⟩, if_pos c1]
    · rw [if_neg, if_neg c1]
      rintro ⟨_, hz⟩
      exact c1 (hz b rfl)
theorem dp_first (hn : 1 ≤ n) : dpO (c 7) (lk 0) n = some (arg (c 7) (n - 1) 1 0) := by
  have e : lk 0 = fun _ => false := by
    funext e
    unfold lk
    rw [Nat.zero_div]
    simp
  rw [e]
  have := dpO_arg (f := c 7) (n - 1) 1 0 (by rw [dpO, if_pos ⟨rfl, fun b hb => by cases hb⟩])
  rw [show 1 + (n - 1) = n by omega] at this
  exact this
/-! bringing -/
theorem m_brings (hH : MH M n hl) (hK : MK c M n hl) (hn : n ≤ 4) {d : Nat} (hd : d < n) : evM 138 [Rf 149, I (d : Int)] (Hp M P) = some (none, Hp (wr (wr M 150 (sl d 10) (ad (M 150 (sl d 10)) (va1 c hl d))) 150 (sl d 11) (ad (M 150 (sl d 11)) (tr1 c hl d))) P) := by
  have hd4 : d < 4 := by omega
  have hz (v : Int) (e w : Nat) (hw : w < 10) : wr M 150 (sl d 10) v 150 (sl e w) = M 150 (sl e w) := by rw [wr_app, if_neg (by unfold sl; omega)]
  have hH' (v : Int) : MH (wr M 150 (sl d 10) v) n hl := fun e he => by rw [hz _ _ _ (by omega)]; exact hH e he
  have hK' (v : Int) : MK c (wr M 150 (sl d 10) v) n hl := fun e he i hi => by rw [hz _ _ _ (by have := (hH e he).1; omega)]; exact hK e he i hi
  have e1 (v : Int) : wr M 150 (sl d 10) v 150 (sl d 11) = M 150 (sl d 11) := by rw [wr_app, if_neg (by unfold sl; omega)]
  simp only [en138, s138_0, s138_1, s138_2, s138_4, s138_5, s138_6, s138_8, s138_11, s138_12, s138_13, s138_16, s138_17, s138_20, s138_21, s138_22, s138_24, s138_25, s138_26, s138_28, s138_31, s138_32, s138_33, s138_36, s138_37, s138_40, cont_some, rl_some, rl_none, if_true, if_false, kd_149, rf_149_0, rf_149_1, rf_149_3, rf_149_5, rf_149_9, rf_149_16, rf_149_17, kd_150, kd_151, kd_152, kd_153, kd_154, kd_155, kd_156, ln_150, ln_151, ln_152, ln_153, ln_154, ln_155, ln_156, Int.reduceLE, Int.reduceLT, Int.reduceToNat, Nat.reduceLT, Int.toNat_natCast, Int.natCast_nonneg, true_or, Int.one_ne_zero, ite_self, m_of10 hd4, m_vals hH hK hn hd, m_lay10 hd4, m_of11 hd4, e1, m_tres (hH' _) (hK' _) hn hd, m_lay11 hd4]
/-! sinking: the list L lies in it -/
def skM (M : Mem) (L : List Int) : Mem := wr (putL M 154 0 (L.map (· + 1))) 149 10 (L.length : Int)
theorem skM_snoc {L : List Int} {v : Int} : wr (wr (skM M L) 154 L.length (v + 1)) 149 10 ((L.length + 1 : Nat) : Int) = skM M (L ++ [v]) := by
  unfold skM
  have e := putL_snoc (M := M) (j := 154) (b := 0) (L := L.map (· + 1)) (v := v + 1)
  rw [Nat.zero_add, List.length_map] at e
  rw [wr_comm (i := 149) (j := 10) (a := 154) (b := L.length) (by omega), e, wr_wr, List.map_append, List.length_append]
  rfl
theorem skM_o {L : List Int} {a b : Nat} (h : a ≠ 154) (h2 : a ≠ 149 ∨ b ≠ 10) : skM M L a b = M a b := by
  unfold skM
  rw [wr_app, if_neg (by omega), putL_o h]
theorem skM_n {L : List Int} : skM M L 149 10 = (L.length : Int) := by
  unfold skM
  rw [wr_app, if_pos ⟨rfl, rfl⟩]
theorem skM_at {L : List Int} {k : Nat} (h : k < L.length) : skM M L 154 k = L.getD k 0 + 1 := by
  unfold skM
  have := putL_at (M := M) (j := 154) (b := 0) (L := L.map (· + 1)) (k := k) (by rw [List.length_map]; exact h)
  rw [Nat.zero_add] at this
  rw [wr_app, if_neg (by omega), this]
  simp [List.getD_eq_getElem?_getD, h]
theorem k_in {d i : Nat} {y m : Int} (he : encB y m) (hi : i ≤ 10) {L : List Int} (hL : L.length + (pcnt y).toNat ≤ 16) : ∀ (j x : Nat), x + j = (pcnt y).toNat → evL 141 24 [Rf 149, I (d : Int), I (i : Int), I m, I (x : Int)] [] (Hp (skM M (L ++ stp y x)) P) = evL 141 2 [Rf 149, I (d : Int), I ((i + 1 : Nat) : Int), I m, I ((pcnt y).toNat : Int)] [] (Hp (skM M (L ++ stL y)) P) := by
  have hc := encB_c he
  have hp := pcnt_b hc.1 hc.2.1
  intro j
  induction j with
  | zero =>
    intro x hx
    have e : x = (pcnt y).toNat := by omega
    subst e
    have e2 : (((pcnt y).toNat : Nat) : Int) = pcnt y := by omega
    rw [s141_24]
    simp only [en141, s141_0, s141_1, s141_3, s141_4, s141_5, s141_6, s141_9, s141_12, s141_13, s141_14, s141_15, s141_16, s141_17, s141_20, s141_21, s141_22, s141_26, s141_27, s141_30, s141_33, s141_34, s141_37, s141_38, s141_41, s141_42, s141_44, s141_47, s141_48, s141_49, s141_50, s141_51, s141_52, s141_55, s141_56, s141_57, s141_60, s141_63, s141_66, s141_69, s141_72, cont_some, rl_some, rl_none, if_true, if_false, kd_149, rf_149_0, rf_149_1, rf_149_3, rf_149_5, rf_149_9, rf_149_16, rf_149_17, kd_150, kd_151, kd_152, kd_153, kd_154, kd_155, kd_156, ln_150, ln_151, ln_152, ln_153, ln_154, ln_155, ln_156, Int.reduceLE, Int.reduceLT, Int.reduceToNat, Nat.reduceLT, Int.toNat_natCast, Int.natCast_nonneg, true_or, Int.one_ne_zero, ite_self, m_tre he, e2, Int.le_refl, ad_n i (by omega)]
    rfl
  | succ j ih =>
    intro x hx
    have c1 : ¬ pcnt y ≤ (x : Int) := by omega
    have hv := pva_b y (x : Int)
    have e1 : ad (pva y (x : Int)) 1 = pva y (x : Int) + 1 := ad_eq (by omega) (by omega)
    have e2 : (L ++ stp y x).length = L.length + x := by rw [List.length_append, stp_len]
    have h16 : L.length + x < 16 := by omega
    have e3 := skM_n (M := M) (L := L ++ stp y x)
    have e4 : ∀ v : Int, wr (skM M (L ++ stp y x)) 154 (L.length + x) v 149 10 = ((L.length + x : Nat) : Int) := fun v => by rw [wr_app, if_neg (by omega), e3, e2]
    have e5 := skM_snoc (M := M) (L := L ++ stp y x) (v := pva y (x : Int))
    rw [e2, List.append_assoc, ← stp_succ] at e5
    rw [e2] at e3
    rw [s141_24]
    simp only [en141, s141_0, s141_1, s141_3, s141_4, s141_5, s141_6, s141_9, s141_12, s141_13, s141_14, s141_15, s141_16, s141_17, s141_20, s141_21, s141_22, s141_26, s141_27, s141_30, s141_33, s141_34, s141_37, s141_38, s141_41, s141_42, s141_44, s141_47, s141_48, s141_49, s141_50, s141_51, s141_52, s141_55, s141_56, s141_57, s141_60, s141_63, s141_66, s141_69, s141_72, cont_some, rl_some, rl_none, if_true, if_false, kd_149, rf_149_0, rf_149_1, rf_149_3, rf_149_5, rf_149_9, rf_149_16, rf_149_17, kd_150, kd_151, kd_152, kd_153, kd_154, kd_155, kd_156, ln_150, ln_151, ln_152, ln_153, ln_154, ln_155, ln_156, Int.reduceLE, Int.reduceLT, Int.reduceToNat, Nat.reduceLT, Int.toNat_natCast, Int.natCast_nonneg, true_or, Int.one_ne_zero, ite_self, m_tre he, c1, e3, h16, m_trv he (x := (x : Int)) (by omega), e1, e4, ad_n (L.length + x) (by omega), e5, ad_n x (by omega)]
    exact ih (x + 1) (by omega)
theorem k_out (hH : MH M n hl) (hK : MK c M n hl) (hn : n ≤ 4) {d : Nat} (hd : d < n) {L : List Int} (hL : L.length + (dvp c d (hl d)).length ≤ 16) : ∀ (m i : Nat) (l3 l4 : AV), i + m = hl d → evL 141 2 [Rf 149, I (d : Int), I (i : Int), l3, l4] [] (Hp (skM M (L ++ dvp c d i)) P) = some (none, Hp (skM M (L ++ dvp c d (hl d))) P) := by
  have hd4 : d < 4 := by omega
  obtain ⟨h6, h3⟩ := hH d hd
  have e3 (i : Nat) : skM M (L ++ dvp c d i) 150 (sl d 3) = (hl d : Int) := by rw [skM_o (by omega) (by omega)]; exact h3
  intro m
  induction m with
  | zero =>
    intro i l3 l4 hi
    have e : i = hl d := by omega
    subst e
    rw [s141_2]
    simp only [en141, s141_0, s141_1, s141_3, s141_4, s141_5, s141_6, s141_9, s141_12, s141_13, s141_14, s141_15, s141_16, s141_17, s141_20, s141_21, s141_22, s141_26, s141_27, s141_30, s141_33, s141_34, s141_37, s141_38, s141_41, s141_42, s141_44, s141_47, s141_48, s141_49, s141_50, s141_51, s141_52, s141_55, s141_56, s141_57, s141_60, s141_63, s141_66, s141_69, s141_72, cont_some, rl_some, rl_none, if_true, if_false, kd_149, rf_149_0, rf_149_1, rf_149_3, rf_149_5, rf_149_9, rf_149_16, rf_149_17, kd_150, kd_151, kd_152, kd_153, kd_154, kd_155, kd_156, ln_150, ln_151, ln_152, ln_153, ln_154, ln_155, ln_156, Int.reduceLE, Int.reduceLT, Int.reduceToNat, Nat.reduceLT, Int.toNat_natCast, Int.natCast_nonneg, true_or, Int.one_ne_zero, ite_self, m_of3 hd4, e3, Int.le_refl]
  | succ m ih =>
    intro i l3 l4 hi
    have c1 : ¬ (hl d : Int) ≤ (i : Int) := by omega
    have e1 : ad 4 (i : Int) = ((4 + i : Nat) : Int) := by rw [ad_eq (by omega) (by omega)]; omega
    have hk := hK d hd i (by omega)
    have e4 : skM M (L ++ dvp c d i) 150 (sl d (4 + i)) = M 150 (sl d (4 + i)) := skM_o (by omega) (by omega)
    have hm := dvp_mono (M := c) (d := d) (show i + 1 ≤ hl d by omega)
    rw [dvp_succ, List.length_append] at hm
    have hst : (stL (c 15 (6 * d + i))).length = (pcnt (c 15 (6 * d + i))).toNat := stp_len _ _
    have hin := k_in (M := M) (P := P) (d := d) (i := i) (Or.inr hk) (by omega) (L := L ++ dvp c d i) (by rw [List.length_append]; omega) (pcnt (c 15 (6 * d + i))).toNat 0 (by omega)
    have e0 : stp (c 15 (6 * d + i)) 0 = [] := rfl
    have e9 : ((0 : Nat) : Int) = 0 := rfl
    rw [e0, List.append_nil, e9] at hin
    rw [s141_2]
    simp only [en141, s141_0, s141_1, s141_3, s141_4, s141_5, s141_6, s141_9, s141_12, s141_13, s141_14, s141_15, s141_16, s141_17, s141_20, s141_21, s141_22, s141_26, s141_27, s141_30, s141_33, s141_34, s141_37, s141_38, s141_41, s141_42, s141_44, s141_47, s141_48, s141_49, s141_50, s141_51, s141_52, s141_55, s141_56, s141_57, s141_60, s141_63, s141_66, s141_69, s141_72, cont_some, rl_some, rl_none, if_true, if_false, kd_149, rf_149_0, rf_149_1, rf_149_3, rf_149_5, rf_149_9, rf_149_16, rf_149_17, kd_150, kd_151, kd_152, kd_153, kd_154, kd_155, kd_156, ln_150, ln_151, ln_152, ln_153, ln_154, ln_155, ln_156, Int.reduceLE, Int.reduceLT, Int.reduceToNat, Nat.reduceLT, Int.toNat_natCast, Int.natCast_nonneg, true_or, Int.one_ne_zero, ite_self, m_of3 hd4, e3, c1, e1, m_of (w := 4 + i) hd4 (by omega), e4]
    rw [hin, List.append_assoc, ← dvp_succ]
    exact ih (i + 1) _ _ (by omega)
theorem m_sinks (hH : MH M n hl) (hK : MK c M n hl) (hn : n ≤ 4) {d : Nat} (hd : d < n) {L : List Int} (hL : L.length + (dvp c d (hl d)).length ≤ 16) : evM 141 [Rf 149, I (d : Int)] (Hp (skM M L) P) = some (none, Hp (skM M (L ++ dvp c d (hl d))) P) := by
  have h := fun l3 l4 => k_out (P := P) hH hK hn hd hL (hl d) 0 l3 l4 (by omega)
  have e0 : dvp c d 0 = [] := rfl
  rw [e0, List.append_nil] at h
  simp only [en141, s141_0, s141_1, s141_3, s141_4, s141_5, s141_6, s141_9, s141_12, s141_13, s141_14, s141_15, s141_16, s141_17, s141_20, s141_21, s141_22, s141_26, s141_27, s141_30, s141_33, s141_34, s141_37, s141_38, s141_41, s141_42, s141_44, s141_47, s141_48, s141_49, s141_50, s141_51, s141_52, s141_55, s141_56, s141_57, s141_60, s141_63, s141_66, s141_69, s141_72]
  exact h _ _
/-! closing up -/
def clM (M : Mem) (k : Nat) (L : List Int) : Mem := fun a b => if a = 150 ∧ 9 ≤ b ∧ b < 9 + L.length then L.getD (b - 9) 0 else if a = 150 ∧ 9 + L.length ≤ b ∧ b < 9 + k then 0 else M a b
def mNb (M : Mem) (k : Nat) : List Int := ((List.range k).map fun s : Nat => M 150 (9 + s)).filter fun m => decide (0 < m)
theorem mNb_succ (k : Nat) : mNb M (k + 1) = mNb M k ++ (if 0 < M 150 (9 + k) then [M 150 (9 + k)] else []) := by
  unfold mNb
  rw [List.range_succ, List.map_append, List.filter_append]
  by_cases h : 0 < M 150 (9 + k) <;> simp [h]
theorem mNb_len (k : Nat) : (mNb M k).length ≤ k := by
  induction k with
  | zero => exact Nat.le_refl _
  | succ k ih => rw [mNb_succ, List.length_append]; split <;> simp <;> omega
theorem cl_loop (hS : MS M sp) : ∀ (m k : Nat), k + m = sp → evL 140 4 [Rf 149, I ((mNb M k).length : Int), I (k : Int)] [] (Hp (putL M 150 9 (mNb M k)) P) = evL 140 54 [Rf 149, I ((mNb M sp).length : Int), I (sp : Int)] [] (Hp (putL M 150 9 (mNb M sp)) P) := by
  obtain ⟨h1, h2⟩ := hS
  have e8 (k : Nat) : putL M 150 9 (mNb M k) 150 8 = (sp : Int) := by rw [putL_lt (by omega)]; exact h1
  intro m
  induction m with
  | zero =>
    intro k hk
    have e : k = sp := by omega
    subst e
    rw [s140_4]
    simp only [en140, s140_0, s140_1, s140_2, s140_3, s140_5, s140_6, s140_9, s140_11, s140_12, s140_15, s140_16, s140_19, s140_21, s140_22, s140_23, s140_24, s140_27, s140_28, s140_31, s140_33, s140_34, s140_35, s140_36, s140_39, s140_41, s140_42, s140_43, s140_44, s140_45, s140_48, s140_51, s140_55, s140_56, s140_57, s140_59, s140_62, s140_63, s140_66, s140_68, s140_69, s140_70, s140_71, s140_72, s140_75, s140_78, s140_79, s140_82, s140_84, s140_85, s140_86, cont_some, rl_some, rl_none, if_true, if_false, kd_149, rf_149_0, rf_149_1, rf_149_3, rf_149_5, rf_149_9, rf_149_16, rf_149_17, kd_150, kd_151, kd_152, kd_153, kd_154, kd_155, kd_156, ln_150, ln_151, ln_152, ln_153, ln_154, ln_155, ln_156, Int.reduceLE, Int.reduceLT, Int.reduceToNat, Nat.reduceLT, Int.toNat_natCast, Int.natCast_nonneg, true_or, Int.one_ne_zero, ite_self, e8, Int.le_refl]
  | succ m ih =>
    intro k hk
    have c1 : ¬ (sp : Int) ≤ (k : Int) := by omega
    have hlen := mNb_len (M := M) k
    have e1 : ad 9 (k : Int) = ((9 + k : Nat) : Int) := by rw [ad_eq (by omega) (by omega)]; omega
    have e2 : ad 9 ((mNb M k).length : Int) = ((9 + (mNb M k).length : Nat) : Int) := by rw [ad_eq (by omega) (by omega)]; omega
    have e3 : putL M 150 9 (mNb M k) 150 (9 + k) = M 150 (9 + k) := putL_ge (by omega)
    have b1 : 9 + k < 77 := by omega
    have b2 : 9 + (mNb M k).length < 77 := by omega
    have ih' := ih (k + 1) (by omega)
    rw [s140_4]
    by_cases c2 : 0 < M 150 (9 + k)
    · have c3 : ¬ M 150 (9 + k) ≤ 0 := by omega
      have e4 : mNb M (k + 1) = mNb M k ++ [M 150 (9 + k)] := by rw [mNb_succ, if_pos c2]
      have e5 := putL_snoc (M := M) (j := 150) (b := 9) (L := mNb M k) (v := M 150 (9 + k))
      rw [e4, List.length_append, List.length_singleton] at ih'
      simp only [en140, s140_0, s140_1, s140_2, s140_3, s140_5, s140_6, s140_9, s140_11, s140_12, s140_15, s140_16, s140_19, s140_21, s140_22, s140_23, s140_24, s140_27, s140_28, s140_31, s140_33, s140_34, s140_35, s140_36, s140_39, s140_41, s140_42, s140_43, s140_44, s140_45, s140_48, s140_51, s140_55, s140_56, s140_57, s140_59, s140_62, s140_63, s140_66, s140_68, s140_69, s140_70, s140_71, s140_72, s140_75, s140_78, s140_79, s140_82, s140_84, s140_85, s140_86, cont_some, rl_some, rl_none, if_true, if_false, kd_149, rf_149_0, rf_149_1, rf_149_3, rf_149_5, rf_149_9, rf_149_16, rf_149_17, kd_150, kd_151, kd_152, kd_153, kd_154, kd_155, kd_156, ln_150, ln_151, ln_152, ln_153, ln_154, ln_155, ln_156, Int.reduceLE, Int.reduceLT, Int.reduceToNat, Nat.reduceLT, Int.toNat_natCast, Int.natCast_nonneg, true_or, Int.one_ne_zero, ite_self, e8, c1, e1, b1, e3, c3, e2, b2, e5, ad_n k (by omega), ad_n (mNb M k).length (by omega)]
      exact ih'
    · have c3 : M 150 (9 + k) ≤ 0 := by omega
      have e4 : mNb M (k + 1) = mNb M k := by rw [mNb_succ, if_neg c2, List.append_nil]
      rw [e4] at ih'
      simp only [en140, s140_0, s140_1, s140_2, s140_3, s140_5, s140_6, s140_9, s140_11, s140_12, s140_15, s140_16, s140_19, s140_21, s140_22, s140_23, s140_24, s140_27, s140_28, s140_31, s140_33, s140_34, s140_35, s140_36, s140_39, s140_41, s140_42, s140_43, s140_44, s140_45, s140_48, s140_51, s140_55, s140_56, s140_57, s140_59, s140_62, s140_63, s140_66, s140_68, s140_69, s140_70, s140_71, s140_72, s140_75, s140_78, s140_79, s140_82, s140_84, s140_85, s140_86, cont_some, rl_some, rl_none, if_true, if_false, kd_149, rf_149_0, rf_149_1, rf_149_3, rf_149_5, rf_149_9, rf_149_16, rf_149_17, kd_150, kd_151, kd_152, kd_153, kd_154, kd_155, kd_156, ln_150, ln_151, ln_152, ln_153, ln_154, ln_155, ln_156, Int.reduceLE, Int.reduceLT, Int.reduceToNat, Nat.reduceLT, Int.toNat_natCast, Int.natCast_nonneg, true_or, Int.one_ne_zero, ite_self, e8, c1, e1, b1, e3, c3, ad_n k (by omega)]
      exact ih'
/-- zeros from b to k -/
def zr (M : Mem) (b k : Nat) : Mem := fun a j => if a = 150 ∧ 9 + b ≤ j ∧ j < 9 + k then 0 else M a j
theorem zr_0 {b : Nat} : zr M b b = M := by
  funext a j
  unfold zr
  rw [if_neg (by omega)]
theorem zr_wr {b k : Nat} (h : b ≤ k) : wr (zr M b k) 150 (9 + k) 0 = zr M b (k + 1) := by
  funext a j
  unfold wr zr
  by_cases h1 : a = 150 ∧ j = 9 + k
  · rw [if_pos h1, if_pos (by omega)]
  · rw [if_neg h1]
    by_cases h2 : a = 150 ∧ 9 + b ≤ j ∧ j < 9 + k
    · rw [if_pos h2, if_pos (by omega)]
    · rw [if_neg h2, if_neg (by omega)]
theorem cl_zero {b : Nat} : ∀ (m k : Nat), k + m = 16 → b ≤ k → evL 140 56 [Rf 149, I (b : Int), I (k : Int)] [] (Hp (zr M b k) P) = some (none, Hp (wr (zr M b 16) 150 8 (b : Int)) P) := by
  intro m
  induction m with
  | zero =>
    intro k hk _
    have e : k = 16 := by omega
    subst e
    have c1 : (16 : Int) ≤ ((16 : Nat) : Int) := by omega
    rw [s140_56]
    simp only [en140, s140_0, s140_1, s140_2, s140_3, s140_4, s140_5, s140_6, s140_9, s140_11, s140_12, s140_15, s140_16, s140_19, s140_21, s140_22, s140_23, s140_24, s140_27, s140_28, s140_31, s140_33, s140_34, s140_35, s140_36, s140_39, s140_41, s140_42, s140_43, s140_44, s140_45, s140_48, s140_51, s140_54, s140_55, s140_57, s140_59, s140_62, s140_63, s140_66, s140_68, s140_69, s140_70, s140_71, s140_72, s140_75, s140_78, s140_79, s140_82, s140_84, s140_85, s140_86, cont_some, rl_some, rl_none, if_true, if_false, kd_149, rf_149_0, rf_149_1, rf_149_3, rf_149_5, rf_149_9, rf_149_16, rf_149_17, kd_150, kd_151, kd_152, kd_153, kd_154, kd_155, kd_156, ln_150, ln_151, ln_152, ln_153, ln_154, ln_155, ln_156, Int.reduceLE, Int.reduceLT, Int.reduceToNat, Nat.reduceLT, Int.toNat_natCast, Int.natCast_nonneg, true_or, Int.one_ne_zero, ite_self, c1]
  | succ m ih =>
    intro k hk hb
    have c1 : ¬ (16 : Int) ≤ (k : Int) := by omega
    have e1 : ad 9 (k : Int) = ((9 + k : Nat) : Int) := by rw [ad_eq (by omega) (by omega)]; omega
    have b1 : 9 + k < 77 := by omega
    rw [s140_56]
    simp only [en140, s140_0, s140_1, s140_2, s140_3, s140_4, s140_5, s140_6, s140_9, s140_11, s140_12, s140_15, s140_16, s140_19, s140_21, s140_22, s140_23, s140_24, s140_27, s140_28, s140_31, s140_33, s140_34, s140_35, s140_36, s140_39, s140_41, s140_42, s140_43, s140_44, s140_45, s140_48, s140_51, s140_54, s140_55, s140_57, s140_59, s140_62, s140_63, s140_66, s140_68, s140_69, s140_70, s140_71, s140_72, s140_75, s140_78, s140_79, s140_82, s140_84, s140_85, s140_86, cont_some, rl_some, rl_none, if_true, if_false, kd_149, rf_149_0, rf_149_1, rf_149_3, rf_149_5, rf_149_9, rf_149_16, rf_149_17, kd_150, kd_151, kd_152, kd_153, kd_154, kd_155, kd_156, ln_150, ln_151, ln_152, ln_153, ln_154, ln_155, ln_156, Int.reduceLE, Int.reduceLT, Int.reduceToNat, Nat.reduceLT, Int.toNat_natCast, Int.natCast_nonneg, true_or, Int.one_ne_zero, ite_self, c1, e1, b1, zr_wr hb, ad_n k (by omega)]
    exact ih (k + 1) (by omega) (by omega)
def clR (M : Mem) (sp : Nat) : Mem := wr (zr (putL M 150 9 (mNb M sp)) (mNb M sp).length 16) 150 8 ((mNb M sp).length : Int)
theorem m_closes (hS : MS M sp) : evM 140 [Rf 149] (Hp M P) = some (none, Hp (clR M sp) P) := by
  have h1 := cl_loop (P := P) hS sp 0 (by omega)
  have e0 : mNb M 0 = [] := rfl
  have e9 : ((0 : Nat) : Int) = 0 := rfl
  rw [e0, List.length_nil, e9, putL_nil] at h1
  have hlen := mNb_len (M := M) sp
  have h16 := hS.2
  have h2 := cl_zero (M := putL M 150 9 (mNb M sp)) (P := P) (b := (mNb M sp).length) (16 - (mNb M sp).length) (mNb M sp).length (by omega) (by omega)
  rw [zr_0] at h2
  simp only [en140, s140_0, s140_1, s140_2, s140_3, s140_5, s140_6, s140_9, s140_11, s140_12, s140_15, s140_16, s140_19, s140_21, s140_22, s140_23, s140_24, s140_27, s140_28, s140_31, s140_33, s140_34, s140_35, s140_36, s140_39, s140_41, s140_42, s140_43, s140_44, s140_45, s140_48, s140_51, s140_54, s140_55, s140_57, s140_59, s140_62, s140_63, s140_66, s140_68, s140_69, s140_70, s140_71, s140_72, s140_75, s140_78, s140_79, s140_82, s140_84, s140_85, s140_86]
  rw [h1]
  simp only [en140, s140_0, s140_1, s140_2, s140_3, s140_5, s140_6, s140_9, s140_11, s140_12, s140_15, s140_16, s140_19, s140_21, s140_22, s140_23, s140_24, s140_27, s140_28, s140_31, s140_33, s140_34, s140_35, s140_36, s140_39, s140_41, s140_42, s140_43, s140_44, s140_45, s140_48, s140_51, s140_54, s140_55, s140_57, s140_59, s140_62, s140_63, s140_66, s140_68, s140_69, s140_70, s140_71, s140_72, s140_75, s140_78, s140_79, s140_82, s140_84, s140_85, s140_86]
  exact h2
end Ref3
