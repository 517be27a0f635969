section Ref4
variable {M : Mem} {P : PMem} {c : Mem} {n sp t : Nat} {hl : Nat → Nat}
/-! the end of a round, diver by diver -/
def MO (c M : Mem) (n : Nat) : Prop := ∀ d, d < n → M 150 (sl d 2) = c 11 d
def nvF (M c : Mem) (hl : Nat → Nat) (d w : Nat) : Int :=
  if M 150 (sl d 2) = 1 then (if w = 10 then ad (M 150 (sl d 10)) (va1 c hl d) else if w = 11 then ad (M 150 (sl d 11)) (tr1 c hl d) else M 150 (sl d w))
  else (if w = 12 then ad (M 150 (sl d 12)) 1 else M 150 (sl d w))
def erX (M c : Mem) (hl : Nat → Nat) (x : Nat) : Mem := fun a b => if a = 150 ∧ 25 ≤ b ∧ lk x ((b - 25) / 13) = true then nvF M c hl ((b - 25) / 13) ((b - 25) % 13) else M a b
theorem sl_div {d w : Nat} (hw : w < 13) : (sl d w - 25) / 13 = d ∧ (sl d w - 25) % 13 = w ∧ 25 ≤ sl d w := by unfold sl; omega
theorem sl_inj {d w e v : Nat} (hw : w < 13) (hv : v < 13) (h : sl d w = sl e v) : d = e ∧ w = v := by unfold sl at h; omega
theorem erX_at {x d w : Nat} (hw : w < 13) : erX M c hl x 150 (sl d w) = if lk x d = true then nvF M c hl d w else M 150 (sl d w) := by
  obtain ⟨h1, h2, h3⟩ := sl_div (d := d) hw
  unfold erX
  rw [h1, h2]
  by_cases h : lk x d = true
  · rw [if_pos ⟨rfl, h3, h⟩, if_pos h]
  · rw [if_neg (fun q => h q.2.2), if_neg h]
theorem erX_lo {x d w : Nat} (hw : w < 10) : erX M c hl x 150 (sl d w) = M 150 (sl d w) := by
  rw [erX_at (by omega)]
  unfold nvF
  rw [if_neg (show ¬ w = 10 by omega), if_neg (show ¬ w = 11 by omega), if_neg (show ¬ w = 12 by omega)]
  simp only [ite_self]
theorem erX_o {x a b : Nat} (h : a ≠ 150 ∨ b < 25) : erX M c hl x a b = M a b := by
  unfold erX
  rw [if_neg (by omega)]
theorem erX_0 : erX M c hl 0 = M := by
  funext a b
  unfold erX lk
  rw [if_neg]
  rintro ⟨_, _, h⟩
  rw [Nat.zero_div] at h
  simp at h
theorem mem_ext {A B : Mem} (h1 : ∀ a b, a ≠ 150 ∨ b < 25 → A a b = B a b) (h2 : ∀ d w, w < 13 → A 150 (sl d w) = B 150 (sl d w)) : A = B := by
  funext a b
  by_cases h : a ≠ 150 ∨ b < 25
  · exact h1 a b h
  · have ha : a = 150 := by omega
    subst ha
    have := h2 ((b - 25) / 13) ((b - 25) % 13) (by omega)
    have e : sl ((b - 25) / 13) ((b - 25) % 13) = b := by unfold sl; omega
    rw [e] at this
    exact this
theorem erX_home {x d : Nat} (hx : x < 16) (hd : d < 4) (hl0 : lk x d = false) (hh : M 150 (sl d 2) = 1) : wr (wr (erX M c hl x) 150 (sl d 10) (ad (M 150 (sl d 10)) (va1 c hl d))) 150 (sl d 11) (ad (M 150 (sl d 11)) (tr1 c hl d)) = erX M c hl (x + 2 ^ d) := by
  obtain ⟨_, hk⟩ := lk_add hx hd hl0
  apply mem_ext
  · intro a b h
    have h1 := (sl_div (d := d) (w := 10) (by omega)).2.2
    have h2 := (sl_div (d := d) (w := 11) (by omega)).2.2
    rw [wr_app, if_neg (by omega), wr_app, if_neg (by omega), erX_o h, erX_o h]
  · intro e w hw
    rw [wr_app, wr_app, erX_at hw, erX_at hw, hk e]
    by_cases he : e = d
    · subst he
      rw [hl0]
      unfold nvF
      rw [if_pos hh]
      by_cases h10 : w = 10
      · subst h10
        rw [if_neg (by unfold sl; omega)]
        simp
      · by_cases h11 : w = 11
        · subst h11
          simp
        · rw [if_neg (by unfold sl; omega), if_neg (by unfold sl; omega)]
          simp [h10, h11]
    · rw [if_neg (fun h => he (sl_inj hw (by omega) h.2).1), if_neg (fun h => he (sl_inj hw (by omega) h.2).1)]
      simp [he]
theorem erX_out {x d : Nat} (hx : x < 16) (hd : d < 4) (hl0 : lk x d = false) (hh : ¬ M 150 (sl d 2) = 1) : wr (erX M c hl x) 150 (sl d 12) (ad (M 150 (sl d 12)) 1) = erX M c hl (x + 2 ^ d) := by
  obtain ⟨_, hk⟩ := lk_add hx hd hl0
  apply mem_ext
  · intro a b h
    have h1 := (sl_div (d := d) (w := 12) (by omega)).2.2
    rw [wr_app, if_neg (by omega), erX_o h, erX_o h]
  · intro e w hw
    rw [wr_app, erX_at hw, erX_at hw, hk e]
    by_cases he : e = d
    · subst he
      rw [hl0]
      unfold nvF
      rw [if_neg hh]
      by_cases h12 : w = 12
      · subst h12
        simp
      · rw [if_neg (by unfold sl; omega)]
        simp [h12]
    · rw [if_neg (fun h => he (sl_inj hw (by omega) h.2).1)]
      simp [he]
theorem skM_wr {L : List Int} {b : Nat} {v : Int} : wr (skM M L) 150 b v = skM (wr M 150 b v) L := by
  unfold skM
  rw [wr_comm (by omega), putL_wr (by omega)]
/-! what is still to sink -/
def rpl (c : Mem) (hl : Nat → Nat) (L : Nat → Bool) (p k : Nat) : List Int := (List.range k).flatMap fun d => if c 7 d = (p : Int) ∧ ¬ c 11 d = 1 ∧ L d = false then dvp c d (hl d) else []
def rsF (c : Mem) (hl : Nat → Nat) (n : Nat) (L : Nat → Bool) : Nat → List Int
  | 0 => rpl c hl L 0 n
  | p + 1 => rpl c hl L (p + 1) n ++ rsF c hl n L p
theorem rpl_succ {L : Nat → Bool} {p k : Nat} : rpl c hl L p (k + 1) = rpl c hl L p k ++ (if c 7 k = (p : Int) ∧ ¬ c 11 k = 1 ∧ L k = false then dvp c k (hl k) else []) := by simp [rpl, List.range_succ]
theorem rpl_none {L : Nat → Bool} {p : Nat} : ∀ k, (∀ e, e < k → c 7 e = (p : Int) → L e = true) → rpl c hl L p k = [] := by
  intro k
  induction k with
  | zero => intro _; rfl
  | succ k ih =>
    intro h
    rw [rpl_succ, ih (fun e he => h e (by omega)), if_neg]
    · rfl
    · rintro ⟨h1, _, h2⟩
      rw [h k (by omega) h1] at h2
      cases h2
theorem rpl_same {L L' : Nat → Bool} {p : Nat} : ∀ k, (∀ e, e < k → c 7 e = (p : Int) → L e = L' e) → rpl c hl L p k = rpl c hl L' p k := by
  intro k
  induction k with
  | zero => intro _; rfl
  | succ k ih =>
    intro h
    rw [rpl_succ, rpl_succ, ih (fun e he => h e (by omega))]
    by_cases h1 : c 7 k = (p : Int)
    · rw [h k (by omega) h1]
    · rw [if_neg (fun q => h1 q.1), if_neg (fun q => h1 q.1)]
def dvH (c : Mem) (hl : Nat → Nat) (d : Nat) : List Int := if c 11 d = 1 then [] else dvp c d (hl d)
theorem rpl_hit {L L' : Nat → Bool} {q d : Nat} (hL' : ∀ e, L' e = (L e || decide (e = d))) (h0 : L d = false) (hq : c 7 d = (q : Int)) (hs : ∀ e, e < d → L e = false → c 7 e ≠ (q : Int)) : ∀ m, rpl c hl L q (d + 1 + m) = dvH c hl d ++ rpl c hl L' q (d + 1 + m) := by
  have hz : rpl c hl L q d = [] := rpl_none d (fun e he h1 => by
    cases h2 : L e with
    | true => rfl
    | false => exact absurd h1 (hs e he h2))
  have hz' : rpl c hl L' q d = [] := rpl_none d (fun e he h1 => by
    rw [hL']
    cases h2 : L e with
    | true => rfl
    | false => exact absurd h1 (hs e he h2))
  intro m
  induction m with
  | zero =>
    rw [Nat.add_zero, rpl_succ, rpl_succ, hz, hz', hL' d]
    unfold dvH
    by_cases h : c 11 d = 1
    · simp [h]
    · simp [h, h0, hq]
  | succ m ih =>
    rw [← Nat.add_assoc, rpl_succ, rpl_succ, ih, hL' (d + 1 + m), List.append_assoc]
    have : ¬ d + 1 + m = d := by omega
    simp [this]
theorem rsF_same {L L' : Nat → Bool} : ∀ p : Nat, (∀ e, e < n → (∃ j : Nat, j ≤ p ∧ c 7 e = (j : Int)) → L e = L' e) → rsF c hl n L p = rsF c hl n L' p := by
  intro p
  induction p with
  | zero => intro h; exact rpl_same n (fun e he h1 => h e he ⟨0, by omega, h1⟩)
  | succ p ih =>
    intro h
    rw [rsF, rsF, rpl_same n (fun e he h1 => h e he ⟨p + 1, by omega, h1⟩), ih (fun e he ⟨j, h1, h2⟩ => h e he ⟨j, by omega, h2⟩)]
theorem rsF_hit {L L' : Nat → Bool} {q d : Nat} (hd : d < n) (hL' : ∀ e, L' e = (L e || decide (e = d))) (h0 : L d = false) (hq : c 7 d = (q : Int)) (hs : ∀ e, e < n → L e = false → c 7 e ≤ c 7 d ∧ (c 7 e = c 7 d → d ≤ e)) : ∀ p, q ≤ p → rsF c hl n L p = dvH c hl d ++ rsF c hl n L' p := by
  have hn : n = d + 1 + (n - d - 1) := by omega
  have hit : rpl c hl L q n = dvH c hl d ++ rpl c hl L' q n := by
    rw [hn]
    exact rpl_hit hL' h0 hq (fun e he h1 h2 => by
      have := (hs e (by omega) h1).2 (by rw [h2, hq])
      omega) _
  have low : ∀ p, p < q → rsF c hl n L p = rsF c hl n L' p := by
    intro p hp
    apply rsF_same p
    rintro e he ⟨j, h1, h2⟩
    rw [hL']
    have : ¬ e = d := by
      rintro rfl
      rw [hq] at h2
      omega
    simp [this]
  intro p
  induction p with
  | zero =>
    intro hp
    have e : q = 0 := by omega
    subst e
    exact hit
  | succ p ih =>
    intro hp
    rw [rsF, rsF]
    by_cases c1 : q = p + 1
    · subst c1
      rw [hit, low p (by omega), List.append_assoc]
    · have h1 : rpl c hl L (p + 1) n = [] := rpl_none n (fun e he h2 => by
        cases h3 : L e with
        | true => rfl
        | false => have := (hs e he h3).1; rw [h2, hq] at this; omega)
      have h1' : rpl c hl L' (p + 1) n = [] := rpl_none n (fun e he h2 => by
        rw [hL']
        cases h3 : L e with
        | true => rfl
        | false => have := (hs e he h3).1; rw [h2, hq] at this; omega)
      rw [h1, h1', ih (by omega)]
      rfl
theorem rsF_all {L : Nat → Bool} (h : ∀ e, e < n → L e = true) : ∀ p, rsF c hl n L p = [] := by
  intro p
  induction p with
  | zero => exact rpl_none n (fun e he _ => h e he)
  | succ p ih => rw [rsF, ih, rpl_none n (fun e he _ => h e he)]; rfl
theorem rsF_none : ∀ p, rsF c hl n (lk 0) p = skF c hl n p := by
  have hz : ∀ e, lk 0 e = false := by intro e; unfold lk; rw [Nat.zero_div]; simp
  have hp : ∀ p, rpl c hl (lk 0) p n = plp c hl p n := by
    intro p
    unfold rpl plp
    simp only [hz, and_true]
  intro p
  induction p with
  | zero => exact hp 0
  | succ p ih => rw [rsF, skF, hp, ih]
/-! how many are looked at -/
def cnL (x : Nat) : Nat → Nat
  | 0 => 0
  | k + 1 => cnL x k + if lk x k = true then 1 else 0
theorem cnL_add : ∀ x, x < 16 → ∀ n, n ≤ 4 → ∀ d, d < n → lk x d = false → cnL (x + 2 ^ d) n = cnL x n + 1 := by decide
theorem cnL_all : ∀ x, x < 16 → ∀ n, n ≤ 4 → cnL x n = n → ∀ e, e < n → lk x e = true := by decide
theorem cnL_some : ∀ x, x < 16 → ∀ n, n ≤ 4 → cnL x n < n → ∃ e, e < n ∧ lk x e = false := by decide
theorem cnL_0 : ∀ n, n ≤ 4 → cnL 0 n = 0 := by decide
theorem er_loop (h : MN M n) (hL : ML c M n) (hH : MH M n hl) (hK : MK c M n hl) (hO : MO c M n) (hp : ∀ d, d < n → ∃ q : Nat, q ≤ sp ∧ c 7 d = (q : Int)) {fi : Int} : ∀ (m k x : Nat) (A : List Int) (l4 : AV), k + m = n → x < 16 → cnL x n = k → A.length + (rsF c hl n (lk x) sp).length ≤ 16 → ∃ (x' : Nat) (l4' : AV), x' < 16 ∧ (∀ e, e < n → lk x' e = true) ∧ evL 142 15 [Rf 149, I fi, I (x : Int), I (k : Int), l4] [] (Hp (skM (erX M c hl x) A) P) = evL 142 89 [Rf 149, I fi, I (x' : Int), I (n : Int), l4'] [] (Hp (skM (erX M c hl x') (A ++ rsF c hl n (lk x) sp)) P) := by
  have hn := h.2
  have hN (x : Nat) (A : List Int) : MN (skM (erX M c hl x) A) n := ⟨by rw [skM_o (by omega) (by omega), erX_o (by omega)]; exact h.1, hn⟩
  have hLo (x : Nat) (A : List Int) (d w : Nat) (hw : w < 10) : skM (erX M c hl x) A 150 (sl d w) = M 150 (sl d w) := by rw [skM_o (by omega) (by omega), erX_lo hw]
  have hL' (x : Nat) (A : List Int) : ML c (skM (erX M c hl x) A) n := fun d hd => by rw [hLo _ _ _ _ (by omega)]; exact hL d hd
  have hH' (x : Nat) (A : List Int) : MH (skM (erX M c hl x) A) n hl := fun d hd => by rw [hLo _ _ _ _ (by omega)]; exact hH d hd
  have hK' (x : Nat) (A : List Int) : MK c (skM (erX M c hl x) A) n hl := fun d hd i hi => by rw [hLo _ _ _ _ (by have := (hH d hd).1; omega)]; exact hK d hd i hi
  have hH2 (x : Nat) : MH (erX M c hl x) n hl := fun d hd => by rw [erX_lo (by omega)]; exact hH d hd
  have hK2 (x : Nat) : MK c (erX M c hl x) n hl := fun d hd i hi => by rw [erX_lo (by have := (hH d hd).1; omega)]; exact hK d hd i hi
  intro m
  induction m with
  | zero =>
    intro k x A l4 hk hx hc hlen
    have e : k = n := by omega
    subst e
    have ha := cnL_all x hx k hn hc
    refine ⟨x, l4, hx, ha, ?_⟩
    have e0 := (hN x A).1
    rw [rsF_all ha, List.append_nil, s142_15]
    simp only [en142, s142_0, s142_1, s142_2, s142_5, s142_6, s142_7, s142_8, s142_11, s142_12, s142_13, s142_14, s142_16, s142_17, s142_20, s142_21, s142_22, s142_25, s142_26, s142_27, s142_30, s142_32, s142_33, s142_34, s142_36, s142_37, s142_38, s142_39, s142_40, s142_42, s142_43, s142_46, s142_47, s142_50, s142_51, s142_53, s142_56, s142_59, s142_60, s142_62, s142_65, s142_66, s142_68, s142_70, s142_71, s142_73, s142_75, s142_78, s142_79, s142_80, s142_83, s142_86, s142_90, s142_93, s142_94, s142_95, s142_96, s142_97, s142_100, s142_103, s142_104, s142_107, s142_109, s142_110, s142_111, s142_112, s142_113, s142_114, s142_117, s142_118, s142_121, s142_122, s142_123, s142_124, s142_125, s142_128, s142_130, s142_131, s142_134, s142_136, s142_137, s142_138, s142_139, s142_140, s142_141, s142_142, s142_143, s142_146, s142_147, s142_148, s142_149, s142_150, s142_151, s142_152, s142_153, s142_154, s142_155, s142_156, s142_159, s142_162, s142_163, s142_166, s142_167, s142_168, s142_169, s142_170, s142_171, s142_172, s142_173, s142_176, s142_177, s142_180, s142_181, s142_182, s142_185, s142_186, s142_187, s142_188, s142_191, s142_192, s142_195, s142_196, s142_197, s142_198, s142_201, s142_202, s142_203, s142_206, s142_207, s142_208, s142_209, s142_212, s142_213, s142_216, s142_217, s142_218, cont_some, rl_some, rl_none, if_true, if_false, kd_149, rf_149_0, rf_149_1, rf_149_3, rf_149_5, rf_149_9, rf_149_16, rf_149_17, kd_150, kd_151, kd_152, kd_153, kd_154, kd_155, kd_156, ln_150, ln_151, ln_152, ln_153, ln_154, ln_155, ln_156, Int.reduceLE, Int.reduceLT, Int.reduceToNat, Nat.reduceLT, Int.toNat_natCast, Int.natCast_nonneg, true_or, Int.one_ne_zero, ite_self, e0, Int.le_refl]
  | succ m ih =>
    intro k x A l4 hk hx hc hlen
    obtain ⟨e, he, hle⟩ := cnL_some x hx n hn (by omega)
    cases hq : dpO (c 7) (lk x) n with
    | none => have := dpO_none hq e he; rw [hle] at this; cases this
    | some d =>
      obtain ⟨hd, hld, hsp⟩ := dpO_spec hq
      obtain ⟨q, hqs, hq7⟩ := hp d hd
      have hd4 : d < 4 := by omega
      obtain ⟨hx', hka⟩ := lk_add hx hd4 hld
      have hr := rsF_hit (hl := hl) hd (L := lk x) (L' := lk (x + 2 ^ d)) hka hld hq7 hsp sp hqs
      have hcn := cnL_add x hx n hn d hd hld
      have e0 := (hN x A).1
      have e3 : fo (some d) = (d : Int) := rfl
      have c1 : ¬ (n : Int) ≤ (k : Int) := by omega
      have e2 : skM (erX M c hl x) A 150 (sl d 2) = M 150 (sl d 2) := hLo _ _ _ _ (by omega)
      rw [hr, List.length_append] at hlen
      rw [hr, ← List.append_assoc]
      rw [s142_15]
      by_cases c2 : M 150 (sl d 2) = 1
      · have hdv : dvH c hl d = [] := by unfold dvH; rw [if_pos (by rw [← hO d hd]; exact c2)]
        rw [hdv, List.append_nil]
        rw [hdv] at hlen
        obtain ⟨x', l4', x1, x2, x3⟩ := ih (k + 1) (x + 2 ^ d) A (I (d : Int)) (by omega) hx' (by omega) (by simp at hlen; omega)
        refine ⟨x', l4', x1, x2, ?_⟩
        have f10 : skM (erX M c hl x) A 150 (sl d 10) = M 150 (sl d 10) := by rw [skM_o (by omega) (by omega), erX_at (by omega), hld]; rfl
        have f11 : skM (erX M c hl x) A 150 (sl d 11) = M 150 (sl d 11) := by rw [skM_o (by omega) (by omega), erX_at (by omega), hld]; rfl
        have fm : wr (wr (skM (erX M c hl x) A) 150 (sl d 10) (ad (M 150 (sl d 10)) (va1 c hl d))) 150 (sl d 11) (ad (M 150 (sl d 11)) (tr1 c hl d)) = skM (erX M c hl (x + 2 ^ d)) A := by
          rw [skM_wr, skM_wr, erX_home hx hd4 hld c2]
        simp only [en142, s142_0, s142_1, s142_2, s142_5, s142_6, s142_7, s142_8, s142_11, s142_12, s142_13, s142_14, s142_16, s142_17, s142_20, s142_21, s142_22, s142_25, s142_26, s142_27, s142_30, s142_32, s142_33, s142_34, s142_36, s142_37, s142_38, s142_39, s142_40, s142_42, s142_43, s142_46, s142_47, s142_50, s142_51, s142_53, s142_56, s142_59, s142_60, s142_62, s142_65, s142_66, s142_68, s142_70, s142_71, s142_73, s142_75, s142_78, s142_79, s142_80, s142_83, s142_86, s142_90, s142_93, s142_94, s142_95, s142_96, s142_97, s142_100, s142_103, s142_104, s142_107, s142_109, s142_110, s142_111, s142_112, s142_113, s142_114, s142_117, s142_118, s142_121, s142_122, s142_123, s142_124, s142_125, s142_128, s142_130, s142_131, s142_134, s142_136, s142_137, s142_138, s142_139, s142_140, s142_141, s142_142, s142_143, s142_146, s142_147, s142_148, s142_149, s142_150, s142_151, s142_152, s142_153, s142_154, s142_155, s142_156, s142_159, s142_162, s142_163, s142_166, s142_167, s142_168, s142_169, s142_170, s142_171, s142_172, s142_173, s142_176, s142_177, s142_180, s142_181, s142_182, s142_185, s142_186, s142_187, s142_188, s142_191, s142_192, s142_195, s142_196, s142_197, s142_198, s142_201, s142_202, s142_203, s142_206, s142_207, s142_208, s142_209, s142_212, s142_213, s142_216, s142_217, s142_218, cont_some, rl_some, rl_none, if_true, if_false, kd_149, rf_149_0, rf_149_1, rf_149_3, rf_149_5, rf_149_9, rf_149_16, rf_149_17, kd_150, kd_151, kd_152, kd_153, kd_154, kd_155, kd_156, ln_150, ln_151, ln_152, ln_153, ln_154, ln_155, ln_156, Int.reduceLE, Int.reduceLT, Int.reduceToNat, Nat.reduceLT, Int.toNat_natCast, Int.natCast_nonneg, true_or, Int.one_ne_zero, ite_self, e0, c1, m_deep (hN x A) (hL' x A) hx, hq, e3, lk_orr hx hd4 hld, m_of2 hd4, e2, c2, m_brings (hH' x A) (hK' x A) hn hd, f10, f11, fm, ad_n k (by omega)]
        exact x3
      · have hdv : dvH c hl d = dvp c d (hl d) := by unfold dvH; rw [if_neg (by rw [← hO d hd]; exact c2)]
        rw [hdv]
        rw [hdv] at hlen
        obtain ⟨x', l4', x1, x2, x3⟩ := ih (k + 1) (x + 2 ^ d) (A ++ dvp c d (hl d)) (I (d : Int)) (by omega) hx' (by omega) (by rw [List.length_append]; omega)
        refine ⟨x', l4', x1, x2, ?_⟩
        have hs := m_sinks (P := P) (M := erX M c hl x) (hH2 x) (hK2 x) hn hd (L := A) (by omega)
        have f12 : skM (erX M c hl x) (A ++ dvp c d (hl d)) 150 (sl d 12) = M 150 (sl d 12) := by rw [skM_o (by omega) (by omega), erX_at (by omega), hld]; rfl
        have fm : wr (skM (erX M c hl x) (A ++ dvp c d (hl d))) 150 (sl d 12) (ad (M 150 (sl d 12)) 1) = skM (erX M c hl (x + 2 ^ d)) (A ++ dvp c d (hl d)) := by
          rw [skM_wr, erX_out hx hd4 hld c2]
        simp only [en142, s142_0, s142_1, s142_2, s142_5, s142_6, s142_7, s142_8, s142_11, s142_12, s142_13, s142_14, s142_16, s142_17, s142_20, s142_21, s142_22, s142_25, s142_26, s142_27, s142_30, s142_32, s142_33, s142_34, s142_36, s142_37, s142_38, s142_39, s142_40, s142_42, s142_43, s142_46, s142_47, s142_50, s142_51, s142_53, s142_56, s142_59, s142_60, s142_62, s142_65, s142_66, s142_68, s142_70, s142_71, s142_73, s142_75, s142_78, s142_79, s142_80, s142_83, s142_86, s142_90, s142_93, s142_94, s142_95, s142_96, s142_97, s142_100, s142_103, s142_104, s142_107, s142_109, s142_110, s142_111, s142_112, s142_113, s142_114, s142_117, s142_118, s142_121, s142_122, s142_123, s142_124, s142_125, s142_128, s142_130, s142_131, s142_134, s142_136, s142_137, s142_138, s142_139, s142_140, s142_141, s142_142, s142_143, s142_146, s142_147, s142_148, s142_149, s142_150, s142_151, s142_152, s142_153, s142_154, s142_155, s142_156, s142_159, s142_162, s142_163, s142_166, s142_167, s142_168, s142_169, s142_170, s142_171, s142_172, s142_173, s142_176, s142_177, s142_180, s142_181, s142_182, s142_185, s142_186, s142_187, s142_188, s142_191, s142_192, s142_195, s142_196, s142_197, s142_198, s142_201, s142_202, s142_203, s142_206, s142_207, s142_208, s142_209, s142_212, s142_213, s142_216, s142_217, s142_218, cont_some, rl_some, rl_none, if_true, if_false, kd_149, rf_149_0, rf_149_1, rf_149_3, rf_149_5, rf_149_9, rf_149_16, rf_149_17, kd_150, kd_151, kd_152, kd_153, kd_154, kd_155, kd_156, ln_150, ln_151, ln_152, ln_153, ln_154, ln_155, ln_156, Int.reduceLE, Int.reduceLT, Int.reduceToNat, Nat.reduceLT, Int.toNat_natCast, Int.natCast_nonneg, true_or, Int.one_ne_zero, ite_self, e0, c1, m_deep (hN x A) (hL' x A) hx, hq, e3, lk_orr hx hd4 hld, m_of2 hd4, e2, c2, hs, m_of12 hd4, f12, m_lay12 hd4, fm, ad_n k (by omega)]
        exact x3
end Ref4
