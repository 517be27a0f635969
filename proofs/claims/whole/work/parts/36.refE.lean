section Ref5
variable {M : Mem} {P : PMem} {c : Mem} {n sp t : Nat} {hl : Nat → Nat}
/-! laying the sunk ones -/
/-- the stack i of the first j of S -/
def vS (S : List Int) (i j : Nat) : Int := (if 3 * i < j then S.getD (3 * i) 0 + 1 else 0) + (if 3 * i + 1 < j then (S.getD (3 * i + 1) 0 + 1) * 32 else 0) + (if 3 * i + 2 < j then (S.getD (3 * i + 2) 0 + 1) * 1024 else 0)
def lyX (K : Mem) (S : List Int) (l0 j : Nat) : Mem := fun a b => if a = 150 ∧ b = 8 then ((l0 + (j + 2) / 3 : Nat) : Int) else if a = 150 ∧ 9 + l0 ≤ b ∧ b < 25 then vS S (b - 9 - l0) j else K a b
theorem vS_zero {S : List Int} {i j : Nat} (h : j ≤ 3 * i) : vS S i j = 0 := by
  unfold vS
  rw [if_neg (by omega), if_neg (by omega), if_neg (by omega)]
  rfl
theorem lyX_0 {K : Mem} {S : List Int} {l0 : Nat} (h8 : K 150 8 = (l0 : Int)) (hz : ∀ b, 9 + l0 ≤ b → b < 25 → K 150 b = 0) : lyX K S l0 0 = K := by
  funext a b
  unfold lyX
  split
  · next h => obtain ⟨rfl, rfl⟩ := h; rw [h8]; rfl
  · split
    · next h => obtain ⟨rfl, h1, h2⟩ := h; rw [hz b h1 h2, vS_zero (by omega)]
    · rfl
theorem vS_step {S : List Int} {j : Nat} (hv : ∀ x ∈ S, 0 ≤ x ∧ x ≤ 15) (hj : j < S.length) : orr (vS S (j / 3) j) (shl (S.getD j 0 + 1) (ml 5 (rm (j : Int) 3))) = vS S (j / 3) (j + 1) ∨ 1000 < j := by
  by_cases hb : 1000 < j
  · exact Or.inr hb
  · left
    have hg (k : Nat) (hk : k < S.length) : 0 ≤ S.getD k 0 ∧ S.getD k 0 ≤ 15 := by
      rw [List.getD_eq_getElem?_getD, List.getElem?_eq_getElem hk, Option.getD_some]
      exact hv _ (List.getElem_mem hk)
    have e1 : rm (j : Int) 3 = (j : Int) % 3 := rm_eq (by omega) (by omega) (by omega) (by omega)
    have e2 : ml 5 ((j : Int) % 3) = 5 * ((j : Int) % 3) := ml_eq (by omega) (by omega)
    have h0 := hg j hj
    rw [e1, e2]
    have h3 : j % 3 = 0 ∨ j % 3 = 1 ∨ j % 3 = 2 := by omega
    rcases h3 with h | h | h
    · have ej : 3 * (j / 3) = j := by omega
      have e3 : 5 * ((j : Int) % 3) = 0 := by omega
      have e4 : vS S (j / 3) j = 0 := vS_zero (by omega)
      have e5 : vS S (j / 3) (j + 1) = S.getD j 0 + 1 := by
        unfold vS
        rw [ej, if_pos (by omega), if_neg (by omega), if_neg (by omega)]
        omega
      rw [e3, e4, e5, shl_eq (by omega) (by omega) (by omega) (by show _ * 1 ≤ _; omega)]
      have := orr_add (x := 0) (z := S.getD j 0 + 1) 0 (by omega) (by omega) (by omega) (by omega)
      rw [Int.zero_add] at this
      have e6 : (S.getD j 0 + 1) * 2 ^ 0 = S.getD j 0 + 1 := by omega
      rw [e6] at this
      rw [show (2 : Int) ^ (0 : Int).toNat = 2 ^ 0 from rfl, e6]
      exact this
    · have ej : 3 * (j / 3) = j - 1 := by omega
      have ej2 : 3 * (j / 3) + 1 = j := by omega
      have e3 : 5 * ((j : Int) % 3) = 5 := by omega
      have h1 := hg (j - 1) (by omega)
      have e4 : vS S (j / 3) j = S.getD (j - 1) 0 + 1 := by
        unfold vS
        rw [if_pos (by omega), if_neg (by omega), if_neg (by omega), ej]
        omega
      have e5 : vS S (j / 3) (j + 1) = S.getD (j - 1) 0 + 1 + (S.getD j 0 + 1) * 32 := by
        unfold vS
        rw [if_pos (by omega), if_pos (by omega), if_neg (by omega), ej2, ej]
        omega
      rw [e3, e4, e5, shl_eq (by omega) (by omega) (by omega) (by show _ * 32 ≤ _; omega)]
      exact orr_add 5 (by omega) (by show _ < 32; omega) (by omega) (by show _ + _ * 32 ≤ _; omega)
    · have ej : 3 * (j / 3) = j - 2 := by omega
      have ej2 : 3 * (j / 3) + 1 = j - 1 := by omega
      have ej3 : 3 * (j / 3) + 2 = j := by omega
      have e3 : 5 * ((j : Int) % 3) = 10 := by omega
      have h1 := hg (j - 1) (by omega)
      have h2 := hg (j - 2) (by omega)
      have e4 : vS S (j / 3) j = S.getD (j - 2) 0 + 1 + (S.getD (j - 1) 0 + 1) * 32 := by
        unfold vS
        rw [if_pos (by omega), if_pos (by omega), if_neg (by omega), ej2, ej]
        omega
      have e5 : vS S (j / 3) (j + 1) = S.getD (j - 2) 0 + 1 + (S.getD (j - 1) 0 + 1) * 32 + (S.getD j 0 + 1) * 1024 := by
        unfold vS
        rw [if_pos (by omega), if_pos (by omega), if_pos (by omega), ej3, ej2, ej]
      rw [e3, e4, e5, shl_eq (by omega) (by omega) (by omega) (by show _ * 1024 ≤ _; omega)]
      exact orr_add 10 (by omega) (by show _ < 1024; omega) (by omega) (by show _ + _ * 1024 ≤ _; omega)
theorem lyX_wr {K : Mem} {S : List Int} {l0 j : Nat} (hj : l0 + j / 3 < 16) : wr (wr (lyX K S l0 j) 150 8 ((l0 + (j + 3) / 3 : Nat) : Int)) 150 (9 + (l0 + j / 3)) (vS S (j / 3) (j + 1)) = lyX K S l0 (j + 1) := by
  funext a b
  rw [wr_app, wr_app]
  unfold lyX
  by_cases h1 : a = 150 ∧ b = 9 + (l0 + j / 3)
  · obtain ⟨rfl, rfl⟩ := h1
    rw [if_pos ⟨rfl, rfl⟩, if_neg (by omega), if_pos (by omega), show 9 + (l0 + j / 3) - 9 - l0 = j / 3 by omega]
  · rw [if_neg h1]
    by_cases h2 : a = 150 ∧ b = 8
    · rw [if_pos h2, if_pos h2]
    · rw [if_neg h2, if_neg h2, if_neg h2]
      by_cases h3 : a = 150 ∧ 9 + l0 ≤ b ∧ b < 25
      · rw [if_pos h3, if_pos h3]
        unfold vS
        have hb : b - 9 - l0 ≠ j / 3 := by omega
        have i1 : (3 * (b - 9 - l0) < j) = (3 * (b - 9 - l0) < j + 1) := by apply propext; omega
        have i2 : (3 * (b - 9 - l0) + 1 < j) = (3 * (b - 9 - l0) + 1 < j + 1) := by apply propext; omega
        have i3 : (3 * (b - 9 - l0) + 2 < j) = (3 * (b - 9 - l0) + 2 < j + 1) := by apply propext; omega
        simp only [i1, i2, i3]
      · rw [if_neg h3, if_neg h3]
theorem ly_loop {K : Mem} {S : List Int} {l0 : Nat} (hv : ∀ x ∈ S, 0 ≤ x ∧ x ≤ 15) (hS : S.length ≤ 16) (hB : l0 + (S.length + 2) / 3 ≤ 16) (hn : K 149 10 = (S.length : Int)) (hk : ∀ k, k < S.length → K 154 k = S.getD k 0 + 1) {l1 l2 l4 : AV} : ∀ (m j : Nat), j + m = S.length → evL 142 95 [Rf 149, l1, l2, I (j : Int), l4] [] (Hp (lyX K S l0 j) P) = evL 142 162 [Rf 149, l1, l2, I (S.length : Int), l4] [] (Hp (lyX K S l0 S.length) P) := by
  have en (j : Nat) : lyX K S l0 j 149 10 = (S.length : Int) := by unfold lyX; rw [if_neg (by omega), if_neg (by omega)]; exact hn
  intro m
  induction m with
  | zero =>
    intro j hj
    have e : j = S.length := by omega
    subst e
    rw [s142_95]
    simp only [en142, s142_0, s142_1, s142_2, s142_5, s142_6, s142_7, s142_8, s142_11, s142_12, s142_13, s142_14, s142_15, s142_16, s142_17, s142_20, s142_21, s142_22, s142_25, s142_26, s142_27, s142_30, s142_32, s142_33, s142_34, s142_36, s142_37, s142_38, s142_39, s142_40, s142_42, s142_43, s142_46, s142_47, s142_50, s142_51, s142_53, s142_56, s142_59, s142_60, s142_62, s142_65, s142_66, s142_68, s142_70, s142_71, s142_73, s142_75, s142_78, s142_79, s142_80, s142_83, s142_86, s142_89, s142_90, s142_93, s142_94, s142_96, s142_97, s142_100, s142_103, s142_104, s142_107, s142_109, s142_110, s142_111, s142_112, s142_113, s142_114, s142_117, s142_118, s142_121, s142_122, s142_123, s142_124, s142_125, s142_128, s142_130, s142_131, s142_134, s142_136, s142_137, s142_138, s142_139, s142_140, s142_141, s142_142, s142_143, s142_146, s142_147, s142_148, s142_149, s142_150, s142_151, s142_152, s142_153, s142_154, s142_155, s142_156, s142_159, s142_163, s142_166, s142_167, s142_168, s142_169, s142_170, s142_171, s142_172, s142_173, s142_176, s142_177, s142_180, s142_181, s142_182, s142_185, s142_186, s142_187, s142_188, s142_191, s142_192, s142_195, s142_196, s142_197, s142_198, s142_201, s142_202, s142_203, s142_206, s142_207, s142_208, s142_209, s142_212, s142_213, s142_216, s142_217, s142_218, cont_some, rl_some, rl_none, if_true, if_false, kd_149, rf_149_0, rf_149_1, rf_149_3, rf_149_5, rf_149_9, rf_149_16, rf_149_17, kd_150, kd_151, kd_152, kd_153, kd_154, kd_155, kd_156, ln_150, ln_151, ln_152, ln_153, ln_154, ln_155, ln_156, Int.reduceLE, Int.reduceLT, Int.reduceToNat, Nat.reduceLT, Int.toNat_natCast, Int.natCast_nonneg, true_or, Int.one_ne_zero, ite_self, en, Int.le_refl]
  | succ m ih =>
    intro j hj
    have c1 : ¬ (S.length : Int) ≤ (j : Int) := by omega
    have hr : rm (j : Int) 3 = (j : Int) % 3 := rm_eq (by omega) (by omega) (by omega) (by omega)
    have cz : (3 : Int) ≠ 0 := by omega
    have e8 : lyX K S l0 j 150 8 = ((l0 + (j + 2) / 3 : Nat) : Int) := by unfold lyX; rw [if_pos ⟨rfl, rfl⟩]
    have hbd : l0 + j / 3 < 16 := by omega
    have ea : ∀ q : Int, (q = if (j : Int) % 3 = 0 then 1 else 0) → ad ((l0 + (j + 2) / 3 : Nat) : Int) q = ((l0 + (j + 3) / 3 : Nat) : Int) := by
      intro q hq
      have : q = 0 ∨ q = 1 := by rw [hq]; split <;> simp
      rw [ad_eq (by omega) (by omega)]
      split at hq <;> omega
    have e9 (v : Int) : wr (lyX K S l0 j) 150 8 v 150 8 = v := by rw [wr_app, if_pos ⟨rfl, rfl⟩]
    have ei : sb (ad 9 ((l0 + (j + 3) / 3 : Nat) : Int)) 1 = ((9 + (l0 + j / 3) : Nat) : Int) := by
      rw [ad_eq (by omega) (by omega), sb_eq (by omega) (by omega)]; omega
    have hb : 9 + (l0 + j / 3) < 77 := by omega
    have eo : ∀ v : Int, wr (lyX K S l0 j) 150 8 v 150 (9 + (l0 + j / 3)) = vS S (j / 3) j := by
      intro v
      rw [wr_app, if_neg (by omega)]
      unfold lyX
      rw [if_neg (by omega), if_pos (by omega), show 9 + (l0 + j / 3) - 9 - l0 = j / 3 by omega]
    have es : ∀ v : Int, wr (lyX K S l0 j) 150 8 v 154 j = S.getD j 0 + 1 := by
      intro v
      rw [wr_app, if_neg (by omega)]
      unfold lyX
      rw [if_neg (by omega), if_neg (by omega)]
      exact hk j (by omega)
    have hj16 : j < 16 := by omega
    have ev : orr (vS S (j / 3) j) (shl (S.getD j 0 + 1) (ml 5 ((j : Int) % 3))) = vS S (j / 3) (j + 1) := by
      rcases vS_step hv (show j < S.length by omega) with h | h
      · rw [hr] at h; exact h
      · omega
    have ew := lyX_wr (K := K) (S := S) hbd
    have ih' := ih (j + 1) (by omega)
    rw [s142_95]
    by_cases c2 : (j : Int) % 3 = 0
    · have ea' := ea 1 (by rw [if_pos c2])
      rw [c2] at ev
      simp only [en142, s142_0, s142_1, s142_2, s142_5, s142_6, s142_7, s142_8, s142_11, s142_12, s142_13, s142_14, s142_15, s142_16, s142_17, s142_20, s142_21, s142_22, s142_25, s142_26, s142_27, s142_30, s142_32, s142_33, s142_34, s142_36, s142_37, s142_38, s142_39, s142_40, s142_42, s142_43, s142_46, s142_47, s142_50, s142_51, s142_53, s142_56, s142_59, s142_60, s142_62, s142_65, s142_66, s142_68, s142_70, s142_71, s142_73, s142_75, s142_78, s142_79, s142_80, s142_83, s142_86, s142_89, s142_90, s142_93, s142_94, s142_96, s142_97, s142_100, s142_103, s142_104, s142_107, s142_109, s142_110, s142_111, s142_112, s142_113, s142_114, s142_117, s142_118, s142_121, s142_122, s142_123, s142_124, s142_125, s142_128, s142_130, s142_131, s142_134, s142_136, s142_137, s142_138, s142_139, s142_140, s142_141, s142_142, s142_143, s142_146, s142_147, s142_148, s142_149, s142_150, s142_151, s142_152, s142_153, s142_154, s142_155, s142_156, s142_159, s142_163, s142_166, s142_167, s142_168, s142_169, s142_170, s142_171, s142_172, s142_173, s142_176, s142_177, s142_180, s142_181, s142_182, s142_185, s142_186, s142_187, s142_188, s142_191, s142_192, s142_195, s142_196, s142_197, s142_198, s142_201, s142_202, s142_203, s142_206, s142_207, s142_208, s142_209, s142_212, s142_213, s142_216, s142_217, s142_218, cont_some, rl_some, rl_none, if_true, if_false, kd_149, rf_149_0, rf_149_1, rf_149_3, rf_149_5, rf_149_9, rf_149_16, rf_149_17, kd_150, kd_151, kd_152, kd_153, kd_154, kd_155, kd_156, ln_150, ln_151, ln_152, ln_153, ln_154, ln_155, ln_156, Int.reduceLE, Int.reduceLT, Int.reduceToNat, Nat.reduceLT, Int.toNat_natCast, Int.natCast_nonneg, true_or, Int.one_ne_zero, ite_self, en, c1, e8, hr, ne_eq, cz, not_false_eq_true, c2, ea', e9, ei, hb, eo, es, hj16, ev, ew, ad_n j (by omega)]
      exact ih'
    · have ea' := ea 0 (by rw [if_neg c2])
      simp only [en142, s142_0, s142_1, s142_2, s142_5, s142_6, s142_7, s142_8, s142_11, s142_12, s142_13, s142_14, s142_15, s142_16, s142_17, s142_20, s142_21, s142_22, s142_25, s142_26, s142_27, s142_30, s142_32, s142_33, s142_34, s142_36, s142_37, s142_38, s142_39, s142_40, s142_42, s142_43, s142_46, s142_47, s142_50, s142_51, s142_53, s142_56, s142_59, s142_60, s142_62, s142_65, s142_66, s142_68, s142_70, s142_71, s142_73, s142_75, s142_78, s142_79, s142_80, s142_83, s142_86, s142_89, s142_90, s142_93, s142_94, s142_96, s142_97, s142_100, s142_103, s142_104, s142_107, s142_109, s142_110, s142_111, s142_112, s142_113, s142_114, s142_117, s142_118, s142_121, s142_122, s142_123, s142_124, s142_125, s142_128, s142_130, s142_131, s142_134, s142_136, s142_137, s142_138, s142_139, s142_140, s142_141, s142_142, s142_143, s142_146, s142_147, s142_148, s142_149, s142_150, s142_151, s142_152, s142_153, s142_154, s142_155, s142_156, s142_159, s142_163, s142_166, s142_167, s142_168, s142_169, s142_170, s142_171, s142_172, s142_173, s142_176, s142_177, s142_180, s142_181, s142_182, s142_185, s142_186, s142_187, s142_188, s142_191, s142_192, s142_195, s142_196, s142_197, s142_198, s142_201, s142_202, s142_203, s142_206, s142_207, s142_208, s142_209, s142_212, s142_213, s142_216, s142_217, s142_218, cont_some, rl_some, rl_none, if_true, if_false, kd_149, rf_149_0, rf_149_1, rf_149_3, rf_149_5, rf_149_9, rf_149_16, rf_149_17, kd_150, kd_151, kd_152, kd_153, kd_154, kd_155, kd_156, ln_150, ln_151, ln_152, ln_153, ln_154, ln_155, ln_156, Int.reduceLE, Int.reduceLT, Int.reduceToNat, Nat.reduceLT, Int.toNat_natCast, Int.natCast_nonneg, true_or, Int.one_ne_zero, ite_self, en, c1, e8, hr, ne_eq, cz, not_false_eq_true, c2, ea', e9, ei, hb, eo, es, hj16, ev, ew, ad_n j (by omega)]
      exact ih'
/-! the end of a round -/
def enR0 (M c : Mem) (n sp : Nat) (hl : Nat → Nat) (x : Nat) : Mem := lyX (clR (skM (erX M c hl x) (skF c hl n sp)) sp) (skF c hl n sp) (mNb M sp).length (skF c hl n sp).length
def enR (M c : Mem) (n sp : Nat) (hl : Nat → Nat) (x : Nat) : Mem :=
  wr (wr (bgR (wr (enR0 M c n sp hl x) 150 1 (ad (M 150 1) 1)) n) 150 2 (if ad (M 150 1) 1 = 3 then 0 else (arg (c 7) (n - 1) 1 0 : Int))) 150 3 (if ad (M 150 1) 1 = 3 then 2 else 0)
theorem mNb_congr {A B : Mem} {k : Nat} (h : ∀ b, b < 9 + k → A 150 b = B 150 b) : mNb A k = mNb B k := by
  induction k with
  | zero => rfl
  | succ k ih => rw [mNb_succ, mNb_succ, ih (fun b hb => h b (by omega)), h (9 + k) (by omega)]
theorem clR_o {K : Mem} {a b : Nat} (h : a ≠ 150 ∨ b < 8 ∨ 25 ≤ b) (hs : sp ≤ 16) : clR K sp a b = K a b := by
  have hl := mNb_len (M := K) sp
  unfold clR zr
  rw [wr_app, if_neg (by omega), if_neg (by omega)]
  unfold putL
  rw [if_neg (by omega)]
theorem m_ends (h : MN M n) (hn : 1 ≤ n) (hS : MS M sp) (hL : ML c M n) (hH : MH M n hl) (hK : MK c M n hl) (hO : MO c M n) (hp : ∀ d, d < n → ∃ q : Nat, q ≤ sp ∧ c 7 d = (q : Int)) (hv : vOk (skF c hl n sp)) (hlen : (skF c hl n sp).length ≤ 16) (hB : (mNb M sp).length + ((skF c hl n sp).length + 2) / 3 ≤ 16) : ∃ x, (∀ e, e < n → lk x e = true) ∧ evM 142 [Rf 149] (Hp M P) = some (none, Hp (enR M c n sp hl x) P) := by
  have h0 : wr M 149 10 0 = skM M [] := by
    unfold skM
    rw [List.map_nil, putL_nil]
    rfl
  obtain ⟨x, l4, x1, x2, x3⟩ := er_loop (P := P) h hL hH hK hO hp (fi := (arg (c 7) (n - 1) 1 0 : Int)) n 0 0 [] (Db 0) (by omega) (by omega) (cnL_0 n h.2) (by rw [rsF_none]; simpa using hlen)
  rw [rsF_none, List.nil_append, erX_0] at x3
  refine ⟨x, x2, ?_⟩
  obtain ⟨N, eN⟩ : ∃ N, N = skM (erX M c hl x) (skF c hl n sp) := ⟨_, rfl⟩
  have hlo (b : Nat) (hb : b < 25) : N 150 b = M 150 b := by rw [eN, skM_o (by omega) (by omega), erX_o (by omega)]
  have hSN : MS N sp := ⟨by rw [hlo _ (by omega)]; exact hS.1, hS.2⟩
  have hnb : mNb N sp = mNb M sp := mNb_congr (fun b hb => hlo b (by have := hS.2; omega))
  have hN10 : N 149 10 = ((skF c hl n sp).length : Int) := by rw [eN]; exact skM_n
  have hN154 : ∀ k, k < (skF c hl n sp).length → N 154 k = (skF c hl n sp).getD k 0 + 1 := fun k hk => by rw [eN]; exact skM_at hk
  obtain ⟨K, eK⟩ : ∃ K, K = clR N sp := ⟨_, rfl⟩
  have hK10 : K 149 10 = ((skF c hl n sp).length : Int) := by rw [eK, clR_o (by omega) hS.2]; exact hN10
  have hK154 : ∀ k, k < (skF c hl n sp).length → K 154 k = (skF c hl n sp).getD k 0 + 1 := fun k hk => by rw [eK, clR_o (by omega) hS.2]; exact hN154 k hk
  have hK8 : K 150 8 = ((mNb M sp).length : Int) := by
    rw [eK]
    unfold clR
    rw [wr_app, if_pos ⟨rfl, rfl⟩, hnb]
  have hKz : ∀ b, 9 + (mNb M sp).length ≤ b → b < 25 → K 150 b = 0 := by
    intro b h1 h2
    rw [eK]
    unfold clR zr
    rw [wr_app, if_neg (by omega), hnb, if_pos (by omega)]
  have hly := fun l1 l2 => ly_loop (P := P) (K := K) (S := skF c hl n sp) (l0 := (mNb M sp).length) hv hlen hB hK10 hK154 (l1 := l1) (l2 := l2) (l4 := l4) (skF c hl n sp).length 0 (by omega)
  have e9 : ((0 : Nat) : Int) = 0 := rfl
  rw [lyX_0 hK8 hKz, e9] at hly
  obtain ⟨F, eF⟩ : ∃ F, F = lyX K (skF c hl n sp) (mNb M sp).length (skF c hl n sp).length := ⟨_, rfl⟩
  rw [← eF] at hly
  have hF (b : Nat) (hb : b < 8) : F 150 b = M 150 b := by
    rw [eF]
    unfold lyX
    rw [if_neg (by omega), if_neg (by omega), eK, clR_o (by omega) hS.2, hlo b (by omega)]
  have hF0 (v : Int) : MN (wr F 150 1 v) n := ⟨by rw [wr_app, if_neg (by omega), hF 0 (by omega)]; exact h.1, h.2⟩
  have hB1 : ∀ A : Mem, bgR A n 150 1 = A 150 1 := by
    intro A
    unfold bgR bgP
    rw [if_neg (by omega), wr_app, if_neg (by omega)]
  have hB2 : ∀ v w : Int, wr (bgR (wr F 150 1 v) n) 150 2 w 150 1 = v := by
    intro v w
    rw [wr_app, if_neg (by omega), hB1, wr_app, if_pos ⟨rfl, rfl⟩]
  have hB3 : ∀ v : Int, bgR (wr F 150 1 v) n 150 1 = v := by
    intro v
    rw [hB1, wr_app, if_pos ⟨rfl, rfl⟩]
  have hfi : fo (dpO (c 7) (lk 0) n) = (arg (c 7) (n - 1) 1 0 : Int) := by rw [dp_first hn]; rfl
  have ed := m_deep (P := P) h hL (x := 0) (by omega)
  rw [hfi, e9] at ed
  rw [e9] at x3
  have hcl := m_closes (P := P) hSN
  rw [← eN] at x3
  have eE : enR M c n sp hl x = wr (wr (bgR (wr F 150 1 (ad (M 150 1) 1)) n) 150 2 (if ad (M 150 1) 1 = 3 then 0 else (arg (c 7) (n - 1) 1 0 : Int))) 150 3 (if ad (M 150 1) 1 = 3 then 2 else 0) := by
    unfold enR enR0
    rw [eF, eK, eN]
  rw [eE]
  have hF1 := hF 1 (by omega)
  simp only [en142, s142_0, s142_1, s142_2, s142_5, s142_6, s142_7, s142_8, s142_11, s142_12, s142_13, s142_14, s142_16, s142_17, s142_20, s142_21, s142_22, s142_25, s142_26, s142_27, s142_30, s142_32, s142_33, s142_34, s142_36, s142_37, s142_38, s142_39, s142_40, s142_42, s142_43, s142_46, s142_47, s142_50, s142_51, s142_53, s142_56, s142_59, s142_60, s142_62, s142_65, s142_66, s142_68, s142_70, s142_71, s142_73, s142_75, s142_78, s142_79, s142_80, s142_83, s142_86, s142_90, s142_93, s142_94, s142_96, s142_97, s142_100, s142_103, s142_104, s142_107, s142_109, s142_110, s142_111, s142_112, s142_113, s142_114, s142_117, s142_118, s142_121, s142_122, s142_123, s142_124, s142_125, s142_128, s142_130, s142_131, s142_134, s142_136, s142_137, s142_138, s142_139, s142_140, s142_141, s142_142, s142_143, s142_146, s142_147, s142_148, s142_149, s142_150, s142_151, s142_152, s142_153, s142_154, s142_155, s142_156, s142_159, s142_163, s142_166, s142_167, s142_168, s142_169, s142_170, s142_171, s142_172, s142_173, s142_176, s142_177, s142_180, s142_181, s142_182, s142_185, s142_186, s142_187, s142_188, s142_191, s142_192, s142_195, s142_196, s142_197, s142_198, s142_201, s142_202, s142_203, s142_206, s142_207, s142_208, s142_209, s142_212, s142_213, s142_216, s142_217, s142_218, cont_some, rl_some, rl_none, if_true, if_false, kd_149, rf_149_0, rf_149_1, rf_149_3, rf_149_5, rf_149_9, rf_149_16, rf_149_17, kd_150, kd_151, kd_152, kd_153, kd_154, kd_155, kd_156, ln_150, ln_151, ln_152, ln_153, ln_154, ln_155, ln_156, Int.reduceLE, Int.reduceLT, Int.reduceToNat, Nat.reduceLT, Int.toNat_natCast, Int.natCast_nonneg, true_or, Int.one_ne_zero, ite_self, ed, h0]
  rw [x3, s142_89]
  simp only [en142, s142_0, s142_1, s142_2, s142_5, s142_6, s142_7, s142_8, s142_11, s142_12, s142_13, s142_14, s142_16, s142_17, s142_20, s142_21, s142_22, s142_25, s142_26, s142_27, s142_30, s142_32, s142_33, s142_34, s142_36, s142_37, s142_38, s142_39, s142_40, s142_42, s142_43, s142_46, s142_47, s142_50, s142_51, s142_53, s142_56, s142_59, s142_60, s142_62, s142_65, s142_66, s142_68, s142_70, s142_71, s142_73, s142_75, s142_78, s142_79, s142_80, s142_83, s142_86, s142_90, s142_93, s142_94, s142_96, s142_97, s142_100, s142_103, s142_104, s142_107, s142_109, s142_110, s142_111, s142_112, s142_113, s142_114, s142_117, s142_118, s142_121, s142_122, s142_123, s142_124, s142_125, s142_128, s142_130, s142_131, s142_134, s142_136, s142_137, s142_138, s142_139, s142_140, s142_141, s142_142, s142_143, s142_146, s142_147, s142_148, s142_149, s142_150, s142_151, s142_152, s142_153, s142_154, s142_155, s142_156, s142_159, s142_163, s142_166, s142_167, s142_168, s142_169, s142_170, s142_171, s142_172, s142_173, s142_176, s142_177, s142_180, s142_181, s142_182, s142_185, s142_186, s142_187, s142_188, s142_191, s142_192, s142_195, s142_196, s142_197, s142_198, s142_201, s142_202, s142_203, s142_206, s142_207, s142_208, s142_209, s142_212, s142_213, s142_216, s142_217, s142_218, cont_some, rl_some, rl_none, if_true, if_false, kd_149, rf_149_0, rf_149_1, rf_149_3, rf_149_5, rf_149_9, rf_149_16, rf_149_17, kd_150, kd_151, kd_152, kd_153, kd_154, kd_155, kd_156, ln_150, ln_151, ln_152, ln_153, ln_154, ln_155, ln_156, Int.reduceLE, Int.reduceLT, Int.reduceToNat, Nat.reduceLT, Int.toNat_natCast, Int.natCast_nonneg, true_or, Int.one_ne_zero, ite_self, hcl, ← eK]
  rw [hly, s142_162]
  by_cases c3 : ad (M 150 1) 1 = 3
  · rw [if_pos c3, if_pos c3]
    simp only [en142, s142_0, s142_1, s142_2, s142_5, s142_6, s142_7, s142_8, s142_11, s142_12, s142_13, s142_14, s142_16, s142_17, s142_20, s142_21, s142_22, s142_25, s142_26, s142_27, s142_30, s142_32, s142_33, s142_34, s142_36, s142_37, s142_38, s142_39, s142_40, s142_42, s142_43, s142_46, s142_47, s142_50, s142_51, s142_53, s142_56, s142_59, s142_60, s142_62, s142_65, s142_66, s142_68, s142_70, s142_71, s142_73, s142_75, s142_78, s142_79, s142_80, s142_83, s142_86, s142_90, s142_93, s142_94, s142_96, s142_97, s142_100, s142_103, s142_104, s142_107, s142_109, s142_110, s142_111, s142_112, s142_113, s142_114, s142_117, s142_118, s142_121, s142_122, s142_123, s142_124, s142_125, s142_128, s142_130, s142_131, s142_134, s142_136, s142_137, s142_138, s142_139, s142_140, s142_141, s142_142, s142_143, s142_146, s142_147, s142_148, s142_149, s142_150, s142_151, s142_152, s142_153, s142_154, s142_155, s142_156, s142_159, s142_163, s142_166, s142_167, s142_168, s142_169, s142_170, s142_171, s142_172, s142_173, s142_176, s142_177, s142_180, s142_181, s142_182, s142_185, s142_186, s142_187, s142_188, s142_191, s142_192, s142_195, s142_196, s142_197, s142_198, s142_201, s142_202, s142_203, s142_206, s142_207, s142_208, s142_209, s142_212, s142_213, s142_216, s142_217, s142_218, cont_some, rl_some, rl_none, if_true, if_false, kd_149, rf_149_0, rf_149_1, rf_149_3, rf_149_5, rf_149_9, rf_149_16, rf_149_17, kd_150, kd_151, kd_152, kd_153, kd_154, kd_155, kd_156, ln_150, ln_151, ln_152, ln_153, ln_154, ln_155, ln_156, Int.reduceLE, Int.reduceLT, Int.reduceToNat, Nat.reduceLT, Int.toNat_natCast, Int.natCast_nonneg, true_or, Int.one_ne_zero, ite_self, hF1, m_bg (hF0 _), hB3, hB2, c3]
  · rw [if_neg c3, if_neg c3]
    simp only [en142, s142_0, s142_1, s142_2, s142_5, s142_6, s142_7, s142_8, s142_11, s142_12, s142_13, s142_14, s142_16, s142_17, s142_20, s142_21, s142_22, s142_25, s142_26, s142_27, s142_30, s142_32, s142_33, s142_34, s142_36, s142_37, s142_38, s142_39, s142_40, s142_42, s142_43, s142_46, s142_47, s142_50, s142_51, s142_53, s142_56, s142_59, s142_60, s142_62, s142_65, s142_66, s142_68, s142_70, s142_71, s142_73, s142_75, s142_78, s142_79, s142_80, s142_83, s142_86, s142_90, s142_93, s142_94, s142_96, s142_97, s142_100, s142_103, s142_104, s142_107, s142_109, s142_110, s142_111, s142_112, s142_113, s142_114, s142_117, s142_118, s142_121, s142_122, s142_123, s142_124, s142_125, s142_128, s142_130, s142_131, s142_134, s142_136, s142_137, s142_138, s142_139, s142_140, s142_141, s142_142, s142_143, s142_146, s142_147, s142_148, s142_149, s142_150, s142_151, s142_152, s142_153, s142_154, s142_155, s142_156, s142_159, s142_163, s142_166, s142_167, s142_168, s142_169, s142_170, s142_171, s142_172, s142_173, s142_176, s142_177, s142_180, s142_181, s142_182, s142_185, s142_186, s142_187, s142_188, s142_191, s142_192, s142_195, s142_196, s142_197, s142_198, s142_201, s142_202, s142_203, s142_206, s142_207, s142_208, s142_209, s142_212, s142_213, s142_216, s142_217, s142_218, cont_some, rl_some, rl_none, if_true, if_false, kd_149, rf_149_0, rf_149_1, rf_149_3, rf_149_5, rf_149_9, rf_149_16, rf_149_17, kd_150, kd_151, kd_152, kd_153, kd_154, kd_155, kd_156, ln_150, ln_151, ln_152, ln_153, ln_154, ln_155, ln_156, Int.reduceLE, Int.reduceLT, Int.reduceToNat, Nat.reduceLT, Int.toNat_natCast, Int.natCast_nonneg, true_or, Int.one_ne_zero, ite_self, hF1, m_bg (hF0 _), hB3, hB2, c3]
end Ref5
