section Fault
variable {M N : Mem} {P : PMem} {L p : Nat}
theorem k1F_01 (x : Int) : (k1F x = 0 ∧ ¬ (x = 100 ∨ x = 117)) ∨ (k1F x = 1 ∧ (x = 100 ∨ x = 117)) := by
  unfold k1F
  by_cases c : x = 100 ∨ x = 117
  · rw [if_pos c]; exact Or.inr ⟨rfl, c⟩
  · rw [if_neg c]; exact Or.inl ⟨rfl, c⟩
theorem k2F_01 (x : Int) : (k2F x = 0 ∧ ¬ (x = 116 ∨ x = 110 ∨ x = 108)) ∨ (k2F x = 1 ∧ (x = 116 ∨ x = 110 ∨ x = 108)) := by
  unfold k2F
  by_cases c : x = 116 ∨ x = 110 ∨ x = 108
  · rw [if_pos c]; exact Or.inr ⟨rfl, c⟩
  · rw [if_neg c]; exact Or.inl ⟨rfl, c⟩
theorem gl_in {f : Nat → Int} (h : p < L) : gl f L p = f p := if_pos h
theorem gl_out {f : Nat → Int} (h : L ≤ p) : gl f L p = 0 := if_neg (by omega)
theorem ffF_end {f : Nat → Int} {due : Int} {k : Nat} (hk : k = L) (hd : due ≠ 1) : ffF f L (L - k) k due = (k : Int) := by
  subst hk
  rw [Nat.sub_self]
  unfold ffF
  rw [if_neg (fun z => hd z.2)]
theorem ffF_one {f : Nat → Int} {due : Int} {k : Nat} (hk : k < L) : ffF f L (L - k) k due = if dB due (f k) = 0 then (k : Int) else ffF f L (L - (k + 1)) (k + 1) (dB due (f k)) := by
  obtain ⟨m, hm⟩ : ∃ m, L - k = m + 1 := ⟨L - k - 1, by omega⟩
  have h2 : L - (k + 1) = m := by omega
  rw [hm, h2]
  conv => lhs; unfold ffF
theorem dB1 (x : Int) : dB 1 x = if x = 100 ∨ x = 117 then 2 else 0 := by unfold dB; rw [if_pos rfl]
theorem dB2 (x : Int) : dB 2 x = if x = 108 then 3 else if x = 116 ∨ x = 110 then 1 else 0 := by unfold dB; rw [if_neg (by omega), if_neg (by omega)]
theorem dB3 (x : Int) : dB 3 x = if 48 ≤ x ∧ x ≤ 53 then 1 else 0 := by unfold dB; rw [if_neg (by omega), if_pos rfl]
/-- a turn, and the fault that the class finds -/
theorem turn_ff {f : Nat → Int} (hp : p < L ∨ (p = 0 ∧ L = 0)) :
    (tnF f L p = 1 ∧ p < tnS f L p ∧ tnS f L p ≤ L ∧ (f p = 100 ∨ f p = 117) ∧ p + 1 < L ∧ (((f (p + 1) = 116 ∨ f (p + 1) = 110) ∧ tnS f L p = p + 2) ∨ (f (p + 1) = 108 ∧ p + 2 < L ∧ 48 ≤ f (p + 2) ∧ f (p + 2) ≤ 53 ∧ tnS f L p = p + 3)) ∧ ffF f L (L - p) p 1 = ffF f L (L - tnS f L p) (tnS f L p) 1) ∨
    (tnF f L p = 0 ∧ tnS f L p ≤ L ∧ ffF f L (L - p) p 1 = (tnS f L p : Int)) := by
  have d10 : ¬ (1 : Int) = 0 := by omega
  have d20 : ¬ (2 : Int) = 0 := by omega
  have d30 : ¬ (3 : Int) = 0 := by omega
  have d48 : ¬ (48 ≤ (0 : Int) ∧ (0 : Int) ≤ 53) := by omega
  rcases hp with hp | ⟨rfl, rfl⟩
  · unfold tnF tnS
    rw [gl_in hp, ffF_one hp, dB1]
    rcases k1F_01 (f p) with ⟨a1, a2⟩ | ⟨a1, a2⟩
    · right
      rw [if_pos a1, if_pos a1, if_neg a2, if_pos rfl]
      exact ⟨rfl, by omega, rfl⟩
    · have n1 : ¬ k1F (f p) = 0 := by omega
      rw [if_neg n1, if_neg n1, if_pos a2, if_neg d20]
      by_cases h1 : p + 1 < L
      · rw [gl_in h1, ffF_one h1, dB2]
        rcases k2F_01 (f (p + 1)) with ⟨b1, b2⟩ | ⟨b1, b2⟩
        · right
          rw [if_pos b1, if_pos b1, if_neg (by omega : ¬ f (p + 1) = 108), if_neg (by omega : ¬ (f (p + 1) = 116 ∨ f (p + 1) = 110)), if_pos rfl]
          exact ⟨rfl, by omega, rfl⟩
        · have n2 : ¬ k2F (f (p + 1)) = 0 := by omega
          rw [if_neg n2, if_neg n2]
          by_cases b3 : f (p + 1) = 108
          · rw [if_pos b3, if_pos b3, if_pos b3, if_neg d30]
            by_cases h2 : p + 2 < L
            · rw [gl_in h2, ffF_one (by omega : p + 1 + 1 < L), dB3]
              by_cases b4 : 48 ≤ f (p + 2) ∧ f (p + 2) ≤ 53
              · left
                have b5 : 48 ≤ f (p + 1 + 1) ∧ f (p + 1 + 1) ≤ 53 := b4
                rw [if_pos b4, if_pos b4, if_neg d10]
                exact ⟨rfl, by omega, by omega, a2, h1, Or.inr ⟨b3, h2, b4.1, b4.2, rfl⟩, rfl⟩
              · right
                have b5 : ¬ (48 ≤ f (p + 1 + 1) ∧ f (p + 1 + 1) ≤ 53) := b4
                rw [if_neg b4, if_neg b4, if_pos rfl]
                exact ⟨rfl, by omega, rfl⟩
            · right
              rw [gl_out (by omega : L ≤ p + 2), if_neg d48, if_neg d48, ffF_end (by omega) (by omega)]
              exact ⟨rfl, by omega, rfl⟩
          · left
            have b4 : f (p + 1) = 116 ∨ f (p + 1) = 110 := by omega
            rw [if_neg b3, if_neg b3, if_neg b3, if_pos b4, if_neg d10]
            exact ⟨rfl, by omega, by omega, a2, h1, Or.inl ⟨b4, rfl⟩, rfl⟩
      · right
        have b1 : k2F 0 = 0 := by decide
        rw [gl_out (by omega : L ≤ p + 1), if_pos b1, if_pos b1, ffF_end (by omega) (by omega)]
        exact ⟨rfl, by omega, rfl⟩
  · right
    have b1 : k1F 0 = 0 := by decide
    unfold tnF tnS
    rw [gl_out (by omega : 0 ≤ 0), if_pos b1, if_pos b1]
    exact ⟨rfl, by omega, rfl⟩
theorem ffF_congr {f g : Nat → Int} : ∀ (m k : Nat) (due : Int), k + m = L → (∀ j, j < L → f j = g j) → ffF f L m k due = ffF g L m k due := by
  intro m
  induction m with
  | zero => intro k due _ _; rfl
  | succ m ih =>
    intro k due hk h
    unfold ffF
    rw [h k (by omega), ih (k + 1) _ (by omega) h]
theorem wr_ne {A : Mem} {i j a b : Nat} {z : Int} (h : a ≠ i ∨ b ≠ j) : wr A i j z a b = A a b := by rw [wr_app, if_neg (by omega)]
theorem wr_at {A : Mem} {i j : Nat} {z : Int} : wr A i j z i j = z := by rw [wr_app, if_pos ⟨rfl, rfl⟩]
/-- the reference's loop over turns -/
theorem m_isg_loop : ∀ (m p : Nat) (N : Mem), p + m = L → N 149 6 = (L : Int) → L ≤ 60 → N 149 11 = (p : Int) → N 149 12 = 1 → (∀ j, j < L → 33 ≤ N 153 j ∧ N 153 j ≤ 126) → (0 < L) →
    ∃ N', evL 156 14 [Rf 149] [] (Hp N P) = some (some (I (N' 149 12)), Hp N' P) ∧ (∀ a b, a ≠ 149 ∨ b < 11 ∨ 15 < b → N' a b = N a b) ∧ (if N' 149 12 = 0 then N' 149 11 else -4) = ffF (N 153) L (L - p) p 1 ∧ (N' 149 12 = 0 ∨ N' 149 12 = 1) ∧ 0 ≤ N' 149 11 := by
  intro m
  induction m using Nat.strongRecOn with
  | ind m ih =>
    intro p N hm h6 h60 h11 h12 hr h0
    rw [s156_14]
    by_cases c : p < L
    · have c1 : ¬ (1 : Int) = 0 := by omega
      have c2 : ¬ (L : Int) ≤ (p : Int) := by omega
      have ht := m_turn0 (P := P) h11 (by omega) (by omega)
      obtain ⟨u1, u2, u3, u4⟩ := tu_spec h11 (by omega) h6 h12 hr
      have hO : ∀ a b, a ≠ 149 ∨ b < 11 ∨ 15 < b → tuM N a b = N a b := fun a b h => tu_o h
      have h153 : tuM N 153 = N 153 := funext fun j => hO _ _ (by omega)
      have e1 : evL 156 14 [Rf 149] [] (Hp N P) = evL 156 14 [Rf 149] [] (Hp (tuM N) P) := by
        rw [s156_14]
        simp only [en156, s156_0, s156_1, s156_2, s156_5, s156_6, s156_7, s156_10, s156_11, s156_15, s156_18, s156_21, s156_22, s156_25, s156_26, s156_29, s156_32, s156_33, s156_36, s156_39, s156_40, s156_43, cont_some, rl_some, rl_none, if_true, if_false, kd_149, rf_149_0, rf_149_1, rf_149_3, rf_149_5, rf_149_9, rf_149_16, rf_149_17, kd_150, kd_151, kd_152, kd_153, kd_154, kd_155, kd_156, ln_150, ln_151, ln_152, ln_153, ln_154, ln_155, ln_156, Int.reduceLE, Int.reduceLT, Int.reduceToNat, Nat.reduceLT, Int.toNat_natCast, Int.natCast_nonneg, true_or, Int.one_ne_zero, ite_self, h12, c1, h11, h6, c2, ht]
      rw [← s156_14, e1]
      rcases turn_ff (f := N 153) (Or.inl c) with ⟨t1, t2, t3, -, -, -, t4⟩ | ⟨t1, t2, t3⟩
      · obtain ⟨N', q1, q2, q3, q4⟩ := ih (L - tnS (N 153) L p) (by omega) (tnS (N 153) L p) (tuM N) (by omega) (by rw [hO _ _ (by omega)]; exact h6) h60 u2 (by rw [u1]; exact t1) (by rw [h153]; exact hr) h0
        refine ⟨N', q1, fun a b h => by rw [q2 a b h, hO a b h], ?_, q4⟩
        rw [q3, h153, t4]
      · have z : tuM N 149 12 = 0 := by rw [u1]; exact t1
        refine ⟨tuM N, ?_, hO, ?_, Or.inl z, by rw [u2]; omega⟩
        · rw [s156_14]
          simp only [en156, s156_0, s156_1, s156_2, s156_5, s156_6, s156_7, s156_10, s156_11, s156_15, s156_18, s156_21, s156_22, s156_25, s156_26, s156_29, s156_32, s156_33, s156_36, s156_39, s156_40, s156_43, cont_some, rl_some, rl_none, if_true, if_false, kd_149, rf_149_0, rf_149_1, rf_149_3, rf_149_5, rf_149_9, rf_149_16, rf_149_17, kd_150, kd_151, kd_152, kd_153, kd_154, kd_155, kd_156, ln_150, ln_151, ln_152, ln_153, ln_154, ln_155, ln_156, Int.reduceLE, Int.reduceLT, Int.reduceToNat, Nat.reduceLT, Int.toNat_natCast, Int.natCast_nonneg, true_or, Int.one_ne_zero, ite_self, z]
        · rw [if_pos z, u2, t3]
    · have c1 : ¬ (1 : Int) = 0 := by omega
      have c2 : (L : Int) ≤ (p : Int) := by omega
      refine ⟨N, ?_, fun _ _ _ => rfl, ?_, Or.inr h12, by omega⟩
      · simp only [en156, s156_0, s156_1, s156_2, s156_5, s156_6, s156_7, s156_10, s156_11, s156_15, s156_18, s156_21, s156_22, s156_25, s156_26, s156_29, s156_32, s156_33, s156_36, s156_39, s156_40, s156_43, cont_some, rl_some, rl_none, if_true, if_false, kd_149, rf_149_0, rf_149_1, rf_149_3, rf_149_5, rf_149_9, rf_149_16, rf_149_17, kd_150, kd_151, kd_152, kd_153, kd_154, kd_155, kd_156, ln_150, ln_151, ln_152, ln_153, ln_154, ln_155, ln_156, Int.reduceLE, Int.reduceLT, Int.reduceToNat, Nat.reduceLT, Int.toNat_natCast, Int.natCast_nonneg, true_or, Int.one_ne_zero, ite_self, h12, c1, h11, h6, c2, or_true]
      · have e : L - p = 0 := by omega
        rw [if_neg (by omega), e]
        unfold ffF
        rw [if_pos ⟨h0, rfl⟩]
theorem m_isg (h6 : M 149 6 = (L : Int)) (h60 : L ≤ 60) (hr : ∀ j, j < L → 33 ≤ M 153 j ∧ M 153 j ≤ 126) :
    ∃ N', evM 156 [Rf 149] (Hp M P) = some (some (I (N' 149 12)), Hp N' P) ∧ (∀ a b, a ≠ 149 ∨ b < 11 ∨ 15 < b → N' a b = M a b) ∧ (if N' 149 12 = 0 then N' 149 11 else -4) = ffF (M 153) L L 0 1 ∧ (N' 149 12 = 0 ∨ N' 149 12 = 1) ∧ 0 ≤ N' 149 11 := by
  obtain ⟨A, eA⟩ : ∃ A, A = wr (wr M 149 11 0) 149 12 1 := ⟨_, rfl⟩
  have aO : ∀ a b, a ≠ 149 ∨ b < 11 ∨ 15 < b → A a b = M a b := fun a b h => by rw [eA, wr_ne (by omega), wr_ne (by omega)]
  have a11 : A 149 11 = ((0 : Nat) : Int) := by rw [eA, wr_ne (by omega), wr_at]; rfl
  have a12 : A 149 12 = 1 := by rw [eA, wr_at]
  have a6 : A 149 6 = (L : Int) := by rw [aO _ _ (by omega)]; exact h6
  have a153 : A 153 = M 153 := funext fun j => aO _ _ (by omega)
  have ar : ∀ j, j < L → 33 ≤ A 153 j ∧ A 153 j ≤ 126 := by rw [a153]; exact hr
  have ht := m_turn0 (P := P) a11 (by omega) (by omega)
  obtain ⟨u1, u2, u3, u4⟩ := tu_spec a11 (by omega) a6 a12 ar
  have hO : ∀ a b, a ≠ 149 ∨ b < 11 ∨ 15 < b → tuM A a b = M a b := fun a b h => by rw [tu_o h, aO a b h]
  have h153 : tuM A 153 = M 153 := funext fun j => hO _ _ (by omega)
  have e1 : evM 156 [Rf 149] (Hp M P) = evL 156 14 [Rf 149] [] (Hp (tuM A) P) := by
    simp only [en156, s156_0, s156_1, s156_2, s156_5, s156_6, s156_7, s156_10, s156_11, s156_15, s156_18, s156_21, s156_22, s156_25, s156_26, s156_29, s156_32, s156_33, s156_36, s156_39, s156_40, s156_43, cont_some, rl_some, rl_none, if_true, if_false, kd_149, rf_149_0, rf_149_1, rf_149_3, rf_149_5, rf_149_9, rf_149_16, rf_149_17, kd_150, kd_151, kd_152, kd_153, kd_154, kd_155, kd_156, ln_150, ln_151, ln_152, ln_153, ln_154, ln_155, ln_156, Int.reduceLE, Int.reduceLT, Int.reduceToNat, Nat.reduceLT, Int.toNat_natCast, Int.natCast_nonneg, true_or, Int.one_ne_zero, ite_self, or_true, ← eA, ht]
  rw [e1]
  rw [a153] at u1 u2
  rcases turn_ff (f := M 153) (L := L) (p := 0) (by omega) with ⟨t1, t2, t3, -, -, -, t4⟩ | ⟨t1, t2, t3⟩
  · obtain ⟨N', q1, q2, q3, q4⟩ := m_isg_loop (P := P) (L - tnS (M 153) L 0) (tnS (M 153) L 0) (tuM A) (by omega) (by rw [hO _ _ (by omega)]; exact h6) h60 u2 (by rw [u1]; exact t1) (by rw [h153]; exact hr) (by omega)
    refine ⟨N', q1, fun a b h => by rw [q2 a b h, hO a b h], ?_, q4⟩
    rw [q3, h153, ← t4, Nat.sub_zero]
  · have z : tuM A 149 12 = 0 := by rw [u1]; exact t1
    refine ⟨tuM A, ?_, hO, ?_, Or.inl z, by rw [u2]; omega⟩
    · rw [s156_14]
      simp only [en156, s156_0, s156_1, s156_2, s156_5, s156_6, s156_7, s156_10, s156_11, s156_15, s156_18, s156_21, s156_22, s156_25, s156_26, s156_29, s156_32, s156_33, s156_36, s156_39, s156_40, s156_43, cont_some, rl_some, rl_none, if_true, if_false, kd_149, rf_149_0, rf_149_1, rf_149_3, rf_149_5, rf_149_9, rf_149_16, rf_149_17, kd_150, kd_151, kd_152, kd_153, kd_154, kd_155, kd_156, ln_150, ln_151, ln_152, ln_153, ln_154, ln_155, ln_156, Int.reduceLE, Int.reduceLT, Int.reduceToNat, Nat.reduceLT, Int.toNat_natCast, Int.natCast_nonneg, true_or, Int.one_ne_zero, ite_self, z]
    · rw [Nat.sub_zero] at t3
      rw [if_pos z, u2, t3]
theorem ffF_b {f : Nat → Int} : ∀ (m k : Nat) (due : Int), ffF f L m k due = -4 ∨ 0 ≤ ffF f L m k due := by
  intro m
  induction m with
  | zero =>
    intro k due
    unfold ffF
    split
    · exact Or.inl rfl
    · right; omega
  | succ m ih =>
    intro k due
    unfold ffF
    split
    · right; omega
    · exact ih _ _
/-- the memories of the relation, with the reference's own counters changed -/
theorem R_own {E : Mem} (h : R M P) (e : ∀ a b, a ≠ 149 ∨ b < 10 ∨ 15 < b → E a b = M a b) : R E P := by
  obtain ⟨hM, ⟨K, hK⟩, hS, hPd, hW⟩ := h
  exact ⟨RG_cast hM (fun a b x y => e a b (by omega)) (fun b => e 150 b (by omega)), ⟨K, RH_cast hK (fun a b x => e a b (by omega))⟩, RSn_cast hS (fun a b x => e a b (by omega)), RPd_cast hPd (fun a b x => e a b (by omega)), RWh_cast hW (fun a b x => e a b (by omega))⟩
theorem P_fault (h : R M P) : ∃ (v : Int) (N : Mem) (P' : PMem) (N' : Mem), evM 94 [Rf 0] (Hp M P) = some (some (I v), Hp N P') ∧ evM 157 [Rf 149] (Hp N P') = some (some (I v), Hp N' P') ∧ R N' P' := by
  obtain ⟨hM, hK, hS, ⟨L, l1, l2, l3, l4⟩, hW⟩ := h
  obtain ⟨N', q1, q2, q3, q4, -⟩ := m_isg (P := P) l3 l1 (fun j hj => (l4 j hj).2)
  have e := pd_ff (P := P) l2 l1
  have e2 : ffF (M 143) L L 0 1 = ffF (M 153) L L 0 1 := ffF_congr L 0 1 (by omega) (fun j hj => (l4 j hj).1)
  rw [e2, ← q3] at e
  refine ⟨if N' 149 12 = 0 then N' 149 11 else -4, M, P, N', ?_, ?_, R_own ⟨hM, hK, hS, ⟨L, l1, l2, l3, l4⟩, hW⟩ (fun a b h => q2 a b (by omega))⟩
  · simp only [en94, s94_0, s94_1, s94_4, s94_7, cont_some, rl_some, rl_none, if_true, if_false, kd_0, kd_1, kd_2, kd_5, kd_47, kd_141, kd_144, kd_149, rf_0_0, rf_0_1, rf_0_2, rf_0_3, rf_0_4, rf_1_0, rf_1_1, rf_1_2, rf_2_0, rf_5_0, rf_5_1, rf_5_2, rf_5_3, rf_5_4, rf_5_5, rf_5_6, rf_5_7, rf_47_0, rf_141_0, rf_144_0, rf_144_1, rf_149_0, rf_149_1, rf_149_3, rf_149_5, rf_149_9, rf_149_16, rf_149_17, kd_3, kd_6, kd_8, kd_10, kd_12, kd_14, kd_16, kd_18, kd_20, kd_22, kd_142, kd_145, kd_147, kd_24, e]
  · rcases q4 with z | z
    · rw [if_pos z]
      simp only [en157, s157_0, s157_1, s157_4, s157_7, s157_9, s157_12, s157_13, s157_16, cont_some, rl_some, rl_none, if_true, if_false, kd_149, rf_149_0, rf_149_1, rf_149_3, rf_149_5, rf_149_9, rf_149_16, rf_149_17, kd_150, kd_151, kd_152, kd_153, kd_154, kd_155, kd_156, ln_150, ln_151, ln_152, ln_153, ln_154, ln_155, ln_156, Int.reduceLE, Int.reduceLT, Int.reduceToNat, Nat.reduceLT, Int.toNat_natCast, Int.natCast_nonneg, true_or, Int.one_ne_zero, ite_self, q1, z]
    · have c1 : ¬ (1 : Int) = 0 := by omega
      rw [if_neg (by omega)]
      simp only [en157, s157_0, s157_1, s157_4, s157_7, s157_9, s157_12, s157_13, s157_16, cont_some, rl_some, rl_none, if_true, if_false, kd_149, rf_149_0, rf_149_1, rf_149_3, rf_149_5, rf_149_9, rf_149_16, rf_149_17, kd_150, kd_151, kd_152, kd_153, kd_154, kd_155, kd_156, ln_150, ln_151, ln_152, ln_153, ln_154, ln_155, ln_156, Int.reduceLE, Int.reduceLT, Int.reduceToNat, Nat.reduceLT, Int.toNat_natCast, Int.natCast_nonneg, true_or, Int.one_ne_zero, ite_self, q1, z, c1]
end Fault
