/-! ===== the class's whole object: what always holds of it ===== -/
section World
variable {C M N E C' : Mem} {P Q : PMem} {n sp t K : Nat} {hl : Nat → Nat}
theorem CB.cpi (h : CB C n sp t hl) : CPi C n hl := fun d hd i hi => by
  have := h.ks d hd i hi
  omega
theorem CB.cpa (h : CB C n sp t hl) : CPa C sp := fun s hs => pa_nn h hs
/-- the game at block b, as the main one -/
def blk (M : Mem) (b : Nat) : Mem := fun a k => M (b - 1 + a) k
theorem blk_e {A : Mem} {b o k : Nat} (h : 1 ≤ b) : blk A b (o + 1) k = A (b + o) k := by
  unfold blk
  rw [show b - 1 + (o + 1) = b + o by omega]
def HC (M : Mem) (P : PMem) (K : Nat) : Prop := M 47 1 = (K : Int) ∧ K ≤ 4 ∧ PO P ∧ (∀ i j, i < 4 → j < 4 → P i = P j → i = j) ∧ ∀ j, j < K → GC (blk M (P j))
def SC (M : Mem) : Prop := M 0 5 = 0 ∨ (M 0 5 = 1 ∧ GC (blk M 24))
def PC (M : Mem) : Prop := ∃ L : Nat, L ≤ 60 ∧ M 141 1 = (L : Int)
def RW (M : Mem) (P : PMem) : Prop := GC M ∧ (∃ K, HC M P K) ∧ SC M ∧ PC M
/-- the same game, as far as it is copied -/
def eqS (M N : Mem) : Prop := ∀ o b, cS o b = true → N (o + 1) b = M (o + 1) b
theorem eqS_rf : eqS M M := fun _ _ _ => rfl
theorem eqS_of (h : ∀ a b, 1 ≤ a → a < 24 → N a b = M a b) : eqS M N := fun o b x => h _ _ (by omega) (by have := cS_sm _ _ x; omega)
theorem GC_16 (h : GC C) : C 1 6 = 0 ∨ C 1 6 = 1 := by
  obtain ⟨n, sp, t, hl, h1, h2⟩ := h
  rcases h2 with x | x
  · rcases x.2.2 with y | y
    · exact Or.inr y
    · exact Or.inl y.1
  · exact Or.inl x.2
theorem wr_ne {A : Mem} {i j a b : Nat} {z : Int} (h : a ≠ i ∨ b ≠ j) : wr A i j z a b = A a b := by rw [wr_app, if_neg (by omega)]
theorem wr_at {A : Mem} {i j : Nat} {z : Int} : wr A i j z i j = z := by rw [wr_app, if_pos ⟨rfl, rfl⟩]
/-! history -/
theorem rcM_o {a b : Nat} (hP : PO P) (hK : K ≤ 4) (h : a < 47 ∨ 141 ≤ a) : rcM M P K a b = M a b := by
  have h0 := hP 0 (by omega)
  unfold hB at h0
  unfold rcM
  by_cases c : K < 4
  · have h1 := hP K c
    unfold hB at h1
    rw [if_pos c, wr_app, if_neg (by omega), cpG_out (by omega)]
  · rw [if_neg c, wr_app, if_neg (by omega), cpG_out (by omega), wr_app, if_neg (by omega)]
theorem rcM_n (K : Nat) (hP : PO P) (hK : K ≤ 4) : rcM M P K 47 1 = ((min (K + 1) 4 : Nat) : Int) := by
  unfold rcM
  by_cases c : K < 4
  · rw [if_pos c, wr_app, if_pos ⟨rfl, rfl⟩, Nat.min_eq_left (by omega)]
  · rw [if_neg c, wr_app, if_pos ⟨rfl, rfl⟩, Nat.min_eq_right (by omega)]
    rfl
theorem rotP_v : rotP P 0 = P 1 ∧ rotP P 1 = P 2 ∧ rotP P 2 = P 3 ∧ rotP P 3 = P 0 := by
  unfold rotP upP
  exact ⟨rfl, rfl, rfl, rfl⟩
/-- what a change leaves as the recording made it -/
def frH (A B : Mem) : Prop := ∀ a b, (a = 0 ∧ b = 5) ∨ (24 ≤ a ∧ a < 141) → B a b = A a b
/-- a change that is recorded -/
def RecOK (M : Mem) (P : PMem) (N : Mem) (Q : PMem) : Prop :=
  (∀ k : Nat, k < 4 → M 47 1 = (k : Int) → N 47 1 = ((k + 1 : Nat) : Int) ∧ ∀ o b, cS o b = true → N (Q k + o) b = M (o + 1) b) ∧ (M 47 1 = 4 → N 47 1 = 4) ∧ (∀ a b, 24 ≤ a → a < 47 → N a b = M a b) ∧ N 0 5 = M 0 5
theorem rec_W (h : RW M P) (hK : HC M P K) (h1 : frH (rcM M P K) E) (hp : PC E) (hG : GC E) : RW E (rcP P K) ∧ RecOK M P E (rcP P K) := by
  obtain ⟨hM, _, hS, hPd⟩ := h
  obtain ⟨k1, k4, hP, hI, hA⟩ := hK
  have f2 : ∀ a b, (a = 0 ∧ b = 5) ∨ (24 ≤ a ∧ a < 47) → E a b = M a b := by
    intro a b x
    rw [h1 a b (by omega), rcM_o hP k4 (by omega)]
  have far' : ∀ i j, i < 4 → j < 4 → i ≠ j → P i + 23 ≤ P j ∨ P j + 23 ≤ P i := by
    intro i j hi hj hne
    have a := hP i hi
    have b := hP j hj
    have : P i ≠ P j := fun e => hne (hI i j hi hj e)
    unfold hB at a b
    omega
  have row : ∀ j o b, j < 4 → o < 23 → E (P j + o) b = rcM M P K (P j + o) b := by
    intro j o b hj ho
    have a := hP j hj
    unfold hB at a
    exact h1 _ _ (by omega)
  have p1 : ∀ j, j < 4 → 1 ≤ P j := fun j hj => by have a := hP j hj; unfold hB at a; omega
  have e47 : E 47 1 = ((min (K + 1) 4 : Nat) : Int) := by rw [h1 47 1 (by omega)]; exact rcM_n K hP k4
  have top : ∀ o b, K < 4 → cS o b = true → E (P K + o) b = M (o + 1) b := by
    intro o b c hcs
    have ho := cS_sm _ _ hcs
    have a := hP K c
    unfold hB at a
    rw [row K o b c ho]
    unfold rcM
    rw [if_pos c, wr_app, if_neg (by omega), cpG_in hcs, Nat.add_comm 1 o]
  have hist : HC E (rcP P K) (min (K + 1) 4) := by
    refine ⟨e47, Nat.min_le_right _ _, ?_, ?_, ?_⟩
    · unfold rcP
      split
      · exact hP
      · obtain ⟨r0, r1, r2, r3⟩ := rotP_v (P := P)
        intro j hj
        have : j = 0 ∨ j = 1 ∨ j = 2 ∨ j = 3 := by omega
        rcases this with rfl | rfl | rfl | rfl
        · rw [r0]; exact hP 1 (by omega)
        · rw [r1]; exact hP 2 (by omega)
        · rw [r2]; exact hP 3 (by omega)
        · rw [r3]; exact hP 0 (by omega)
    · unfold rcP
      split
      · exact hI
      · obtain ⟨r0, r1, r2, r3⟩ := rotP_v (P := P)
        have rv : ∀ j, j < 4 → rotP P j = P ((j + 1) % 4) := by
          intro j hj
          have : j = 0 ∨ j = 1 ∨ j = 2 ∨ j = 3 := by omega
          rcases this with rfl | rfl | rfl | rfl
          · exact r0
          · exact r1
          · exact r2
          · exact r3
        intro i j hi hj e
        rw [rv i hi, rv j hj] at e
        have := hI _ _ (by omega) (by omega) e
        omega
    · intro j hj
      by_cases c : K < 4
      · have eP : rcP P K = P := by unfold rcP; rw [if_pos c]
        rw [eP]
        by_cases c2 : j = K
        · subst c2
          apply GC_castS hM
          intro o b hcs
          rw [blk_e (p1 j c), top o b c hcs]
        · have hjK : j < K := by omega
          apply GC_castS (hA j hjK)
          intro o b hcs
          have ho := cS_sm _ _ hcs
          have := far' j K (by omega) c c2
          have a := hP j (by omega)
          unfold hB at a
          rw [blk_e (p1 j (by omega)), blk_e (p1 j (by omega)), row j o b (by omega) ho]
          unfold rcM
          rw [if_pos c, wr_app, if_neg (by omega), cpG_out (by omega)]
      · have eK : K = 4 := by omega
        subst eK
        have eP : rcP P 4 = rotP P := by unfold rcP; rw [if_neg (by omega)]
        have eM : ∀ i o b, i < 4 → o < 23 → E (P i + o) b = cpG (wr M 47 1 3) (P 0) 1 (P i + o) b := by
          intro i o b hi4 ho
          have a := hP i hi4
          unfold hB at a
          rw [row i o b hi4 ho]
          unfold rcM
          rw [if_neg (by omega), wr_app, if_neg (by omega)]
        obtain ⟨r0, r1, r2, r3⟩ := rotP_v (P := P)
        rw [eP]
        by_cases c2 : j = 3
        · subst c2
          rw [r3]
          apply GC_castS hM
          intro o b hcs
          have ho := cS_sm _ _ hcs
          rw [blk_e (p1 0 (by omega)), eM 0 o b (by omega) ho, cpG_in hcs, Nat.add_comm 1 o, wr_app, if_neg (by omega)]
        · have hj3 : j < 3 := by omega
          have rj : rotP P j = P (j + 1) := by
            have : j = 0 ∨ j = 1 ∨ j = 2 := by omega
            rcases this with rfl | rfl | rfl
            · exact r0
            · exact r1
            · exact r2
          rw [rj]
          apply GC_castS (hA (j + 1) (by omega))
          intro o b hcs
          have ho := cS_sm _ _ hcs
          have := far' (j + 1) 0 (by omega) (by omega) (by omega)
          have a := hP (j + 1) (by omega)
          unfold hB at a
          rw [blk_e (p1 (j + 1) (by omega)), blk_e (p1 (j + 1) (by omega)), eM (j + 1) o b (by omega) ho, cpG_out (by omega), wr_app, if_neg (by omega)]
  refine ⟨⟨hG, ⟨_, hist⟩, ?_, hp⟩, ?_, ?_, fun a b x y => f2 a b (by omega), f2 0 5 (by omega)⟩
  · unfold SC at *
    rw [f2 0 5 (by omega)]
    rcases hS with x | ⟨x, y⟩
    · exact Or.inl x
    · refine Or.inr ⟨x, GC_castS y ?_⟩
      intro o b hcs
      have ho := cS_sm _ _ hcs
      rw [blk_e (by omega), blk_e (by omega), f2 (24 + o) b (by omega)]
  · intro k hk hk'
    have e : k = K := by rw [k1] at hk'; omega
    subst e
    have eP : rcP P k = P := by unfold rcP; rw [if_pos hk]
    rw [eP, e47, Nat.min_eq_left (by omega)]
    exact ⟨rfl, fun o b hcs => top o b hk hcs⟩
  · intro h4
    have e : K = 4 := by rw [k1] at h4; omega
    rw [e47, e]
    rfl
/-- what is ready for a change that is recorded -/
theorem rec_go (h : RW M P) : ∃ K, HC M P K ∧ evM 48 [Rf 47, Rf 1] (Hp M P) = some (none, Hp (rcM M P K) (rcP P K)) ∧ (∀ a b, a < 47 ∨ 141 ≤ a → rcM M P K a b = M a b) := by
  obtain ⟨hM, ⟨K, hK⟩, hS, hPd⟩ := h
  have hK' := hK
  obtain ⟨k1, k4, hP, hI, hA⟩ := hK'
  exact ⟨K, hK, h_rec hP k1 k4 (GC_16 hM), fun a b x => rcM_o hP k4 x⟩
/-- the same object but for the pad and the reason -/
theorem RW_cast (h : RW M P) (e : ∀ a b, (a ≠ 0 ∨ b = 5) → a < 141 → E a b = M a b) (hp : PC E) : RW E P := by
  obtain ⟨hM, ⟨K, k1, k4, hP, hI, hA⟩, hS, hPd⟩ := h
  refine ⟨GC_cast hM (fun a b x y => e a b (by omega) (by omega)), ⟨K, by rw [e 47 1 (by omega) (by omega)]; exact k1, k4, hP, hI, fun j hj => GC_castS (hA j hj) ?_⟩, ?_, hp⟩
  · intro o b hcs
    have ho := cS_sm _ _ hcs
    have a := hP j (by omega)
    unfold hB at a
    rw [blk_e (by omega), blk_e (by omega), e (P j + o) b (by omega) (by omega)]
  · unfold SC at *
    rw [e 0 5 (by omega) (by omega)]
    rcases hS with x | ⟨x, y⟩
    · exact Or.inl x
    · refine Or.inr ⟨x, GC_castS y ?_⟩
      intro o b hcs
      have ho := cS_sm _ _ hcs
      rw [blk_e (by omega), blk_e (by omega), e (24 + o) b (by omega) (by omega)]
end World
