section World
variable {C D : Mem} {n sp t : Nat} {hl : Nat → Nat}
theorem cS_0 {b : Nat} (h : b = 3 ∨ b = 4 ∨ b = 5 ∨ b = 6 ∨ b = 7 ∨ b = 8 ∨ b = 9) : cS 0 b = true := by
  rcases h with rfl | rfl | rfl | rfl | rfl | rfl | rfl <;> decide
theorem cS_1 : cS 1 1 = true := by decide
theorem cS_4 : cS 4 8 = true := by decide
theorem cS_3 {b : Nat} (h : b < 17) : cS 3 b = true := by
  have : ∀ b, b < 17 → cS 3 b = true := by decide
  exact this b h
theorem cS_14 {b : Nat} (h : b < 24) : cS 14 b = true := by
  have : ∀ b, b < 24 → cS 14 b = true := by decide
  exact this b h
theorem cS_r {o b : Nat} (h : o = 6 ∨ o = 8 ∨ o = 10 ∨ o = 12 ∨ o = 16 ∨ o = 18 ∨ o = 20) (hb : b < 4) : cS o b = true := by
  have : ∀ b, b < 4 → cS 6 b = true ∧ cS 8 b = true ∧ cS 10 b = true ∧ cS 12 b = true ∧ cS 16 b = true ∧ cS 18 b = true ∧ cS 20 b = true := by decide
  obtain ⟨a1, a2, a3, a4, a5, a6, a7⟩ := this b hb
  rcases h with rfl | rfl | rfl | rfl | rfl | rfl | rfl
  · exact a1
  · exact a2
  · exact a3
  · exact a4
  · exact a5
  · exact a6
  · exact a7
theorem RB_castS {C' D' : Mem} (h : RB C D n sp t hl) (hc : ∀ o b, cS o b = true → C' (o + 1) b = C (o + 1) b) (hd : ∀ b, b < 77 → D' 150 b = D 150 b) : RB C' D' n sp t hl := by
  have hn := h.cN.2
  have htn := h.tn
  have h16 := h.cS.2
  have e1 : ∀ b, b = 3 ∨ b = 4 ∨ b = 5 ∨ b = 7 ∨ b = 8 ∨ b = 9 → C' 1 b = C 1 b := fun b x => hc 0 b (cS_0 (by omega))
  have e4 : ∀ s, s < 16 → C' 4 (s + 1) = C 4 (s + 1) := fun b x => hc 3 (b + 1) (cS_3 (by omega))
  have e7 : ∀ d, d < 4 → C' 7 d = C 7 d := fun d x => hc 6 d (cS_r (by omega) x)
  have e9 : ∀ d, d < 4 → C' 9 d = C 9 d := fun d x => hc 8 d (cS_r (by omega) x)
  have e11 : ∀ d, d < 4 → C' 11 d = C 11 d := fun d x => hc 10 d (cS_r (by omega) x)
  have e13 : ∀ d, d < 4 → C' 13 d = C 13 d := fun d x => hc 12 d (cS_r (by omega) x)
  have e15 : ∀ d i, d < 4 → i < 6 → C' 15 (6 * d + i) = C 15 (6 * d + i) := fun d i x y => hc 14 _ (cS_14 (by omega))
  have e17 : ∀ d, d < 4 → C' 17 d = C 17 d := fun d x => hc 16 d (cS_r (by omega) x)
  have e19 : ∀ d, d < 4 → C' 19 d = C 19 d := fun d x => hc 18 d (cS_r (by omega) x)
  have e21 : ∀ d, d < 4 → C' 21 d = C 21 d := fun d x => hc 20 d (cS_r (by omega) x)
  have es : ∀ d w, d < n → w < 13 → D' 150 (sl d w) = D 150 (sl d w) := fun d w x y => hd _ (sl_l (by omega) y)
  exact RB.make
    (cN := ⟨by rw [hc 4 8 cS_4]; exact h.cN.1, hn⟩)
    (mN := ⟨by rw [hd 0 (by omega)]; exact h.mN.1, hn⟩)
    (n2 := h.n2)
    (cS := ⟨by rw [hc 1 1 cS_1]; exact h.cS.1, h16⟩)
    (mS := ⟨by rw [hd 8 (by omega)]; exact h.mS.1, h16⟩)
    (pa := fun s hs => by rw [e4 s (by omega), hd _ (by omega)]; exact h.pa s hs)
    (ch := fun d hd' => by rw [e13 d (by omega)]; exact h.ch d hd')
    (mh := fun d hd' => by rw [es d 3 hd' (by omega)]; exact h.mh d hd')
    (ks := fun d hd' i hi => by have := (h.ch d hd').1; rw [e15 d i (by omega) (by omega), es d (4 + i) hd' (by omega)]; exact h.ks d hd' i hi)
    (pl := fun d hd' => by rw [e7 d (by omega)]; exact h.pl d hd')
    (ml := fun d hd' => by rw [e7 d (by omega), es d 0 hd' (by omega)]; exact h.ml d hd')
    (uq := fun d e' h1 h2 => by rw [e7 d (by omega), e7 e' (by omega)]; exact h.uq d e' h1 h2)
    (up := fun d hd' => by rw [e9 d (by omega), es d 1 hd' (by omega)]; exact h.up d hd')
    (u1 := fun d hd' => by rw [e9 d (by omega)]; exact h.u1 d hd')
    (ho := fun d hd' => by rw [e11 d (by omega), es d 2 hd' (by omega)]; exact h.ho d hd')
    (h1 := fun d hd' => by rw [e11 d (by omega)]; exact h.h1 d hd')
    (hp := fun d hd' => by rw [e11 d (by omega), e7 d (by omega)]; exact h.hp d hd')
    (uh := fun d hd' => by rw [e9 d (by omega), e7 d (by omega), e11 d (by omega)]; exact h.uh d hd')
    (sc := fun d hd' => by rw [e17 d (by omega), es d 10 hd' (by omega)]; exact h.sc d hd')
    (ow := fun d hd' => by rw [e19 d (by omega), es d 11 hd' (by omega)]; exact h.ow d hd')
    (dr := fun d hd' => by rw [e21 d (by omega), es d 12 hd' (by omega)]; exact h.dr d hd')
    (z := fun d h1 h2 => by rw [e11 d h2, e17 d h2, e19 d h2]; exact h.z d h1 h2)
    (lot := by rw [hd 5 (by omega), e1 3 (by omega)]; exact h.lot)
    (l1 := by rw [e1 3 (by omega)]; exact h.l1)
    (tank := by rw [hd 4 (by omega), e1 7 (by omega)]; exact h.tank)
    (k1 := by rw [e1 7 (by omega)]; exact h.k1)
    (dice := by rw [hd 6 (by omega), e1 8 (by omega)]; exact h.dice)
    (ref := by rw [hd 7 (by omega), e1 9 (by omega)]; exact h.ref)
    (tt := by rw [e1 5 (by omega)]; exact h.tt)
    (tn := htn)
    (rd := by rw [hd 1 (by omega), e1 4 (by omega)]; exact h.rd)
    (o1 := fun d hd' => by rw [e19 d hd']; exact h.o1 d hd')
    (co := by
      have z1 : sumN (fun s => pcnt (C' 4 (s + 1))) sp = sumN (fun s => pcnt (C 4 (s + 1))) sp := sumN_congr sp (fun s hs => by show pcnt (C' 4 (s + 1)) = _; rw [e4 s (by omega)])
      have z2 : sumN (tr1 C' hl) n = sumN (tr1 C hl) n := sumN_congr n (fun d hd' => by
        unfold tr1
        apply sumN_congr
        intro i hi
        have := (h.ch d hd').1
        rw [e15 d i (by omega) (by omega)])
      have z3 : sumN (C' 19) 4 = sumN (C 19) 4 := sumN_congr 4 (fun d hd' => e19 d hd')
      rw [z1, z2, z3]
      exact h.co)
theorem RT_castS {C' D' : Mem} (h : RT C D t) (h4 : t < 4) (hc : ∀ o b, cS o b = true → C' (o + 1) b = C (o + 1) b) (hd : ∀ b, b < 77 → D' 150 b = D 150 b) : RT C' D' t := by
  unfold RT
  rw [hd 2 (by omega), hd 3 (by omega), hc 0 4 (cS_0 (by omega)), hc 0 6 (cS_0 (by omega)), hc 10 t (cS_r (by omega) h4)]
  exact h
theorem RG_castS {C' D' : Mem} (h : RG C D) (hc : ∀ o b, cS o b = true → C' (o + 1) b = C (o + 1) b) (hd : ∀ b, b < 77 → D' 150 b = D 150 b) : RG C' D' := by
  obtain ⟨n, sp, t, hl, h1, h2⟩ := h
  have := h1.cN.2
  have := h1.tn
  exact ⟨n, sp, t, hl, RB_castS h1 hc hd, RT_castS h2 (by omega) hc hd⟩
/-- the game at block b, as the main one -/
def blk (M : Mem) (b : Nat) : Mem := fun a k => M (b - 1 + a) k
/-- the reference's game in the row f from o on -/
def sli (M : Mem) (f o : Nat) : Mem := fun _ b => M f (o + b)
def RH (M : Mem) (P : PMem) (K : Nat) : Prop := M 47 1 = (K : Int) ∧ M 149 2 = (K : Int) ∧ K ≤ 4 ∧ PO P ∧ (∀ i j, i < 4 → j < 4 → P i = P j → i = j) ∧ ∀ j, j < K → RG (blk M (P j)) (sli M 151 (77 * j))
def RSn (M : Mem) : Prop := M 0 5 = M 149 4 ∧ (M 149 4 = 0 ∨ (M 149 4 = 1 ∧ RG (blk M 24) (sli M 152 0)))
def RPd (M : Mem) : Prop := ∃ L : Nat, L ≤ 60 ∧ M 141 1 = (L : Int) ∧ M 149 6 = (L : Int) ∧ ∀ j, j < L → M 143 j = M 153 j ∧ 33 ≤ M 153 j ∧ M 153 j ≤ 126
def RWh (M : Mem) : Prop := M 0 6 = M 149 7 ∧ (M 149 7 ≠ 0 → M 0 7 = M 149 8)
def R (M : Mem) (P : PMem) : Prop := RG M M ∧ (∃ K, RH M P K) ∧ RSn M ∧ RPd M ∧ RWh M
end World
