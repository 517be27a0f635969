/-! ===== the relation of the class's game (rows 1..23 of C) and the reference's (row 150 of D) ===== -/
def RB (C D : Mem) (n sp t : Nat) (hl : Nat → Nat) : Prop :=
  (CN C n) ∧ (MN D n) ∧ (2 ≤ n) ∧ (CS C sp) ∧ (MS D sp) ∧ (MP C D sp) ∧ (CH C n hl) ∧ (MH D n hl) ∧ (MK C D n hl) ∧ (∀ d, d < n → ∃ q : Nat, q ≤ sp ∧ C 7 d = (q : Int)) ∧ (ML C D n) ∧ (UQ C n) ∧ (∀ d, d < n → D 150 (sl d 1) = C 9 d) ∧ (∀ d, d < n → C 9 d = 0 ∨ C 9 d = 1) ∧ (MO C D n) ∧ (∀ d, d < n → C 11 d = 0 ∨ C 11 d = 1) ∧ (∀ d, d < n → C 11 d = 1 → C 7 d = 0) ∧ (∀ d, d < n → C 9 d = 1 → C 7 d = 0 → C 11 d = 1) ∧ (∀ d, d < n → D 150 (sl d 10) = C 17 d) ∧ (∀ d, d < n → D 150 (sl d 11) = C 19 d) ∧ (∀ d, d < n → D 150 (sl d 12) = C 21 d) ∧ (∀ d, n ≤ d → d < 4 → C 11 d = 0 ∧ C 17 d = 0 ∧ C 19 d = 0) ∧ (D 150 5 = C 1 3) ∧ (0 ≤ C 1 3 ∧ C 1 3 ≤ 9999) ∧ (D 150 4 = C 1 7) ∧ (0 ≤ C 1 7 ∧ C 1 7 ≤ 25) ∧ (D 150 6 = C 1 8) ∧ (D 150 7 = C 1 9) ∧ (C 1 5 = (t : Int)) ∧ (t < n) ∧ (D 150 1 = C 1 4) ∧ (∀ d, d < 4 → 0 ≤ C 19 d ∧ C 19 d ≤ 16) ∧ (sumN (fun s => pcnt (C 4 (s + 1))) sp + sumN (tr1 C hl) n + sumN (C 19) 4 = 16)
theorem RB.cN {C D : Mem} {n sp t : Nat} {hl : Nat → Nat} (h : RB C D n sp t hl) : CN C n := h.1
theorem RB.mN {C D : Mem} {n sp t : Nat} {hl : Nat → Nat} (h : RB C D n sp t hl) : MN D n := h.2.1
theorem RB.n2 {C D : Mem} {n sp t : Nat} {hl : Nat → Nat} (h : RB C D n sp t hl) : 2 ≤ n := h.2.2.1
theorem RB.cS {C D : Mem} {n sp t : Nat} {hl : Nat → Nat} (h : RB C D n sp t hl) : CS C sp := h.2.2.2.1
theorem RB.mS {C D : Mem} {n sp t : Nat} {hl : Nat → Nat} (h : RB C D n sp t hl) : MS D sp := h.2.2.2.2.1
theorem RB.pa {C D : Mem} {n sp t : Nat} {hl : Nat → Nat} (h : RB C D n sp t hl) : MP C D sp := h.2.2.2.2.2.1
theorem RB.ch {C D : Mem} {n sp t : Nat} {hl : Nat → Nat} (h : RB C D n sp t hl) : CH C n hl := h.2.2.2.2.2.2.1
theorem RB.mh {C D : Mem} {n sp t : Nat} {hl : Nat → Nat} (h : RB C D n sp t hl) : MH D n hl := h.2.2.2.2.2.2.2.1
theorem RB.ks {C D : Mem} {n sp t : Nat} {hl : Nat → Nat} (h : RB C D n sp t hl) : MK C D n hl := h.2.2.2.2.2.2.2.2.1
theorem RB.pl {C D : Mem} {n sp t : Nat} {hl : Nat → Nat} (h : RB C D n sp t hl) : ∀ d, d < n → ∃ q : Nat, q ≤ sp ∧ C 7 d = (q : Int) := h.2.2.2.2.2.2.2.2.2.1
theorem RB.ml {C D : Mem} {n sp t : Nat} {hl : Nat → Nat} (h : RB C D n sp t hl) : ML C D n := h.2.2.2.2.2.2.2.2.2.2.1
theorem RB.uq {C D : Mem} {n sp t : Nat} {hl : Nat → Nat} (h : RB C D n sp t hl) : UQ C n := h.2.2.2.2.2.2.2.2.2.2.2.1
theorem RB.up {C D : Mem} {n sp t : Nat} {hl : Nat → Nat} (h : RB C D n sp t hl) : ∀ d, d < n → D 150 (sl d 1) = C 9 d := h.2.2.2.2.2.2.2.2.2.2.2.2.1
theorem RB.u1 {C D : Mem} {n sp t : Nat} {hl : Nat → Nat} (h : RB C D n sp t hl) : ∀ d, d < n → C 9 d = 0 ∨ C 9 d = 1 := h.2.2.2.2.2.2.2.2.2.2.2.2.2.1
theorem RB.ho {C D : Mem} {n sp t : Nat} {hl : Nat → Nat} (h : RB C D n sp t hl) : MO C D n := h.2.2.2.2.2.2.2.2.2.2.2.2.2.2.1
theorem RB.h1 {C D : Mem} {n sp t : Nat} {hl : Nat → Nat} (h : RB C D n sp t hl) : ∀ d, d < n → C 11 d = 0 ∨ C 11 d = 1 := h.2.2.2.2.2.2.2.2.2.2.2.2.2.2.2.1
theorem RB.hp {C D : Mem} {n sp t : Nat} {hl : Nat → Nat} (h : RB C D n sp t hl) : ∀ d, d < n → C 11 d = 1 → C 7 d = 0 := h.2.2.2.2.2.2.2.2.2.2.2.2.2.2.2.2.1
theorem RB.uh {C D : Mem} {n sp t : Nat} {hl : Nat → Nat} (h : RB C D n sp t hl) : ∀ d, d < n → C 9 d = 1 → C 7 d = 0 → C 11 d = 1 := h.2.2.2.2.2.2.2.2.2.2.2.2.2.2.2.2.2.1
theorem RB.sc {C D : Mem} {n sp t : Nat} {hl : Nat → Nat} (h : RB C D n sp t hl) : ∀ d, d < n → D 150 (sl d 10) = C 17 d := h.2.2.2.2.2.2.2.2.2.2.2.2.2.2.2.2.2.2.1
theorem RB.ow {C D : Mem} {n sp t : Nat} {hl : Nat → Nat} (h : RB C D n sp t hl) : ∀ d, d < n → D 150 (sl d 11) = C 19 d := h.2.2.2.2.2.2.2.2.2.2.2.2.2.2.2.2.2.2.2.1
theorem RB.dr {C D : Mem} {n sp t : Nat} {hl : Nat → Nat} (h : RB C D n sp t hl) : ∀ d, d < n → D 150 (sl d 12) = C 21 d := h.2.2.2.2.2.2.2.2.2.2.2.2.2.2.2.2.2.2.2.2.1
theorem RB.z {C D : Mem} {n sp t : Nat} {hl : Nat → Nat} (h : RB C D n sp t hl) : ∀ d, n ≤ d → d < 4 → C 11 d = 0 ∧ C 17 d = 0 ∧ C 19 d = 0 := h.2.2.2.2.2.2.2.2.2.2.2.2.2.2.2.2.2.2.2.2.2.1
theorem RB.lot {C D : Mem} {n sp t : Nat} {hl : Nat → Nat} (h : RB C D n sp t hl) : D 150 5 = C 1 3 := h.2.2.2.2.2.2.2.2.2.2.2.2.2.2.2.2.2.2.2.2.2.2.1
theorem RB.l1 {C D : Mem} {n sp t : Nat} {hl : Nat → Nat} (h : RB C D n sp t hl) : 0 ≤ C 1 3 ∧ C 1 3 ≤ 9999 := h.2.2.2.2.2.2.2.2.2.2.2.2.2.2.2.2.2.2.2.2.2.2.2.1
theorem RB.tank {C D : Mem} {n sp t : Nat} {hl : Nat → Nat} (h : RB C D n sp t hl) : D 150 4 = C 1 7 := h.2.2.2.2.2.2.2.2.2.2.2.2.2.2.2.2.2.2.2.2.2.2.2.2.1
theorem RB.k1 {C D : Mem} {n sp t : Nat} {hl : Nat → Nat} (h : RB C D n sp t hl) : 0 ≤ C 1 7 ∧ C 1 7 ≤ 25 := h.2.2.2.2.2.2.2.2.2.2.2.2.2.2.2.2.2.2.2.2.2.2.2.2.2.1
theorem RB.dice {C D : Mem} {n sp t : Nat} {hl : Nat → Nat} (h : RB C D n sp t hl) : D 150 6 = C 1 8 := h.2.2.2.2.2.2.2.2.2.2.2.2.2.2.2.2.2.2.2.2.2.2.2.2.2.2.1
theorem RB.ref {C D : Mem} {n sp t : Nat} {hl : Nat → Nat} (h : RB C D n sp t hl) : D 150 7 = C 1 9 := h.2.2.2.2.2.2.2.2.2.2.2.2.2.2.2.2.2.2.2.2.2.2.2.2.2.2.2.1
theorem RB.tt {C D : Mem} {n sp t : Nat} {hl : Nat → Nat} (h : RB C D n sp t hl) : C 1 5 = (t : Int) := h.2.2.2.2.2.2.2.2.2.2.2.2.2.2.2.2.2.2.2.2.2.2.2.2.2.2.2.2.1
theorem RB.tn {C D : Mem} {n sp t : Nat} {hl : Nat → Nat} (h : RB C D n sp t hl) : t < n := h.2.2.2.2.2.2.2.2.2.2.2.2.2.2.2.2.2.2.2.2.2.2.2.2.2.2.2.2.2.1
theorem RB.rd {C D : Mem} {n sp t : Nat} {hl : Nat → Nat} (h : RB C D n sp t hl) : D 150 1 = C 1 4 := h.2.2.2.2.2.2.2.2.2.2.2.2.2.2.2.2.2.2.2.2.2.2.2.2.2.2.2.2.2.2.1
theorem RB.o1 {C D : Mem} {n sp t : Nat} {hl : Nat → Nat} (h : RB C D n sp t hl) : ∀ d, d < 4 → 0 ≤ C 19 d ∧ C 19 d ≤ 16 := h.2.2.2.2.2.2.2.2.2.2.2.2.2.2.2.2.2.2.2.2.2.2.2.2.2.2.2.2.2.2.2.1
theorem RB.co {C D : Mem} {n sp t : Nat} {hl : Nat → Nat} (h : RB C D n sp t hl) : sumN (fun s => pcnt (C 4 (s + 1))) sp + sumN (tr1 C hl) n + sumN (C 19) 4 = 16 := h.2.2.2.2.2.2.2.2.2.2.2.2.2.2.2.2.2.2.2.2.2.2.2.2.2.2.2.2.2.2.2.2
theorem RB.make {C D : Mem} {n sp t : Nat} {hl : Nat → Nat} (cN : CN C n) (mN : MN D n) (n2 : 2 ≤ n) (cS : CS C sp) (mS : MS D sp) (pa : MP C D sp) (ch : CH C n hl) (mh : MH D n hl) (ks : MK C D n hl) (pl : ∀ d, d < n → ∃ q : Nat, q ≤ sp ∧ C 7 d = (q : Int)) (ml : ML C D n) (uq : UQ C n) (up : ∀ d, d < n → D 150 (sl d 1) = C 9 d) (u1 : ∀ d, d < n → C 9 d = 0 ∨ C 9 d = 1) (ho : MO C D n) (h1 : ∀ d, d < n → C 11 d = 0 ∨ C 11 d = 1) (hp : ∀ d, d < n → C 11 d = 1 → C 7 d = 0) (uh : ∀ d, d < n → C 9 d = 1 → C 7 d = 0 → C 11 d = 1) (sc : ∀ d, d < n → D 150 (sl d 10) = C 17 d) (ow : ∀ d, d < n → D 150 (sl d 11) = C 19 d) (dr : ∀ d, d < n → D 150 (sl d 12) = C 21 d) (z : ∀ d, n ≤ d → d < 4 → C 11 d = 0 ∧ C 17 d = 0 ∧ C 19 d = 0) (lot : D 150 5 = C 1 3) (l1 : 0 ≤ C 1 3 ∧ C 1 3 ≤ 9999) (tank : D 150 4 = C 1 7) (k1 : 0 ≤ C 1 7 ∧ C 1 7 ≤ 25) (dice : D 150 6 = C 1 8) (ref : D 150 7 = C 1 9) (tt : C 1 5 = (t : Int)) (tn : t < n) (rd : D 150 1 = C 1 4) (o1 : ∀ d, d < 4 → 0 ≤ C 19 d ∧ C 19 d ≤ 16) (co : sumN (fun s => pcnt (C 4 (s + 1))) sp + sumN (tr1 C hl) n + sumN (C 19) 4 = 16) : RB C D n sp t hl :=
  ⟨cN, mN, n2, cS, mS, pa, ch, mh, ks, pl, ml, uq, up, u1, ho, h1, hp, uh, sc, ow, dr, z, lot, l1, tank, k1, dice, ref, tt, tn, rd, o1, co⟩
/-- whose turn it is, and for what -/
def RT (C D : Mem) (t : Nat) : Prop :=
  (0 ≤ C 1 4 ∧ C 1 4 < 3 ∧ D 150 2 = (t : Int) ∧ D 150 3 = C 1 6 ∧ (C 1 6 = 1 ∨ (C 1 6 = 0 ∧ C 11 t = 0))) ∨ (C 1 4 = 3 ∧ D 150 2 = 0 ∧ D 150 3 = 2 ∧ C 1 6 = 0)
def RG (C D : Mem) : Prop := ∃ n sp t hl, RB C D n sp t hl ∧ RT C D t
/-- nothing but the class's main game is changed -/
def frC (C C' : Mem) : Prop := ∀ a b, a = 0 ∨ 24 ≤ a → C' a b = C a b
/-- nothing but the reference's game is changed -/
def frD (D D' : Mem) : Prop := ∀ a b, a ≠ 150 → a ≠ 154 → ¬ (a = 149 ∧ b = 10) → D' a b = D a b
section Rel
variable {C D : Mem} {n sp t : Nat} {hl : Nat → Nat}
theorem frC_wr {j b : Nat} {v : Int} (h : 1 ≤ j ∧ j < 24) : frC C (wr C j b v) := fun a b' h' => by rw [wr_app, if_neg (by omega)]
theorem frC_tr {A B E : Mem} (h1 : frC A B) (h2 : frC B E) : frC A E := fun a b h => by rw [h2 a b h, h1 a b h]
theorem frC_rf {A : Mem} : frC A A := fun _ _ _ => rfl
theorem frD_wr {b : Nat} {v : Int} : frD D (wr D 150 b v) := fun a b' h' _ _ => by rw [wr_app, if_neg (by omega)]
theorem frD_tr {A B E : Mem} (h1 : frD A B) (h2 : frD B E) : frD A E := fun a b x y z => by rw [h2 a b x y z, h1 a b x y z]
theorem frD_rf {A : Mem} : frD A A := fun _ _ _ _ _ => rfl
/-- a relation that looks at nothing else holds of other memories, too -/
theorem RB_cast {C' D' : Mem} (h : RB C D n sp t hl) (hc : ∀ a b, 1 ≤ a → a < 24 → C' a b = C a b) (hd : ∀ b, D' 150 b = D 150 b) : RB C' D' n sp t hl := by
  have e (a b : Nat) (h1 : 1 ≤ a) (h2 : a < 24) := hc a b h1 h2
  have e1 : ∀ b, C' 1 b = C 1 b := fun b => hc 1 b (by omega) (by omega)
  have e4 : ∀ b, C' 4 b = C 4 b := fun b => hc 4 b (by omega) (by omega)
  have e7 : C' 7 = C 7 := funext fun b => hc 7 b (by omega) (by omega)
  have e9 : C' 9 = C 9 := funext fun b => hc 9 b (by omega) (by omega)
  have e11 : C' 11 = C 11 := funext fun b => hc 11 b (by omega) (by omega)
  have e13 : C' 13 = C 13 := funext fun b => hc 13 b (by omega) (by omega)
  have e15 : C' 15 = C 15 := funext fun b => hc 15 b (by omega) (by omega)
  have e17 : C' 17 = C 17 := funext fun b => hc 17 b (by omega) (by omega)
  have e19 : C' 19 = C 19 := funext fun b => hc 19 b (by omega) (by omega)
  have e21 : C' 21 = C 21 := funext fun b => hc 21 b (by omega) (by omega)
  have et : tr1 C' hl = tr1 C hl := by unfold tr1; rw [e15]
  exact RB.make
    (cN := ⟨by rw [hc 5 8 (by omega) (by omega)]; exact h.cN.1, h.cN.2⟩)
    (mN := ⟨by rw [hd]; exact h.mN.1, h.mN.2⟩)
    (n2 := h.n2)
    (cS := ⟨by rw [hc 2 1 (by omega) (by omega)]; exact h.cS.1, h.cS.2⟩)
    (mS := ⟨by rw [hd]; exact h.mS.1, h.mS.2⟩)
    (pa := fun s hs => by rw [e4, hd]; exact h.pa s hs)
    (ch := fun d hd' => by rw [e13]; exact h.ch d hd')
    (mh := fun d hd' => by rw [hd]; exact h.mh d hd')
    (ks := fun d hd' i hi => by rw [e15, hd]; exact h.ks d hd' i hi)
    (pl := fun d hd' => by rw [e7]; exact h.pl d hd')
    (ml := fun d hd' => by rw [e7, hd]; exact h.ml d hd')
    (uq := fun d e' h1 h2 => by rw [e7]; exact h.uq d e' h1 h2)
    (up := fun d hd' => by rw [e9, hd]; exact h.up d hd')
    (u1 := fun d hd' => by rw [e9]; exact h.u1 d hd')
    (ho := fun d hd' => by rw [e11, hd]; exact h.ho d hd')
    (h1 := fun d hd' => by rw [e11]; exact h.h1 d hd')
    (hp := fun d hd' => by rw [e11, e7]; exact h.hp d hd')
    (uh := fun d hd' => by rw [e9, e7, e11]; exact h.uh d hd')
    (sc := fun d hd' => by rw [e17, hd]; exact h.sc d hd')
    (ow := fun d hd' => by rw [e19, hd]; exact h.ow d hd')
    (dr := fun d hd' => by rw [e21, hd]; exact h.dr d hd')
    (z := fun d h1 h2 => by rw [e11, e17, e19]; exact h.z d h1 h2)
    (lot := by rw [hd, e1]; exact h.lot)
    (l1 := by rw [e1]; exact h.l1)
    (tank := by rw [hd, e1]; exact h.tank)
    (k1 := by rw [e1]; exact h.k1)
    (dice := by rw [hd, e1]; exact h.dice)
    (ref := by rw [hd, e1]; exact h.ref)
    (tt := by rw [e1]; exact h.tt)
    (tn := h.tn)
    (rd := by rw [hd, e1]; exact h.rd)
    (o1 := fun d hd' => by rw [e19]; exact h.o1 d hd')
    (co := by rw [et, e19]; simp only [e4]; exact h.co)
theorem RB_cast2 {C' D' : Mem} {t' : Nat} (h : RB C D n sp t hl) (hc : ∀ a b, 1 ≤ a → a < 24 → (a ≠ 1 ∨ (b ≠ 6 ∧ b ≠ 5)) → C' a b = C a b) (hdl : ∀ b, b ≠ 2 → b ≠ 3 → D' 150 b = D 150 b) (h5 : C' 1 5 = (t' : Int)) (ht' : t' < n) : RB C' D' n sp t' hl := by
  have hd : ∀ d w, D' 150 (sl d w) = D 150 (sl d w) := fun d w => hdl _ (by unfold sl; omega) (by unfold sl; omega)
  have e1 : ∀ b, b ≠ 6 → b ≠ 5 → C' 1 b = C 1 b := fun b x y => hc 1 b (by omega) (by omega) (by omega)
  have e4 : ∀ b, C' 4 b = C 4 b := fun b => hc 4 b (by omega) (by omega) (by omega)
  have e7 : C' 7 = C 7 := funext fun b => hc 7 b (by omega) (by omega) (by omega)
  have e9 : C' 9 = C 9 := funext fun b => hc 9 b (by omega) (by omega) (by omega)
  have e11 : C' 11 = C 11 := funext fun b => hc 11 b (by omega) (by omega) (by omega)
  have e13 : C' 13 = C 13 := funext fun b => hc 13 b (by omega) (by omega) (by omega)
  have e15 : C' 15 = C 15 := funext fun b => hc 15 b (by omega) (by omega) (by omega)
  have e17 : C' 17 = C 17 := funext fun b => hc 17 b (by omega) (by omega) (by omega)
  have e19 : C' 19 = C 19 := funext fun b => hc 19 b (by omega) (by omega) (by omega)
  have e21 : C' 21 = C 21 := funext fun b => hc 21 b (by omega) (by omega) (by omega)
  have et : tr1 C' hl = tr1 C hl := by unfold tr1; rw [e15]
  exact RB.make
    (cN := ⟨by rw [hc 5 8 (by omega) (by omega) (by omega)]; exact h.cN.1, h.cN.2⟩)
    (mN := ⟨by rw [hdl _ (by omega) (by omega)]; exact h.mN.1, h.mN.2⟩)
    (n2 := h.n2)
    (cS := ⟨by rw [hc 2 1 (by omega) (by omega) (by omega)]; exact h.cS.1, h.cS.2⟩)
    (mS := ⟨by rw [hdl _ (by omega) (by omega)]; exact h.mS.1, h.mS.2⟩)
    (pa := fun s hs => by rw [e4, hdl _ (by omega) (by omega)]; exact h.pa s hs)
    (ch := fun d hd' => by rw [e13]; exact h.ch d hd')
    (mh := fun d hd' => by rw [hd]; exact h.mh d hd')
    (ks := fun d hd' i hi => by rw [e15, hd]; exact h.ks d hd' i hi)
    (pl := fun d hd' => by rw [e7]; exact h.pl d hd')
    (ml := fun d hd' => by rw [e7, hd]; exact h.ml d hd')
    (uq := fun d e' h1 h2 => by rw [e7]; exact h.uq d e' h1 h2)
    (up := fun d hd' => by rw [e9, hd]; exact h.up d hd')
    (u1 := fun d hd' => by rw [e9]; exact h.u1 d hd')
    (ho := fun d hd' => by rw [e11, hd]; exact h.ho d hd')
    (h1 := fun d hd' => by rw [e11]; exact h.h1 d hd')
    (hp := fun d hd' => by rw [e11, e7]; exact h.hp d hd')
    (uh := fun d hd' => by rw [e9, e7, e11]; exact h.uh d hd')
    (sc := fun d hd' => by rw [e17, hd]; exact h.sc d hd')
    (ow := fun d hd' => by rw [e19, hd]; exact h.ow d hd')
    (dr := fun d hd' => by rw [e21, hd]; exact h.dr d hd')
    (z := fun d h1 h2 => by rw [e11, e17, e19]; exact h.z d h1 h2)
    (lot := by rw [hdl _ (by omega) (by omega), e1 _ (by omega) (by omega)]; exact h.lot)
    (l1 := by rw [e1 _ (by omega) (by omega)]; exact h.l1)
    (tank := by rw [hdl _ (by omega) (by omega), e1 _ (by omega) (by omega)]; exact h.tank)
    (k1 := by rw [e1 _ (by omega) (by omega)]; exact h.k1)
    (dice := by rw [hdl _ (by omega) (by omega), e1 _ (by omega) (by omega)]; exact h.dice)
    (ref := by rw [hdl _ (by omega) (by omega), e1 _ (by omega) (by omega)]; exact h.ref)
    (tt := h5)
    (tn := ht')
    (rd := by rw [hdl _ (by omega) (by omega), e1 _ (by omega) (by omega)]; exact h.rd)
    (o1 := fun d hd' => by rw [e19]; exact h.o1 d hd')
    (co := by rw [et, e19]; simp only [e4]; exact h.co)
theorem RT_cast {C' D' : Mem} (h : RT C D t) (hc : ∀ a b, 1 ≤ a → a < 24 → C' a b = C a b) (hd : ∀ b, D' 150 b = D 150 b) : RT C' D' t := by
  unfold RT
  rw [hd 2, hd 3, hc 1 4 (by omega) (by omega), hc 1 6 (by omega) (by omega), hc 11 t (by omega) (by omega)]
  exact h
theorem RG_cast {C' D' : Mem} (h : RG C D) (hc : ∀ a b, 1 ≤ a → a < 24 → C' a b = C a b) (hd : ∀ b, D' 150 b = D 150 b) : RG C' D' := by
  obtain ⟨n, sp, t, hl, h1, h2⟩ := h
  exact ⟨n, sp, t, hl, RB_cast h1 hc hd, RT_cast h2 hc hd⟩
/-! a refusal -/
theorem RB_ref (h : RB C D n sp t hl) : RB (wr C 1 9 (ad (C 1 9) 1)) (wr D 150 7 (ad (D 150 7) 1)) n sp t hl := by
  have e (a b : Nat) (q : a ≠ 1 ∨ b ≠ 9) : wr C 1 9 (ad (C 1 9) 1) a b = C a b := by rw [wr_app, if_neg (by omega)]
  have f (b : Nat) (q : b ≠ 7) : wr D 150 7 (ad (D 150 7) 1) 150 b = D 150 b := by rw [wr_app, if_neg (by omega)]
  have g (d w : Nat) : wr D 150 7 (ad (D 150 7) 1) 150 (sl d w) = D 150 (sl d w) := f _ (by unfold sl; omega)
  exact RB.make
    (cN := ⟨by rw [e _ _ (by omega)]; exact h.cN.1, h.cN.2⟩)
    (mN := ⟨by rw [f _ (by omega)]; exact h.mN.1, h.mN.2⟩)
    (n2 := h.n2)
    (cS := ⟨by rw [e _ _ (by omega)]; exact h.cS.1, h.cS.2⟩)
    (mS := ⟨by rw [f _ (by omega)]; exact h.mS.1, h.mS.2⟩)
    (pa := fun s hs => by rw [f _ (by omega)]; exact h.pa s hs)
    (ch := h.ch)
    (mh := fun d hd' => by rw [g]; exact h.mh d hd')
    (ks := fun d hd' i hi => by rw [g]; exact h.ks d hd' i hi)
    (pl := h.pl)
    (ml := fun d hd' => by rw [g]; exact h.ml d hd')
    (uq := h.uq)
    (up := fun d hd' => by rw [g]; exact h.up d hd')
    (u1 := h.u1)
    (ho := fun d hd' => by rw [g]; exact h.ho d hd')
    (h1 := h.h1)
    (hp := h.hp)
    (uh := h.uh)
    (sc := fun d hd' => by rw [g]; exact h.sc d hd')
    (ow := fun d hd' => by rw [g]; exact h.ow d hd')
    (dr := fun d hd' => by rw [g]; exact h.dr d hd')
    (z := h.z)
    (lot := by rw [f _ (by omega)]; exact h.lot)
    (l1 := h.l1)
    (tank := by rw [f _ (by omega)]; exact h.tank)
    (k1 := h.k1)
    (dice := by rw [f _ (by omega)]; exact h.dice)
    (ref := by rw [wr_app, if_pos ⟨rfl, rfl⟩, wr_app, if_pos ⟨rfl, rfl⟩, h.ref])
    (tt := h.tt)
    (tn := h.tn)
    (rd := by rw [f _ (by omega)]; exact h.rd)
    (o1 := h.o1)
    (co := h.co)
theorem RT_ref (h : RT C D t) : RT (wr C 1 9 (ad (C 1 9) 1)) (wr D 150 7 (ad (D 150 7) 1)) t := by
  have f (b : Nat) (q : b ≠ 7) : wr D 150 7 (ad (D 150 7) 1) 150 b = D 150 b := by rw [wr_app, if_neg (by omega)]
  unfold RT
  rw [f 2 (by omega), f 3 (by omega)]
  exact h
/-! a move -/
theorem go1_free {f : Nat → Int} {up : Bool} {p : Nat} (h : p = 0 ∨ occ f t (p : Int) n 0 = false) (hp : p ≤ sp) : go1 f n t sp up p = 0 ∨ occ f t ((go1 f n t sp up p : Nat) : Int) n 0 = false := by
  have hu : ∀ x : Nat, stU f n t x = 0 ∨ occ f t ((stU f n t x : Nat) : Int) n 0 = false := by
    intro x
    induction x with
    | zero => exact Or.inl rfl
    | succ x ih =>
      unfold stU
      by_cases c1 : occ f t ((x + 1 : Nat) : Int) n 0 = true
      · rw [if_pos c1]; exact ih
      · rw [if_neg c1]
        right
        cases hq : occ f t ((x + 1 : Nat) : Int) n 0 with
        | true => exact absurd hq c1
        | false => rfl
  have hd : ∀ m x : Nat, stD f n t p m x = 0 ∨ occ f t ((stD f n t p m x : Nat) : Int) n 0 = false := by
    intro m
    induction m with
    | zero => intro x; exact h
    | succ m ih =>
      intro x
      unfold stD
      by_cases c1 : occ f t (x : Int) n 0 = true
      · rw [if_pos c1]; exact ih _
      · rw [if_neg c1]
        right
        cases hq : occ f t (x : Int) n 0 with
        | true => exact absurd hq c1
        | false => rfl
  unfold go1
  cases up with
  | true => exact hu _
  | false => exact hd _ _
theorem land_free {f : Nat → Int} {up : Bool} : ∀ (k p : Nat), (p = 0 ∨ occ f t (p : Int) n 0 = false) → p ≤ sp → landF f n t sp up k p = 0 ∨ occ f t ((landF f n t sp up k p : Nat) : Int) n 0 = false := by
  intro k
  induction k with
  | zero => intro p h _; exact h
  | succ k ih => intro p h hp; exact ih _ (go1_free h hp) (go1_le hp)
theorem occ_no {f : Nat → Int} {s : Int} (h : occ f t s n 0 = false) : ∀ e, e < n → e ≠ t → f e ≠ s := by
  intro e he hne hs
  have : occ f t s n 0 = true := (occ_iff n 0).2 ⟨e, by omega, by omega, hne, hs⟩
  rw [h] at this
  cases this
end Rel
