section Start
def Z0 : Mem := fun _ _ => 0
/-- the memory behind the constructor -/
def M0 : Mem := fun a b => if a < 24 then deM Z0 2 1 a b else 0
def P0 : PMem := fun j => [49, 72, 95, 118].getD j 0
def eqV (a b : AV) : Bool := match a, b with
  | .inl x, .inl y => decide (x = y)
  | .inr (.inl none), .inr (.inl none) => true
  | .inr (.inl (some x)), .inr (.inl (some y)) => decide (x = y)
  | .inr (.inr x), .inr (.inr y) => decide (x = y)
  | _, _ => false
theorem eqV_ok {a b : AV} (h : eqV a b = true) : a = b := by
  unfold eqV at h
  split at h
  · rw [of_decide_eq_true h]
  · rfl
  · rw [of_decide_eq_true h]
  · rw [of_decide_eq_true h]
  · cases h
def eqL : List AV → List AV → Bool
  | [], [] => true
  | a :: l, b :: k => eqV a b && eqL l k
  | _, _ => false
theorem eqL_ok : ∀ {l k : List AV}, eqL l k = true → l = k := by
  intro l
  induction l with
  | nil =>
    intro k h
    cases k with
    | nil => rfl
    | cons b k => cases h
  | cons a l ih =>
    intro k h
    cases k with
    | nil => cases h
    | cons b k =>
      have h' : (eqV a b && eqL l k) = true := h
      rw [Bool.and_eq_true] at h'
      rw [eqV_ok h'.1, ih h'.2]
def eqH : AH → AH → Bool
  | [], [] => true
  | a :: l, b :: k => decide (a.1 = b.1) && eqL a.2 b.2 && eqH l k
  | _, _ => false
theorem eqH_ok : ∀ {l k : AH}, eqH l k = true → l = k := by
  intro l
  induction l with
  | nil =>
    intro k h
    cases k with
    | nil => rfl
    | cons b k => cases h
  | cons a l ih =>
    intro k h
    cases k with
    | nil => cases h
    | cons b k =>
      have h' : (decide (a.1 = b.1) && eqL a.2 b.2 && eqH l k) = true := h
      rw [Bool.and_eq_true, Bool.and_eq_true] at h'
      have e1 := of_decide_eq_true h'.1.1
      have e2 := eqL_ok h'.1.2
      have e3 : a = b := Prod.ext e1 e2
      rw [e3, ih h'.2]
def resOk (o : Option (Option AV × AH)) (h : AH) : Bool := match o with
  | some (none, h') => eqH h' h
  | _ => false
theorem resOk_ok {o : Option (Option AV × AH)} {h : AH} (q : resOk o h = true) : o = some (none, h) := by
  unfold resOk at q
  split at q
  · rw [eqH_ok q]
  · cases q
set_option maxRecDepth 1000000 in
theorem run86B : resOk (arun 4000 86 0 (loc0 86 [Rf 0]) [] [(7, dflO 7)]) (Hp M0 P0) = true := by decide +kernel
theorem run86 : arun 4000 86 0 (loc0 86 [Rf 0]) [] [(7, dflO 7)] = some (none, Hp M0 P0) := resOk_ok run86B
theorem M0_z {a b : Nat} (h : 24 ≤ a) : M0 a b = 0 := by unfold M0; rw [if_neg (by omega)]
theorem M0_c {a b : Nat} (h : a < 24) : M0 a b = deM Z0 ((2 : Nat) : Int) 1 a b := by unfold M0; rw [if_pos h]; rfl
theorem start_CB : CB M0 2 16 0 (fun _ => 0) ∧ CT M0 0 := by
  have hB : CB (deM Z0 ((2 : Nat) : Int) 1) 2 16 0 (fun _ => 0) := CB_begin (C := Z0) (n := 2) (by omega) (by omega) (by omega) (by omega)
  obtain ⟨d3, d4, d5, d6, d7, d8, d9⟩ := de_1 (C := Z0) (d := ((2 : Nat) : Int)) (x := 1)
  have hT : CT (deM Z0 ((2 : Nat) : Int) 1) 0 := Or.inl ⟨by omega, by omega, Or.inr ⟨d6, de_0 (by omega) (by omega)⟩⟩
  exact ⟨CB_same hB (fun a b x y => M0_c y), CT_same hT (fun a b x y => M0_c y)⟩
theorem RW_start : RW M0 P0 := by
  refine ⟨⟨2, 16, 0, _, start_CB.1, start_CB.2⟩, ⟨0, ?_, by omega, ?_, ?_, fun j hj => by omega⟩, Or.inl ?_, ⟨0, by omega, ?_⟩⟩
  · rw [M0_z (by omega)]; rfl
  · intro j hj
    have : j = 0 ∨ j = 1 ∨ j = 2 ∨ j = 3 := by omega
    rcases this with rfl | rfl | rfl | rfl
    · exact Or.inl rfl
    · exact Or.inr (Or.inl rfl)
    · exact Or.inr (Or.inr (Or.inl rfl))
    · exact Or.inr (Or.inr (Or.inr rfl))
  · intro i j hi hj h
    have hall : ∀ i, i < 4 → ∀ j, j < 4 → P0 i = P0 j → i = j := by decide
    exact hall i hi j hj h
  · rw [M0_c (by omega), de_o (by omega)]; rfl
  · rw [M0_z (by omega)]; rfl
theorem M0_05 : M0 0 5 = 0 := by rw [M0_c (by omega), de_o (by omega)]; rfl
theorem M0_47 : M0 47 1 = 0 := M0_z (by omega)
end Start
