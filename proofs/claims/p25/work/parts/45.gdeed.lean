section GDeed
variable {C : Mem} {n sp t : Nat} {hl : Nat → Nat}
theorem nx_mod {x : Nat} (hx : x < n) : (if x + 1 < n then x + 1 else 0) = (x + 1) % n := by
  by_cases h : x + 1 < n
  · rw [if_pos h, Nat.mod_eq_of_lt h]
  · have : x + 1 = n := by omega
    rw [if_neg h, this, Nat.mod_self]
theorem nxO_lt {f : Nat → Int} {d0 : Nat} (hd : d0 < n) : ∀ (m x : Nat), x < n → nxO f n d0 m x < n := by
  intro m
  induction m with
  | zero => intro x _; exact hd
  | succ m ih =>
    intro x hx
    have hy : (x + 1) % n < n := Nat.mod_lt _ (by omega)
    rw [nxO, nx_mod hx]
    by_cases c : f ((x + 1) % n) = 1
    · rw [if_pos c]; exact ih _ hy
    · rw [if_neg c]; exact hy
theorem nxO_out {f : Nat → Int} {d0 : Nat} : ∀ (m x : Nat), x < n → (∃ i, 1 ≤ i ∧ i ≤ m ∧ f ((x + i) % n) ≠ 1) → f (nxO f n d0 m x) ≠ 1 := by
  intro m
  induction m with
  | zero => rintro x _ ⟨i, i1, i2, _⟩; omega
  | succ m ih =>
    rintro x hx ⟨i, i1, i2, i3⟩
    have hy : (x + 1) % n < n := Nat.mod_lt _ (by omega)
    rw [nxO, nx_mod hx]
    by_cases c1 : f ((x + 1) % n) = 1
    · rw [if_pos c1]
      have hi : i ≠ 1 := by rintro rfl; exact i3 c1
      exact ih _ hy ⟨i - 1, by omega, by omega, by
        rw [Nat.mod_add_mod, show x + 1 + (i - 1) = x + i by omega]
        exact i3⟩
    · rw [if_neg c1]; exact c1
theorem nxO_ok {f : Nat → Int} (ht : t < n) (he : ∃ e, e < n ∧ f e ≠ 1) : f (nxO f n t n t) ≠ 1 := by
  obtain ⟨e, e1, e2⟩ := he
  apply nxO_out n t ht
  by_cases h : t < e
  · refine ⟨e - t, by omega, by omega, ?_⟩
    rw [show t + (e - t) = e by omega, Nat.mod_eq_of_lt e1]; exact e2
  · refine ⟨e + n - t, by omega, by omega, ?_⟩
    rw [show t + (e + n - t) = e + n by omega, Nat.add_mod_right, Nat.mod_eq_of_lt e1]; exact e2
theorem erM_fr : frC C (erM C n sp hl) := fun a b x => erM_o (by omega)
theorem tlM_fr : frC C (tlM C n sp t hl) := by
  unfold tlM
  split
  · exact frC_tr (frC_wr (by omega)) erM_fr
  · exact frC_tr (frC_wr (by omega)) (frC_wr (by omega))
theorem CG_turn (h : CB C n sp t hl) (hr : 0 ≤ C 1 4 ∧ C 1 4 < 3) : GC (tlM C n sp t hl) := by
  have h0 := CB_0 h
  have hr0 : wr C 1 6 0 1 4 = C 1 4 := by rw [wr_app, if_neg (by omega)]
  unfold tlM
  by_cases c : C 1 7 = 0 ∨ sumA (C 11) 4 = C 5 8
  · rw [if_pos c]
    have ht1 : ad (C 1 4) 1 = C 1 4 + 1 := ad_eq (by omega) (by omega)
    have ha := arg_lt (n := n) (f := wr C 1 6 0 7) (n - 1) 1 0 (by have := h.n2; omega) (by have := h.n2; omega) (by omega)
    refine ⟨n, _, _, _, CB_end h0 (by rw [hr0]; exact hr), ?_⟩
    have f4 : erM (wr C 1 6 0) n sp hl 1 4 = C 1 4 + 1 := by rw [erM_1, if_pos rfl, hr0, ht1]
    have f6 : erM (wr C 1 6 0) n sp hl 1 6 = 0 := by rw [erM_1, if_neg (by omega), if_neg (by omega), if_neg (by omega), wr_app, if_pos ⟨rfl, rfl⟩]
    by_cases c3 : C 1 4 + 1 = 3
    · right
      exact ⟨by rw [f4]; exact c3, f6⟩
    · left
      exact ⟨by rw [f4]; omega, by rw [f4]; omega, Or.inr ⟨f6, erM_0 (by omega) (by have := h.cN.2; omega)⟩⟩
  · rw [if_neg c]
    have e11 : (wr C 1 6 0 11 : Nat → Int) = C 11 := funext fun b => by rw [wr_app, if_neg (by omega)]
    have hlt := nxO_lt (f := C 11) h.tn n t h.tn
    have hne : ¬ ∀ d, d < n → C 11 d = 1 := fun q => c (Or.inr ((home_eq h).2 q))
    have hex : ∃ e, e < n ∧ C 11 e ≠ 1 := by
      apply Classical.byContradiction
      intro q
      exact hne (fun d hd => Classical.byContradiction fun z => q ⟨d, hd, z⟩)
    have hout := nxO_ok (f := C 11) h.tn hex
    refine ⟨n, sp, nxO (C 11) n t n t, hl, CB_cast h ?_ ?_ hlt, ?_⟩
    · intro o b _ q
      rw [wr_app, if_neg (by omega), wr_app, if_neg (by omega)]
    · rw [wr_app, if_pos ⟨rfl, rfl⟩]
    · left
      refine ⟨?_, ?_, ?_⟩
      · rw [wr_app, if_neg (by omega), wr_app, if_neg (by omega)]; exact hr.1
      · rw [wr_app, if_neg (by omega), wr_app, if_neg (by omega)]; exact hr.2
      · right
        refine ⟨by rw [wr_app, if_neg (by omega), wr_app, if_pos ⟨rfl, rfl⟩], ?_⟩
        rw [wr_app, if_neg (by omega), wr_app, if_neg (by omega)]
        rcases h.h1 _ hlt with q | q
        · exact q
        · exact absurd q hout
theorem rsD_over {h q : Nat} {lt st : Int} (hr : C 1 4 = 3) : rsD C h q lt st = 1 := by
  unfold rsD
  rw [if_pos (by omega)]
theorem rsD_pos (C : Mem) (h q : Nat) (lt st : Int) : 0 ≤ rsD C h q lt st ∧ rsD C h q lt st ≤ 8 := by
  unfold rsD
  split; omega
  split; omega
  split; omega
  split; omega
  split
  · split; omega; split <;> omega
  · split; omega; split <;> omega
end GDeed
