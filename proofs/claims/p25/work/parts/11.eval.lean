/-! ===== runs without fuel: a value, by equations ===== -/
abbrev AOne : Type := ASt ⊕ ((Nat × List AV × Bool × List AV) ⊕ Option AV)
/-- what one step asks: to go on, a call, an end -/
def aone (k pc : Nat) (ls st : List AV) (h : AH) : Option AOne := match cd k pc with
  | none => none
  | some e =>
    match ast (isI k) e ls st h with
    | some t => some (.inl t)
    | none => match e.2.1 with
      | .invokevirtual _ => match popA (nar e.2.2.2.1) st with
        | some (as, rest) => if callOk k e.2.2.2.1 rest && clsOk h e.2.2.2.1 as[0]? && noDb as && !(stM e.2.2.2.1) && !(isI e.2.2.2.1) then some (.inr (.inl (e.2.2.2.1, as, true, rest))) else none
        | none => none
      | .invokestatic _ => if 900 ≤ e.2.2.2.1 then (match mathB e.2.2.2.1 st with
          | some (v, rest) => if rest.length ≤ 4 ∧ 1 ≤ dpM k ∧ 21 ≤ lcM k then some (.inl (pc + 3, ls, v :: rest, h)) else none
          | none => none) else
        match popA (nar e.2.2.2.1) st with
        | some (as, rest) => if callOk k e.2.2.2.1 rest && noDb as && stM e.2.2.2.1 then some (.inr (.inl (e.2.2.2.1, as, true, rest))) else none
        | none => none
      | .invokespecial _ => if e.2.2.2.1 = 999 then
          match st with
          | .inr (.inl (some _)) :: rest => if rest.length ≤ 4 ∧ 1 ≤ dpM k ∧ 20 ≤ lcM k then some (.inl (pc + 3, ls, rest, h)) else none
          | _ => none
        else match popA (nar e.2.2.2.1) st with
        | some (as, rest) => if callOk k e.2.2.2.1 rest && clsOk h e.2.2.2.1 as[0]? && noDb as && !(stM e.2.2.2.1) && isI e.2.2.2.1 && isI k then some (.inr (.inl (e.2.2.2.1, as, false, rest))) else none
        | none => none
      | i => match retOk k st i with
        | some r => some (.inr (.inr r))
        | none => none
abbrev ARec : Type := Nat → Nat → List AV → List AV → AH → Option (Option AV × AH)
def aafter (f : ARec) (k pc : Nat) (ls : List AV) (h : AH) (o : Option AOne) : Option (Option AV × AH) := match o with
  | none => none
  | some (.inl t) => f k t.1 t.2.1 t.2.2.1 t.2.2.2
  | some (.inr (.inl (k', as, true, rest))) => match f k' 0 (loc0 k' as) [] h with
    | some (r, h') => if h'.length = h.length then f k (pc + 3) ls (r.toList ++ rest) h' else none
    | none => none
  | some (.inr (.inl (k', as, false, rest))) => match f k' 0 (loc0 k' as) [] h with
    | some (r, h') => if r.isNone then f k (pc + 3) ls rest h' else none
    | none => none
  | some (.inr (.inr r)) => some (r, h)
theorem arun_succ (n k pc : Nat) (ls st : List AV) (h : AH) : arun (n + 1) k pc ls st h = aafter (arun n) k pc ls h (aone k pc ls st h) := by
  conv => lhs; unfold arun
  unfold aone
  cases hE : cd k pc with
  | none => rfl
  | some e =>
    obtain ⟨pc0, ins, len, a, b, p⟩ := e
    simp only []
    cases hs : ast (isI k) (pc0, ins, len, a, b, p) ls st h with
    | some t => rfl
    | none =>
      simp only []
      cases ins
      case invokevirtual i =>
        simp only []
        cases popA (nar a) st with
        | none => rfl
        | some q =>
          obtain ⟨as, rest⟩ := q
          simp only []
          generalize (callOk k a rest && clsOk h a as[0]? && noDb as && !(stM a) && !(isI a)) = b0
          cases b0 <;> rfl
      case invokestatic i =>
        simp only []
        by_cases h9 : 900 ≤ a
        · rw [if_pos h9, if_pos h9]
          cases mathB a st with
          | none => rfl
          | some q =>
            obtain ⟨v, rest⟩ := q
            simp only []
            by_cases hc : rest.length ≤ 4 ∧ 1 ≤ dpM k ∧ 21 ≤ lcM k
            · rw [if_pos hc, if_pos hc]; rfl
            · rw [if_neg hc, if_neg hc]; rfl
        · rw [if_neg h9, if_neg h9]
          cases popA (nar a) st with
          | none => rfl
          | some q =>
            obtain ⟨as, rest⟩ := q
            simp only []
            generalize (callOk k a rest && noDb as && stM a) = b0
            cases b0 <;> rfl
      case invokespecial i =>
        simp only []
        by_cases h9 : a = 999
        · rw [if_pos h9, if_pos h9]
          clear hs
          rcases st with _ | ⟨v, rest⟩
          · rfl
          rcases v with z | r | x
          · rfl
          · cases r with
            | none => rfl
            | some i0 =>
              simp only []
              by_cases hc : rest.length ≤ 4 ∧ 1 ≤ dpM k ∧ 20 ≤ lcM k
              · rw [if_pos hc, if_pos hc]; rfl
              · rw [if_neg hc, if_neg hc]; rfl
          · rfl
        · rw [if_neg h9, if_neg h9]
          cases popA (nar a) st with
          | none => rfl
          | some q =>
            obtain ⟨as, rest⟩ := q
            simp only []
            generalize (callOk k a rest && clsOk h a as[0]? && noDb as && !(stM a) && isI a && isI k) = b0
            cases b0 <;> rfl
      all_goals (simp only []; generalize retOk k st _ = o0; cases o0 <;> rfl)
theorem aafter_mono {f g : ARec} (hfg : ∀ k pc ls st h x, f k pc ls st h = some x → g k pc ls st h = some x) {k pc : Nat} {ls : List AV} {h : AH} {o : Option AOne} {x : Option AV × AH} (hx : aafter f k pc ls h o = some x) : aafter g k pc ls h o = some x := by
  unfold aafter at hx ⊢
  split at hx
  · cases hx
  · exact hfg _ _ _ _ _ _ hx
  · split at hx
    · rename_i r h' hc
      rw [hfg _ _ _ _ _ _ hc]
      simp only []
      split at hx
      · rename_i hl
        rw [if_pos hl]
        exact hfg _ _ _ _ _ _ hx
      · cases hx
    · cases hx
  · split at hx
    · rename_i r h' hc
      rw [hfg _ _ _ _ _ _ hc]
      simp only []
      split at hx
      · rename_i hl
        rw [if_pos hl]
        exact hfg _ _ _ _ _ _ hx
      · cases hx
    · cases hx
  · exact hx
theorem arun_mono1 (n : Nat) : ∀ k pc ls st h x, arun n k pc ls st h = some x → arun (n + 1) k pc ls st h = some x := by
  induction n with
  | zero => intro k pc ls st h x hx; exact absurd hx (by simp [arun])
  | succ n ih =>
    intro k pc ls st h x hx
    rw [arun_succ] at hx ⊢
    exact aafter_mono ih hx
theorem arun_mono {n m : Nat} (hnm : n ≤ m) : ∀ k pc ls st h x, arun n k pc ls st h = some x → arun m k pc ls st h = some x := by
  induction hnm with
  | refl => intro _ _ _ _ _ _ h; exact h
  | step _ ih => intro k pc ls st h x hx; exact arun_mono1 _ _ _ _ _ _ _ (ih k pc ls st h x hx)
theorem arun_det {n m k pc : Nat} {ls st : List AV} {h : AH} {x y : Option AV × AH} (hx : arun n k pc ls st h = some x) (hy : arun m k pc ls st h = some y) : x = y := by
  have h1 := arun_mono (Nat.le_max_left n m) k pc ls st h x hx
  have h2 := arun_mono (Nat.le_max_right n m) k pc ls st h y hy
  exact Option.some.inj (h1.symm.trans h2)
noncomputable def evL : ARec := fun k pc ls st h => @dite _ (∃ x n, arun n k pc ls st h = some x) (Classical.propDecidable _) (fun hx => some hx.choose) (fun _ => none)
theorem evL_iff {k pc : Nat} {ls st : List AV} {h : AH} {x : Option AV × AH} : evL k pc ls st h = some x ↔ ∃ n, arun n k pc ls st h = some x := by
  unfold evL
  constructor
  · intro q
    split at q
    · rename_i hx
      have h1 := hx.choose_spec
      rw [Option.some.inj q] at h1
      exact h1
    · cases q
  · rintro ⟨n, hn⟩
    have hx : ∃ x n, arun n k pc ls st h = some x := ⟨x, n, hn⟩
    rw [dif_pos hx]
    obtain ⟨m, hm⟩ := hx.choose_spec
    rw [arun_det hm hn]
theorem evL_eq (k pc : Nat) (ls st : List AV) (h : AH) : evL k pc ls st h = aafter evL k pc ls h (aone k pc ls st h) := by
  apply Option.ext
  intro x
  constructor
  · intro hx
    obtain ⟨n, hn⟩ := evL_iff.mp hx
    cases n with
    | zero => exact absurd hn (by simp [arun])
    | succ n =>
      rw [arun_succ] at hn
      exact aafter_mono (fun k pc ls st h x q => evL_iff.mpr ⟨n, q⟩) hn
  · intro hx
    rw [evL_iff]
    suffices ∃ n, aafter (arun n) k pc ls h (aone k pc ls st h) = some x by
      obtain ⟨n, hn⟩ := this
      exact ⟨n + 1, by rw [arun_succ]; exact hn⟩
    generalize aone k pc ls st h = o at hx
    unfold aafter at hx
    split at hx
    · cases hx
    · exact evL_iff.mp hx
    · split at hx
      · rename_i r h' hc
        split at hx
        · rename_i hl
          obtain ⟨n1, q1⟩ := evL_iff.mp hc
          obtain ⟨n2, q2⟩ := evL_iff.mp hx
          refine ⟨max n1 n2, ?_⟩
          unfold aafter
          simp only [arun_mono (Nat.le_max_left n1 n2) _ _ _ _ _ _ q1, hl, if_true]
          exact arun_mono (Nat.le_max_right n1 n2) _ _ _ _ _ _ q2
        · cases hx
      · cases hx
    · split at hx
      · rename_i r h' hc
        split at hx
        · rename_i hl
          obtain ⟨n1, q1⟩ := evL_iff.mp hc
          obtain ⟨n2, q2⟩ := evL_iff.mp hx
          refine ⟨max n1 n2, ?_⟩
          unfold aafter
          simp only [arun_mono (Nat.le_max_left n1 n2) _ _ _ _ _ _ q1, hl, if_true]
          exact arun_mono (Nat.le_max_right n1 n2) _ _ _ _ _ _ q2
        · cases hx
      · cases hx
    · exact ⟨0, hx⟩
noncomputable def evM (k : Nat) (av : List AV) (h : AH) : Option (Option AV × AH) := evL k 0 (loc0 k av) [] h
/-- a step that goes on -/
theorem ev_go {k pc : Nat} {ls st : List AV} {h : AH} {e : AE} {pc' : Nat} {ls' st' : List AV} {h' : AH} (hc : cd k pc = some e) (hs : ast (isI k) e ls st h = some (pc', ls', st', h')) : evL k pc ls st h = evL k pc' ls' st' h' := by
  rw [evL_eq]
  unfold aone
  rw [hc]
  simp only [hs]
  rfl
