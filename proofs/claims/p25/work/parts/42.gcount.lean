section GCount
def vS (S : List Int) (i j : Nat) : Int := (if 3 * i < j then S.getD (3 * i) 0 + 1 else 0) + (if 3 * i + 1 < j then (S.getD (3 * i + 1) 0 + 1) * 32 else 0) + (if 3 * i + 2 < j then (S.getD (3 * i + 2) 0 + 1) * 1024 else 0)
variable {C : Mem} {n sp t : Nat} {hl : Nat → Nat}
theorem sumN_add {f g : Nat → Int} : ∀ n : Nat, sumN (fun i => f i + g i) n = sumN f n + sumN g n := by
  intro n
  induction n with
  | zero => rfl
  | succ n ih => simp only [sumN]; rw [ih]; omega
theorem sumN_0 {f : Nat → Int} : ∀ n : Nat, (∀ i, i < n → f i = 0) → sumN f n = 0 := by
  intro n
  induction n with
  | zero => intro _; rfl
  | succ n ih => intro h; simp only [sumN]; rw [ih (fun i hi => h i (by omega)), h n (by omega)]; rfl
theorem sumN_le {f g : Nat → Int} : ∀ n : Nat, (∀ i, i < n → f i ≤ g i) → sumN f n ≤ sumN g n := by
  intro n
  induction n with
  | zero => intro _; exact Int.le_refl _
  | succ n ih => intro h; simp only [sumN]; have := ih (fun i hi => h i (by omega)); have := h n (by omega); omega
theorem sumN_nn {f : Nat → Int} : ∀ n : Nat, (∀ i, i < n → 0 ≤ f i) → 0 ≤ sumN f n := by
  intro n
  induction n with
  | zero => intro _; exact Int.le_refl _
  | succ n ih => intro h; simp only [sumN]; have := ih (fun i hi => h i (by omega)); have := h n (by omega); omega
theorem sumN_one {f : Nat → Int} : ∀ n : Nat, (∀ i, i < n → 0 ≤ f i) → ∀ k, k < n → f k ≤ sumN f n := by
  intro n
  induction n with
  | zero => intro _ k hk; omega
  | succ n ih =>
    intro h k hk
    have h1 := sumN_nn n (fun i hi => h i (by omega))
    have h2 := h n (by omega)
    simp only [sumN]
    by_cases e : k = n
    · subst e; omega
    · have := ih (fun i hi => h i (by omega)) k (by omega); omega
/-! lengths of what sinks -/
theorem dvp_len {d : Nat} : ∀ k : Nat, (∀ i, i < k → 0 ≤ C 15 (6 * d + i)) → ((dvp C d k).length : Int) = sumN (fun i => pcnt (C 15 (6 * d + i))) k := by
  intro k
  induction k with
  | zero => intro _; rfl
  | succ k ih =>
    intro h
    have e : (stkL (C 15 (6 * d + k))).length = (pcnt (C 15 (6 * d + k))).toNat := stp_len _ _
    have h0 : 0 ≤ pcnt (C 15 (6 * d + k)) := by have := h k (by omega); unfold pcnt; omega
    rw [dvp_succ, List.length_append, e]
    simp only [sumN]
    rw [← ih (fun i hi => h i (by omega))]
    omega
theorem plp_len {p : Nat} : ∀ k : Nat, ((plp C hl p k).length : Int) = sumN (fun d => if C 7 d = (p : Int) ∧ ¬ C 11 d = 1 then ((dvp C d (hl d)).length : Int) else 0) k := by
  intro k
  induction k with
  | zero => rfl
  | succ k ih =>
    rw [plp_succ, List.length_append]
    simp only [sumN]
    rw [← ih]
    by_cases h : C 7 k = (p : Int) ∧ ¬ C 11 k = 1
    · rw [if_pos h, if_pos h]; omega
    · rw [if_neg h, if_neg h]; simp
theorem skF_len (hp : ∀ d, d < n → 0 ≤ C 7 d) : ∀ p : Nat, ((skF C hl n p).length : Int) = sumN (fun d => if C 7 d ≤ (p : Int) ∧ ¬ C 11 d = 1 then ((dvp C d (hl d)).length : Int) else 0) n := by
  intro p
  induction p with
  | zero =>
    show ((plp C hl 0 n).length : Int) = _
    rw [plp_len]
    apply sumN_congr
    intro d hd
    have := hp d hd
    by_cases h : C 7 d = ((0 : Nat) : Int)
    · by_cases h2 : C 11 d = 1
      · rw [if_neg (fun q => q.2 h2), if_neg (fun q => q.2 h2)]
      · rw [if_pos ⟨h, h2⟩, if_pos ⟨by omega, h2⟩]
    · rw [if_neg (fun q => h q.1), if_neg (fun q => h (by omega))]
  | succ p ih =>
    rw [skF, List.length_append]
    push_cast
    rw [plp_len, ih, ← sumN_add]
    apply sumN_congr
    intro d hd
    have := hp d hd
    by_cases h2 : C 11 d = 1
    · rw [if_neg (fun q => q.2 h2), if_neg (fun q => q.2 h2), if_neg (fun q => q.2 h2)]; rfl
    · by_cases h : C 7 d = ((p + 1 : Nat) : Int)
      · rw [if_pos ⟨h, h2⟩, if_neg (fun q => by omega), if_pos ⟨by omega, h2⟩]; omega
      · by_cases h3 : C 7 d ≤ (p : Int)
        · rw [if_neg (fun q => h q.1), if_pos ⟨h3, h2⟩, if_pos ⟨by omega, h2⟩]; omega
        · rw [if_neg (fun q => h q.1), if_neg (fun q => h3 q.1), if_neg (fun q => by omega)]; rfl
theorem sk_total (hpl : ∀ d, d < n → ∃ q : Nat, q ≤ sp ∧ C 7 d = (q : Int)) (h15 : ∀ d, d < n → ∀ i, i < hl d → 0 ≤ C 15 (6 * d + i)) : ((skF C hl n sp).length : Int) = sumN (fun d => if C 11 d = 1 then 0 else tr1 C hl d) n := by
  rw [skF_len (fun d hd => by obtain ⟨q, _, h⟩ := hpl d hd; omega)]
  apply sumN_congr
  intro d hd
  obtain ⟨q, h1, h2⟩ := hpl d hd
  by_cases h : C 11 d = 1
  · rw [if_neg (fun q => q.2 h), if_pos h]
  · rw [if_pos ⟨by omega, h⟩, if_neg h, dvp_len (hl d) (h15 d hd)]; rfl
/-! stacks of three -/
theorem topP_0 {v : Int} : topP 0 v = 4096 + v := by
  unfold topP pcnt
  rw [if_pos (by decide)]
  omega
theorem topP_1 {v w : Int} (hv : 0 ≤ v ∧ v ≤ 15) : topP (4096 + v) w = 8192 + v + 16 * w := by
  have e : pcnt (4096 + v) = 1 := by unfold pcnt; omega
  unfold topP
  rw [e, if_neg (by omega), if_pos rfl]
  omega
theorem topP_2 {v w x : Int} (hv : 0 ≤ v ∧ v ≤ 15) (hw : 0 ≤ w ∧ w ≤ 15) : topP (8192 + v + 16 * w) x = 12288 + v + 16 * w + 256 * x := by
  have e : pcnt (8192 + v + 16 * w) = 2 := by unfold pcnt; omega
  unfold topP
  rw [e, if_neg (by omega), if_neg (by omega)]
  omega
def sumL (L : List Int) : Int := sumN (fun i => pcnt (L.getD i 0)) L.length
theorem sumL_cons (a : Int) (L : List Int) : sumL (a :: L) = pcnt a + sumL L := by
  have : ∀ k : Nat, sumN (fun i => pcnt ((a :: L).getD i 0)) (k + 1) = pcnt a + sumN (fun i => pcnt (L.getD i 0)) k := by
    intro k
    induction k with
    | zero => simp [sumN]
    | succ k ih =>
      rw [sumN, ih]
      have : (a :: L).getD (k + 1) 0 = L.getD k 0 := by simp [List.getD_eq_getElem?_getD]
      rw [this]
      simp only [sumN]
      omega
  exact this L.length
theorem sumL_snoc (a : Int) (L : List Int) : sumL (L ++ [a]) = sumL L + pcnt a := by
  induction L with
  | nil => rw [List.nil_append, sumL_cons]; simp [sumL, sumN]
  | cons b L ih => rw [List.cons_append, sumL_cons, sumL_cons, ih]; omega
theorem chk_spec : ∀ (k : Nat) (S : List Int), S.length ≤ k → vOk S → (chk 0 S).length = (S.length + 2) / 3 ∧ (∀ i, i < (chk 0 S).length → encS ((chk 0 S).getD i 0) (vS S i S.length)) ∧ sumL (chk 0 S) = S.length := by
  intro k
  induction k using Nat.strongRecOn with
  | ind k ih =>
    intro S hk hv
    match S, hk, hv with
    | [], _, _ => exact ⟨rfl, fun i hi => by simp [chk] at hi, rfl⟩
    | [v], _, hv =>
      have h1 := hv v (by simp)
      have e : chk 0 [v] = [4096 + v] := by
        rw [chk, if_pos (Or.inr rfl), topP_0]; rfl
      rw [e]
      refine ⟨by simp, ?_, ?_⟩
      · intro i hi
        have : i = 0 := by simpa using hi
        subst this
        exact ⟨v, 0, 0, by omega, Or.inl ⟨by simp, by simp [vS], rfl, rfl⟩⟩
      · rw [sumL_cons]
        have : pcnt (4096 + v) = 1 := by unfold pcnt; omega
        rw [this]; rfl
    | [v, w], _, hv =>
      have h1 := hv v (by simp)
      have h2 := hv w (by simp)
      have e : chk 0 [v, w] = [8192 + v + 16 * w] := by
        have p1 : ¬ (pcnt (topP 0 v) = 3 ∨ [w] = []) := by
          rw [topP_0]
          rintro (h | h)
          · unfold pcnt at h; omega
          · cases h
        rw [chk, if_neg p1, chk, if_pos (Or.inr rfl), topP_0, topP_1 h1]; rfl
      rw [e]
      refine ⟨by simp, ?_, ?_⟩
      · intro i hi
        have : i = 0 := by simpa using hi
        subst this
        exact ⟨v, w, 0, by omega, Or.inr (Or.inl ⟨by simp, by simp [vS]; omega, rfl⟩)⟩
      · rw [sumL_cons]
        have : pcnt (8192 + v + 16 * w) = 2 := by unfold pcnt; omega
        rw [this]; rfl
    | v :: w :: x :: rest, hk, hv =>
      have h1 := hv v (by simp)
      have h2 := hv w (by simp)
      have h3 := hv x (by simp)
      have e : chk 0 (v :: w :: x :: rest) = (12288 + v + 16 * w + 256 * x) :: chk 0 rest := by
        have p1 : ¬ (pcnt (topP 0 v) = 3 ∨ w :: x :: rest = []) := by
          rw [topP_0]
          rintro (h | h)
          · unfold pcnt at h; omega
          · cases h
        have p2 : ¬ (pcnt (topP (4096 + v) w) = 3 ∨ x :: rest = []) := by
          rw [topP_1 h1]
          rintro (h | h)
          · unfold pcnt at h; omega
          · cases h
        have p3 : pcnt (topP (8192 + v + 16 * w) x) = 3 := by
          rw [topP_2 h1 h2]
          unfold pcnt; omega
        rw [chk, if_neg p1, topP_0, chk, if_neg p2, topP_1 h1, chk, if_pos (Or.inl p3), topP_2 h1 h2]
      have hr : vOk rest := fun y hy => hv y (by simp [hy])
      have hlen : (v :: w :: x :: rest).length = rest.length + 3 := rfl
      obtain ⟨r1, r2, r3⟩ := ih rest.length (by rw [hlen] at hk; omega) rest (Nat.le_refl _) hr
      rw [e, hlen]
      refine ⟨?_, ?_, ?_⟩
      · rw [List.length_cons, r1]; omega
      · intro i hi
        cases i with
        | zero =>
          refine ⟨v, w, x, by omega, Or.inr (Or.inr ⟨by simp, ?_⟩)⟩
          unfold vS
          rw [if_pos (by omega), if_pos (by omega), if_pos (by omega)]
          simp
          omega
        | succ i =>
          have h4 : i < (chk 0 rest).length := by rw [List.length_cons] at hi; omega
          have e2 : vS (v :: w :: x :: rest) (i + 1) (rest.length + 3) = vS rest i rest.length := by
            unfold vS
            have g (j : Nat) : (v :: w :: x :: rest).getD (j + 3) 0 = rest.getD j 0 := by simp [List.getD_eq_getElem?_getD]
            rw [show 3 * (i + 1) = 3 * i + 3 by omega, show 3 * i + 3 + 1 = 3 * i + 1 + 3 by omega, show 3 * i + 3 + 2 = 3 * i + 2 + 3 by omega, g, g, g]
            have i1 : (3 * i + 3 < rest.length + 3) = (3 * i < rest.length) := by apply propext; omega
            have i2 : (3 * i + 1 + 3 < rest.length + 3) = (3 * i + 1 < rest.length) := by apply propext; omega
            have i3 : (3 * i + 2 + 3 < rest.length + 3) = (3 * i + 2 < rest.length) := by apply propext; omega
            simp only [i1, i2, i3]
          have e3 : ((12288 + v + 16 * w + 256 * x) :: chk 0 rest).getD (i + 1) 0 = (chk 0 rest).getD i 0 := by simp [List.getD_eq_getElem?_getD]
          rw [e2, e3]
          exact r2 i h4
      · have : pcnt (12288 + v + 16 * w + 256 * x) = 3 := by unfold pcnt; omega
        rw [sumL_cons, r3, this]
        push_cast
        omega
/-! what is left of the path -/
theorem nb_spec (hP : ∀ s, s < sp → C 4 (s + 1) = 0 ∨ (4096 ≤ C 4 (s + 1) ∧ C 4 (s + 1) < 16384)) : ∀ k : Nat, k ≤ sp → (∀ i, i < (nbL C k).length → 4096 ≤ (nbL C k).getD i 0 ∧ (nbL C k).getD i 0 < 16384) ∧ sumL (nbL C k) = sumN (fun s => pcnt (C 4 (s + 1))) k ∧ ((nbL C k).length : Int) ≤ sumN (fun s => pcnt (C 4 (s + 1))) k := by
  intro k
  induction k with
  | zero => intro _; exact ⟨fun i hi => by simp [nbL] at hi, rfl, Int.le_refl _⟩
  | succ k ih =>
    intro hk
    obtain ⟨a2, a3, a4⟩ := ih (by omega)
    have he := hP k (by omega)
    rw [nbL_succ]
    by_cases c1 : C 4 (k + 1) = 0
    · have e0 : pcnt (C 4 (k + 1)) = 0 := by rw [c1]; rfl
      rw [if_pos c1, List.append_nil]
      refine ⟨a2, ?_, ?_⟩
      · simp only [sumN]; rw [a3, e0, Int.add_zero]
      · simp only [sumN]; rw [e0, Int.add_zero]; exact a4
    · have hb : 4096 ≤ C 4 (k + 1) ∧ C 4 (k + 1) < 16384 := by
        rcases he with x | x
        · exact absurd x c1
        · exact x
      have e1 : 1 ≤ pcnt (C 4 (k + 1)) := by unfold pcnt; omega
      rw [if_neg c1]
      refine ⟨?_, ?_, ?_⟩
      · intro i hi
        rw [List.length_append, List.length_singleton] at hi
        by_cases c3 : i < (nbL C k).length
        · have g1 : (nbL C k ++ [C 4 (k + 1)]).getD i 0 = (nbL C k).getD i 0 := by simp [List.getD_eq_getElem?_getD, List.getElem?_append_left c3]
          rw [g1]
          exact a2 i c3
        · have c4 : i = (nbL C k).length := by omega
          have g1 : (nbL C k ++ [C 4 (k + 1)]).getD i 0 = C 4 (k + 1) := by rw [c4]; simp [List.getD_eq_getElem?_getD]
          rw [g1]
          exact hb
      · rw [sumL_snoc, a3]; rfl
      · simp only [sumN]; rw [List.length_append, List.length_singleton]; push_cast; omega
end GCount
