/-! ===== what the abstract machine's heap is in the machine ===== -/
theorem i32_toInt {z : Int} (h : inr z) : (i32 z).toInt = z := Int32.toInt_ofInt_of_le (by have := h.1; omega) (by have := h.2; omega)
theorem i32_of (x : Int32) : i32 x.toInt = x := Int32.ofInt_toInt x
theorem inr_toInt (x : Int32) : inr x.toInt := ⟨by have := x.le_toInt; omega, by have := x.toInt_lt; omega⟩
theorem i32_clamp {z : Int} (h : inr z) : (i32 z).toNatClampNeg = z.toNat := Int32.toNatClampNeg_ofInt_of_le (by have := h.1; omega) (by have := h.2; omega)
theorem i32_lt {x y : Int} (hx : inr x) (hy : inr y) : i32 x < i32 y ↔ x < y := by rw [Int32.lt_iff_toInt_lt, i32_toInt hx, i32_toInt hy]
theorem i32_le {x y : Int} (hx : inr x) (hy : inr y) : i32 x ≤ i32 y ↔ x ≤ y := by rw [Int32.le_iff_toInt_le, i32_toInt hx, i32_toInt hy]
theorem i32_eq {x y : Int} (hx : inr x) (hy : inr y) : i32 x = i32 y ↔ x = y := by rw [← Int32.toInt_inj, i32_toInt hx, i32_toInt hy]
theorem i32_0 : i32 0 = 0 := by decide
theorem inr_0 : inr 0 := ⟨by decide, by decide⟩
theorem i32_w2 (f : Int32 → Int32 → Int32) (x y : Int) : i32 (w2 f x y) = f (i32 x) (i32 y) := i32_of _
theorem inr_w2 (f : Int32 → Int32 → Int32) (x y : Int) : inr (w2 f x y) := inr_toInt _
def adr (as : List Nat) (i : Nat) : Nat := as.getD i 0
def cv (as : List Nat) (v : AV) : Value := match v with
  | .inl z => .int (i32 z)
  | .inr (.inl none) => .null
  | .inr (.inl (some i)) => .ref (adr as i)
  | .inr (.inr none) => .double 0
  | .inr (.inr (some x)) => .long x
def fI (fs : List AV) : Nat → Int32 := fun k => match fs[k]? with | some (.inl z) => i32 z | _ => 0
def fR (as : List Nat) (fs : List AV) : Nat → Option Nat := fun k => match fs[k]? with | some (.inr (.inl (some i))) => some (adr as i) | _ => none
def cellE (cI cG : ClassId) (as : List Nat) (o : AO) : va_E :=
  if o.1 = 100 then .inl (cI, o.2.length, .inl (fI o.2))
  else if o.1 = 101 then .inl (cG, o.2.length, .inr (.inr (.inr (.inr (fR as o.2)))))
  else .inr (o.1, o.2.map (cv as))
def wsO (cI cG : ClassId) (as : List Nat) (h : AH) : va_W := List.zipWith (fun a o => (a, cellE cI cG as o)) as h
/-- in range: whole numbers of 32 bits, references into the heap -/
def wv (n : Nat) (v : AV) : Prop := match v with
  | .inl z => inr z
  | .inr (.inl (some i)) => i < n
  | _ => True
def wl (n : Nat) (l : List AV) : Prop := ∀ v ∈ l, wv n v
def wh (h : AH) : Prop := ∀ o ∈ h, wl h.length o.2
theorem wv_mono {n m : Nat} (h : n ≤ m) {v : AV} (hv : wv n v) : wv m v := by
  rcases v with z | r | x
  · exact hv
  · cases r with
    | none => trivial
    | some i => exact Nat.lt_of_lt_of_le hv h
  · trivial
theorem wl_mono {n m : Nat} (h : n ≤ m) {l : List AV} (hv : wl n l) : wl m l := fun v q => wv_mono h (hv v q)
theorem wl_cons {n : Nat} {v : AV} {l : List AV} : wl n (v :: l) ↔ wv n v ∧ wl n l := by simp [wl]
theorem wl_nil {n : Nat} : wl n [] := fun _ h => by cases h
theorem wl_set {n : Nat} {l : List AV} {i : Nat} {v : AV} (hl : wl n l) (hv : wv n v) : wl n (l.set i v) := by
  intro x hx
  rcases List.mem_or_eq_of_mem_set hx with h | h
  · exact hl x h
  · rw [h]; exact hv
theorem wl_get {n : Nat} {l : List AV} {i : Nat} {v : AV} (hl : wl n l) (h : l[i]? = some v) : wv n v := hl v (List.mem_of_getElem? h)
theorem wl_app {n : Nat} {a b : List AV} : wl n (a ++ b) ↔ wl n a ∧ wl n b := by
  constructor
  · intro h; exact ⟨fun v hv => h v (List.mem_append_left _ hv), fun v hv => h v (List.mem_append_right _ hv)⟩
  · intro h v hv
    rcases List.mem_append.mp hv with q | q
    · exact h.1 v q
    · exact h.2 v q
theorem wh_get {h : AH} {i : Nat} {o : AO} (hw : wh h) (hi : h[i]? = some o) : wl h.length o.2 := hw o (List.mem_of_getElem? hi)
theorem wh_set {h : AH} {i : Nat} {o : AO} (hw : wh h) (ho : wl h.length o.2) : wh (h.set i o) := by
  intro x hx
  rw [List.length_set]
  rcases List.mem_or_eq_of_mem_set hx with q | q
  · exact hw x q
  · rw [q]; exact ho
theorem wh_push {h : AH} {o : AO} (hw : wh h) (ho : wl (h.length + 1) o.2) : wh (h ++ [o]) := by
  intro x hx
  rw [List.length_append]
  rcases List.mem_append.mp hx with q | q
  · exact wl_mono (Nat.le_add_right _ _) (hw x q)
  · rw [List.mem_singleton.mp q]; exact ho
theorem adr_app {as q : List Nat} {i : Nat} (h : i < as.length) : adr (as ++ q) i = adr as i := by
  simp [adr, List.getD_eq_getElem?_getD, List.getElem?_append_left h]
theorem cv_app {as q : List Nat} {v : AV} (h : wv as.length v) : cv (as ++ q) v = cv as v := by
  rcases v with z | r | x
  · rfl
  · cases r with
    | none => rfl
    | some i => simp only [cv]; rw [adr_app h]
  · cases x <;> rfl
theorem cvl_app {as q : List Nat} {l : List AV} (h : wl as.length l) : l.map (cv (as ++ q)) = l.map (cv as) := List.map_congr_left fun v hv => cv_app (h v hv)
theorem fR_app {as q : List Nat} {l : List AV} (h : wl as.length l) : fR (as ++ q) l = fR as l := by
  funext k
  unfold fR
  cases hk : l[k]? with
  | none => rfl
  | some v =>
    have := wl_get h hk
    rcases v with z | r | x
    · rfl
    · cases r with
      | none => rfl
      | some i => simp only []; rw [adr_app this]
    · rfl
theorem cellE_app {cI cG : ClassId} {as q : List Nat} {o : AO} (h : wl as.length o.2) : cellE cI cG (as ++ q) o = cellE cI cG as o := by
  unfold cellE
  rw [cvl_app h, fR_app h]
theorem wsO_len {cI cG : ClassId} {as : List Nat} {h : AH} (hl : as.length = h.length) : (wsO cI cG as h).length = h.length := by simp [wsO, hl]
theorem wsO_get {cI cG : ClassId} {as : List Nat} {h : AH} {i : Nat} {o : AO} (hl : as.length = h.length) (hi : h[i]? = some o) : (wsO cI cG as h)[i]? = some (adr as i, cellE cI cG as o) := by
  have h1 : i < h.length := (List.getElem?_eq_some_iff.mp hi).1
  have h2 : i < as.length := by omega
  simp [wsO, List.getElem?_zipWith, hi, adr, List.getD_eq_getElem?_getD, List.getElem?_eq_getElem h2]
theorem wsO_set {cI cG : ClassId} {as : List Nat} {h : AH} {i : Nat} {o : AO} (hl : as.length = h.length) : (wsO cI cG as h).set i (adr as i, cellE cI cG as o) = wsO cI cG as (h.set i o) := by
  apply List.ext_getElem?
  intro j
  by_cases hj : j < h.length
  · have h2 : j < as.length := by omega
    by_cases hij : i = j
    · subst hij
      rw [List.getElem?_set_self (by rw [wsO_len hl]; exact hj)]
      rw [wsO_get (by rw [List.length_set]; exact hl) (List.getElem?_set_self hj)]
    · rw [List.getElem?_set_ne hij]
      simp [wsO, List.getElem?_zipWith, List.getElem?_set_ne hij]
  · rw [List.getElem?_eq_none (by rw [List.length_set, wsO_len hl]; omega), List.getElem?_eq_none (by rw [wsO_len (by rw [List.length_set]; exact hl), List.length_set]; omega)]
theorem wsO_app {cI cG : ClassId} {as q : List Nat} {h : AH} (hl : as.length = h.length) (hw : wh h) : List.zipWith (fun a o => (a, cellE cI cG (as ++ q) o)) as h = wsO cI cG as h := by
  unfold wsO
  apply List.ext_getElem?
  intro j
  simp only [List.getElem?_zipWith]
  cases ha : as[j]? with
  | none => rfl
  | some a =>
    cases hj : h[j]? with
    | none => rfl
    | some o => simp only []; rw [cellE_app (by rw [hl]; exact wh_get hw hj)]
theorem wsO_push {cI cG : ClassId} {as : List Nat} {h : AH} {q : Nat} {o : AO} (hl : as.length = h.length) (hw : wh h) : wsO cI cG (as ++ [q]) (h ++ [o]) = wsO cI cG as h ++ [(q, cellE cI cG (as ++ [q]) o)] := by
  rw [← wsO_app (q := [q]) hl hw]
  show List.zipWith _ (as ++ [q]) (h ++ [o]) = _
  rw [List.zipWith_append hl]
  rfl
/-! the locals -/
def hdU (l : List AV) : Bool := match l with | .inr (.inr none) :: _ => true | _ => false
theorem hdU_iff {l : List AV} : hdU l = true ↔ l[0]? = some (Db 0) := by
  rcases l with _ | ⟨v, l⟩
  · simp [hdU]
  · rcases v with z | r | x
    · simp [hdU]
    · simp [hdU]
    · cases x <;> simp [hdU]
def lvl (as : List Nat) : Nat → List AV → List (Nat × Value)
  | _, [] => []
  | i, .inr (.inr none) :: l => lvl as (i + 1) l
  | i, .inr (.inr (some x)) :: l => (if hdU l = true then [(i, cv as (.inr (.inr (some x))))] else []) ++ lvl as (i + 1) l
  | i, .inl z :: l => (i, cv as (.inl z)) :: lvl as (i + 1) l
  | i, .inr (.inl r) :: l => (i, cv as (.inr (.inl r))) :: lvl as (i + 1) l
def isDb (v : AV) : Bool := match v with | .inr (.inr _) => true | _ => false
/-- a place that is listed: no long, or a long ahead of its second place -/
def shw (l : List AV) (j : Nat) (v : AV) : Prop := isDb v = false ∨ ∃ x, v = Lg x ∧ l[j + 1]? = some (Db 0)
theorem lvl_mem {as : List Nat} {l : List AV} : ∀ {i : Nat} {q : Nat × Value}, q ∈ lvl as i l ↔ ∃ (j : Nat) (v : AV), l[j]? = some v ∧ shw l j v ∧ q = (i + j, cv as v) := by
  induction l with
  | nil => intro i q; simp [lvl]
  | cons v l ih =>
    intro i q
    have key : (∃ (j : Nat) (w : AV), (v :: l)[j]? = some w ∧ shw (v :: l) j w ∧ q = (i + j, cv as w)) ↔ ((shw (v :: l) 0 v ∧ q = (i, cv as v)) ∨ ∃ (j : Nat) (w : AV), l[j]? = some w ∧ shw l j w ∧ q = (i + 1 + j, cv as w)) := by
      constructor
      · rintro ⟨j, w, h1, h2, h3⟩
        cases j with
        | zero => simp only [List.getElem?_cons_zero, Option.some.injEq] at h1; subst h1; exact Or.inl ⟨h2, h3⟩
        | succ j =>
          simp only [List.getElem?_cons_succ] at h1
          refine Or.inr ⟨j, w, h1, ?_, by rw [h3]; congr 1; omega⟩
          rcases h2 with h2 | ⟨x, h2, h4⟩
          · exact Or.inl h2
          · exact Or.inr ⟨x, h2, by simpa using h4⟩
      · rintro (⟨h2, h3⟩ | ⟨j, w, h1, h2, h3⟩)
        · exact ⟨0, v, rfl, h2, h3⟩
        · refine ⟨j + 1, w, by simpa using h1, ?_, by rw [h3]; congr 1; omega⟩
          rcases h2 with h2 | ⟨x, h2, h4⟩
          · exact Or.inl h2
          · exact Or.inr ⟨x, h2, by simpa using h4⟩
    rw [key]
    rcases v with z | r | x
    · have e : shw (.inl z :: l) 0 (.inl z) := Or.inl rfl
      simp only [lvl, List.mem_cons, ih, e, true_and]
    · have e : shw (.inr (.inl r) :: l) 0 (.inr (.inl r)) := Or.inl rfl
      simp only [lvl, List.mem_cons, ih, e, true_and]
    · cases x with
      | none =>
        have e : ¬ shw (.inr (.inr none) :: l) 0 (.inr (.inr none)) := by
          rintro (h | ⟨x, h, _⟩)
          · cases h
          · exact absurd (Sum.inr.inj (Sum.inr.inj h)) (by simp)
        simp only [lvl, ih, e, false_and, false_or]
      | some x =>
        have e : shw (.inr (.inr (some x)) :: l) 0 (.inr (.inr (some x))) ↔ hdU l = true := by
          rw [hdU_iff]
          constructor
          · rintro (h | ⟨y, _, h⟩)
            · cases h
            · simpa using h
          · intro h
            exact Or.inr ⟨x, rfl, by simpa using h⟩
        simp only [lvl, List.mem_append, ih, e]
        by_cases hu : hdU l = true
        · simp only [hu, if_true, List.mem_singleton, true_and]
        · simp only [hu, if_false, List.not_mem_nil, false_and, Bool.false_eq_true]
theorem lvl_at {as : List Nat} {l : List AV} {ls : Array Slot} {nL i : Nat} {v : AV} (h : lv_has ls nL (lvl as 0 l)) (hi : l[i]? = some v) (hd : isDb v = false) : ls[i]? = some (.val (cv as v)) :=
  h.2.2 (i, cv as v) (lvl_mem.mpr ⟨i, v, hi, Or.inl hd, by rw [Nat.zero_add]⟩)
theorem lvl_atL {as : List Nat} {l : List AV} {ls : Array Slot} {nL i : Nat} {x : Int64} (h : lv_has ls nL (lvl as 0 l)) (hi : l[i]? = some (Lg x)) (hd : l[i + 1]? = some (Db 0)) : ls[i]? = some (.val (.long x)) :=
  h.2.2 (i, .long x) (lvl_mem.mpr ⟨i, Lg x, hi, Or.inr ⟨x, rfl, hd⟩, by rw [Nat.zero_add]; rfl⟩)
theorem cv_cat1 {as : List Nat} {v : AV} (hd : isDb v = false) : (cv as v).category = 1 := by
  rcases v with z | r | x
  · rfl
  · cases r <;> rfl
  · cases hd
theorem lvl_set {as : List Nat} {l : List AV} {ls : Array Slot} {nL i : Nat} {v : AV} (hv : isDb v = false) (h : lv_has ls nL ((i, cv as v) :: (lvl as 0 l).filter (fun q => !(q.1 == i) && !(q.1 + 1 == i && q.2.category == 2)))) : lv_has ls nL (lvl as 0 (l.set i v)) := by
  refine ⟨h.1, h.2.1, fun q hq => h.2.2 q ?_⟩
  obtain ⟨j, w, h1, h2, h3⟩ := lvl_mem.mp hq
  rw [Nat.zero_add] at h3
  subst h3
  by_cases hij : i = j
  · subst hij
    have hlt : i < l.length := by
      have := (List.getElem?_eq_some_iff.mp h1).1
      rwa [List.length_set] at this
    rw [List.getElem?_set_self hlt] at h1
    cases h1
    exact List.mem_cons_self
  · rw [List.getElem?_set_ne hij] at h1
    have hji : (j == i) = false := by simp [Ne.symm hij]
    rcases h2 with h2 | ⟨x, rfl, h4⟩
    · refine List.mem_cons_of_mem _ (List.mem_filter.mpr ⟨lvl_mem.mpr ⟨j, w, h1, Or.inl h2, by rw [Nat.zero_add]⟩, ?_⟩)
      simp [hji, cv_cat1 h2]
    · have hj1 : i ≠ j + 1 := by
        intro q
        subst q
        have hlt := (List.getElem?_eq_some_iff.mp h4).1
        rw [List.length_set] at hlt
        rw [List.getElem?_set_self hlt] at h4
        cases h4
        cases hv
      rw [List.getElem?_set_ne hj1] at h4
      refine List.mem_cons_of_mem _ (List.mem_filter.mpr ⟨lvl_mem.mpr ⟨j, Lg x, h1, Or.inr ⟨x, rfl, h4⟩, by rw [Nat.zero_add]⟩, ?_⟩)
      have h5 : (j + 1 == i) = false := by simp [Ne.symm hj1]
      simp [hji, h5]
theorem lvl_setL {as : List Nat} {l : List AV} {ls : Array Slot} {nL i : Nat} {x : Int64} (h : lv_has ls nL ((i, .long x) :: (lvl as 0 l).filter (fun q => !(q.1 == i) && (!(q.1 == i + 1) && !(q.1 + 1 == i && q.2.category == 2))))) : lv_has ls nL (lvl as 0 ((l.set i (Lg x)).set (i + 1) (Db 0))) := by
  refine ⟨h.1, h.2.1, fun q hq => h.2.2 q ?_⟩
  obtain ⟨j, w, h1, h2, h3⟩ := lvl_mem.mp hq
  rw [Nat.zero_add] at h3
  subst h3
  by_cases hj1 : i + 1 = j
  · subst hj1
    have hlt := (List.getElem?_eq_some_iff.mp h1).1
    rw [List.length_set] at hlt
    rw [List.getElem?_set_self hlt] at h1
    cases h1
    rcases h2 with h2 | ⟨y, h2, _⟩
    · cases h2
    · cases h2
  · rw [List.getElem?_set_ne hj1] at h1
    by_cases hij : i = j
    · subst hij
      have hlt := (List.getElem?_eq_some_iff.mp h1).1
      rw [List.length_set] at hlt
      rw [List.getElem?_set_self hlt] at h1
      cases h1
      exact List.mem_cons_self
    · rw [List.getElem?_set_ne hij] at h1
      have hji : (j == i) = false := by simp [Ne.symm hij]
      have hji1 : (j == i + 1) = false := by simp [Ne.symm hj1]
      rcases h2 with h2 | ⟨y, rfl, h4⟩
      · refine List.mem_cons_of_mem _ (List.mem_filter.mpr ⟨lvl_mem.mpr ⟨j, w, h1, Or.inl h2, by rw [Nat.zero_add]⟩, ?_⟩)
        simp [hji, hji1, cv_cat1 h2]
      · rw [List.getElem?_set_ne (by omega)] at h4
        have hj2 : i ≠ j + 1 := by
          intro q
          subst q
          have hlt := (List.getElem?_eq_some_iff.mp h4).1
          rw [List.length_set] at hlt
          rw [List.getElem?_set_self hlt] at h4
          cases h4
        rw [List.getElem?_set_ne hj2] at h4
        refine List.mem_cons_of_mem _ (List.mem_filter.mpr ⟨lvl_mem.mpr ⟨j, Lg y, h1, Or.inr ⟨y, rfl, h4⟩, by rw [Nat.zero_add]⟩, ?_⟩)
        have h5 : (j + 1 == i) = false := by simp [Ne.symm hj2]
        simp [hji, hji1, h5]
theorem lvl_app {as q : List Nat} {l : List AV} (h : wl as.length l) : ∀ i, lvl (as ++ q) i l = lvl as i l := by
  induction l with
  | nil => intro i; rfl
  | cons v l ih =>
    intro i
    have h1 := wl_cons.mp h
    rcases v with z | r | x
    · simp only [lvl]; rw [ih h1.2]; rfl
    · simp only [lvl]; rw [ih h1.2, cv_app h1.1]
    · cases x with
      | none => simp only [lvl]; rw [ih h1.2]
      | some x => simp only [lvl]; rw [ih h1.2]; rfl
theorem lvl_db {as : List Nat} (n : Nat) : ∀ i, lvl as i (List.replicate n (Db 0)) = [] := by
  induction n with
  | zero => intro i; rfl
  | succ n ih => intro i; rw [List.replicate_succ]; simp only [lvl]; exact ih _
theorem noDb_cons {v : AV} {l : List AV} : noDb (v :: l) = true ↔ isDb v = false ∧ noDb l = true := by
  rcases v with z | r | x <;> simp [noDb, isDb]
theorem lvl_append {as : List Nat} {a b : List AV} : noDb a = true → ∀ i, lvl as i (a ++ b) = lvl as i a ++ lvl as (i + a.length) b := by
  induction a with
  | nil => intro _ i; rfl
  | cons v l ih =>
    intro hd i
    have h1 := noDb_cons.mp hd
    rcases v with z | r | x
    · simp only [lvl, List.cons_append, List.length_cons]; rw [ih h1.2, show i + (l.length + 1) = i + 1 + l.length by omega]
    · simp only [lvl, List.cons_append, List.length_cons]; rw [ih h1.2, show i + (l.length + 1) = i + 1 + l.length by omega]
    · cases h1.1
theorem lv_args_eq {as : List Nat} {av : List AV} (hd : noDb av = true) : ∀ i, lv_args i (av.map (cv as)) = lvl as i av := by
  induction av with
  | nil => intro i; rfl
  | cons v l ih =>
    intro i
    have h1 := noDb_cons.mp hd
    have hc : ¬ (cv as v).category = 2 := by rw [cv_cat1 h1.1]; decide
    show (i, cv as v) :: lv_args (if (cv as v).category = 2 then i + 2 else i + 1) (l.map (cv as)) = _
    rw [if_neg hc, ih h1.2]
    rcases v with z | r | x
    · rfl
    · rfl
    · cases h1.1
theorem lg_sl_len {as : List Nat} {av : List AV} (hd : noDb av = true) : (lg_sl (av.map (cv as))).length = av.length := by
  induction av with
  | nil => rfl
  | cons v l ih =>
    have h1 := noDb_cons.mp hd
    have hc : ¬ (cv as v).category = 2 := by rw [cv_cat1 h1.1]; decide
    have := ih h1.2
    simp only [lg_sl, List.map_cons, List.flatMap_cons, if_neg hc, List.length_append, List.length_cons, List.length_nil] at this ⊢
    omega
/-- the cells' slots in all -/
def slO (o : AO) : Nat := if o.1 = 100 ∨ o.1 = 101 then o.2.length else nC o.1
def slN (h : AH) : Nat := (h.map slO).sum
theorem slN_push (h : AH) (o : AO) : slN (h ++ [o]) = slN h + slO o := by simp [slN]
theorem slN_set {h : AH} {i : Nat} {c : Nat} {fs fs' : List AV} (hi : h[i]? = some (c, fs)) (hl : fs'.length = fs.length) : slN (h.set i (c, fs')) = slN h := by
  unfold slN
  congr 1
  apply List.ext_getElem?
  intro j
  by_cases hij : i = j
  · subst hij
    have hlt : i < h.length := (List.getElem?_eq_some_iff.mp hi).1
    rw [List.getElem?_map, List.getElem?_map, List.getElem?_set_self hlt, hi]
    simp [slO, hl]
  · rw [List.getElem?_map, List.getElem?_map, List.getElem?_set_ne hij]
