/-! ===== the steps that look at the heap ===== -/
theorem vw_lt {a : Nat} {q : vw_C} (h : vwCl[a]? = some q) : a < 8 := (List.getElem?_eq_some_iff.mp h).1
theorem chkG_spec {own idx a b p : Nat} (h : chkG own idx a b p = true) : ∃ (Cn : String) (T : u_T) (N : Nat), vwCl[a]? = some (Cn, T, N) ∧ b < N ∧ (Cond.fieldLink (oN own) idx (T b).1 (T b).2.1 (T b).2.2.1 ∈ lwG ∨ Cond.fieldLinkNest (oN own) idx (T b).1 (T b).2.1 (T b).2.2.1 "TankDivers" ∈ lwN) := by
  unfold chkG at h
  split at h
  · rename_i Cn T N hq
    simp only [Bool.and_eq_true, Bool.or_eq_true, decide_eq_true_eq] at h
    refine ⟨Cn, T, N, hq, h.1, ?_⟩
    rcases h.2 with w | w
    · exact Or.inl (lwG_in (isW_mem w) rfl)
    · exact Or.inr (lwN_in (isW_mem w) rfl)
  · cases h
theorem chkF_spec {own idx a b p : Nat} (h : chkF own idx a b p = true) : ∃ (Cn : String) (T : u_T) (N : Nat), vwCl[a]? = some (Cn, T, N) ∧ b < N ∧ (Cond.fieldLink (oN own) idx (T b).1 (T b).2.1 (T b).2.2.1 ∈ lwG ∨ Cond.fieldLinkNest (oN own) idx (T b).1 (T b).2.1 (T b).2.2.1 "TankDivers" ∈ lwN) ∧ ((T b).2.2.2 = true → (T b).1 = oN own ∧ Cond.fieldLink (oN own) idx (T b).1 (T b).2.1 (T b).2.2.1 ∈ lwG) := by
  unfold chkF at h
  split at h
  · rename_i Cn T N hq
    simp only [Bool.and_eq_true, Bool.or_eq_true, decide_eq_true_eq, Bool.not_eq_true'] at h
    refine ⟨Cn, T, N, hq, h.1.1, ?_, ?_⟩
    · rcases h.1.2 with w | w
      · exact Or.inl (lwG_in (isW_mem w) rfl)
      · exact Or.inr (lwN_in (isW_mem w) rfl)
    · intro hf
      rcases h.2 with w | w
      · rw [hf] at w; cases w
      · exact ⟨w.1, lwG_in (isW_mem w.2) rfl⟩
  · cases h
theorem okC_spec {a : Nat} {Cn : String} {T : u_T} {N : Nat} (h : vwCl[a]? = some (Cn, T, N)) : (∀ w ∈ u_ws Cn T N, w ∈ lwG) ∧ Cond.instantiable Cn N ∈ lwG ∧ Cond.initialized Cn ∈ lwG := by
  have h1 := okC_all a (vw_lt h)
  unfold okC at h1
  rw [h] at h1
  simp only [Bool.and_eq_true, List.all_eq_true, decide_eq_true_eq] at h1
  exact ⟨fun w hw => lwG_in (h1.1.1 w hw).1 (h1.1.1 w hw).2, lwG_in h1.1.2 rfl, lwG_in h1.2 rfl⟩
def smT (ty : FieldType) : Bool := match ty with | .int => true | .boolean => true | .object _ => true | .array _ => true | _ => false
def okTB (ci : Nat) : Bool := match vwCl[ci]? with
  | some (_, T, N) => decide (∀ k, k < N → parseFieldDescriptor (T k).2.2.1 = some (tyC ci k)) && decide (∀ a, a < N → ∀ b, b < N → a ≠ b → (T a).2.1 ≠ (T b).2.1) && decide (∀ k, k < N → smT (tyC ci k) = true)
  | none => false
set_option maxRecDepth 100000 in
theorem okTB_all : ∀ ci, ci < 8 → okTB ci = true := by decide +kernel
theorem okT_spec {a : Nat} {Cn : String} {T : u_T} {N : Nat} (h : vwCl[a]? = some (Cn, T, N)) : (∀ k, k < N → parseFieldDescriptor (T k).2.2.1 = some (tyC a k)) ∧ (∀ i, i < N → ∀ j, j < N → i ≠ j → (T i).2.1 ≠ (T j).2.1) ∧ ∀ k, k < N → smT (tyC a k) = true := by
  have h1 := okTB_all a (vw_lt h)
  unfold okTB at h1
  rw [h] at h1
  simp only [Bool.and_eq_true, decide_eq_true_eq] at h1
  exact ⟨h1.1.1, h1.1.2, h1.2⟩
theorem fit_spec {as : List Nat} {ty : FieldType} {v : AV} (h : fitV ty v = true) : narrow ty (cv as v) = cv as v ∧ fits ty (cv as v) = true := by
  unfold fitV at h
  split at h
  · exact ⟨rfl, rfl⟩
  · rename_i z
    simp only [Bool.or_eq_true, decide_eq_true_eq] at h
    rcases h with h | h
    · subst h; exact ⟨rfl, rfl⟩
    · subst h; exact ⟨rfl, rfl⟩
  · rename_i r
    cases r <;> exact ⟨rfl, rfl⟩
  · rename_i r
    cases r <;> exact ⟨rfl, rfl⟩
  · cases h
theorem df_spec {as : List Nat} {ty : FieldType} (h : smT ty = true) : defaultValue ty = cv as (dfV ty) := by
  cases ty <;> first | rfl | cases h
theorem cellE_obj {cI cG : ClassId} {as : List Nat} {a : Nat} {fs : List AV} (h : a < 8) : cellE cI cG as (a, fs) = .inr (a, fs.map (cv as)) := by
  unfold cellE
  rw [if_neg (by simp only []; omega), if_neg (by simp only []; omega)]
theorem cellE_int {cI cG : ClassId} {as : List Nat} {fs : List AV} : cellE cI cG as (100, fs) = .inl (cI, fs.length, .inl (fI fs)) := rfl
theorem cellE_ref {cI cG : ClassId} {as : List Nat} {fs : List AV} : cellE cI cG as (101, fs) = .inl (cG, fs.length, .inr (.inr (.inr (.inr (fR as fs))))) := rfl
theorem fI_set {fs : List AV} {n : Nat} {x : Int} (h : n < fs.length) : upd (fI fs) n (i32 x) = fI (fs.set n (I x)) := by
  funext j
  unfold upd fI
  by_cases hj : j = n
  · subst hj; simp [h]
  · rw [if_neg hj, List.getElem?_set_ne (Ne.symm hj)]
theorem fR_set {as : List Nat} {fs : List AV} {n v : Nat} (h : n < fs.length) : va_up (fR as fs) n (some (adr as v)) = fR as (fs.set n (Rf v)) := by
  funext j
  unfold va_up fR
  by_cases hj : j = n
  · subst hj; simp [h]
  · rw [if_neg hj, List.getElem?_set_ne (Ne.symm hj)]
theorem vp_in_i32 {z : Int} {n : Nat} (hz : inr z) (h0 : 0 ≤ z) (hn : z.toNat < n) : vp_in (i32 z) n := by
  unfold vp_in
  rw [i32_clamp hz]
  rintro (h | h)
  · have := (i32_lt hz inr_0).mp (by rw [i32_0]; exact h)
    omega
  · omega
section StepsH
variable {p : Program} {l : Launch} {e : Env} {R : Room} {s : State} {m : MethodId} {args : Array Value} {below : List Frame} {meth : Method} {c : Code} {D : va_G} {cI cG : ClassId} {A : Nat → Prop} {Q : State → Prop} {k nL cells slots pc : Nat} {as : List Nat} {ls st : List AV} {h : AH}
theorem g_getf (C : Ctx p s m args meth c D cI cG k) {idx a b pl i : Nat} {fs : List AV} {v : AV} (hd : decode (bM k) pc = .ok (.getfield idx, 3)) (hl : as.length = h.length) (hc : chkG (mOs.getD k 0) idx a b pl = true) (hi : h[i]? = some (a, fs)) (hv : fs[b]? = some v) (kk : Wg p l e R s m args below meth c D cI cG A Q nL as cells slots (pc + 3) ls (v :: st) h) : Wg p l e R s m args below meth c D cI cG A Q nL as cells slots pc ls (Rf i :: st) h := by
  intro H locs lsA hP hD hS hlv
  obtain ⟨hx, hb, hml, hown, hts, hK, hAO, hlk, hrt, hin, hN⟩ := C
  obtain ⟨Cn, T, N, hq, hbN, hw⟩ := chkG_spec hc
  have he := wsO_get (cI := cI) (cG := cG) hl hi
  rw [cellE_obj (vw_lt hq)] at he
  rcases hw with hw | hw
  · exact va_get hx hb hts (okC_spec hq).1 hown hK hP i he hq b hbN (hts _ hw) (fun _ h9 => h9) (v := cv as v) (by rw [List.getElem?_map, hv]; rfl) hd (kk H locs lsA hP hD hS hlv)
  · exact va_getN hx hb hts (okC_spec hq).1 hown hK hP i he hq b hbN (va_Nw.use rfl (hN _ hw)) (fun _ h9 => h9) (v := cv as v) (by rw [List.getElem?_map, hv]; rfl) hd (kk H locs lsA hP hD hS hlv)
theorem finC_eq {a b : Nat} {Cn : String} {T : u_T} {N : Nat} (hq : vwCl[a]? = some (Cn, T, N)) : finC a b = (T b).2.2.2 := by
  unfold finC
  rw [hq]
theorem g_putf (C : Ctx p s m args meth c D cI cG k) {idx a b pl i : Nat} {fs : List AV} {v : AV} (hd : decode (bM k) pc = .ok (.putfield idx, 3)) (hl : as.length = h.length) (hc : chkF (mOs.getD k 0) idx a b pl = true) (hi : h[i]? = some (a, fs)) (hb9 : b < fs.length) (hf : fitV (tyC a b) v = true) (hfin : finC a b = true → isI k = true) (kk : Wg p l e R s m args below meth c D cI cG A Q nL as cells slots (pc + 3) ls st (h.set i (a, fs.set b v))) : Wg p l e R s m args below meth c D cI cG A Q nL as cells slots pc ls (v :: Rf i :: st) h := by
  intro H locs lsA hP hD hS hlv
  obtain ⟨hx, hb, hml, hown, hts, hK, hAO, hlk, hrt, hin, hN⟩ := C
  obtain ⟨Cn, T, N, hq, hbN, hw, hfw⟩ := chkF_spec hc
  obtain ⟨t1, t2, t3⟩ := okT_spec hq
  have he := wsO_get (cI := cI) (cG := cG) hl hi
  rw [cellE_obj (vw_lt hq)] at he
  have hset : (wsO cI cG as h).set i (adr as i, .inr (a, (fs.map (cv as)).set b (cv as v))) = wsO cI cG as (h.set i (a, fs.set b v)) := by
    rw [← wsO_set hl, cellE_obj (vw_lt hq), List.map_set]
  have kk' : ∀ (H1 : Heap) (locs1 : List Loc), va_P D vwCl ((wsO cI cG as h).set i (adr as i, .inr (a, (fs.map (cv as)).set b (cv as v)))) H1 → va_D A ((wsO cI cG as h).set i (adr as i, .inr (a, (fs.map (cv as)).set b (cv as v)))) → va_S A s.heap H1 locs1 → W p l e R s m args below meth c H1 locs1 cells slots Q (F0 m (pc + 3) lsA (st.map (cv as))) := by
    rw [hset]
    exact fun H1 locs1 hP hD hS => kk H1 locs1 lsA hP hD hS hlv
  have hfit := fit_spec (as := as) hf
  have hbl : b < (fs.map (cv as)).length := by rw [List.length_map]; exact hb9
  cases hfn : (T b).2.2.2 with
  | false =>
    rcases hw with hw | hw
    · exact va_put hx hb hts (okC_spec hq).1 (tyC a) t1 t2 hown hK hP hD hS i he hq b hbN (hts _ hw) (fun _ h9 => h9) hfn (t1 b hbN) hfit.1 hfit.2 hbl hd kk'
    · exact va_putN hx hb hts (okC_spec hq).1 (tyC a) t1 t2 hown hK hP hD hS i he hq b hbN (va_Nw.use rfl (hN _ hw)) (fun _ h9 => h9) hfn (t1 b hbN) hfit.1 hfit.2 hbl hd kk'
  | true =>
    obtain ⟨h1, h2⟩ := hfw hfn
    exact va_putF hx hb hts (okC_spec hq).1 (tyC a) t1 t2 hown hK hP hD hS i he hq b hbN (hts _ h2) (fun _ h9 => h9) hfn (hin (hfin (by rw [finC_eq hq]; exact hfn))) h1 (t1 b hbN) hfit.1 hfit.2 hbl hd kk'
theorem g_iald (C : Ctx p s m args meth c D cI cG k) {i : Nat} {z x : Int} {fs : List AV} (hd : decode (bM k) pc = .ok (.iaload, 1)) (hl : as.length = h.length) (hz : inr z) (h0 : 0 ≤ z) (hi : h[i]? = some (100, fs)) (hv : fs[z.toNat]? = some (I x)) (kk : Wg p l e R s m args below meth c D cI cG A Q nL as cells slots (pc + 1) ls (I x :: st) h) : Wg p l e R s m args below meth c D cI cG A Q nL as cells slots pc ls (I z :: Rf i :: st) h := by
  intro H locs lsA hP hD hS hlv
  obtain ⟨hx, hb, hml, hown, hts, hK, hAO, hlk, hrt, hin, hN⟩ := C
  have he := wsO_get (cI := cI) (cG := cG) hl hi
  rw [cellE_int] at he
  have hlt : z.toNat < fs.length := (List.getElem?_eq_some_iff.mp hv).1
  refine va_iald hx hb hK hP i 0 he rfl (vp_in_i32 hz h0 hlt) hd ?_
  have h2 := kk H locs lsA hP hD hS hlv
  have h3 : fI fs (i32 z).toNatClampNeg = i32 x := by rw [i32_clamp hz]; unfold fI; rw [hv]
  rw [h3]
  exact h2
theorem g_iast (C : Ctx p s m args meth c D cI cG k) {i : Nat} {z x : Int} {fs : List AV} (hd : decode (bM k) pc = .ok (.iastore, 1)) (hl : as.length = h.length) (hz : inr z) (h0 : 0 ≤ z) (hi : h[i]? = some (100, fs)) (hlt : z.toNat < fs.length) (kk : Wg p l e R s m args below meth c D cI cG A Q nL as cells slots (pc + 1) ls st (h.set i (100, fs.set z.toNat (I x)))) : Wg p l e R s m args below meth c D cI cG A Q nL as cells slots pc ls (I x :: I z :: Rf i :: st) h := by
  intro H locs lsA hP hD hS hlv
  obtain ⟨hx, hb, hml, hown, hts, hK, hAO, hlk, hrt, hin, hN⟩ := C
  have he := wsO_get (cI := cI) (cG := cG) hl hi
  rw [cellE_int] at he
  refine va_iast hx hb hK hP hD hS i 0 he rfl (vp_in_i32 hz h0 hlt) hd ?_
  have hset : (wsO cI cG as h).set i (adr as i, .inl (cI, fs.length, .inl (upd (fI fs) (i32 z).toNatClampNeg (i32 x)))) = wsO cI cG as (h.set i (100, fs.set z.toNat (I x))) := by
    rw [← wsO_set hl, cellE_int, i32_clamp hz, fI_set hlt, List.length_set]
  rw [hset]
  exact fun H1 locs1 hP hD hS => kk H1 locs1 lsA hP hD hS hlv
theorem cv_rf {as : List Nat} {r : Option Nat} : cv as (.inr (.inl r)) = va_rf (r.map (adr as)) := by cases r <;> rfl
theorem g_aald (C : Ctx p s m args meth c D cI cG k) {i : Nat} {z : Int} {r : Option Nat} {fs : List AV} (hd : decode (bM k) pc = .ok (.aaload, 1)) (hl : as.length = h.length) (hz : inr z) (h0 : 0 ≤ z) (hi : h[i]? = some (101, fs)) (hv : fs[z.toNat]? = some (.inr (.inl r))) (kk : Wg p l e R s m args below meth c D cI cG A Q nL as cells slots (pc + 1) ls (.inr (.inl r) :: st) h) : Wg p l e R s m args below meth c D cI cG A Q nL as cells slots pc ls (I z :: Rf i :: st) h := by
  intro H locs lsA hP hD hS hlv
  obtain ⟨hx, hb, hml, hown, hts, hK, hAO, hlk, hrt, hin, hN⟩ := C
  have he := wsO_get (cI := cI) (cG := cG) hl hi
  rw [cellE_ref] at he
  have hlt : z.toNat < fs.length := (List.getElem?_eq_some_iff.mp hv).1
  refine va_aldq (C := RX1) hx hb hK hP i 1 he rfl (vp_in_i32 hz h0 hlt) hd ?_
  have h2 := kk H locs lsA hP hD hS hlv
  have h3 : fR as fs (i32 z).toNatClampNeg = r.map (adr as) := by
    rw [i32_clamp hz]; unfold fR; rw [hv]
    cases r <;> rfl
  rw [h3, ← cv_rf]
  exact h2
theorem g_aast (C : Ctx p s m args meth c D cI cG k) {i v : Nat} {z : Int} {fs vs : List AV} (hd : decode (bM k) pc = .ok (.aastore, 1)) (hl : as.length = h.length) (hz : inr z) (h0 : 0 ≤ z) (hi : h[i]? = some (101, fs)) (hv : h[v]? = some (1, vs)) (hlt : z.toNat < fs.length) (kk : Wg p l e R s m args below meth c D cI cG A Q nL as cells slots (pc + 1) ls st (h.set i (101, fs.set z.toNat (Rf v)))) : Wg p l e R s m args below meth c D cI cG A Q nL as cells slots pc ls (Rf v :: I z :: Rf i :: st) h := by
  intro H locs lsA hP hD hS hlv
  obtain ⟨hx, hb, hml, hown, hts, hK, hAO, hlk, hrt, hin, hN⟩ := C
  have he := wsO_get (cI := cI) (cG := cG) hl hi
  rw [cellE_ref] at he
  have he2 := wsO_get (cI := cI) (cG := cG) hl hv
  rw [cellE_obj (by decide)] at he2
  refine va_astq (r := (RX1, TX1, 10)) hx hb hK hP hD hS i 1 v 1 he rfl he2 rfl (vp_in_i32 hz h0 hlt) hd ?_
  have hset : (wsO cI cG as h).set i (adr as i, .inl (cG, fs.length, .inr (.inr (.inr (.inr (va_up (fR as fs) (i32 z).toNatClampNeg (some (adr as v)))))))) = wsO cI cG as (h.set i (101, fs.set z.toNat (Rf v))) := by
    rw [← wsO_set hl, cellE_ref, i32_clamp hz, fR_set hlt, List.length_set]
  rw [hset]
  exact fun H1 locs1 hP hD hS => kk H1 locs1 lsA hP hD hS hlv
theorem g_alen (C : Ctx p s m args meth c D cI cG k) {i a : Nat} {fs : List AV} (hd : decode (bM k) pc = .ok (.arraylength, 1)) (hl : as.length = h.length) (ha : a = 100 ∨ a = 101) (hi : h[i]? = some (a, fs)) (kk : Wg p l e R s m args below meth c D cI cG A Q nL as cells slots (pc + 1) ls (I (fs.length : Int) :: st) h) : Wg p l e R s m args below meth c D cI cG A Q nL as cells slots pc ls (Rf i :: st) h := by
  intro H locs lsA hP hD hS hlv
  obtain ⟨hx, hb, hml, hown, hts, hK, hAO, hlk, hrt, hin, hN⟩ := C
  have he := wsO_get (cI := cI) (cG := cG) hl hi
  have h2 := kk H locs lsA hP hD hS hlv
  have h3 : Int32.ofNat fs.length = i32 (fs.length : Int) := Int32.ofInt_eq_ofNat.symm
  rcases ha with rfl | rfl
  · rw [cellE_int] at he
    exact va_alen (ty := .int) hx hb hK hP i 0 he rfl h3 hd h2
  · rw [cellE_ref] at he
    exact va_alen (ty := .object RX1) hx hb hK hP i 1 he rfl h3 hd h2
end StepsH
