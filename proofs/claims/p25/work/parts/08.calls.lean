/-! ===== making objects, calls, returns ===== -/
def dflO (a : Nat) : List AV := (List.range (nC a)).map fun k => dfV (tyC a k)
theorem dfV_wv (n : Nat) (ty : FieldType) : wv n (dfV ty) := by
  unfold dfV
  split
  · trivial
  · trivial
  · exact inr_0
theorem dflO_wl (n a : Nat) : wl n (dflO a) := by
  intro v hv
  obtain ⟨k, -, rfl⟩ := List.mem_map.mp hv
  exact dfV_wv n _
theorem nC_eq {a : Nat} {Cn : String} {T : u_T} {N : Nat} (h : vwCl[a]? = some (Cn, T, N)) : nC a = N := by
  unfold nC
  rw [h]
theorem adr_last {as : List Nat} {q n : Nat} (h : as.length = n) : adr (as ++ [q]) n = q := by
  subst h
  simp [adr, List.getD_eq_getElem?_getD]
theorem okL_spec {k : Nat} (hk : k < 117) {e : AE} (he : e ∈ codes.getD k []) : chkL e = true ∧ chkO (mOs.getD k 0) e = true := by
  have h := List.all_eq_true.mp (okL_all k hk) e he
  simpa only [Bool.and_eq_true] using h
theorem okD_spec {k : Nat} (hk : k < 117) {e : AE} (he : e ∈ codes.getD k []) : decode (bM k) e.1 = .ok (e.2.1, e.2.2.1) :=
  of_decide_eq_true (List.all_eq_true.mp (okD_all k hk) e he)
theorem cd_mem {k pc : Nat} {e : AE} (h : cd k pc = some e) : e ∈ codes.getD k [] ∧ e.1 = pc := by
  refine ⟨List.mem_of_find?_eq_some h, ?_⟩
  have := List.find?_some h
  simpa using this
theorem okM_spec {k : Nat} (hk : k < 117) : Cond.code (yM k) (bM k) (maxl k) (rM k) ∈ lwG ∧ (if stM k then Cond.static (yM k) ∈ lwG else Cond.instanceMethod (yM k) ∈ lwG) ∧ (stM k = false → isI k = false → Cond.selects (yM k).cls (yM k) (yM k) ∈ lwG) ∧ Cond.initialized (yM k).cls ∈ lwG ∧ plainName (yM k).cls = true ∧ ((yM k).cls ≠ "java/lang/invoke/MethodHandle" ∧ (yM k).cls ≠ "java/lang/invoke/VarHandle") ∧ (parseMethodDescriptor (yM k).desc).map (fun d => d.parameters.length) = some (nar k - (if stM k then 0 else 1)) ∧ oN (mOs.getD k 0) = (yM k).cls := by
  have h := okM_all k hk
  unfold okM at h
  simp only [Bool.and_eq_true, decide_eq_true_eq] at h
  obtain ⟨⟨⟨⟨⟨⟨⟨⟨h1, h2⟩, h3⟩, h4⟩, h5⟩, h6⟩, h7⟩, h8⟩, h9⟩ := h
  refine ⟨lwG_in (isW_mem h1) rfl, ?_, ?_, lwG_in (isW_mem h4) rfl, h5, ⟨h6, h7⟩, h8, h9⟩
  · by_cases q : stM k = true
    · rw [if_pos q] at h2 ⊢
      exact lwG_in (isW_mem h2) rfl
    · rw [if_neg q] at h2 ⊢
      exact lwG_in (isW_mem h2) rfl
  · intro q1 q2
    rw [q1, q2] at h3
    simp only [Bool.or_self, Bool.false_or] at h3
    exact lwG_in (isW_mem h3) rfl
/-- a world behind a call -/
def Qcn (D : va_G) (cI cG : ClassId) (as : List Nat) (h' : AH) (r : Option AV) (A : Nat → Prop) : Array Value → State → Outcome → State → Prop := fun _ st oc t =>
  (∃ as' : List Nat, as <+: as' ∧ oc = .returned (r.map (cv as')) ∧ as'.length = h'.length ∧ va_P D vwCl (wsO cI cG as' h') t.heap ∧ va_D A (wsO cI cG as' h')) ∧ va_F A st t
def Pcn (D : va_G) (cI cG : ClassId) (as : List Nat) (av : List AV) (h : AH) (sz : Nat) : Array Value → State → Prop :=
  va_Pc (av.map (cv as)) (fun U => U.heap.size = sz ∧ va_P D vwCl (wsO cI cG as h) U.heap ∧ va_K D vwCl (tyG cI cG) U ∧ va_AO RX1 U ∧ nestOk U ∧ va_D (fun _ => True) (wsO cI cG as h))
def wsM (k : Nat) : List Cond := Cond.code (yM k) (bM k) (maxl k) (rM k) :: lwG
def rmM (k : Nat) (h h' : AH) : Room := { frames := dpM k, cells := h'.length - h.length, slots := slN h' - slN h, locals := lcM k }
/-- a method's contract, for one run of the abstract machine -/
def Cok (l : Launch) (D : va_G) (cI cG : ClassId) (k : Nat) (as : List Nat) (av : List AV) (h : AH) (r : Option AV) (h' : AH) : Prop := ∀ sz : Nat,
  Met l (yM k) (wsM k) (rmM k h h') (Pcn D cI cG as av h sz) (Qcn D cI cG as h' r (va_A (wsO cI cG as h) sz)) (h'.length - h.length) (slN h' - slN h) (va_A (wsO cI cG as h) sz)
theorem lwG_goodM {k : Nat} (hk : k < 117) : GoodIn lwG (wsM k) := fun w hw => by
  rcases List.mem_cons.mp hw with q | q
  · rw [q]; exact lwG_good _ (okM_spec hk).1
  · exact lwG_good _ q
theorem free_all {A0 : Nat → Prop} {ws : va_W} {H0 H : Heap} {locs : List Loc} (hD : va_D A0 ws) (hS : va_S A0 H0 H locs) (hA : ∀ q, H0.size ≤ q → A0 q) : ∀ q, va_A ws H.size q → A0 q := by
  intro q h
  rcases h with ⟨k, e, h⟩ | h
  · exact hD.2 k (q, e) h
  · exact hA q (Nat.le_trans hS.1 h)
theorem popA_spec {n : Nat} {st av rest : List AV} (h : popA n st = some (av, rest)) : st = av.reverse ++ rest ∧ av.length = n := by
  unfold popA at h
  split at h
  · cases h
    rename_i hn
    refine ⟨by rw [List.reverse_reverse, List.take_append_drop], by simp [hn]⟩
  · cases h
section Calls
variable {p : Program} {l : Launch} {e : Env} {R : Room} {s : State} {m : MethodId} {args : Array Value} {below : List Frame} {meth : Method} {c : Code} {D : va_G} {cI cG : ClassId} {A : Nat → Prop} {Q : State → Prop} {k nL cells slots pc : Nat} {as : List Nat} {ls st : List AV} {h : AH}
theorem g_new (C : Ctx p s m args meth c D cI cG k) {idx a pl : Nat} (hl : as.length = h.length) (hw : wh h) (hwl : wl h.length ls) (hws : wl h.length st) (hd : decode (bM k) pc = .ok (.new idx, 3)) (hc : chkO (mOs.getD k 0) (pc, .new idx, 3, a, 0, pl) = true) (hA : ∀ q, s.heap.size ≤ q → A q) (hcells : cells + 1 ≤ R.cells) (hslots : slots + nC a ≤ R.slots)
    (kk : ∀ q : Nat, Wg p l e R s m args below meth c D cI cG A Q nL (as ++ [q]) (cells + 1) (slots + nC a) (pc + 3) ls (Rf h.length :: st) (h ++ [(a, dflO a)])) : Wg p l e R s m args below meth c D cI cG A Q nL as cells slots pc ls st h := by
  intro H locs lsA hP hD hS hlv
  obtain ⟨hx, hb, hml, hown, hts, hK, hAO, hlk, hrt, hin, hN⟩ := C
  unfold chkO at hc
  simp only [] at hc
  split at hc
  · rename_i Cn T N hq
    obtain ⟨o1, o2, o3⟩ := okC_spec hq
    obtain ⟨t1, t2, t3⟩ := okT_spec hq
    have hn := nC_eq hq
    refine va_new (ci := a) (fs := (dflO a).map (cv as)) hx hb hts o1 (tyC a) t1 hown (hts _ (lwG_in (isW_mem hc) rfl)) (hts _ o2) (hts _ o3) hK hP hD hS hA hq ?_ hcells (by rw [← hn]; exact hslots) hd ?_
    · intro j hj
      rw [df_spec (as := as) (t3 j hj)]
      simp only [vp_V, dflO, List.getD_eq_getElem?_getD, List.getElem?_map, hn, List.getElem?_range hj, Option.map_some, Option.getD_some]
    · intro q H1 hP hD hS
      have e1 : wsO cI cG as h ++ [(q, .inr (a, (dflO a).map (cv as)))] = wsO cI cG (as ++ [q]) (h ++ [(a, dflO a)]) := by
        rw [wsO_push hl hw, cellE_obj (vw_lt hq), cvl_app (dflO_wl _ _)]
      rw [e1] at hP hD
      have h2 := kk q H1 locs lsA hP hD hS (by rw [lvl_app (by rw [hl]; exact hwl)]; exact hlv)
      rw [List.map_cons, cvl_app (by rw [hl]; exact hws)] at h2
      rw [hn] at h2
      have h3 : cv (as ++ [q]) (Rf h.length) = .ref q := by
        show Value.ref (adr (as ++ [q]) h.length) = _
        rw [adr_last hl]
      rw [h3] at h2
      exact h2
  · cases hc
theorem fI_rep (n : Nat) : fI (List.replicate n (I 0)) = fun _ => 0 := by
  funext k
  unfold fI
  by_cases hk : k < n
  · simp [hk, i32_0]
  · simp [hk]
theorem fR_rep {as : List Nat} (n : Nat) : fR as (List.replicate n Nu) = fun _ => none := by
  funext k
  unfold fR
  by_cases hk : k < n
  · simp [hk]
  · simp [hk]
theorem g_newa (C : Ctx p s m args meth c D cI cG k) {n : Int} (hl : as.length = h.length) (hw : wh h) (hwl : wl h.length ls) (hws : wl h.length st) (hd : decode (bM k) pc = .ok (.newarray .int, 2)) (h0 : 0 ≤ n) (h1 : n ≤ 1000000) (hA : ∀ q, s.heap.size ≤ q → A q) (hcells : cells + 1 ≤ R.cells) (hslots : slots + n.toNat ≤ R.slots)
    (kk : ∀ q : Nat, Wg p l e R s m args below meth c D cI cG A Q nL (as ++ [q]) (cells + 1) (slots + n.toNat) (pc + 2) ls (Rf h.length :: st) (h ++ [(100, List.replicate n.toNat (I 0))])) : Wg p l e R s m args below meth c D cI cG A Q nL as cells slots pc ls (I n :: st) h := by
  intro H locs lsA hP hD hS hlv
  obtain ⟨hx, hb, hml, hown, hts, hK, hAO, hlk, hrt, hin, hN⟩ := C
  have hn : inr n := ⟨by omega, by omega⟩
  refine va_newa (atype := .int) (ty := .int) (N' := n.toNat) (a0 := (n.toNat, .inl (fun _ => 0))) (n := i32 n) hx hb (hts _ (lwG_in w_arr rfl)) rfl hK hP hD hS hA (fun cA => rfl) ?_ (i32_clamp hn) ?_ hcells hslots hd ?_
  · intro q
    have := (i32_lt hn inr_0).mp (by rw [i32_0]; exact q)
    omega
  · show n.toNat * 4 ≤ 536870912
    omega
  · intro q cA H1 hK2 hP hD hS
    have e0 : cA = cI := by
      have a1 := (hK2.2 2 (cA, .int) rfl).2
      have a2 := (hK.2 0 (cI, .int) rfl).2
      exact Option.some.inj (a1.symm.trans a2)
    subst e0
    have e1 : wsO cA cG as h ++ [(q, .inl (cA, n.toNat, .inl (fun _ => 0)))] = wsO cA cG (as ++ [q]) (h ++ [(100, List.replicate n.toNat (I 0))]) := by
      rw [wsO_push hl hw, cellE_int, fI_rep, List.length_replicate]
    rw [e1] at hP hD
    have h2 := kk q H1 locs lsA hP hD hS (by rw [lvl_app (by rw [hl]; exact hwl)]; exact hlv)
    rw [List.map_cons, cvl_app (by rw [hl]; exact hws)] at h2
    have h3 : cv (as ++ [q]) (Rf h.length) = .ref q := by
      show Value.ref (adr (as ++ [q]) h.length) = _
      rw [adr_last hl]
    rw [h3] at h2
    exact h2
theorem g_anew (C : Ctx p s m args meth c D cI cG k) {n : Int} {idx : Nat} (hl : as.length = h.length) (hw : wh h) (hwl : wl h.length ls) (hws : wl h.length st) (hd : decode (bM k) pc = .ok (.anewarray idx, 3)) (hc : Cond.classLink (oN (mOs.getD k 0)) idx RX1 ∈ lwG) (h0 : 0 ≤ n) (h1 : n ≤ 1000000) (hA : ∀ q, s.heap.size ≤ q → A q) (hcells : cells + 1 ≤ R.cells) (hslots : slots + n.toNat ≤ R.slots)
    (kk : ∀ q : Nat, Wg p l e R s m args below meth c D cI cG A Q nL (as ++ [q]) (cells + 1) (slots + n.toNat) (pc + 3) ls (Rf h.length :: st) (h ++ [(101, List.replicate n.toNat Nu)])) : Wg p l e R s m args below meth c D cI cG A Q nL as cells slots pc ls (I n :: st) h := by
  intro H locs lsA hP hD hS hlv
  obtain ⟨hx, hb, hml, hown, hts, hK, hAO, hlk, hrt, hin, hN⟩ := C
  have hn : inr n := ⟨by omega, by omega⟩
  refine va_newq (C := RX1) (N' := n.toNat) (n := i32 n) hx hb hown (hts _ hc) hAO hK hP hD hS hA ?_ (i32_clamp hn) (by omega) hcells hslots hd ?_
  · intro q
    have := (i32_lt hn inr_0).mp (by rw [i32_0]; exact q)
    omega
  · intro q cA H1 hK2 hP hD hS
    have e0 : cA = cG := by
      obtain ⟨_, _, _, _, _, a1⟩ := (hK2.2 2 (cA, .object RX1) rfl).2
      obtain ⟨_, _, _, _, _, a2⟩ := (hK.2 1 (cG, .object RX1) rfl).2
      exact Option.some.inj (a1.symm.trans a2)
    subst e0
    have e1 : wsO cI cA as h ++ [(q, .inl (cA, n.toNat, .inr (.inr (.inr (.inr (fun _ => none))))))] = wsO cI cA (as ++ [q]) (h ++ [(101, List.replicate n.toNat Nu)]) := by
      rw [wsO_push hl hw, cellE_ref, fR_rep, List.length_replicate]
    rw [e1] at hP hD
    have h2 := kk q H1 locs lsA hP hD hS (by rw [lvl_app (by rw [hl]; exact hwl)]; exact hlv)
    rw [List.map_cons, cvl_app (by rw [hl]; exact hws)] at h2
    have h3 : cv (as ++ [q]) (Rf h.length) = .ref q := by
      show Value.ref (adr (as ++ [q]) h.length) = _
      rw [adr_last hl]
    rw [h3] at h2
    exact h2
theorem W_call {H : Heap} {locs : List Loc} {lsA : Array Slot} {r : Option AV} {h' : AH} {A1 : Nat → Prop} {av : Array Value} {mc ms : Nat} {rest st0 : List Value} (hr : va_Run p l e R s m args below meth c H locs cells slots mc ms (F0 m pc lsA st0) rest (Qcn D cI cG as h' r A1 av) A1) (hS : va_S A s.heap H locs) (hA1 : ∀ q, A1 q → A q)
    (kk : ∀ (as' : List Nat) (H1 : Heap) (locs1 : List Loc), as <+: as' → as'.length = h'.length → va_P D vwCl (wsO cI cG as' h') H1 → va_D A (wsO cI cG as' h') → va_S A s.heap H1 locs1 → W p l e R s m args below meth c H1 locs1 (cells + mc) (slots + ms) Q (F0 m (pc + 3) lsA ((r.map (cv as')).toList ++ rest))) : W p l e R s m args below meth c H locs cells slots Q (F0 m pc lsA st0) := by
  intro T hT X
  obtain ⟨v, st₀, t, T', L, h0, X', hL, e1, e2, ⟨⟨as', g1, hv, g2, g3, g4⟩, hz, hk⟩, st⟩ := hr T hT X
  cases hv
  rw [h0] at hz hk
  obtain ⟨t2, a1, b1⟩ := kk as' T'.heap (locs ++ L) g1 g2 (by rw [e1]; exact g3) (g4.weaken (fun _ _ _ h => hA1 _ h))
    ⟨Nat.le_trans hS.1 (by rw [e1]; exact hz), fun q h1 h2 => by rw [e1, hk q (Nat.lt_of_lt_of_le h1 hS.1) (fun z => h2 (hA1 q z))]; exact hS.2.1 q h1 h2, fun q hq => by
      rcases List.mem_append.mp hq with h | h
      · exact hS.2.2 q h
      · exact hA1 _ (hL q h)⟩ T' rfl X'
  exact ⟨t2, st t2 a1, b1⟩
theorem blind {av : List AV} {sz : Nat} : FrameBlind (Pcn D cI cG as av h sz) := by
  intro a U g mk q
  obtain ⟨q0, q1, qP, qK, qO, qN, qD⟩ := q
  exact ⟨q0, q1, qP, va_K.moved (u := U) (U := U.calling g mk a) (Vm.Alike.refl U.vm) qK, va_AO.moved (u := U) (U := U.calling g mk a) (Vm.Alike.refl U.vm) qO, nestOk.same (u := U) (U := U.calling g mk a) rfl qN, qD⟩
theorem pre_of (C : Ctx p s m args meth c D cI cG k) {H : Heap} {av : List AV} (hP : va_P D vwCl (wsO cI cG as h) H) (hD : va_D A (wsO cI cG as h)) : ∀ U : State, U.heap = H → s.WarmedH U.vm → Pcn D cI cG as av h H.size (av.map (cv as)).toArray U := by
  obtain ⟨hx, hb, hml, hown, hts, hK, hAO, hlk, hrt, hin, hN⟩ := C
  intro U hU hW
  exact ⟨rfl, by rw [hU], by rw [hU]; exact hP, va_K.moved hW.alike hK, va_AO.moved hW.alike hAO, nestOk.warm hW hN, hD.weaken (fun _ _ _ _ => trivial)⟩
theorem rest_room4 {ls : Array Slot} {rest : List AV} {stk : List Value} (h4 : rest.length ≤ 4) : 2 * (F0 m pc ls stk).monitorRoom + ((rest.map (cv as)).map fun v => v.category).sum ≤ 8 := by
  refine lv_room ?_
  have h : ∀ l : List AV, ((l.map (cv as)).map fun v => v.category).sum ≤ 2 * l.length := by
    intro l
    induction l with
    | nil => exact Nat.le_refl _
    | cons v l ih =>
      have hc : (cv as v).category ≤ 2 := by rcases lv_cat (cv as v) with q | q <;> omega
      simp only [List.map_cons, List.sum_cons, List.length_cons]
      omega
  have := h rest
  omega
theorem rest_room {ls : Array Slot} {rest : List AV} {stk : List Value} (h4 : restOk rest = true) : 2 * (F0 m pc ls stk).monitorRoom + ((rest.map (cv as)).map fun v => v.category).sum ≤ 8 := by
  unfold restOk at h4
  simp only [Bool.or_eq_true, Bool.and_eq_true, decide_eq_true_eq] at h4
  rcases h4 with h4 | ⟨hd, h4⟩
  · exact rest_room4 h4
  · refine lv_room ?_
    have h : ∀ l : List AV, noDb l = true → ((l.map (cv as)).map fun v => v.category).sum = l.length := by
      intro l
      induction l with
      | nil => intro _; rfl
      | cons v l ih =>
        intro q
        have q2 := noDb_cons.mp q
        have e1 := cv_cat1 (as := as) q2.1
        have e2 := ih q2.2
        simp only [List.map_cons, List.sum_cons, List.length_cons, e1, e2]
        omega
    rw [h rest hd]
    exact h4
theorem callOk_spec {k k' : Nat} {rest : List AV} (h : callOk k k' rest = true) : dpM k' + 1 ≤ dpM k ∧ 8 + (maxl k' + 11) + lcM k' ≤ lcM k ∧ restOk rest = true ∧ nar k' ≤ maxl k' ∧ k' < 117 := by
  unfold callOk at h
  simp only [Bool.and_eq_true, decide_eq_true_eq] at h
  exact ⟨h.1.1.1.1, h.1.1.1.2, h.1.1.2, h.1.2, h.2⟩
theorem behind_call (hwl : wl as.length ls) {rest : List AV} (hwr : wl as.length rest) {r : Option AV} {h' : AH} {lsA : Array Slot} {mc ms : Nat} (hlv : lv_has lsA nL (lvl as 0 ls))
    (kk : ∀ as' : List Nat, as <+: as' → as'.length = h'.length → Wg p l e R s m args below meth c D cI cG A Q nL as' (cells + mc) (slots + ms) (pc + 3) ls (r.toList ++ rest) h') :
    ∀ (as' : List Nat) (H1 : Heap) (locs1 : List Loc), as <+: as' → as'.length = h'.length → va_P D vwCl (wsO cI cG as' h') H1 → va_D A (wsO cI cG as' h') → va_S A s.heap H1 locs1 → W p l e R s m args below meth c H1 locs1 (cells + mc) (slots + ms) Q (F0 m (pc + 3) lsA ((r.map (cv as')).toList ++ rest.map (cv as))) := by
  intro as' H1 locs1 g1 g2 hP1 hD1 hS1
  have h2 := kk as' g1 g2 H1 locs1 lsA hP1 hD1 hS1
  obtain ⟨q, rfl⟩ := g1
  have h3 := h2 (by rw [lvl_app hwl]; exact hlv)
  rw [List.map_append, cvl_app hwr] at h3
  have e1 : r.toList.map (cv (as ++ q)) = (r.map (cv (as ++ q))).toList := by cases r <;> rfl
  rw [e1] at h3
  exact h3
theorem clsOk_spec {h : AH} {k' : Nat} {av : List AV} (hc : clsOk h k' av[0]? = true) : ∃ (i : Nat) (av' : List AV) (ci : Nat) (fs : List AV) (q : vw_C), av = Rf i :: av' ∧ h[i]? = some (ci, fs) ∧ vwCl[ci]? = some q ∧ q.1 = (yM k').cls := by
  unfold clsOk at hc
  split at hc
  · rename_i i hi
    split at hc
    · rename_i ci fs hh
      split at hc
      · rename_i q hq
        cases av with
        | nil => cases hi
        | cons v av' =>
          simp only [List.getElem?_cons_zero, Option.some.injEq] at hi
          subst hi
          exact ⟨i, av', ci, fs, q, rfl, hh, hq, of_decide_eq_true hc⟩
      · cases hc
    · cases hc
  · cases hc
theorem g_callV (C : Ctx p s m args meth c D cI cG k) {idx k' : Nat} {av rest : List AV} {r : Option AV} {h' : AH} (hM : Cok l D cI cG k' as av h r h') (hd : decode (bM k) pc = .ok (.invokevirtual idx, 3)) (hlink : Cond.methodLink (oN (mOs.getD k 0)) idx (yM k') ∈ lwG) (hok : callOk k k' rest = true) (hcls : clsOk h k' av[0]? = true) (hst : popA (nar k') st = some (av, rest)) (hsta : stM k' = false) (hini : isI k' = false) (hl : as.length = h.length) (hwl : wl h.length ls) (hws : wl h.length st) (hA : ∀ q, s.heap.size ≤ q → A q) (hR : dpM k ≤ R.frames ∧ lcM k ≤ R.locals) (hcells : cells + (h'.length - h.length) ≤ R.cells) (hslots : slots + (slN h' - slN h) ≤ R.slots) (hnL : nL = maxl k)
    (kk : ∀ as' : List Nat, as <+: as' → as'.length = h'.length → Wg p l e R s m args below meth c D cI cG A Q nL as' (cells + (h'.length - h.length)) (slots + (slN h' - slN h)) (pc + 3) ls (r.toList ++ rest) h') : Wg p l e R s m args below meth c D cI cG A Q nL as cells slots pc ls st h := by
  intro H locs lsA hP hD hS hlv
  have hpre := pre_of (av := av) C hP hD
  obtain ⟨hx, hb, hml, hown, hts, hK, hAO, hlk, hrt, hin, hN⟩ := C
  obtain ⟨o1, o2, o3, o4, o5⟩ := callOk_spec hok
  obtain ⟨m1, m2, m3, m4, m5, m6, m7, m8⟩ := okM_spec o5
  obtain ⟨e1, e2⟩ := popA_spec hst
  obtain ⟨i, av', ci, fs, q, rfl, c1, c2, c3⟩ := clsOk_spec hcls
  rw [hsta] at m2 m7
  have he := wsO_get (cI := cI) (cG := cG) hl c1
  rw [cellE_obj (vw_lt c2)] at he
  have hrest : wl h.length rest := (wl_app.mp (by rw [← e1]; exact hws)).2
  rw [e1]
  rw [List.map_append]
  refine W_call (A1 := va_A (wsO cI cG as h) H.size) (rest := rest.map (cv as)) (va_runV (y := yM k') (C := (yM k').cls) (As := av'.map (cv as)) (b := adr as i) (nL := nL) (n := nar k' - 1) ⟨hx, hb, by rw [hml, hnL], hown, hts⟩ (hM H.size) (cwV (nar k' - 1) hts ?_ rfl rfl rfl ⟨rfl, m6.1, m6.2, m7⟩ ⟨Nat.le_trans o1 hR.1, Nat.le_trans o2 hR.2⟩) ⟨blind, ?_, hpre⟩ rfl ?_ hlv.1 ?_ (rest_room o3) hd ⟨hcells, hslots⟩) hS (free_all hD hS hA) (behind_call (by rw [hl]; exact hwl) (by rw [hl]; exact hrest) hlv kk)
  · intro w hw
    unfold wsV at hw
    rcases List.mem_append.mp hw with q | q
    · simp only [List.mem_cons, List.not_mem_nil, or_false] at q
      rcases q with rfl | rfl | rfl | rfl
      · exact lwG_good _ hlink
      · exact lwG_good _ m2
      · exact lwG_good _ (m3 hsta hini)
      · exact lwG_good _ m4
    · exact lwG_goodM o5 _ q
  · have := va_recv hK hP c2 he
    rw [c3] at this
    exact this
  · rw [List.length_map]
    simp only [List.length_cons] at e2
    omega
  · rw [List.reverse_cons, List.map_append, List.map_reverse, List.append_assoc]
    rfl
theorem g_callS (C : Ctx p s m args meth c D cI cG k) {idx k' : Nat} {av rest : List AV} {r : Option AV} {h' : AH} (hM : Cok l D cI cG k' as av h r h') (hd : decode (bM k) pc = .ok (.invokestatic idx, 3)) (hlink : Cond.methodLink (oN (mOs.getD k 0)) idx (yM k') ∈ lwG) (hok : callOk k k' rest = true) (hst : popA (nar k') st = some (av, rest)) (hsta : stM k' = true) (hl : as.length = h.length) (hwl : wl h.length ls) (hws : wl h.length st) (hA : ∀ q, s.heap.size ≤ q → A q) (hR : dpM k ≤ R.frames ∧ lcM k ≤ R.locals) (hcells : cells + (h'.length - h.length) ≤ R.cells) (hslots : slots + (slN h' - slN h) ≤ R.slots) (hnL : nL = maxl k)
    (kk : ∀ as' : List Nat, as <+: as' → as'.length = h'.length → Wg p l e R s m args below meth c D cI cG A Q nL as' (cells + (h'.length - h.length)) (slots + (slN h' - slN h)) (pc + 3) ls (r.toList ++ rest) h') : Wg p l e R s m args below meth c D cI cG A Q nL as cells slots pc ls st h := by
  intro H locs lsA hP hD hS hlv
  have hpre := pre_of (av := av) C hP hD
  obtain ⟨hx, hb, hml, hown, hts, hK, hAO, hlk, hrt, hin, hN⟩ := C
  obtain ⟨o1, o2, o3, o4, o5⟩ := callOk_spec hok
  obtain ⟨m1, m2, m3, m4, m5, m6, m7, m8⟩ := okM_spec o5
  obtain ⟨e1, e2⟩ := popA_spec hst
  rw [hsta] at m2 m7
  have hrest : wl h.length rest := (wl_app.mp (by rw [← e1]; exact hws)).2
  rw [e1]
  rw [List.map_append]
  refine W_call (A1 := va_A (wsO cI cG as h) H.size) (rest := rest.map (cv as)) (va_runS (y := yM k') (As := av.map (cv as)) (nL := nL) (n := nar k') ⟨hx, hb, by rw [hml, hnL], hown, hts⟩ (hM H.size) (va_cwS (nar k') hts ?_ rfl rfl rfl ⟨m6.1, m6.2, m7⟩ ⟨Nat.le_trans o1 hR.1, Nat.le_trans o2 hR.2⟩) ⟨blind, hpre⟩ rfl ?_ hlv.1 ?_ (rest_room o3) hd ⟨hcells, hslots⟩) hS (free_all hD hS hA) (behind_call (by rw [hl]; exact hwl) (by rw [hl]; exact hrest) hlv kk)
  · intro w hw
    unfold va_wsS at hw
    rcases List.mem_append.mp hw with q | q
    · simp only [List.mem_cons, List.not_mem_nil, or_false] at q
      rcases q with rfl | rfl | rfl
      · exact lwG_good _ hlink
      · exact lwG_good _ m2
      · exact lwG_good _ m4
    · exact lwG_goodM o5 _ q
  · rw [List.length_map]
    exact e2
  · rw [List.map_reverse]
theorem g_callI (C : Ctx p s m args meth c D cI cG k) {idx k' : Nat} {av rest : List AV} {h' : AH} (hM : Cok l D cI cG k' as av h none h') (hd : decode (bM k) pc = .ok (.invokespecial idx, 3)) (hlink : Cond.methodLink (oN (mOs.getD k 0)) idx (yM k') ∈ lwG ∨ Cond.methodLinkNest (oN (mOs.getD k 0)) idx (yM k') "TankDivers" ∈ lwN) (hok : callOk k k' rest = true) (hcls : clsOk h k' av[0]? = true) (hst : popA (nar k') st = some (av, rest)) (hsta : stM k' = false) (hini : isI k' = true) (hrn : rM k' = none) (hl : as.length = h.length) (hwl : wl h.length ls) (hws : wl h.length st) (hA : ∀ q, s.heap.size ≤ q → A q) (hR : dpM k ≤ R.frames ∧ lcM k ≤ R.locals) (hcells : cells + (h'.length - h.length) ≤ R.cells) (hslots : slots + (slN h' - slN h) ≤ R.slots) (hnL : nL = maxl k)
    (kk : ∀ as' : List Nat, as <+: as' → as'.length = h'.length → Wg p l e R s m args below meth c D cI cG A Q nL as' (cells + (h'.length - h.length)) (slots + (slN h' - slN h)) (pc + 3) ls rest h') : Wg p l e R s m args below meth c D cI cG A Q nL as cells slots pc ls st h := by
  intro H locs lsA hP hD hS hlv
  have hpre := pre_of (av := av) C hP hD
  obtain ⟨hx, hb, hml, hown, hts, hK, hAO, hlk, hrt, hin, hN⟩ := C
  obtain ⟨o1, o2, o3, o4, o5⟩ := callOk_spec hok
  obtain ⟨m1, m2, m3, m4, m5, m6, m7, m8⟩ := okM_spec o5
  obtain ⟨e1, e2⟩ := popA_spec hst
  obtain ⟨i, av', ci, fs, q, rfl, c1, c2, c3⟩ := clsOk_spec hcls
  rw [hsta] at m2 m7
  have hrest : wl h.length rest := (wl_app.mp (by rw [← e1]; exact hws)).2
  have hyn : (yM k').name = "<init>" := by simpa [isI] using hini
  have hM1 := hM H.size
  have hws0 : wsM k' = Cond.code (yM k') (bM k') (maxl k') none :: lwG := by unfold wsM; rw [hrn]
  rw [e1]
  rw [List.map_append]
  have hlen : (av'.map (cv as)).length = nar k' - 1 := by
    rw [List.length_map]
    simp only [List.length_cons] at e2
    omega
  have hstk : (Rf i :: av').reverse.map (cv as) ++ rest.map (cv as) = (av'.map (cv as)).reverse ++ .ref (adr as i) :: rest.map (cv as) := by
    rw [List.reverse_cons, List.map_append, List.map_reverse, List.append_assoc]
    rfl
  rcases hlink with hlink | hlink
  · exact W_call (A1 := va_A (wsO cI cG as h) H.size) (rest := rest.map (cv as)) (va_runI (y := yM k') (As := av'.map (cv as)) (b := adr as i) (nL := nL) (n := nar k' - 1) ⟨hx, hb, by rw [hml, hnL], hown, hts⟩ hM1 (cwI (nar k' - 1) hts (lwG_goodM o5) hws0 rfl rfl (hts _ m4) (hts _ hlink) (hts _ m2) hyn ⟨m6.1, m6.2, m7⟩ ⟨Nat.le_trans o1 hR.1, Nat.le_trans o2 hR.2⟩) ⟨blind, hpre⟩ rfl hlen hlv.1 hstk (rest_room o3) hd ⟨hcells, hslots⟩) hS (free_all hD hS hA) (behind_call (r := none) (by rw [hl]; exact hwl) (by rw [hl]; exact hrest) hlv kk)
  · exact W_call (A1 := va_A (wsO cI cG as h) H.size) (rest := rest.map (cv as)) (va_runIN (y := yM k') (As := av'.map (cv as)) (b := adr as i) (nL := nL) (n := nar k' - 1) ⟨hx, hb, by rw [hml, hnL], hown, hts⟩ hM1 ⟨va_cnB (nar k' - 1) hts (lwG_goodM o5) hws0 rfl rfl (hN _ hlink) (hts _ m4) ⟨m6.1, m6.2, m7⟩ ⟨Nat.le_trans o1 hR.1, Nat.le_trans o2 hR.2⟩, hyn, hts _ m2⟩ ⟨blind, hpre⟩ rfl hlen hlv.1 hstk (rest_room o3) hd ⟨hcells, hslots⟩) hS (free_all hD hS hA) (behind_call (r := none) (by rw [hl]; exact hwl) (by rw [hl]; exact hrest) hlv kk)
theorem g_obj (C : Ctx p s m args meth c D cI cG k) {idx i : Nat} {rest : List AV} (hd : decode (bM k) pc = .ok (.invokespecial idx, 3)) (hlink : Cond.methodLink (oN (mOs.getD k 0)) idx objectInit ∈ lwG) (h4 : rest.length ≤ 4) (hR : 1 ≤ R.frames ∧ 20 ≤ R.locals) (hnL : nL = maxl k) (kk : Wg p l e R s m args below meth c D cI cG A Q nL as cells slots (pc + 3) ls rest h) : Wg p l e R s m args below meth c D cI cG A Q nL as cells slots pc ls (Rf i :: rest) h := by
  intro H locs lsA hP hD hS hlv
  obtain ⟨hx, hb, hml, hown, hts, hK, hAO, hlk, hrt, hin, hN⟩ := C
  have hr := rest_room4 (m := m) (pc := pc) (as := as) (ls := lsA) (rest := rest) (stk := []) h4
  refine W.objInit hx hb hown (hts _ hlink) (hts _ (lwG_in w_obj.1 rfl)) (hts _ (lwG_in w_obj.2 rfl)) rfl (by rw [hml, ← hnL]; exact hlv.1) rfl hd hR.1 ?_ (W.eq (g2 := F0 m (pc + 3) lsA (rest.map (cv as))) rfl (kk H locs lsA hP hD hS hlv))
  have := hR.2
  have e : (F0 m pc lsA ((Rf i :: rest).map (cv as))).monitorRoom = (F0 m pc lsA []).monitorRoom := rfl
  rw [e]
  omega
theorem g_math (C : Ctx p s m args meth c D cI cG k) {idx a b pl : Nat} {rest : List AV} {v : AV} (hd : decode (bM k) pc = .ok (.invokestatic idx, 3)) (hc : chkO (mOs.getD k 0) (pc, .invokestatic idx, 3, a, b, pl) = true) (hv : mathB a st = some (v, rest)) (hws : wl h.length st) (h4 : rest.length ≤ 4) (hR : 1 ≤ R.frames ∧ 21 ≤ R.locals) (hcl : cells ≤ R.cells) (hsl : slots ≤ R.slots) (hnL : nL = maxl k) (kk : Wg p l e R s m args below meth c D cI cG A Q nL as cells slots (pc + 3) ls (v :: rest) h) : Wg p l e R s m args below meth c D cI cG A Q nL as cells slots pc ls st h := by
  intro H locs lsA hP hD hS hlv
  obtain ⟨hx, hb, hml, hown, hts, hK, hAO, hlk, hrt, hin, hN⟩ := C
  obtain ⟨⟨s1, s2, s3⟩, s4, s5, s6, s7⟩ := w_math
  have hr := rest_room4 (m := m) (pc := pc) (as := as) (ls := lsA) (rest := rest) (stk := []) h4
  have hr2 : ((rest.map (cv as)).map fun v => v.category).sum + 13 ≤ R.locals := by
    have := hR.2
    have : (F0 m pc lsA []).monitorRoom = 0 := rfl
    omega
  have hml2 : c.maxLocals = lsA.size := by rw [hml, hlv.1, hnL]
  have kk1 := kk H locs lsA hP hD hS hlv
  unfold mathB at hv
  unfold chkO at hc
  simp only [] at hc
  split at hv
  · rename_i y st1
    have hy : inr y := (wl_cons.mp hws).1
    split at hv
    · rename_i ha
      rw [if_pos ha] at hc
      cases hv
      refine va_mabs (x := i32 y) hx hb hml2 hown (hts _ (lwG_in (isW_mem hc) rfl)) (hts _ (lwG_in s1 rfl)) (hts _ (lwG_in s4 rfl)) (hts _ (lwG_in s5 rfl)) hR.1 hr2 hcl hsl hd ?_
      have e0 : (if 0 ≤ i32 y then i32 y else 0 - i32 y) = i32 (if 0 ≤ y then y else w2 (· - ·) 0 y) := by
        have h1 := i32_le inr_0 hy
        rw [i32_0] at h1
        by_cases q : 0 ≤ y
        · rw [if_pos q, if_pos (h1.mpr q)]
        · rw [if_neg q, if_neg (fun w => q (h1.mp w)), i32_w2, i32_0]
      rw [e0]
      exact kk1
    · rename_i ha
      rw [if_neg ha] at hc
      split at hv
      · rename_i x st2
        have hx2 : inr x := (wl_cons.mp (wl_cons.mp hws).2).1
        split at hv
        · rename_i ha
          rw [if_pos ha] at hc
          cases hv
          refine va_mmax (x := i32 x) (y := i32 y) hx hb hml2 hown (hts _ (lwG_in (isW_mem hc) rfl)) (hts _ (lwG_in s2 rfl)) (hts _ (lwG_in s4 rfl)) (hts _ (lwG_in s6 rfl)) hR.1 hr2 hcl hsl hd ?_
          have e0 : (if i32 x < i32 y then i32 y else i32 x) = i32 (if x < y then y else x) := by
            by_cases q : x < y
            · rw [if_pos q, if_pos ((i32_lt hx2 hy).mpr q)]
            · rw [if_neg q, if_neg (fun w => q ((i32_lt hx2 hy).mp w))]
          rw [e0]
          exact kk1
        · rename_i ha
          rw [if_neg ha] at hc
          split at hv
          · rename_i ha
            rw [if_pos ha] at hc
            cases hv
            refine va_mmin (x := i32 x) (y := i32 y) hx hb hml2 hown (hts _ (lwG_in (isW_mem hc) rfl)) (hts _ (lwG_in s3 rfl)) (hts _ (lwG_in s4 rfl)) (hts _ (lwG_in s7 rfl)) hR.1 hr2 hcl hsl hd ?_
            have e0 : (if i32 y < i32 x then i32 y else i32 x) = i32 (if y < x then y else x) := by
              by_cases q : y < x
              · rw [if_pos q, if_pos ((i32_lt hy hx2).mpr q)]
              · rw [if_neg q, if_neg (fun w => q ((i32_lt hy hx2).mp w))]
            rw [e0]
            exact kk1
          · cases hv
      · cases hv
  · cases hv
theorem g_ret (C : Ctx p s m args meth c D cI cG k) {i : Instr} {r : Option AV} {as0 : List Nat} (hr : retOk k st i = some r) (hd : decode (bM k) pc = .ok (i, 1)) (has : as0 <+: as) (hl : as.length = h.length) : Wg p l e R s m args below meth c D cI cG A (MQ below (Qcn D cI cG as0 h r A) args s cells slots A) nL as cells slots pc ls st h := by
  intro H locs lsA hP hD hS hlv
  obtain ⟨hx, hb, hml, hown, hts, hK, hAO, hlk, hrt, hin, hN⟩ := C
  unfold retOk at hr
  split at hr
  · rename_i h1
    cases hr
    exact W.vret hx hb (hrt.trans h1) (fun t ht hW => ⟨⟨as, has, rfl, hl, by rw [ht]; exact hP, hD⟩, hS.F ht⟩) hS.2.2 hd
  · rename_i h1
    cases hr
    exact W.iret hx hb (hrt.trans h1) (fun t ht hW => ⟨⟨as, has, rfl, hl, by rw [ht]; exact hP, hD⟩, hS.F ht⟩) hS.2.2 hd
  · rename_i z h1
    split at hr
    · rename_i hz
      cases hr
      refine W.zret hx hb (hrt.trans h1) ?_ (fun t ht hW => ⟨⟨as, has, rfl, hl, by rw [ht]; exact hP, hD⟩, hS.F ht⟩) hS.2.2 hd
      rcases hz with rfl | rfl <;> rfl
    · cases hr
  · rename_i q n h1
    cases hr
    refine W.aret hx hb (hrt.trans h1) (Or.inl ⟨_, rfl⟩) ?_ (fun t ht hW => ⟨⟨as, has, rfl, hl, by rw [ht]; exact hP, hD⟩, hS.F ht⟩) hS.2.2 hd
    cases q with
    | none => exact Or.inl rfl
    | some x => exact Or.inr ⟨_, rfl⟩
  · rename_i h1
    cases hr
    exact W.lret hx hb (hrt.trans h1) (fun t ht hW => ⟨⟨as, has, rfl, hl, by rw [ht]; exact hP, hD⟩, hS.F ht⟩) hS.2.2 hd
  · cases hr
end Calls
