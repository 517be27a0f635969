section LawB
variable {p : Program} {l : Launch} {e : Env} {s : State} {m : MethodId} {below : List Frame} {meth : Method} {c : Code} {D : va_G} {cI cG : ClassId} {b L : Nat} {xs : Nat → Int32}
/-- what holds in the law's body -/
def CtL (p : Program) (s : State) (m : MethodId) (meth : Method) (c : Code) (D : va_G) (cI cG : ClassId) (b L : Nat) (xs : Nat → Int32) : Prop :=
  p.tables.exec = Jvm.exec ∧ c.code = code ∧ c.maxLocals = 13 ∧ s.vm.findClass R_law = some m.cls ∧ (∀ w ∈ lwG, w.before #[Value.ref b] s = true) ∧ va_K D vwCl (tyG cI cG) s ∧ va_AO RX1 s ∧ nestOk s ∧ va_X b L xs s s.heap ∧ b < s.heap.size ∧ meth.locks = false ∧ meth.sig.returnType = ret
abbrev aL (s : State) : Nat → Prop := fun q => s.heap.size ≤ q
/-- the law's walk goes on from here -/
def LW (p : Program) (l : Launch) (e : Env) (s : State) (m : MethodId) (below : List Frame) (meth : Method) (c : Code) (D : va_G) (cI cG : ClassId) (b : Nat) (as : List Nat) (h : AH) (cells slots pc : Nat) (lv : List (Nat × Value)) (st : List Value) : Prop :=
  ∀ (H : Heap) (locs : List Loc) (ls : Array Slot), va_P D vwCl (wsO cI cG as h) H → va_D (aL s) (wsO cI cG as h) → va_S (aL s) s.heap H locs → lv_has ls 13 lv → W p l e room_1 s m #[Value.ref b] below meth c H locs cells slots (lw_Z below #[Value.ref b] s) (F0 m pc ls st)
def lkV (k' : Nat) : Bool := decide (k' < 117) && decide (nar k' ≤ maxl k') && decide (dpM k' + 1 ≤ 11) && decide (8 + (maxl k' + 11) + lcM k' ≤ 438) && !(stM k')
theorem lkV_spec {k' : Nat} (h : lkV k' = true) : k' < 117 ∧ nar k' ≤ maxl k' ∧ dpM k' + 1 ≤ 11 ∧ 8 + (maxl k' + 11) + lcM k' ≤ 438 ∧ stM k' = false := by
  unfold lkV at h
  simp only [Bool.and_eq_true, decide_eq_true_eq, Bool.not_eq_true'] at h
  exact ⟨h.1.1.1.1, h.1.1.1.2, h.1.1.2, h.1.2, h.2⟩
variable {as : List Nat} {h : AH} {cells slots pc : Nat} {lv lv' : List (Nat × Value)} {st : List Value}
theorem preL (C : CtL p s m meth c D cI cG b L xs) {H : Heap} {av : List AV} (hP : va_P D vwCl (wsO cI cG as h) H) (hD : va_D (aL s) (wsO cI cG as h)) : ∀ U : State, U.heap = H → s.WarmedH U.vm → Pcn D cI cG as av h H.size (av.map (cv as)).toArray U := by
  obtain ⟨hx, hb, hml, hown, hts, hK, hAO, hN, hX, hbl, hlk, hrt⟩ := C
  intro U hU hW
  exact ⟨rfl, by rw [hU], by rw [hU]; exact hP, va_K.moved hW.alike hK, va_AO.moved hW.alike hAO, nestOk.warm hW hN, hD.weaken (fun _ _ _ _ => trivial)⟩
theorem L_callV (C : CtL p s m meth c D cI cG b L xs) {idx k' n i : Nat} {av' : List AV} {r : Option AV} {h' : AH} (hr : arun n k' 0 (loc0 k' (Rf i :: av')) [] h = some (r, h')) (hd : decode code pc = .ok (.invokevirtual idx, 3)) (hlink : Cond.methodLink R_law idx (yM k') ∈ lwG) (hok : lkV k' = true) (hini : isI k' = false) (hn : av'.length + 1 = nar k') (hdb : noDb av' = true) (hcl : clsOk h k' (some (Rf i)) = true) (hw : wh h) (hav : wl h.length (Rf i :: av')) (hl : as.length = h.length) (hrest : (st.map fun v => v.category).sum ≤ 8) (hcs : cells + (h'.length - h.length) ≤ 729158) (hss : slots + (slN h' - slN h) ≤ 6914773)
    (kk : ∀ as' : List Nat, as <+: as' → as'.length = h'.length → wh h' → (∀ v, r = some v → wv h'.length v) → LW p l e s m below meth c D cI cG b as' h' (cells + (h'.length - h.length)) (slots + (slN h' - slN h)) (pc + 3) lv ((r.map (cv as')).toList ++ st)) :
    LW p l e s m below meth c D cI cG b as h cells slots pc lv ((av'.map (cv as)).reverse ++ .ref (adr as i) :: st) := by
  intro H locs lsA hP hD hS hlv
  obtain ⟨o1, o2, o3, o4, o5⟩ := lkV_spec hok
  have hnn : (Rf i :: av').length = nar k' := by rw [← hn]; rfl
  have hdb2 : noDb (Rf i :: av') = true := noDb_cons.mpr ⟨rfl, hdb⟩
  have hM : Cok l D cI cG k' as (Rf i :: av') h r h' := Cok_of (runs n) hr o1 hw hav hnn o2 hdb2 hl
  have hkp := (runs (l := l) (D := D) (cI := cI) (cG := cG) n k' 0 _ [] h r h' hr o1 hw (loc0_wl hav) wl_nil (loc0_len (by rw [hnn]; exact o2))).1
  have hpre := preL (av := Rf i :: av') C hP hD
  obtain ⟨hx, hb, hml, hown, hts, hK, hAO, hN, hX, hbl, hlk, hrt⟩ := C
  obtain ⟨m1, m2, m3, m4, m5, m6, m7, m8⟩ := okM_spec o1
  obtain ⟨i2, av2, ci, fs, q, e0, c1, c2, c3⟩ := clsOk_spec (av := [Rf i]) hcl
  have ei : i2 = i := by
    have := (List.cons.inj e0).1
    exact (Option.some.inj (Sum.inl.inj (Sum.inr.inj this))).symm
  subst ei
  rw [o5] at m2 m7
  have he := wsO_get (cI := cI) (cG := cG) hl c1
  rw [cellE_obj (vw_lt c2)] at he
  refine W_call (A1 := va_A (wsO cI cG as h) H.size) (rest := st) (va_runV (y := yM k') (C := (yM k').cls) (As := av'.map (cv as)) (b := adr as i2) (nL := 13) (n := nar k' - 1) ⟨hx, hb, hml, hown, hts⟩ (hM H.size) (cwV (nar k' - 1) hts ?_ rfl rfl rfl ⟨rfl, m6.1, m6.2, m7⟩ ⟨o3, o4⟩) ⟨blind, ?_, hpre⟩ rfl ?_ hlv.1 rfl (lv_room hrest) hd ⟨hcs, hss⟩) hS (free_all hD hS (fun _ q => q)) ?_
  · intro w hw
    unfold wsV at hw
    rcases List.mem_append.mp hw with q | q
    · simp only [List.mem_cons, List.not_mem_nil, or_false] at q
      rcases q with rfl | rfl | rfl | rfl
      · exact lwG_good _ hlink
      · exact lwG_good _ m2
      · exact lwG_good _ (m3 o5 hini)
      · exact lwG_good _ m4
    · exact lwG_goodM o1 _ q
  · have := va_recv hK hP c2 he
    rw [c3] at this
    exact this
  · rw [List.length_map]
    omega
  · intro as' H1 locs1 g1 g2 hP1 hD1 hS1
    exact kk as' g1 g2 hkp.1 hkp.2.1 H1 locs1 lsA hP1 hD1 hS1 hlv
theorem L_callI (C : CtL p s m meth c D cI cG b L xs) {idx k' n i : Nat} {av' : List AV} {h' : AH} (hr : arun n k' 0 (loc0 k' (Rf i :: av')) [] h = some (none, h')) (hd : decode code pc = .ok (.invokespecial idx, 3)) (hlink : Cond.methodLink R_law idx (yM k') ∈ lwG) (hok : lkV k' = true) (hini : isI k' = true) (hn : av'.length + 1 = nar k') (hdb : noDb av' = true) (hw : wh h) (hav : wl h.length (Rf i :: av')) (hl : as.length = h.length) (hrest : (st.map fun v => v.category).sum ≤ 8) (hcs : cells + (h'.length - h.length) ≤ 729158) (hss : slots + (slN h' - slN h) ≤ 6914773)
    (kk : ∀ as' : List Nat, as <+: as' → as'.length = h'.length → wh h' → LW p l e s m below meth c D cI cG b as' h' (cells + (h'.length - h.length)) (slots + (slN h' - slN h)) (pc + 3) lv st) :
    LW p l e s m below meth c D cI cG b as h cells slots pc lv ((av'.map (cv as)).reverse ++ .ref (adr as i) :: st) := by
  intro H locs lsA hP hD hS hlv
  obtain ⟨o1, o2, o3, o4, o5⟩ := lkV_spec hok
  have hnn : (Rf i :: av').length = nar k' := by rw [← hn]; rfl
  have hdb2 : noDb (Rf i :: av') = true := noDb_cons.mpr ⟨rfl, hdb⟩
  have hM : Cok l D cI cG k' as (Rf i :: av') h none h' := Cok_of (runs n) hr o1 hw hav hnn o2 hdb2 hl
  have hkp := (runs (l := l) (D := D) (cI := cI) (cG := cG) n k' 0 _ [] h none h' hr o1 hw (loc0_wl hav) wl_nil (loc0_len (by rw [hnn]; exact o2))).1
  have hpre := preL (av := Rf i :: av') C hP hD
  obtain ⟨hx, hb, hml, hown, hts, hK, hAO, hN, hX, hbl, hlk, hrt⟩ := C
  obtain ⟨m1, m2, m3, m4, m5, m6, m7, m8⟩ := okM_spec o1
  rw [o5] at m2 m7
  have hyn : (yM k').name = "<init>" := by simpa [isI] using hini
  have hrn := isI_ret o1 hini
  have hM1 := hM H.size
  have hws0 : wsM k' = Cond.code (yM k') (bM k') (maxl k') none :: lwG := by unfold wsM; rw [hrn]
  refine W_call (r := none) (A1 := va_A (wsO cI cG as h) H.size) (rest := st) (va_runI (y := yM k') (As := av'.map (cv as)) (b := adr as i) (nL := 13) (n := nar k' - 1) ⟨hx, hb, hml, hown, hts⟩ hM1 (cwI (nar k' - 1) hts (lwG_goodM o1) hws0 rfl rfl (hts _ m4) (hts _ hlink) (hts _ m2) hyn ⟨m6.1, m6.2, m7⟩ ⟨o3, o4⟩) ⟨blind, hpre⟩ rfl ?_ hlv.1 rfl (lv_room hrest) hd ⟨hcs, hss⟩) hS (free_all hD hS (fun _ q => q)) ?_
  · rw [List.length_map]
    omega
  · intro as' H1 locs1 g1 g2 hP1 hD1 hS1
    exact kk as' g1 g2 hkp.1 H1 locs1 lsA hP1 hD1 hS1 hlv
theorem L_new (C : CtL p s m meth c D cI cG b L xs) {idx a : Nat} {Cn : String} {T : u_T} {N : Nat} (hq : vwCl[a]? = some (Cn, T, N)) (hl : as.length = h.length) (hw : wh h) (hd : decode code pc = .ok (.new idx, 3)) (hlink : Cond.classLink R_law idx Cn ∈ lwG) (hcells : cells + 1 ≤ 729158) (hslots : slots + nC a ≤ 6914773)
    (kk : ∀ q : Nat, LW p l e s m below meth c D cI cG b (as ++ [q]) (h ++ [(a, dflO a)]) (cells + 1) (slots + nC a) (pc + 3) lv (.ref q :: st)) : LW p l e s m below meth c D cI cG b as h cells slots pc lv st := by
  intro H locs lsA hP hD hS hlv
  obtain ⟨hx, hb, hml, hown, hts, hK, hAO, hN, hX, hbl, hlk, hrt⟩ := C
  obtain ⟨o1, o2, o3⟩ := okC_spec hq
  obtain ⟨t1, t2, t3⟩ := okT_spec hq
  have hn := nC_eq hq
  refine va_new (ci := a) (fs := (dflO a).map (cv as)) hx hb hts o1 (tyC a) t1 hown (hts _ hlink) (hts _ o2) (hts _ o3) hK hP hD hS (fun _ q => q) hq ?_ hcells (by rw [← hn]; exact hslots) hd ?_
  · intro j hj
    rw [df_spec (as := as) (t3 j hj)]
    simp only [vp_V, dflO, List.getD_eq_getElem?_getD, List.getElem?_map, hn, List.getElem?_range hj, Option.map_some, Option.getD_some]
  · intro q H1 hP hD hS
    have e1 : wsO cI cG as h ++ [(q, .inr (a, (dflO a).map (cv as)))] = wsO cI cG (as ++ [q]) (h ++ [(a, dflO a)]) := by
      rw [wsO_push hl hw, cellE_obj (vw_lt hq), cvl_app (dflO_wl _ _)]
    rw [e1] at hP hD
    have h2 := kk q H1 locs lsA hP hD hS hlv
    rw [hn] at h2
    exact h2
/-! the small steps -/
theorem L_aload (C : CtL p s m meth c D cI cG b L xs) {k : Fin 4} {a : Nat} (j : Nat) (hd : decode code pc = .ok (.aload_n k, 1)) (hj : lv[j]? = some ((k : Nat), .ref a)) (kk : LW p l e s m below meth c D cI cG b as h cells slots (pc + 1) lv (.ref a :: st)) : LW p l e s m below meth c D cI cG b as h cells slots pc lv st :=
  fun H locs ls hP hD hS hl => lv_aload_n C.1 C.2.1 hd rfl (lv_at hl j hj) (kk H locs ls hP hD hS hl)
theorem L_iload (C : CtL p s m meth c D cI cG b L xs) {k : Fin 4} {x : Int32} (j : Nat) (hd : decode code pc = .ok (.iload_n k, 1)) (hj : lv[j]? = some ((k : Nat), .int x)) (kk : LW p l e s m below meth c D cI cG b as h cells slots (pc + 1) lv (.int x :: st)) : LW p l e s m below meth c D cI cG b as h cells slots pc lv st :=
  fun H locs ls hP hD hS hl => lv_iload_n C.1 C.2.1 hd rfl (lv_at hl j hj) (kk H locs ls hP hD hS hl)
theorem L_dup (C : CtL p s m meth c D cI cG b L xs) {a : Nat} (hd : decode code pc = .ok (.dup, 1)) (kk : LW p l e s m below meth c D cI cG b as h cells slots (pc + 1) lv (.ref a :: .ref a :: st)) : LW p l e s m below meth c D cI cG b as h cells slots pc lv (.ref a :: st) :=
  fun H locs ls hP hD hS hl => lv_dup C.1 C.2.1 hd rfl (kk H locs ls hP hD hS hl)
theorem L_goto (C : CtL p s m meth c D cI cG b L xs) {off : Int} {tgt : Nat} (hd : decode code pc = .ok (.goto off, 3)) (ht : (pc : Int) + off = (tgt : Int)) (kk : LW p l e s m below meth c D cI cG b as h cells slots tgt lv st) : LW p l e s m below meth c D cI cG b as h cells slots pc lv st :=
  fun H locs ls hP hD hS hl => lv_goto C.1 C.2.1 hd ht (kk H locs ls hP hD hS hl)
/-! calls over the memory of the relation -/
theorem slN_Hp (M N : Mem) (P Q : PMem) : slN (Hp M P) = slN (Hp N Q) := by
  unfold slN Hp
  rw [List.map_map, List.map_map]
  refine congrArg List.sum (List.map_congr_left fun i _ => ?_)
  show slO (obM M P i) = slO (obM N Q i)
  unfold slO obM
  simp only [List.length_map, List.length_range]
theorem L_ev (C : CtL p s m meth c D cI cG b L xs) {M N : Mem} {P P' : PMem} {idx k' i ci : Nat} {av' : List AV} {v : AV} (he : evM k' (Rf i :: av') (Hp M P) = some (some v, Hp N P')) (hd : decode code pc = .ok (.invokevirtual idx, 3)) (hlink : Cond.methodLink R_law idx (yM k') ∈ lwG) (hok : lkV k' = true) (hini : isI k' = false) (hn : av'.length + 1 = nar k') (hdb : noDb av' = true) (hcl : clsS ci k' = true) (hk : kd i = ci) (hw : wh (Hp M P)) (hav : wl NN (Rf i :: av')) (hl : as.length = NN) (hrest : (st.map fun v => v.category).sum ≤ 8) (hcs : cells ≤ 729158) (hss : slots ≤ 6914773)
    (kk : wh (Hp N P') → wv NN v → LW p l e s m below meth c D cI cG b as (Hp N P') cells slots (pc + 3) lv (cv as v :: st)) :
    LW p l e s m below meth c D cI cG b as (Hp M P) cells slots pc lv ((av'.map (cv as)).reverse ++ .ref (adr as i) :: st) := by
  obtain ⟨n, hr⟩ := evL_iff.mp he
  have e1 : (Hp N P').length - (Hp M P).length = 0 := by rw [Hp_len, Hp_len]; omega
  have e2 : slN (Hp N P') - slN (Hp M P) = 0 := by rw [slN_Hp N M P' P]; omega
  have hc2 : clsOk (Hp M P) k' (some (Rf i)) = true := by
    subst hk
    unfold clsS at hcl
    simp only [Bool.and_eq_true, decide_eq_true_eq] at hcl
    unfold clsOk
    simp only [Hp_get (kd_lt (show kd i ≠ 999 by omega)), obM]
    exact hcl.2
  refine L_callV C hr hd hlink hok hini hn hdb hc2 hw (by rw [Hp_len]; exact hav) (by rw [Hp_len]; exact hl) hrest (by rw [e1]; exact hcs) (by rw [e2]; exact hss) ?_
  intro as' g1 g2 g3 g4
  have ea : as' = as := by
    rw [Hp_len] at g2
    exact (List.IsPrefix.eq_of_length g1 (by rw [hl, g2])).symm
  subst ea
  rw [e1, e2]
  have := kk g3 (by rw [← Hp_len N P']; exact g4 v rfl)
  exact this
theorem cv_I (x : Int32) : cv as (I x.toInt) = .int x := by
  show Value.int (i32 x.toInt) = _
  rw [i32_of]
theorem wl_1 {i : Nat} (hi : i < NN) : wl NN [Rf i] := wl_cons.mpr ⟨hi, wl_nil⟩
theorem inr_1 : inr 1 := ⟨by decide, by decide⟩
theorem L_sub (ks : List Nat) (hp : lv_pick lv ks = lv') (kk : LW p l e s m below meth c D cI cG b as h cells slots pc lv' st) : LW p l e s m below meth c D cI cG b as h cells slots pc lv st :=
  fun H locs ls hP hD hS hl => kk H locs ls hP hD hS (lv_sub hl ks hp)
theorem L_iinc (C : CtL p s m meth c D cI cG b L xs) {k j : Nat} {n : Int} {x v : Int32} (hd : decode code pc = .ok (.iinc k n, 3)) (hj : lv[j]? = some (k, .int x)) (hv : x + Int32.ofInt n = v) (hn : k < 13) (hl : (k, Value.int v) :: lv.filter (fun q => !(q.1 == k) && !(q.1 + 1 == k && q.2.category == 2)) = lv') (kk : LW p l e s m below meth c D cI cG b as h cells slots (pc + 3) lv' st) : LW p l e s m below meth c D cI cG b as h cells slots pc lv st :=
  fun H locs ls hP hD hS hh => lv_iinc C.1 C.2.1 hd hh hj hv hn hl (fun ls2 hl2 => kk H locs ls2 hP hD hS hl2)
theorem L_astore (C : CtL p s m meth c D cI cG b L xs) {k : Fin 4} {x : Nat} (hd : decode code pc = .ok (.astore_n k, 1)) (hl : ((k : Nat), Value.ref x) :: lv.filter (fun q => !(q.1 == (k : Nat)) && !(q.1 + 1 == (k : Nat) && q.2.category == 2)) = lv') (kk : LW p l e s m below meth c D cI cG b as h cells slots (pc + 1) lv' st) : LW p l e s m below meth c D cI cG b as h cells slots pc lv (.ref x :: st) :=
  fun H locs ls hP hD hS hv => lv_astore_n C.1 C.2.1 hd rfl hv (by omega) hl (fun ls2 hl2 => kk H locs ls2 hP hD hS hl2)
def lkS (k' : Nat) : Bool := decide (k' < 117) && decide (nar k' ≤ maxl k') && decide (dpM k' + 1 ≤ 11) && decide (8 + (maxl k' + 11) + lcM k' ≤ 438) && stM k'
theorem lkS_spec {k' : Nat} (h : lkS k' = true) : k' < 117 ∧ nar k' ≤ maxl k' ∧ dpM k' + 1 ≤ 11 ∧ 8 + (maxl k' + 11) + lcM k' ≤ 438 ∧ stM k' = true := by
  unfold lkS at h
  simp only [Bool.and_eq_true, decide_eq_true_eq] at h
  exact ⟨h.1.1.1.1, h.1.1.1.2, h.1.1.2, h.1.2, h.2⟩
theorem L_callS (C : CtL p s m meth c D cI cG b L xs) {idx k' n : Nat} {av : List AV} {r : Option AV} {h' : AH} (hr : arun n k' 0 (loc0 k' av) [] h = some (r, h')) (hd : decode code pc = .ok (.invokestatic idx, 3)) (hlink : Cond.methodLink R_law idx (yM k') ∈ lwG) (hok : lkS k' = true) (hn : av.length = nar k') (hdb : noDb av = true) (hw : wh h) (hav : wl h.length av) (hl : as.length = h.length) (hrest : (st.map fun v => v.category).sum ≤ 8) (hcs : cells + (h'.length - h.length) ≤ 729158) (hss : slots + (slN h' - slN h) ≤ 6914773)
    (kk : ∀ as' : List Nat, as <+: as' → as'.length = h'.length → wh h' → (∀ v, r = some v → wv h'.length v) → LW p l e s m below meth c D cI cG b as' h' (cells + (h'.length - h.length)) (slots + (slN h' - slN h)) (pc + 3) lv ((r.map (cv as')).toList ++ st)) :
    LW p l e s m below meth c D cI cG b as h cells slots pc lv ((av.map (cv as)).reverse ++ st) := by
  intro H locs lsA hP hD hS hlv
  obtain ⟨o1, o2, o3, o4, o5⟩ := lkS_spec hok
  have hM : Cok l D cI cG k' as av h r h' := Cok_of (runs n) hr o1 hw hav hn o2 hdb hl
  have hkp := (runs (l := l) (D := D) (cI := cI) (cG := cG) n k' 0 _ [] h r h' hr o1 hw (loc0_wl hav) wl_nil (loc0_len (by rw [hn]; exact o2))).1
  have hpre := preL (av := av) C hP hD
  obtain ⟨hx, hb, hml, hown, hts, hK, hAO, hN, hX, hbl, hlk, hrt⟩ := C
  obtain ⟨m1, m2, m3, m4, m5, m6, m7, m8⟩ := okM_spec o1
  rw [o5] at m2 m7
  refine W_call (A1 := va_A (wsO cI cG as h) H.size) (rest := st) (va_runS (y := yM k') (As := av.map (cv as)) (nL := 13) (n := nar k') ⟨hx, hb, hml, hown, hts⟩ (hM H.size) (va_cwS (nar k') hts ?_ rfl rfl rfl ⟨m6.1, m6.2, m7⟩ ⟨o3, o4⟩) ⟨blind, hpre⟩ rfl ?_ hlv.1 rfl (lv_room hrest) hd ⟨hcs, hss⟩) hS (free_all hD hS (fun _ q => q)) ?_
  · intro w hw
    unfold va_wsS at hw
    rcases List.mem_append.mp hw with q | q
    · simp only [List.mem_cons, List.not_mem_nil, or_false] at q
      rcases q with rfl | rfl | rfl
      · exact lwG_good _ hlink
      · exact lwG_good _ m2
      · exact lwG_good _ m4
    · exact lwG_goodM o1 _ q
  · rw [List.length_map]
    exact hn
  · intro as' H1 locs1 g1 g2 hP1 hD1 hS1
    exact kk as' g1 g2 hkp.1 hkp.2.1 H1 locs1 lsA hP1 hD1 hS1 hlv
theorem L_evS (C : CtL p s m meth c D cI cG b L xs) {M N : Mem} {P P' : PMem} {idx k' : Nat} {av : List AV} {v : AV} (he : evM k' av (Hp M P) = some (some v, Hp N P')) (hd : decode code pc = .ok (.invokestatic idx, 3)) (hlink : Cond.methodLink R_law idx (yM k') ∈ lwG) (hok : lkS k' = true) (hn : av.length = nar k') (hdb : noDb av = true) (hw : wh (Hp M P)) (hav : wl NN av) (hl : as.length = NN) (hrest : (st.map fun v => v.category).sum ≤ 8) (hcs : cells ≤ 729158) (hss : slots ≤ 6914773)
    (kk : wh (Hp N P') → wv NN v → LW p l e s m below meth c D cI cG b as (Hp N P') cells slots (pc + 3) lv (cv as v :: st)) :
    LW p l e s m below meth c D cI cG b as (Hp M P) cells slots pc lv ((av.map (cv as)).reverse ++ st) := by
  obtain ⟨n, hr⟩ := evL_iff.mp he
  have e1 : (Hp N P').length - (Hp M P).length = 0 := by rw [Hp_len, Hp_len]; omega
  have e2 : slN (Hp N P') - slN (Hp M P) = 0 := by rw [slN_Hp N M P' P]; omega
  refine L_callS C hr hd hlink hok hn hdb hw (by rw [Hp_len]; exact hav) (by rw [Hp_len]; exact hl) hrest (by rw [e1]; exact hcs) (by rw [e2]; exact hss) ?_
  intro as' g1 g2 g3 g4
  have ea : as' = as := by
    rw [Hp_len] at g2
    exact (List.IsPrefix.eq_of_length g1 (by rw [hl, g2])).symm
  subst ea
  rw [e1, e2]
  have := kk g3 (by rw [← Hp_len N P']; exact g4 v rfl)
  exact this
theorem L_ic (C : CtL p s m meth c D cI cG b L xs) {n : Int} (hd : decode code pc = .ok (.iconst n, 1)) (kk : LW p l e s m below meth c D cI cG b as h cells slots (pc + 1) lv (.int (i32 n) :: st)) : LW p l e s m below meth c D cI cG b as h cells slots pc lv st :=
  fun H locs ls hP hD hS hl => lv_iconst (v := i32 n) C.1 C.2.1 hd rfl (kk H locs ls hP hD hS hl)
theorem L_bp (C : CtL p s m meth c D cI cG b L xs) {n : Int} (hd : decode code pc = .ok (.bipush n, 2)) (hn : (Int8.ofInt n).toInt32 = i32 n) (kk : LW p l e s m below meth c D cI cG b as h cells slots (pc + 2) lv (.int (i32 n) :: st)) : LW p l e s m below meth c D cI cG b as h cells slots pc lv st :=
  fun H locs ls hP hD hS hl => lv_bipush (v := i32 n) C.1 C.2.1 hd hn (kk H locs ls hP hD hS hl)
theorem L_il (C : CtL p s m meth c D cI cG b L xs) {k : Nat} {x : Int32} (j : Nat) (hd : decode code pc = .ok (.iload k, 2)) (hj : lv[j]? = some (k, .int x)) (kk : LW p l e s m below meth c D cI cG b as h cells slots (pc + 2) lv (.int x :: st)) : LW p l e s m below meth c D cI cG b as h cells slots pc lv st :=
  fun H locs ls hP hD hS hl => lv_iload C.1 C.2.1 hd (lv_at hl j hj) (kk H locs ls hP hD hS hl)
theorem L_ll (C : CtL p s m meth c D cI cG b L xs) {k : Nat} {x : Int64} (j : Nat) (hd : decode code pc = .ok (.lload k, 2)) (hj : lv[j]? = some (k, .long x)) (kk : LW p l e s m below meth c D cI cG b as h cells slots (pc + 2) lv (.long x :: st)) : LW p l e s m below meth c D cI cG b as h cells slots pc lv st :=
  fun H locs ls hP hD hS hl => lv_lload C.1 C.2.1 hd (lv_at hl j hj) (kk H locs ls hP hD hS hl)
theorem L_lln (C : CtL p s m meth c D cI cG b L xs) {k : Fin 4} {x : Int64} (j : Nat) (hd : decode code pc = .ok (.lload_n k, 1)) (hj : lv[j]? = some ((k : Nat), .long x)) (kk : LW p l e s m below meth c D cI cG b as h cells slots (pc + 1) lv (.long x :: st)) : LW p l e s m below meth c D cI cG b as h cells slots pc lv st :=
  fun H locs ls hP hD hS hl => lv_lload_n C.1 C.2.1 hd rfl (lv_at hl j hj) (kk H locs ls hP hD hS hl)
theorem L_is (C : CtL p s m meth c D cI cG b L xs) {k : Nat} {x : Int32} (hd : decode code pc = .ok (.istore k, 2)) (hn : k < 13) (hl : (k, Value.int x) :: lv.filter (fun q => !(q.1 == k) && !(q.1 + 1 == k && q.2.category == 2)) = lv') (kk : LW p l e s m below meth c D cI cG b as h cells slots (pc + 2) lv' st) : LW p l e s m below meth c D cI cG b as h cells slots pc lv (.int x :: st) :=
  fun H locs ls hP hD hS hv => lv_istore C.1 C.2.1 hd hv hn hl (fun ls2 hl2 => kk H locs ls2 hP hD hS hl2)
theorem L_isn (C : CtL p s m meth c D cI cG b L xs) {k : Fin 4} {x : Int32} (hd : decode code pc = .ok (.istore_n k, 1)) (hl : ((k : Nat), Value.int x) :: lv.filter (fun q => !(q.1 == (k : Nat)) && !(q.1 + 1 == (k : Nat) && q.2.category == 2)) = lv') (kk : LW p l e s m below meth c D cI cG b as h cells slots (pc + 1) lv' st) : LW p l e s m below meth c D cI cG b as h cells slots pc lv (.int x :: st) :=
  fun H locs ls hP hD hS hv => lv_istore_n C.1 C.2.1 hd rfl hv (by omega) hl (fun ls2 hl2 => kk H locs ls2 hP hD hS hl2)
theorem L_ls (C : CtL p s m meth c D cI cG b L xs) {k : Nat} {x : Int64} (hd : decode code pc = .ok (.lstore k, 2)) (hn : k + 1 < 13) (hl : (k, Value.long x) :: lv.filter (fun q => !(q.1 == k) && (!(q.1 == k + 1) && !(q.1 + 1 == k && q.2.category == 2))) = lv') (kk : LW p l e s m below meth c D cI cG b as h cells slots (pc + 2) lv' st) : LW p l e s m below meth c D cI cG b as h cells slots pc lv (.long x :: st) :=
  fun H locs ls hP hD hS hv => lv_lstore C.1 C.2.1 hd hv hn hl (fun ls2 hl2 => kk H locs ls2 hP hD hS hl2)
theorem L_lsn (C : CtL p s m meth c D cI cG b L xs) {k : Fin 4} {x : Int64} (hd : decode code pc = .ok (.lstore_n k, 1)) (hl : ((k : Nat), Value.long x) :: lv.filter (fun q => !(q.1 == (k : Nat)) && (!(q.1 == (k : Nat) + 1) && !(q.1 + 1 == (k : Nat) && q.2.category == 2))) = lv') (kk : LW p l e s m below meth c D cI cG b as h cells slots (pc + 1) lv' st) : LW p l e s m below meth c D cI cG b as h cells slots pc lv (.long x :: st) :=
  fun H locs ls hP hD hS hv => lv_lstore_n C.1 C.2.1 hd rfl hv (by omega) hl (fun ls2 hl2 => kk H locs ls2 hP hD hS hl2)
theorem L_mul (C : CtL p s m meth c D cI cG b L xs) {x y z : Int} (hd : decode code pc = .ok (.imul, 1)) (hz : ml x y = z) (kk : LW p l e s m below meth c D cI cG b as h cells slots (pc + 1) lv (.int (i32 z) :: st)) : LW p l e s m below meth c D cI cG b as h cells slots pc lv (.int (i32 y) :: .int (i32 x) :: st) := by
  subst hz
  intro H locs ls hP hD hS hl
  have h2 := kk H locs ls hP hD hS hl
  have e : i32 (ml x y) = i32 x * i32 y := i32_w2 _ _ _
  rw [e] at h2
  exact lv_imul C.1 C.2.1 hd h2
theorem L_add (C : CtL p s m meth c D cI cG b L xs) {x y z : Int} (hd : decode code pc = .ok (.iadd, 1)) (hz : ad x y = z) (kk : LW p l e s m below meth c D cI cG b as h cells slots (pc + 1) lv (.int (i32 z) :: st)) : LW p l e s m below meth c D cI cG b as h cells slots pc lv (.int (i32 y) :: .int (i32 x) :: st) := by
  subst hz
  intro H locs ls hP hD hS hl
  have h2 := kk H locs ls hP hD hS hl
  have e : i32 (ad x y) = i32 x + i32 y := i32_w2 _ _ _
  rw [e] at h2
  exact lv_iadd C.1 C.2.1 hd h2
theorem L_isub (C : CtL p s m meth c D cI cG b L xs) {x y z : Int} (hd : decode code pc = .ok (.isub, 1)) (hz : sb x y = z) (kk : LW p l e s m below meth c D cI cG b as h cells slots (pc + 1) lv (.int (i32 z) :: st)) : LW p l e s m below meth c D cI cG b as h cells slots pc lv (.int (i32 y) :: .int (i32 x) :: st) := by
  subst hz
  intro H locs ls hP hD hS hl
  have h2 := kk H locs ls hP hD hS hl
  have e : i32 (sb x y) = i32 x - i32 y := i32_w2 _ _ _
  rw [e] at h2
  exact lv_isub C.1 C.2.1 hd h2
theorem L_shr (C : CtL p s m meth c D cI cG b L xs) {x y z : Int} (hd : decode code pc = .ok (.ishr, 1)) (hz : shr x y = z) (kk : LW p l e s m below meth c D cI cG b as h cells slots (pc + 1) lv (.int (i32 z) :: st)) : LW p l e s m below meth c D cI cG b as h cells slots pc lv (.int (i32 y) :: .int (i32 x) :: st) := by
  subst hz
  intro H locs ls hP hD hS hl
  have h2 := kk H locs ls hP hD hS hl
  have e : i32 (shr x y) = i32 x >>> (i32 y &&& 31) := i32_w2 _ _ _
  rw [e] at h2
  exact lv_ishr C.1 C.2.1 hd h2
theorem L_rem (C : CtL p s m meth c D cI cG b L xs) {x y z : Int} (hd : decode code pc = .ok (.irem, 1)) (hy : inr y) (h0 : y ≠ 0) (hz : rm x y = z) (kk : LW p l e s m below meth c D cI cG b as h cells slots (pc + 1) lv (.int (i32 z) :: st)) : LW p l e s m below meth c D cI cG b as h cells slots pc lv (.int (i32 y) :: .int (i32 x) :: st) := by
  subst hz
  intro H locs ls hP hD hS hl
  have h2 := kk H locs ls hP hD hS hl
  have e : i32 (rm x y) = i32 x - i32 x / i32 y * i32 y := i32_w2 _ _ _
  rw [e] at h2
  exact lv_irem C.1 C.2.1 hd (fun q => h0 ((i32_eq hy inr_0).mp (by rw [q, i32_0]))) h2
theorem L_cmp (C : CtL p s m meth c D cI cG b L xs) {x y : Int64} (hd : decode code pc = .ok (.lcmp, 1)) (hxy : x = y) (kk : LW p l e s m below meth c D cI cG b as h cells slots (pc + 1) lv (.int (i32 0) :: st)) : LW p l e s m below meth c D cI cG b as h cells slots pc lv (.long y :: .long x :: st) := by
  subst hxy
  intro H locs ls hP hD hS hl
  have h2 := kk H locs ls hP hD hS hl
  have e : i32 0 = lg_cmp x x := by rw [← i32_of (lg_cmp x x), cmp_0]
  rw [e] at h2
  exact W.lcmp C.1 C.2.1 hd h2
theorem L_if (C : CtL p s m meth c D cI cG b L xs) {z : Int} {cn : ClassFile.Cond} {off : Int} {tgt : Nat} (hd : decode code pc = .ok (.ifCond cn off, 3)) (ht : (pc : Int) + off = (tgt : Int)) (hx : inr z) (kt : cmpB cn z 0 = true → LW p l e s m below meth c D cI cG b as h cells slots tgt lv st) (kf : cmpB cn z 0 = false → LW p l e s m below meth c D cI cG b as h cells slots (pc + 3) lv st) : LW p l e s m below meth c D cI cG b as h cells slots pc lv (.int (i32 z) :: st) := by
  intro H locs ls hP hD hS hl
  have e0 : (0 : Int32) = i32 0 := i32_0.symm
  have hy := inr_0
  have k1 := fun q => kt q H locs ls hP hD hS hl
  have k2 := fun q => kf q H locs ls hP hD hS hl
  cases cn with
  | eq => exact lv_if_eq C.1 C.2.1 hd ht (fun q => k1 (decide_eq_true ((i32_eq hx hy).mp (q.trans e0)))) (fun q => k2 (decide_eq_false (fun w => q (((i32_eq hx hy).mpr w).trans i32_0))))
  | ne => exact lv_if_ne C.1 C.2.1 hd ht (fun q => k1 (decide_eq_true (fun w => q (((i32_eq hx hy).mpr w).trans i32_0)))) (fun q => k2 (decide_eq_false (fun w => w ((i32_eq hx hy).mp (q.trans e0)))))
  | lt => exact lv_if_lt C.1 C.2.1 hd ht (fun q => k1 (decide_eq_true ((i32_lt hx hy).mp (by rw [i32_0]; exact q)))) (fun q => k2 (decide_eq_false (fun w => q (by have := (i32_lt hx hy).mpr w; rwa [i32_0] at this))))
  | ge => exact lv_if_ge C.1 C.2.1 hd ht (fun q => k1 (decide_eq_true ((i32_le hy hx).mp (by rw [i32_0]; exact q)))) (fun q => k2 (decide_eq_false (fun w => q (by have := (i32_le hy hx).mpr w; rwa [i32_0] at this))))
  | gt => exact lv_if_gt C.1 C.2.1 hd ht (fun q => k1 (decide_eq_true ((i32_lt hy hx).mp (by rw [i32_0]; exact q)))) (fun q => k2 (decide_eq_false (fun w => q (by have := (i32_lt hy hx).mpr w; rwa [i32_0] at this))))
  | le => exact lv_if_le C.1 C.2.1 hd ht (fun q => k1 (decide_eq_true ((i32_le hx hy).mp (by rw [i32_0]; exact q)))) (fun q => k2 (decide_eq_false (fun w => q (by have := (i32_le hx hy).mpr w; rwa [i32_0] at this))))
theorem L_icmp (C : CtL p s m meth c D cI cG b L xs) {x y : Int} {cn : ClassFile.Cond} {off : Int} {tgt : Nat} (hd : decode code pc = .ok (.if_icmp cn off, 3)) (ht : (pc : Int) + off = (tgt : Int)) (hx : inr x) (hy : inr y) (kt : cmpB cn x y = true → LW p l e s m below meth c D cI cG b as h cells slots tgt lv st) (kf : cmpB cn x y = false → LW p l e s m below meth c D cI cG b as h cells slots (pc + 3) lv st) : LW p l e s m below meth c D cI cG b as h cells slots pc lv (.int (i32 y) :: .int (i32 x) :: st) := by
  intro H locs ls hP hD hS hl
  have k1 := fun q => kt q H locs ls hP hD hS hl
  have k2 := fun q => kf q H locs ls hP hD hS hl
  cases cn with
  | eq => exact lv_icmp_eq C.1 C.2.1 hd ht (fun q => k1 (decide_eq_true ((i32_eq hx hy).mp q))) (fun q => k2 (decide_eq_false (fun w => q ((i32_eq hx hy).mpr w))))
  | ne => exact lv_icmp_ne C.1 C.2.1 hd ht (fun q => k1 (decide_eq_true (fun w => q ((i32_eq hx hy).mpr w)))) (fun q => k2 (decide_eq_false (fun w => w ((i32_eq hx hy).mp q))))
  | lt => exact lv_icmp_lt C.1 C.2.1 hd ht (fun q => k1 (decide_eq_true ((i32_lt hx hy).mp q))) (fun q => k2 (decide_eq_false (fun w => q ((i32_lt hx hy).mpr w))))
  | ge => exact lv_icmp_ge C.1 C.2.1 hd ht (fun q => k1 (decide_eq_true ((i32_le hy hx).mp q))) (fun q => k2 (decide_eq_false (fun w => q ((i32_le hy hx).mpr w))))
  | gt => exact lv_icmp_gt C.1 C.2.1 hd ht (fun q => k1 (decide_eq_true ((i32_lt hy hx).mp q))) (fun q => k2 (decide_eq_false (fun w => q ((i32_lt hy hx).mpr w))))
  | le => exact lv_icmp_le C.1 C.2.1 hd ht (fun q => k1 (decide_eq_true ((i32_le hx hy).mp q))) (fun q => k2 (decide_eq_false (fun w => q ((i32_le hx hy).mpr w))))
theorem bF {a : Bool} {q : Prop} (h : a = false) : a = true → q := fun w => by rw [h] at w; cases w
theorem bT {a : Bool} {q : Prop} (h : a = true) : a = false → q := fun w => by rw [h] at w; cases w
end LawB
section Lot
theorem lot_blind {b L j : Nat} {xs : Nat → Int32} : FrameBlind (va_Pc [.ref b, .int (nI j)] (fun U => va_X b L xs U U.heap ∧ b < U.heap.size)) := by
  intro a U g mk q
  obtain ⟨q0, q1, q2⟩ := q
  exact ⟨q0, va_X.moved (u := U) (U := U.calling g mk a) (Vm.Alike.refl U.vm) q1, q2⟩
set_option maxHeartbeats 4000000 in
theorem lot_met (l : Launch) {b L j : Nat} {xs : Nat → Int32} (hj : j < 1000) (hL : L ≤ 260) : Met l yL_lot (Cond.code yL_lot cL_lot 2 (some .int) :: lwG) { frames := 0, cells := 0, slots := 0, locals := 0 } (va_Pc [.ref b, .int (nI j)] (fun U => va_X b L xs U U.heap ∧ b < U.heap.size)) (fun _ st oc t => (∃ v : Int32, oc = .returned (some (.int v))) ∧ va_F (fun _ => False) st t) 0 0 (fun _ => False) := by
  refine Met.ofW (cc := cL_lot) (maxL := 2) (ret := some .int) (by decide) rfl ?_
  intro p e s m args below meth c s₁ B hml hv
  obtain ⟨rfl, hX, hbl⟩ := hv
  have hts0 := atoms_spec (ws := Cond.code yL_lot cL_lot 2 (some .int) :: lwG) B.pre
  have hts : ∀ w ∈ lwG, w.before (([.ref b, .int (nI j)] : List Value).toArray) s = true := fun w hw => hts0 w (List.mem_cons_of_mem _ hw)
  have hown : s.vm.findClass R_law = some m.cls := findClass_of_methodNamed B.named
  have hx := B.exec
  have hb := B.bytes
  have hS : va_S (fun _ => False) s.heap s.heap [] := va_S.rf
  have hl0 := lv_entry ([.ref b, .int (nI j)]) (n := 2) (Nat.le_of_ble_eq_true rfl)
  rw [lg_entry_eq]
  generalize (lg_sl ([.ref b, .int (nI j)]) ++ List.replicate (2 - (lg_sl ([.ref b, .int (nI j)])).length) Slot.unset).toArray = ls at hl0 ⊢
  have hlv : lv_has ls 2 [(0, .ref b), (1, .int (nI j))] := hl0
  have fin : ∀ v : Int32, W p l e (headSpec (Cond.code yL_lot cL_lot 2 (some .int) :: lwG) { frames := 0, cells := 0, slots := 0, locals := 0 }).room s m (([.ref b, .int (nI j)] : List Value).toArray) below meth c s.heap [] 0 0 (MQ below (fun _ st oc t => (∃ v : Int32, oc = .returned (some (.int v))) ∧ va_F (fun _ => False) st t) (([.ref b, .int (nI j)] : List Value).toArray) s 0 0 (fun _ => False)) (F0 m 24 ls [.int v]) := fun v => W.iret hx hb B.returns (fun t ht hW => ⟨⟨v, rfl⟩, hS.F ht⟩) hS.2.2 dt_24
  refine lv_iload_n hx hb dt_0 rfl (lv_at hlv 1 rfl) ?_
  refine lv_aload_n hx hb dt_1 rfl (lv_at hlv 0 rfl) ?_
  refine va_slen hx hb hX hbl (fun q => q) hS dt_2 ?_
  refine lv_icmp_ge hx hb dt_3 (tgt := 12) (by decide) (fun _ => ?_) (fun q => ?_)
  · refine lv_ldc (v := -69147285) hx hb hown (hts _ (lwG_in (List.mem_of_getElem? (i := 382) (by decide +kernel)) rfl)) dt_12 ?_
    refine lv_iload_n hx hb dt_14 rfl (lv_at hlv 1 rfl) ?_
    refine lv_sipush (v := 4349) hx hb dt_15 (by decide) ?_
    refine lv_iadd hx hb dt_18 ?_
    refine lv_imul hx hb dt_19 ?_
    refine lv_sipush (v := 4111) hx hb dt_20 (by decide) ?_
    refine lv_iadd hx hb dt_23 ?_
    exact fin _
  · have hjL : j < L := by
      refine Nat.lt_of_not_le fun w => q ?_
      exact nI_le w (by omega)
    refine lv_aload_n hx hb dt_6 rfl (lv_at hlv 0 rfl) ?_
    refine lv_iload_n hx hb dt_7 rfl (lv_at hlv 1 rfl) ?_
    refine va_sld hx hb hX hbl (fun q => q) hS (vp_in_nI hjL (by omega)) dt_8 ?_
    refine lv_goto hx hb dt_9 (tgt := 24) (by decide) ?_
    exact fin _
end Lot
section LawC
variable {p : Program} {l : Launch} {e : Env} {s : State} {m : MethodId} {below : List Frame} {meth : Method} {c : Code} {D : va_G} {cI cG : ClassId} {b L : Nat} {xs : Nat → Int32} {as : List Nat} {h : AH} {cells slots pc : Nat} {lv lv' : List (Nat × Value)} {st : List Value}
theorem L_lot (C : CtL p s m meth c D cI cG b L xs) {j : Nat} {z : Int} (hz : z = (j : Int)) (hj : j < 1000) (hL : L ≤ 260) (hd : decode code pc = .ok (.invokestatic 116, 3)) (hcs : cells ≤ 729158) (hss : slots ≤ 6914773) (hrest : (st.map fun v => v.category).sum ≤ 8) (kk : ∀ v : Int, inr v → LW p l e s m below meth c D cI cG b as h cells slots (pc + 3) lv (.int (i32 v) :: st)) : LW p l e s m below meth c D cI cG b as h cells slots pc lv (.int (i32 z) :: .ref b :: st) := by
  subst hz
  have ez : i32 (j : Int) = nI j := Int32.ofInt_eq_ofNat
  rw [ez]
  intro H locs lsA hP hD hS hlv
  obtain ⟨hx, hb, hml, hown, hts, hK, hAO, hN, hX, hbl, hlk, hrt⟩ := C
  have hpre : ∀ U : State, U.heap = H → s.WarmedH U.vm → va_Pc [.ref b, .int (nI j)] (fun U => va_X b L xs U U.heap ∧ b < U.heap.size) (([.ref b, .int (nI j)] : List Value).toArray) U := by
    intro U hU hW
    refine ⟨rfl, ?_, ?_⟩
    · rw [hU]
      exact (hX.kept (hS.2.1 b hbl (Nat.not_le.mpr hbl))).moved hW.alike
    · rw [hU]; exact Nat.lt_of_lt_of_le hbl hS.1
  have w1 : Cond.methodLink R_law 116 yL_lot ∈ lwG := lwG_in (List.mem_of_getElem? (i := 379) (by decide +kernel)) rfl
  have w2 : Cond.static yL_lot ∈ lwG := lwG_in (List.mem_of_getElem? (i := 380) (by decide +kernel)) rfl
  have w3 : Cond.code yL_lot cL_lot 2 (some .int) ∈ lwG := lwG_in (List.mem_of_getElem? (i := 381) (by decide +kernel)) rfl
  have w4 : Cond.initialized R_law ∈ lwG := lwG_in (List.mem_of_getElem? (i := 12) (by decide +kernel)) rfl
  have hr : va_Run p l e room_1 s m #[Value.ref b] below meth c H locs cells slots 0 0 (F0 m pc lsA (.int (nI j) :: .ref b :: st)) st (fun st oc t => (∃ v : Int32, oc = .returned (some (.int v))) ∧ va_F (fun _ => False) st t) (fun _ => False) := va_runS (y := yL_lot) (As := [.ref b, .int (nI j)]) (rest := st) (nL := 13) (n := 2) (H := H) (locs := locs) (cells := cells) (slots := slots) (g := F0 m pc lsA (.int (nI j) :: .ref b :: st)) ⟨hx, hb, hml, hown, hts⟩ (lot_met l (b := b) (xs := xs) hj hL) (va_cwS (R := room_1) (own := R_law) (index := 116) 2 hts (by
    intro w hw
    unfold va_wsS at hw
    rcases List.mem_append.mp hw with q | q
    · simp only [List.mem_cons, List.not_mem_nil, or_false] at q
      rcases q with rfl | rfl | rfl
      · exact lwG_good _ w1
      · exact lwG_good _ w2
      · exact lwG_good _ w4
    · rcases List.mem_cons.mp q with q | q
      · rw [q]; exact lwG_good _ w3
      · exact lwG_good _ q) rfl rfl rfl ⟨by decide, by decide, by decide⟩ ⟨by decide, by decide⟩) ⟨lot_blind, hpre⟩ rfl rfl hlv.1 rfl (lv_room hrest) hd ⟨hcs, hss⟩
  intro T hT X
  obtain ⟨v, st₀, t, T', L', h0, X', hLf, e1, e2, ⟨⟨v', hv⟩, hz, hk⟩, stp⟩ := hr T hT X
  cases hv
  rw [h0] at hz hk
  have hsame : ∀ q : Nat, q < H.size → T'.heap[q]? = H[q]? := fun q hq => by rw [e1]; exact hk q hq (fun w => w)
  have k2 := kk v'.toInt (inr_toInt v')
  rw [i32_of] at k2
  obtain ⟨t2, a1, b1⟩ := k2 T'.heap (locs ++ L') lsA (hP.kept fun k q hq => hsame q.1 (hP k q hq).lt) hD
    ⟨Nat.le_trans hS.1 (by rw [e1]; exact hz), fun q h1 h2 => by rw [hsame q (Nat.lt_of_lt_of_le h1 hS.1)]; exact hS.2.1 q h1 h2, fun q hq => by
      rcases List.mem_append.mp hq with h | h
      · exact hS.2.2 q h
      · exact absurd (hLf q h) (fun w => w)⟩ hlv T' rfl X'
  exact ⟨t2, stp t2 a1, b1⟩
end LawC
