section LawB
variable {p : Program} {l : Launch} {e : Env} {s : State} {m : MethodId} {below : List Frame} {meth : Method} {c : Code} {D : va_G} {cI cG : ClassId} {b L : Nat} {xs : Nat → Int32}
/-- what holds in the law's body -/
def CtL (p : Program) (s : State) (m : MethodId) (meth : Method) (c : Code) (D : va_G) (cI cG : ClassId) (b L : Nat) (xs : Nat → Int32) : Prop :=
  p.tables.exec = Jvm.exec ∧ c.code = code ∧ c.maxLocals = 8 ∧ s.vm.findClass R_law = some m.cls ∧ (∀ w ∈ lwG, w.before #[Value.ref b] s = true) ∧ va_K D vwCl (tyG cI cG) s ∧ va_AO RX1 s ∧ nestOk s ∧ va_X b L xs s s.heap ∧ b < s.heap.size ∧ meth.locks = false ∧ meth.sig.returnType = ret
abbrev aL (s : State) : Nat → Prop := fun q => s.heap.size ≤ q
/-- the law's walk goes on from here -/
def LW (p : Program) (l : Launch) (e : Env) (s : State) (m : MethodId) (below : List Frame) (meth : Method) (c : Code) (D : va_G) (cI cG : ClassId) (b : Nat) (as : List Nat) (h : AH) (cells slots pc : Nat) (lv : List (Nat × Value)) (st : List Value) : Prop :=
  ∀ (H : Heap) (locs : List Loc) (ls : Array Slot), va_P D vwCl (wsO cI cG as h) H → va_D (aL s) (wsO cI cG as h) → va_S (aL s) s.heap H locs → lv_has ls 8 lv → W p l e room_1 s m #[Value.ref b] below meth c H locs cells slots (lw_Z below #[Value.ref b] s) (F0 m pc ls st)
def lkV (k' : Nat) : Bool := decide (k' < 175) && decide (nar k' ≤ maxl k') && decide (dpM k' + 1 ≤ 11) && decide (8 + (maxl k' + 11) + lcM k' ≤ 404) && !(stM k')
theorem lkV_spec {k' : Nat} (h : lkV k' = true) : k' < 175 ∧ nar k' ≤ maxl k' ∧ dpM k' + 1 ≤ 11 ∧ 8 + (maxl k' + 11) + lcM k' ≤ 404 ∧ stM k' = false := by
  unfold lkV at h
  simp only [Bool.and_eq_true, decide_eq_true_eq, Bool.not_eq_true'] at h
  exact ⟨h.1.1.1.1, h.1.1.1.2, h.1.1.2, h.1.2, h.2⟩
variable {as : List Nat} {h : AH} {cells slots pc : Nat} {lv lv' : List (Nat × Value)} {st : List Value}
theorem preL (C : CtL p s m meth c D cI cG b L xs) {H : Heap} {av : List AV} (hP : va_P D vwCl (wsO cI cG as h) H) (hD : va_D (aL s) (wsO cI cG as h)) : ∀ U : State, U.heap = H → s.WarmedH U.vm → Pcn D cI cG as av h H.size (av.map (cv as)).toArray U := by
  obtain ⟨hx, hb, hml, hown, hts, hK, hAO, hN, hX, hbl, hlk, hrt⟩ := C
  intro U hU hW
  exact ⟨rfl, by rw [hU], by rw [hU]; exact hP, va_K.moved hW.alike hK, va_AO.moved hW.alike hAO, nestOk.warm hW hN, hD.weaken (fun _ _ _ _ => trivial)⟩
theorem L_callV (C : CtL p s m meth c D cI cG b L xs) {idx k' n i : Nat} {av' : List AV} {r : Option AV} {h' : AH} (hr : arun n k' 0 (loc0 k' (Rf i :: av')) [] h = some (r, h')) (hd : decode code pc = .ok (.invokevirtual idx, 3)) (hlink : Cond.methodLink R_law idx (yM k') ∈ lwG) (hok : lkV k' = true) (hini : isI k' = false) (hn : av'.length + 1 = nar k') (hdb : noDb av' = true) (hcl : clsOk h k' (some (Rf i)) = true) (hw : wh h) (hav : wl h.length (Rf i :: av')) (hl : as.length = h.length) (hrest : (st.map fun v => v.category).sum ≤ 8) (hcs : cells + (h'.length - h.length) ≤ 600000) (hss : slots + (slN h' - slN h) ≤ 7302250)
    (kk : ∀ as' : List Nat, as <+: as' → as'.length = h'.length → wh h' → (∀ v, r = some v → wv h'.length v) → LW p l e s m below meth c D cI cG b as' h' (cells + (h'.length - h.length)) (slots + (slN h' - slN h)) (pc + 3) lv ((r.map (cv as')).toList ++ st)) :
    LW p l e s m below meth c D cI cG b as h cells slots pc lv ((av'.map (cv as)).reverse ++ .ref (adr as i) :: st) := by
  intro H locs lsA hP hD hS hlv
  obtain ⟨o1, o2, o3, o4, o5⟩ := lkV_spec hok
  have hnn : (Rf i :: av').length = nar k' := by rw [← hn]; rfl
  have hdb2 : noDb (Rf i :: av') = true := noDb_cons.mpr ⟨rfl, hdb⟩
  have hM : Cok l D cI cG k' as (Rf i :: av') h r h' := Cok_of (runs n) hr o1 hw hav hnn o2 hdb2 hl
  have hkp := (runs (l := l) (D := D) (cI := cI) (cG := cG) n k' 0 _ [] h r h' hr o1 hw (loc0_wl hav) wl_nil (loc0_len (by rw [hnn]; exact o2))).1
  have hpre := preL (av := Rf i :: av') C hP hD
  obtain ⟨hx, hb, hml, hown, hts, hK, hAO, hN, hX, hbl, hlk, hrt⟩ := C
  obtain ⟨m1, m2, m3, m4, m5, m6, m7, m8⟩ := okM_spec o1
  obtain ⟨i2, av2, ci, fs, q, e0, c1, c2, c3⟩ := clsOk_spec (av := [Rf i]) hcl
  have ei : i2 = i := by
    have := (List.cons.inj e0).1
    exact (Option.some.inj (Sum.inl.inj (Sum.inr.inj this))).symm
  subst ei
  rw [o5] at m2 m7
  have he := wsO_get (cI := cI) (cG := cG) hl c1
  rw [cellE_obj (vw_lt c2)] at he
  refine W_call (A1 := va_A (wsO cI cG as h) H.size) (rest := st) (va_runV (y := yM k') (C := (yM k').cls) (As := av'.map (cv as)) (b := adr as i2) (nL := 8) (n := nar k' - 1) ⟨hx, hb, hml, hown, hts⟩ (hM H.size) (cwV (nar k' - 1) hts ?_ rfl rfl rfl ⟨rfl, m6.1, m6.2, m7⟩ ⟨o3, o4⟩) ⟨blind, ?_, hpre⟩ rfl ?_ hlv.1 rfl (lv_room hrest) hd ⟨hcs, hss⟩) hS (free_all hD hS (fun _ q => q)) ?_
  · intro w hw
    unfold wsV at hw
    rcases List.mem_append.mp hw with q | q
    · simp only [List.mem_cons, List.not_mem_nil, or_false] at q
      rcases q with rfl | rfl | rfl | rfl
      · exact lwG_good _ hlink
      · exact lwG_good _ m2
      · exact lwG_good _ (m3 o5 hini)
      · exact lwG_good _ m4
    · exact lwG_goodM o1 _ q
  · have := va_recv hK hP c2 he
    rw [c3] at this
    exact this
  · rw [List.length_map]
    omega
  · intro as' H1 locs1 g1 g2 hP1 hD1 hS1
    exact kk as' g1 g2 hkp.1 hkp.2.1 H1 locs1 lsA hP1 hD1 hS1 hlv
theorem L_callI (C : CtL p s m meth c D cI cG b L xs) {idx k' n i : Nat} {av' : List AV} {h' : AH} (hr : arun n k' 0 (loc0 k' (Rf i :: av')) [] h = some (none, h')) (hd : decode code pc = .ok (.invokespecial idx, 3)) (hlink : Cond.methodLink R_law idx (yM k') ∈ lwG) (hok : lkV k' = true) (hini : isI k' = true) (hn : av'.length + 1 = nar k') (hdb : noDb av' = true) (hw : wh h) (hav : wl h.length (Rf i :: av')) (hl : as.length = h.length) (hrest : (st.map fun v => v.category).sum ≤ 8) (hcs : cells + (h'.length - h.length) ≤ 600000) (hss : slots + (slN h' - slN h) ≤ 7302250)
    (kk : ∀ as' : List Nat, as <+: as' → as'.length = h'.length → wh h' → LW p l e s m below meth c D cI cG b as' h' (cells + (h'.length - h.length)) (slots + (slN h' - slN h)) (pc + 3) lv st) :
    LW p l e s m below meth c D cI cG b as h cells slots pc lv ((av'.map (cv as)).reverse ++ .ref (adr as i) :: st) := by
  intro H locs lsA hP hD hS hlv
  obtain ⟨o1, o2, o3, o4, o5⟩ := lkV_spec hok
  have hnn : (Rf i :: av').length = nar k' := by rw [← hn]; rfl
  have hdb2 : noDb (Rf i :: av') = true := noDb_cons.mpr ⟨rfl, hdb⟩
  have hM : Cok l D cI cG k' as (Rf i :: av') h none h' := Cok_of (runs n) hr o1 hw hav hnn o2 hdb2 hl
  have hkp := (runs (l := l) (D := D) (cI := cI) (cG := cG) n k' 0 _ [] h none h' hr o1 hw (loc0_wl hav) wl_nil (loc0_len (by rw [hnn]; exact o2))).1
  have hpre := preL (av := Rf i :: av') C hP hD
  obtain ⟨hx, hb, hml, hown, hts, hK, hAO, hN, hX, hbl, hlk, hrt⟩ := C
  obtain ⟨m1, m2, m3, m4, m5, m6, m7, m8⟩ := okM_spec o1
  rw [o5] at m2 m7
  have hyn : (yM k').name = "<init>" := by simpa [isI] using hini
  have hrn := isI_ret o1 hini
  have hM1 := hM H.size
  have hws0 : wsM k' = Cond.code (yM k') (bM k') (maxl k') none :: lwG := by unfold wsM; rw [hrn]
  refine W_call (r := none) (A1 := va_A (wsO cI cG as h) H.size) (rest := st) (va_runI (y := yM k') (As := av'.map (cv as)) (b := adr as i) (nL := 8) (n := nar k' - 1) ⟨hx, hb, hml, hown, hts⟩ hM1 (cwI (nar k' - 1) hts (lwG_goodM o1) hws0 rfl rfl (hts _ m4) (hts _ hlink) (hts _ m2) hyn ⟨m6.1, m6.2, m7⟩ ⟨o3, o4⟩) ⟨blind, hpre⟩ rfl ?_ hlv.1 rfl (lv_room hrest) hd ⟨hcs, hss⟩) hS (free_all hD hS (fun _ q => q)) ?_
  · rw [List.length_map]
    omega
  · intro as' H1 locs1 g1 g2 hP1 hD1 hS1
    exact kk as' g1 g2 hkp.1 H1 locs1 lsA hP1 hD1 hS1 hlv
theorem L_new (C : CtL p s m meth c D cI cG b L xs) {idx a : Nat} {Cn : String} {T : u_T} {N : Nat} (hq : vwCl[a]? = some (Cn, T, N)) (hl : as.length = h.length) (hw : wh h) (hd : decode code pc = .ok (.new idx, 3)) (hlink : Cond.classLink R_law idx Cn ∈ lwG) (hcells : cells + 1 ≤ 600000) (hslots : slots + nC a ≤ 7302250)
    (kk : ∀ q : Nat, LW p l e s m below meth c D cI cG b (as ++ [q]) (h ++ [(a, dflO a)]) (cells + 1) (slots + nC a) (pc + 3) lv (.ref q :: st)) : LW p l e s m below meth c D cI cG b as h cells slots pc lv st := by
  intro H locs lsA hP hD hS hlv
  obtain ⟨hx, hb, hml, hown, hts, hK, hAO, hN, hX, hbl, hlk, hrt⟩ := C
  obtain ⟨o1, o2, o3⟩ := okC_spec hq
  obtain ⟨t1, t2, t3⟩ := okT_spec hq
  have hn := nC_eq hq
  refine va_new (ci := a) (fs := (dflO a).map (cv as)) hx hb hts o1 (tyC a) t1 hown (hts _ hlink) (hts _ o2) (hts _ o3) hK hP hD hS (fun _ q => q) hq ?_ hcells (by rw [← hn]; exact hslots) hd ?_
  · intro j hj
    rw [df_spec (as := as) (t3 j hj)]
    simp only [vp_V, dflO, List.getD_eq_getElem?_getD, List.getElem?_map, hn, List.getElem?_range hj, Option.map_some, Option.getD_some]
  · intro q H1 hP hD hS
    have e1 : wsO cI cG as h ++ [(q, .inr (a, (dflO a).map (cv as)))] = wsO cI cG (as ++ [q]) (h ++ [(a, dflO a)]) := by
      rw [wsO_push hl hw, cellE_obj (vw_lt hq), cvl_app (dflO_wl _ _)]
    rw [e1] at hP hD
    have h2 := kk q H1 locs lsA hP hD hS hlv
    rw [hn] at h2
    exact h2
/-! the small steps -/
theorem L_aload (C : CtL p s m meth c D cI cG b L xs) {k : Fin 4} {a : Nat} (j : Nat) (hd : decode code pc = .ok (.aload_n k, 1)) (hj : lv[j]? = some ((k : Nat), .ref a)) (kk : LW p l e s m below meth c D cI cG b as h cells slots (pc + 1) lv (.ref a :: st)) : LW p l e s m below meth c D cI cG b as h cells slots pc lv st :=
  fun H locs ls hP hD hS hl => lv_aload_n C.1 C.2.1 hd rfl (lv_at hl j hj) (kk H locs ls hP hD hS hl)
theorem L_iload (C : CtL p s m meth c D cI cG b L xs) {k : Fin 4} {x : Int32} (j : Nat) (hd : decode code pc = .ok (.iload_n k, 1)) (hj : lv[j]? = some ((k : Nat), .int x)) (kk : LW p l e s m below meth c D cI cG b as h cells slots (pc + 1) lv (.int x :: st)) : LW p l e s m below meth c D cI cG b as h cells slots pc lv st :=
  fun H locs ls hP hD hS hl => lv_iload_n C.1 C.2.1 hd rfl (lv_at hl j hj) (kk H locs ls hP hD hS hl)
theorem L_iconst (C : CtL p s m meth c D cI cG b L xs) {n : Int} {v : Int32} (hd : decode code pc = .ok (.iconst n, 1)) (hv : Int32.ofInt n = v) (kk : LW p l e s m below meth c D cI cG b as h cells slots (pc + 1) lv (.int v :: st)) : LW p l e s m below meth c D cI cG b as h cells slots pc lv st :=
  fun H locs ls hP hD hS hl => lv_iconst C.1 C.2.1 hd hv (kk H locs ls hP hD hS hl)
theorem L_bipush (C : CtL p s m meth c D cI cG b L xs) {n : Int} {v : Int32} (hd : decode code pc = .ok (.bipush n, 2)) (hv : (Int8.ofInt n).toInt32 = v) (kk : LW p l e s m below meth c D cI cG b as h cells slots (pc + 2) lv (.int v :: st)) : LW p l e s m below meth c D cI cG b as h cells slots pc lv st :=
  fun H locs ls hP hD hS hl => lv_bipush C.1 C.2.1 hd hv (kk H locs ls hP hD hS hl)
theorem L_iadd (C : CtL p s m meth c D cI cG b L xs) {x y : Int32} (hd : decode code pc = .ok (.iadd, 1)) (kk : LW p l e s m below meth c D cI cG b as h cells slots (pc + 1) lv (.int (x + y) :: st)) : LW p l e s m below meth c D cI cG b as h cells slots pc lv (.int y :: .int x :: st) :=
  fun H locs ls hP hD hS hl => lv_iadd C.1 C.2.1 hd (kk H locs ls hP hD hS hl)
theorem L_isub (C : CtL p s m meth c D cI cG b L xs) {x y : Int32} (hd : decode code pc = .ok (.isub, 1)) (kk : LW p l e s m below meth c D cI cG b as h cells slots (pc + 1) lv (.int (x - y) :: st)) : LW p l e s m below meth c D cI cG b as h cells slots pc lv (.int y :: .int x :: st) :=
  fun H locs ls hP hD hS hl => lv_isub C.1 C.2.1 hd (kk H locs ls hP hD hS hl)
theorem L_iand (C : CtL p s m meth c D cI cG b L xs) {x y : Int32} (hd : decode code pc = .ok (.iand, 1)) (kk : LW p l e s m below meth c D cI cG b as h cells slots (pc + 1) lv (.int (x &&& y) :: st)) : LW p l e s m below meth c D cI cG b as h cells slots pc lv (.int y :: .int x :: st) :=
  fun H locs ls hP hD hS hl => lv_iand C.1 C.2.1 hd (kk H locs ls hP hD hS hl)
theorem L_dup (C : CtL p s m meth c D cI cG b L xs) {a : Nat} (hd : decode code pc = .ok (.dup, 1)) (kk : LW p l e s m below meth c D cI cG b as h cells slots (pc + 1) lv (.ref a :: .ref a :: st)) : LW p l e s m below meth c D cI cG b as h cells slots pc lv (.ref a :: st) :=
  fun H locs ls hP hD hS hl => lv_dup C.1 C.2.1 hd rfl (kk H locs ls hP hD hS hl)
theorem L_goto (C : CtL p s m meth c D cI cG b L xs) {off : Int} {tgt : Nat} (hd : decode code pc = .ok (.goto off, 3)) (ht : (pc : Int) + off = (tgt : Int)) (kk : LW p l e s m below meth c D cI cG b as h cells slots tgt lv st) : LW p l e s m below meth c D cI cG b as h cells slots pc lv st :=
  fun H locs ls hP hD hS hl => lv_goto C.1 C.2.1 hd ht (kk H locs ls hP hD hS hl)
theorem L_ifeq (C : CtL p s m meth c D cI cG b L xs) {x : Int32} {off : Int} {tgt : Nat} (hd : decode code pc = .ok (.ifCond .eq off, 3)) (ht : (pc : Int) + off = (tgt : Int)) (kt : x = 0 → LW p l e s m below meth c D cI cG b as h cells slots tgt lv st) (kf : ¬ x = 0 → LW p l e s m below meth c D cI cG b as h cells slots (pc + 3) lv st) : LW p l e s m below meth c D cI cG b as h cells slots pc lv (.int x :: st) :=
  fun H locs ls hP hD hS hl => lv_if_eq C.1 C.2.1 hd ht (fun q => kt q H locs ls hP hD hS hl) (fun q => kf q H locs ls hP hD hS hl)
theorem L_same (C : CtL p s m meth c D cI cG b L xs) {x : Int32} {off : Int} {tgt : Nat} (hd : decode code pc = .ok (.if_icmp .eq off, 3)) (ht : (pc : Int) + off = (tgt : Int)) (kt : LW p l e s m below meth c D cI cG b as h cells slots tgt lv st) : LW p l e s m below meth c D cI cG b as h cells slots pc lv (.int x :: .int x :: st) :=
  fun H locs ls hP hD hS hl => lv_icmp_eq C.1 C.2.1 hd ht (fun _ => kt H locs ls hP hD hS hl) (fun q => absurd rfl q)
/-- a number of the script -/
theorem L_rd (C : CtL p s m meth c D cI cG b L xs) {n : Int} {j i : Nat} (hL : L ≤ 2048) (hij : i + j < L) (hlv : lv[0]? = some (0, .ref b)) (hlv3 : lv[3]? = some (3, .int (nI i))) (hn : Int32.ofInt n = nI j) (h0 : decode code pc = .ok (.aload_n 0, 1)) (h1 : decode code (pc + 1) = .ok (.iload_n 3, 1)) (h2 : decode code (pc + 2) = .ok (.iconst n, 1)) (h3 : decode code (pc + 3) = .ok (.iadd, 1)) (h4 : decode code (pc + 4) = .ok (.iaload, 1)) (kk : LW p l e s m below meth c D cI cG b as h cells slots (pc + 5) lv (.int (xs (i + j)) :: st)) : LW p l e s m below meth c D cI cG b as h cells slots pc lv st := by
  refine L_aload C 0 h0 hlv ?_
  refine L_iload C 3 h1 hlv3 ?_
  refine L_iconst C h2 hn ?_
  refine L_iadd C h3 ?_
  rw [nI_add]
  intro H locs ls hP hD hS hl
  have hin : vp_in (nI (i + j)) L := vp_in_nI hij (by omega)
  refine va_sld C.1 C.2.1 C.2.2.2.2.2.2.2.2.1 C.2.2.2.2.2.2.2.2.2.1 (Nat.not_le.mpr C.2.2.2.2.2.2.2.2.2.1) hS hin h4 ?_
  rw [nI_clamp (by omega)]
  exact kk H locs ls hP hD hS hl
/-! calls over the memory of the relation -/
theorem slN_Hp (M N : Mem) (P Q : PMem) : slN (Hp M P) = slN (Hp N Q) := by
  unfold slN Hp
  rw [List.map_map, List.map_map]
  refine congrArg List.sum (List.map_congr_left fun i _ => ?_)
  show slO (obM M P i) = slO (obM N Q i)
  unfold slO obM
  simp only [List.length_map, List.length_range]
theorem L_ev (C : CtL p s m meth c D cI cG b L xs) {M N : Mem} {P P' : PMem} {idx k' i ci : Nat} {av' : List AV} {v : AV} (he : evM k' (Rf i :: av') (Hp M P) = some (some v, Hp N P')) (hd : decode code pc = .ok (.invokevirtual idx, 3)) (hlink : Cond.methodLink R_law idx (yM k') ∈ lwG) (hok : lkV k' = true) (hini : isI k' = false) (hn : av'.length + 1 = nar k') (hdb : noDb av' = true) (hcl : clsS ci k' = true) (hk : kd i = ci) (hw : wh (Hp M P)) (hav : wl NN (Rf i :: av')) (hl : as.length = NN) (hrest : (st.map fun v => v.category).sum ≤ 8) (hcs : cells ≤ 600000) (hss : slots ≤ 7302250)
    (kk : wh (Hp N P') → wv NN v → LW p l e s m below meth c D cI cG b as (Hp N P') cells slots (pc + 3) lv (cv as v :: st)) :
    LW p l e s m below meth c D cI cG b as (Hp M P) cells slots pc lv ((av'.map (cv as)).reverse ++ .ref (adr as i) :: st) := by
  obtain ⟨n, hr⟩ := evL_iff.mp he
  have e1 : (Hp N P').length - (Hp M P).length = 0 := by rw [Hp_len, Hp_len]; omega
  have e2 : slN (Hp N P') - slN (Hp M P) = 0 := by rw [slN_Hp N M P' P]; omega
  have hc2 : clsOk (Hp M P) k' (some (Rf i)) = true := by
    subst hk
    unfold clsS at hcl
    simp only [Bool.and_eq_true, decide_eq_true_eq] at hcl
    unfold clsOk
    simp only [Hp_get (kd_lt (show kd i ≠ 999 by omega)), obM]
    exact hcl.2
  refine L_callV C hr hd hlink hok hini hn hdb hc2 hw (by rw [Hp_len]; exact hav) (by rw [Hp_len]; exact hl) hrest (by rw [e1]; exact hcs) (by rw [e2]; exact hss) ?_
  intro as' g1 g2 g3 g4
  have ea : as' = as := by
    rw [Hp_len] at g2
    exact (List.IsPrefix.eq_of_length g1 (by rw [hl, g2])).symm
  subst ea
  rw [e1, e2]
  have := kk g3 (by rw [← Hp_len N P']; exact g4 v rfl)
  exact this
theorem cv_I (x : Int32) : cv as (I x.toInt) = .int x := by
  show Value.int (i32 x.toInt) = _
  rw [i32_of]
theorem wl_1 {i : Nat} (hi : i < NN) : wl NN [Rf i] := wl_cons.mpr ⟨hi, wl_nil⟩
theorem wl_i {l : List AV} (x : Int32) (h : wl NN l) : wl NN (I x.toInt :: l) := wl_cons.mpr ⟨inr_toInt x, h⟩
theorem inr_1 : inr 1 := ⟨by decide, by decide⟩
theorem L_sub (ks : List Nat) (hp : lv_pick lv ks = lv') (kk : LW p l e s m below meth c D cI cG b as h cells slots pc lv' st) : LW p l e s m below meth c D cI cG b as h cells slots pc lv st :=
  fun H locs ls hP hD hS hl => kk H locs ls hP hD hS (lv_sub hl ks hp)
theorem L_dstore (C : CtL p s m meth c D cI cG b L xs) {k : Nat} {x : UInt64} (hd : decode code pc = .ok (.dstore k, 2)) (hn : k + 1 < 8) (hl : (k, Value.double x) :: lv.filter (fun q => !(q.1 == k) && (!(q.1 == k + 1) && !(q.1 + 1 == k && q.2.category == 2))) = lv') (kk : LW p l e s m below meth c D cI cG b as h cells slots (pc + 2) lv' st) : LW p l e s m below meth c D cI cG b as h cells slots pc lv (.double x :: st) :=
  fun H locs ls hP hD hS hv => lv_dstore C.1 C.2.1 hd hv hn hl (fun ls2 hl2 => kk H locs ls2 hP hD hS hl2)
theorem L_dload (C : CtL p s m meth c D cI cG b L xs) {k : Nat} {x : UInt64} (j : Nat) (hd : decode code pc = .ok (.dload k, 2)) (hj : lv[j]? = some (k, .double x)) (kk : LW p l e s m below meth c D cI cG b as h cells slots (pc + 2) lv (.double x :: st)) : LW p l e s m below meth c D cI cG b as h cells slots pc lv st :=
  fun H locs ls hP hD hS hl => lv_dload C.1 C.2.1 hd (lv_at hl j hj) (kk H locs ls hP hD hS hl)
theorem dc_self {x : UInt64} (h : x &&& 0x7fffffffffffffff ≤ 0x7ff0000000000000) : FP.dcmp x x = some .eq := by
  refine FP.Core.dcmp_refl ?_
  cases hq : FP.Core.dIsNaN x with
  | false => rfl
  | true =>
    have h2 := (FP.Core.isNaN_bits x).mp hq
    rw [UInt64.le_iff_toNat_le, UInt64.toNat_and] at h
    have h3 : x.toNat &&& (2 ^ 63 - 1) ≤ 9218868437227405312 := h
    rw [Nat.and_two_pow_sub_one_eq_mod] at h3
    omega
theorem L_dcmp (C : CtL p s m meth c D cI cG b L xs) {x : UInt64} (hx : x &&& 0x7fffffffffffffff ≤ 0x7ff0000000000000) (hd : decode code pc = .ok (.dcmp .l, 1)) (kk : LW p l e s m below meth c D cI cG b as h cells slots (pc + 1) lv (.int 0 :: st)) : LW p l e s m below meth c D cI cG b as h cells slots pc lv (.double x :: .double x :: st) := by
  intro H locs ls hP hD hS hl
  refine lv_dcmp C.1 C.2.1 hd ?_
  rw [dc_self hx]
  exact kk H locs ls hP hD hS hl
theorem L_iinc (C : CtL p s m meth c D cI cG b L xs) {k j : Nat} {n : Int} {x v : Int32} (hd : decode code pc = .ok (.iinc k n, 3)) (hj : lv[j]? = some (k, .int x)) (hv : x + Int32.ofInt n = v) (hn : k < 8) (hl : (k, Value.int v) :: lv.filter (fun q => !(q.1 == k) && !(q.1 + 1 == k && q.2.category == 2)) = lv') (kk : LW p l e s m below meth c D cI cG b as h cells slots (pc + 3) lv' st) : LW p l e s m below meth c D cI cG b as h cells slots pc lv st :=
  fun H locs ls hP hD hS hh => lv_iinc C.1 C.2.1 hd hh hj hv hn hl (fun ls2 hl2 => kk H locs ls2 hP hD hS hl2)
theorem L_gt (C : CtL p s m meth c D cI cG b L xs) {x y : Int32} {off : Int} {tgt : Nat} (hd : decode code pc = .ok (.if_icmp .gt off, 3)) (ht : (pc : Int) + off = (tgt : Int)) (kt : y < x → LW p l e s m below meth c D cI cG b as h cells slots tgt lv st) (kf : ¬ y < x → LW p l e s m below meth c D cI cG b as h cells slots (pc + 3) lv st) : LW p l e s m below meth c D cI cG b as h cells slots pc lv (.int y :: .int x :: st) :=
  fun H locs ls hP hD hS hl => lv_icmp_gt C.1 C.2.1 hd ht (fun q => kt q H locs ls hP hD hS hl) (fun q => kf q H locs ls hP hD hS hl)
theorem L_tab (C : CtL p s m meth c D cI cG b L xs) {dflt lo hi : Int} {offs : Array Int} {len : Nat} {x : Int32} {off : Int} {tgt : Nat} (hd : decode code pc = .ok (.tableswitch dflt lo hi offs, len)) (z : Int) (hz : x.toInt = z) (h1 : ¬ z < lo) (h2 : ¬ hi < z) (ho : offs[(z - lo).toNat]? = some off) (ht : (pc : Int) + off = (tgt : Int)) (kk : LW p l e s m below meth c D cI cG b as h cells slots tgt lv st) : LW p l e s m below meth c D cI cG b as h cells slots pc lv (.int x :: st) := by
  subst hz
  exact fun H locs ls hP hD hS hl => lv_tableIn C.1 C.2.1 hd h1 h2 ho ht (kk H locs ls hP hD hS hl)
theorem L_tabO (C : CtL p s m meth c D cI cG b L xs) {dflt lo hi : Int} {offs : Array Int} {len : Nat} {x : Int32} {tgt : Nat} (hd : decode code pc = .ok (.tableswitch dflt lo hi offs, len)) (h1 : x.toInt < lo ∨ hi < x.toInt) (ht : (pc : Int) + dflt = (tgt : Int)) (kk : LW p l e s m below meth c D cI cG b as h cells slots tgt lv st) : LW p l e s m below meth c D cI cG b as h cells slots pc lv (.int x :: st) :=
  fun H locs ls hP hD hS hl => lv_tableOut C.1 C.2.1 hd h1 ht (kk H locs ls hP hD hS hl)
theorem L_astore (C : CtL p s m meth c D cI cG b L xs) {k : Fin 4} {x : Nat} (hd : decode code pc = .ok (.astore_n k, 1)) (hl : ((k : Nat), Value.ref x) :: lv.filter (fun q => !(q.1 == (k : Nat)) && !(q.1 + 1 == (k : Nat) && q.2.category == 2)) = lv') (kk : LW p l e s m below meth c D cI cG b as h cells slots (pc + 1) lv' st) : LW p l e s m below meth c D cI cG b as h cells slots pc lv (.ref x :: st) :=
  fun H locs ls hP hD hS hv => lv_astore_n C.1 C.2.1 hd rfl hv (by omega) hl (fun ls2 hl2 => kk H locs ls2 hP hD hS hl2)
theorem L_istore (C : CtL p s m meth c D cI cG b L xs) {k : Fin 4} {x : Int32} (hd : decode code pc = .ok (.istore_n k, 1)) (hl : ((k : Nat), Value.int x) :: lv.filter (fun q => !(q.1 == (k : Nat)) && !(q.1 + 1 == (k : Nat) && q.2.category == 2)) = lv') (kk : LW p l e s m below meth c D cI cG b as h cells slots (pc + 1) lv' st) : LW p l e s m below meth c D cI cG b as h cells slots pc lv (.int x :: st) :=
  fun H locs ls hP hD hS hv => lv_istore_n C.1 C.2.1 hd rfl hv (by omega) hl (fun ls2 hl2 => kk H locs ls2 hP hD hS hl2)
end LawB
