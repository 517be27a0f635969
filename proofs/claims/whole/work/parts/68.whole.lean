section Whole
variable {p : Program} {e : Env} {s : State} {m : MethodId} {below : List Frame} {meth : Method} {c : Code}
theorem case_18 {l : Launch} {D : va_G} {cI cG : ClassId} {b L : Nat} {xs : Nat → Int32} {as : List Nat} {cells slots i : Nat} {M : Mem} {P : PMem} (C : CtL p s m meth c D cI cG b L xs) (hR : R M P) (hw : wh (Hp M P)) (hl : as.length = NN) (hcs : cells ≤ 600000) (hss : slots ≤ 7302250) (kk : ∀ (N : Mem) (Q : PMem), R N Q → wh (Hp N Q) → LW p l e s m below meth c D cI cG b as (Hp N Q) cells slots 662 (lvF as b i) []) : LW p l e s m below meth c D cI cG b as (Hp M P) cells slots 582 (lvF as b i) [] := by
  obtain ⟨x, N, P1, N2, e1, e2, hR2, hx⟩ := P_brought hR
  refine L_aload C 1 dl_582 rfl ?_
  refine L_ev (i := 0) (ci := 7) (av' := []) (st := []) C e1 dl_583 lk_91 rfl rfl rfl rfl rfl kd_0 hw (wl_cons.mpr ⟨show 0 < NN by decide, wl_nil⟩) hl (Nat.le_of_ble_eq_true rfl) hcs hss (fun hw1 _ => ?_)
  refine L_dstore (k := 4) (x := x) (lv' := [(4, .double x), (0, .ref b), (1, .ref (adr as 0)), (2, .ref (adr as 149)), (3, .int (nI i))]) C dl_586 (by decide) rfl ?_
  refine L_aload C 3 dl_588 rfl ?_
  refine L_ev (i := 149) (ci := 8) (av' := []) (st := []) C e2 dl_589 lk_95 rfl rfl rfl rfl rfl kd_149 hw1 (wl_cons.mpr ⟨show 149 < NN by decide, wl_nil⟩) hl (Nat.le_of_ble_eq_true rfl) hcs hss (fun hw2 _ => ?_)
  refine L_dstore (k := 6) (x := x) (lv' := [(6, .double x), (4, .double x), (0, .ref b), (1, .ref (adr as 0)), (2, .ref (adr as 149)), (3, .int (nI i))]) C dl_592 (by decide) rfl ?_
  refine L_dload (x := x) C 1 dl_594 rfl ?_
  refine L_dload (x := x) C 0 dl_596 rfl ?_
  refine L_dcmp C hx dl_598 ?_
  refine L_ifeq (tgt := 620) C dl_599 (by decide) (fun _ => ?_) (fun q => absurd rfl q)
  refine L_goto (tgt := 662) C dl_620 (by decide) ?_
  exact L_sub [2, 3, 4, 5] rfl (kk N2 P1 hR2 hw2)
theorem nI_i32 {i : Nat} (h : i ≤ 10000) : nI i = i32 (i : Int) := by
  rw [← Int32.toInt_inj, nI_toInt (by omega), i32_toInt ⟨by omega, by omega⟩]
theorem L_slen {l : Launch} {D : va_G} {cI cG : ClassId} {b L : Nat} {xs : Nat → Int32} {as : List Nat} {h : AH} {cells slots pc : Nat} {lv : List (Nat × Value)} {st : List Value} (C : CtL p s m meth c D cI cG b L xs) (hd : decode code pc = .ok (.arraylength, 1)) (kk : LW p l e s m below meth c D cI cG b as h cells slots (pc + 1) lv (.int (Int32.ofNat L) :: st)) : LW p l e s m below meth c D cI cG b as h cells slots pc lv (.ref b :: st) :=
  fun H locs ls hP hD hS hl => va_slen C.1 C.2.1 C.2.2.2.2.2.2.2.2.1 C.2.2.2.2.2.2.2.2.2.1 (Nat.not_le.mpr C.2.2.2.2.2.2.2.2.2.1) hS hd (kk H locs ls hP hD hS hl)
theorem law_head {l : Launch} {D : va_G} {cI cG : ClassId} {b L : Nat} {xs : Nat → Int32} {as : List Nat} {cells slots i : Nat} {M : Mem} {P : PMem} (C : CtL p s m meth c D cI cG b L xs) (hL : L ≤ 2048) (hi : i ≤ 3000) (hend : LW p l e s m below meth c D cI cG b as (Hp M P) cells slots 668 (lvF as b i) []) (hgo : i + 4 ≤ L → LW p l e s m below meth c D cI cG b as (Hp M P) cells slots 26 (lvF as b i) []) : LW p l e s m below meth c D cI cG b as (Hp M P) cells slots 18 (lvF as b i) [] := by
  refine L_iload C 3 dl_18 rfl ?_
  refine L_aload C 0 dl_19 rfl ?_
  refine L_slen C dl_20 ?_
  refine L_iconst (v := i32 4) C dl_21 rfl ?_
  refine L_isub C dl_22 ?_
  have eL : Int32.ofNat L = i32 (L : Int) := nI_i32 (by omega)
  have e1 : Int32.ofNat L - i32 4 = i32 ((L : Int) - 4) := by
    have h1 : sb (L : Int) 4 = (L : Int) - 4 := sb_eq (by omega) (by omega)
    rw [eL, ← h1]
    exact (i32_w2 (· - ·) (L : Int) 4).symm
  rw [e1, nI_i32 (by omega)]
  refine L_gt (tgt := 668) C dl_23 (by decide) (fun _ => hend) (fun q => hgo ?_)
  rw [i32_lt ⟨by omega, by omega⟩ ⟨by omega, by omega⟩] at q
  omega
theorem law_end {l : Launch} {D : va_G} {cI cG : ClassId} {b L : Nat} {xs : Nat → Int32} {as : List Nat} {h : AH} {cells slots : Nat} {lv : List (Nat × Value)} (C : CtL p s m meth c D cI cG b L xs) (hcs : cells ≤ 600000) (hss : slots ≤ 7302250) : LW p l e s m below meth c D cI cG b as h cells slots 668 lv [] := by
  intro H locs ls hP hD hS hv
  obtain ⟨hx, hb, hml, hown, hts, hK, hAO, hN, hX, hbl, hlk, hrt⟩ := C
  refine lv_iconst (v := 1) hx hb dl_668 (by decide) ?_
  refine va_forget (fun q hq => hS.2.2 q hq) ?_
  refine W.widen (k := 600000) (n := 7302250) hcs hss ?_
  refine W.base ?_
  exact lw_ret (Drawn.sameBut.refl s.drawn lw_cs) hx hb hrt hlk dl_669
theorem law_loop {l : Launch} {D : va_G} {cI cG : ClassId} {b L : Nat} {xs : Nat → Int32} {as : List Nat} {cells slots : Nat} (C : CtL p s m meth c D cI cG b L xs) (hL : L ≤ 2048) (hl : as.length = NN) (hcs : cells ≤ 600000) (hss : slots ≤ 7302250) : ∀ (n i : Nat) (M : Mem) (P : PMem), L ≤ i + n → i ≤ 3000 → R M P → wh (Hp M P) → LW p l e s m below meth c D cI cG b as (Hp M P) cells slots 18 (lvF as b i) [] := by
  intro n
  induction n using Nat.strongRecOn with
  | ind n ih =>
    intro i M P hn hi hR hw
    refine law_head C hL hi (law_end C hcs hss) (fun hgo => ?_)
    have hi3 : i + 3 < L := by omega
    have hnx : ∀ (N : Mem) (Q : PMem), R N Q → wh (Hp N Q) → LW p l e s m below meth c D cI cG b as (Hp N Q) cells slots 662 (lvF as b i) [] := by
      intro N Q hR2 hw2
      refine L_iinc (k := 3) (j := 3) (x := nI i) (v := nI (i + 4)) (lv' := [(3, .int (nI (i + 4))), (0, .ref b), (1, .ref (adr as 0)), (2, .ref (adr as 149))]) C dl_662 rfl (nI_add i 4) (by decide) rfl ?_
      refine L_goto (tgt := 18) C dl_665 (by decide) ?_
      exact L_sub [1, 2, 3, 0] rfl (ih (n - 4) (by omega) (i + 4) N Q (by omega) (by omega) hR2 hw2)
    refine L_aload C 0 dl_26 rfl ?_
    refine L_iload C 3 dl_27 rfl ?_
    have hrd : LW p l e s m below meth c D cI cG b as (Hp M P) cells slots 29 (lvF as b i) [.int (xs i)] := by
      refine L_bipush (v := i32 31) C dl_29 (by decide) ?_
      refine L_iand C dl_31 ?_
      obtain ⟨y, hy⟩ : ∃ y, y = xs i &&& i32 31 := ⟨_, rfl⟩
      rw [← hy]
      by_cases ho : y.toInt < 0 ∨ 21 < y.toInt
      · exact L_tabO (tgt := 662) C dl_32 ho (by decide) (hnx M P hR hw)
      · have hz : y.toInt = 0 ∨ y.toInt = 1 ∨ y.toInt = 2 ∨ y.toInt = 3 ∨ y.toInt = 4 ∨ y.toInt = 5 ∨ y.toInt = 6 ∨ y.toInt = 7 ∨ y.toInt = 8 ∨ y.toInt = 9 ∨ y.toInt = 10 ∨ y.toInt = 11 ∨ y.toInt = 12 ∨ y.toInt = 13 ∨ y.toInt = 14 ∨ y.toInt = 15 ∨ y.toInt = 16 ∨ y.toInt = 17 ∨ y.toInt = 18 ∨ y.toInt = 19 ∨ y.toInt = 20 ∨ y.toInt = 21 := by omega
        rcases hz with z | z | z | z | z | z | z | z | z | z | z | z | z | z | z | z | z | z | z | z | z | z
        · exact L_tab (tgt := 136) C dl_32 0 z (by decide) (by decide) rfl (by decide) (case_0 C hL hi3 hR hw hl hcs hss hnx)
        · exact L_tab (tgt := 169) C dl_32 1 z (by decide) (by decide) rfl (by decide) (case_1 C hL hi3 hR hw hl hcs hss hnx)
        · exact L_tab (tgt := 208) C dl_32 2 z (by decide) (by decide) rfl (by decide) (case_2 C hL hi3 hR hw hl hcs hss hnx)
        · exact L_tab (tgt := 221) C dl_32 3 z (by decide) (by decide) rfl (by decide) (case_3 C hL hi3 hR hw hl hcs hss hnx)
        · exact L_tab (tgt := 244) C dl_32 4 z (by decide) (by decide) rfl (by decide) (case_4 C hL hi3 hR hw hl hcs hss hnx)
        · exact L_tab (tgt := 257) C dl_32 5 z (by decide) (by decide) rfl (by decide) (case_5 C hL hi3 hR hw hl hcs hss hnx)
        · exact L_tab (tgt := 280) C dl_32 6 z (by decide) (by decide) rfl (by decide) (case_6 C hL hi3 hR hw hl hcs hss hnx)
        · exact L_tab (tgt := 293) C dl_32 7 z (by decide) (by decide) rfl (by decide) (case_7 C hL hi3 hR hw hl hcs hss hnx)
        · exact L_tab (tgt := 306) C dl_32 8 z (by decide) (by decide) rfl (by decide) (case_8 C hL hi3 hR hw hl hcs hss hnx)
        · exact L_tab (tgt := 319) C dl_32 9 z (by decide) (by decide) rfl (by decide) (case_9 C hL hi3 hR hw hl hcs hss hnx)
        · exact L_tab (tgt := 342) C dl_32 10 z (by decide) (by decide) rfl (by decide) (case_10 C hL hi3 hR hw hl hcs hss hnx)
        · exact L_tab (tgt := 375) C dl_32 11 z (by decide) (by decide) rfl (by decide) (case_11 C hL hi3 hR hw hl hcs hss hnx)
        · exact L_tab (tgt := 418) C dl_32 12 z (by decide) (by decide) rfl (by decide) (case_12 C hL hi3 hR hw hl hcs hss hnx)
        · exact L_tab (tgt := 451) C dl_32 13 z (by decide) (by decide) rfl (by decide) (case_13 C hL hi3 hR hw hl hcs hss hnx)
        · exact L_tab (tgt := 474) C dl_32 14 z (by decide) (by decide) rfl (by decide) (case_14 C hL hi3 hR hw hl hcs hss hnx)
        · exact L_tab (tgt := 487) C dl_32 15 z (by decide) (by decide) rfl (by decide) (case_15 C hL hi3 hR hw hl hcs hss hnx)
        · exact L_tab (tgt := 546) C dl_32 16 z (by decide) (by decide) rfl (by decide) (case_16 C hL hi3 hR hw hl hcs hss hnx)
        · exact L_tab (tgt := 569) C dl_32 17 z (by decide) (by decide) rfl (by decide) (case_17 C hL hi3 hR hw hl hcs hss hnx)
        · exact L_tab (tgt := 582) C dl_32 18 z (by decide) (by decide) rfl (by decide) (case_18 C hR hw hl hcs hss hnx)
        · exact L_tab (tgt := 623) C dl_32 19 z (by decide) (by decide) rfl (by decide) (case_19 C hL hi3 hR hw hl hcs hss hnx)
        · exact L_tab (tgt := 636) C dl_32 20 z (by decide) (by decide) rfl (by decide) (case_20 C hL hi3 hR hw hl hcs hss hnx)
        · exact L_tab (tgt := 649) C dl_32 21 z (by decide) (by decide) rfl (by decide) (case_21 C hL hi3 hR hw hl hcs hss hnx)
    intro H locs ls hP hD hS hv
    refine va_sld C.1 C.2.1 C.2.2.2.2.2.2.2.2.1 C.2.2.2.2.2.2.2.2.2.1 (Nat.not_le.mpr C.2.2.2.2.2.2.2.2.2.1) hS (vp_in_nI (show i < L by omega) (by omega)) dl_28 ?_
    rw [nI_clamp (by omega)]
    exact hrd H locs ls hP hD hS hv
theorem len149 : ((Hp M0 P0).take 149).length = 149 := by rw [List.length_take, Hp_len]; rfl
set_option maxRecDepth 100000 in
theorem sl149 : slN ((Hp M0 P0).take 149) ≤ 5000 := by decide +kernel
set_option maxRecDepth 100000 in
theorem sl157 : slN (Hp M0 P0) ≤ 5000 := by decide +kernel
theorem nC_7 : nC 7 = 8 := by decide
theorem nC_8 : nC 8 = 18 := by decide
theorem wh_1 {o : Nat} : wh [(o, dflO o)] := by
  intro x hx
  rw [List.mem_singleton.mp hx]
  exact dflO_wl _ _
theorem pre_get {as as' : List Nat} {i : Nat} (h : as <+: as') (hi : i < as.length) : adr as' i = adr as i := by
  obtain ⟨t, rfl⟩ := h
  exact adr_app hi
section Stages
variable {p : Program} {l : Launch} {e : Env} {s : State} {m : MethodId} {below : List Frame} {meth : Method} {c : Code} {D : va_G} {cI cG : ClassId} {b L : Nat} {xs : Nat → Int32} {as : List Nat} {h : AH} {cells slots pc : Nat} {lv : List (Nat × Value)} {st : List Value}
theorem L_callJ (C : CtL p s m meth c D cI cG b L xs) {idx k' n i a : Nat} {h' : AH} (ha : adr as i = a) (hr : arun n k' 0 (loc0 k' [Rf i]) [] h = some (none, h')) (hd : decode code pc = .ok (.invokespecial idx, 3)) (hlink : Cond.methodLink R_law idx (yM k') ∈ lwG) (hok : lkV k' = true) (hini : isI k' = true) (hn : 1 = nar k') (hw : wh h) (hav : i < h.length) (hl : as.length = h.length) (hrest : (st.map fun v => v.category).sum ≤ 8) (hcs : cells + (h'.length - h.length) ≤ 600000) (hss : slots + (slN h' - slN h) ≤ 7302250)
    (kk : ∀ as' : List Nat, as <+: as' → as'.length = h'.length → wh h' → LW p l e s m below meth c D cI cG b as' h' (cells + (h'.length - h.length)) (slots + (slN h' - slN h)) (pc + 3) lv st) :
    LW p l e s m below meth c D cI cG b as h cells slots pc lv (.ref a :: st) := by
  subst ha
  exact L_callI (av' := []) C hr hd hlink hok hini (by rw [← hn]; rfl) rfl hw (wl_cons.mpr ⟨hav, wl_nil⟩) hl hrest hcs hss kk
theorem start3 (C : CtL p s m meth c D cI cG b L xs) (hL : L ≤ 2048) {q0 q1 : Nat} (hl : as.length = 157) (y1 : adr as 0 = q0) (y2 : adr as 149 = q1) (hcs : cells ≤ 600000) (hss : slots ≤ 7302250) (hw : wh (Hp M0 P0)) : LW p l e s m below meth c D cI cG b as (Hp M0 P0) cells slots 15 [(1, .ref q0), (0, .ref b)] [.ref q1] := by
  refine L_astore (k := 2) (lv' := [(2, .ref q1), (1, .ref q0), (0, .ref b)]) C dl_15 rfl ?_
  refine L_iconst (v := nI 0) C dl_16 rfl ?_
  refine L_istore (k := 3) (lv' := [(3, .int (nI 0)), (2, .ref q1), (1, .ref q0), (0, .ref b)]) C dl_17 rfl ?_
  refine L_sub (lv' := lvF as b 0) [3, 2, 1, 0] (by unfold lvF; rw [y1, y2]; rfl) ?_
  exact law_loop C hL hl hcs hss L 0 M0 P0 (by omega) (by omega) R_start hw
theorem l150 : ((Hp M0 P0).take 149 ++ [(8, dflO 8)]).length = 150 := by rw [List.length_append, len149]; rfl
theorem start2 (C : CtL p s m meth c D cI cG b L xs) (hL : L ≤ 2048) {q0 : Nat} (hl : as.length = 149) (z1 : adr as 0 = q0) (hcs : cells ≤ 300) (hss : slots ≤ 10000) (hw : wh ((Hp M0 P0).take 149)) : LW p l e s m below meth c D cI cG b as ((Hp M0 P0).take 149) cells slots 7 [(0, .ref b)] [.ref q0] := by
  refine L_astore (k := 1) (lv' := [(1, .ref q0), (0, .ref b)]) C dl_7 rfl ?_
  refine L_new (a := 8) (idx := 10) C rfl (by rw [len149]; exact hl) hw dl_8 (lwG_in (List.mem_of_getElem? (i := 703) (by decide +kernel)) rfl) (by omega) (by rw [nC_8]; omega) (fun q1 => ?_)
  refine L_dup C dl_11 ?_
  have z2 : adr (as ++ [q1]) 149 = q1 := adr_last hl
  refine L_callJ (i := 149) (a := q1) C z2 run109 dl_12 lk_12 rfl rfl rfl (wh_push hw (dflO_wl _ _)) (by rw [l150]; omega) (by rw [List.length_append, hl, l150]; rfl) (Nat.le_of_ble_eq_true rfl) (by rw [l150, Hp_len]; unfold NN; omega) (by have := sl157; rw [nC_8]; omega) (fun as2 b1 b2 b3 => ?_)
  rw [Hp_len] at b2
  have hlen : (as ++ [q1]).length = 150 := by rw [List.length_append, hl]; rfl
  exact start3 C hL b2 (by rw [pre_get b1 (by omega), adr_app (by omega), z1]) (by rw [pre_get b1 (by omega), z2]) (by rw [l150, Hp_len]; unfold NN; omega) (by have := sl157; rw [nC_8]; omega) b3
end Stages
/-- THE LAW, from its entry -/
theorem whole_start {p : Program} {e : Env} {s : State} {m : MethodId} {below : List Frame} {meth : Method} {c : Code} (l : Launch) (hflags : l.flags = flags0) {b L : Nat} {xs : Nat → Int32} (hL : L ≤ 2048) (C0 : lw_At p s m meth c b L xs) : W p l e room_1 s m #[Value.ref b] below meth c s.heap [] 0 0 (lw_Z below #[Value.ref b] s) (entryFrame m ([Value.ref b] : List Value).toArray 8) := by
  obtain ⟨hx, hb, hr, hml, hown, hts, hX, hbl, hlocks, hgv⟩ := id C0
  have hG : ∀ w ∈ lwG, w.before #[Value.ref b] s = true := fun w hw => hts w (List.mem_filter.mp hw).1
  obtain ⟨cI, kA1, comp1, f1, f2, f3⟩ := Cond.arrayClass_spec (hts _ w_arr)
  have hao : (Cond.arrayOver (.object RX1)).before #[Value.ref b] s = true := hts _ (List.mem_of_getElem? (i := 198) (by decide +kernel))
  obtain ⟨comp2, cG, kA2, g1, g2, g3, g4, g5⟩ := Cond.arrayOver_spec hao
  have hu : ∀ k : Nat, ∃ cC : ClassId, ∃ iS : Nat → Nat, ∀ q : vw_C, vwCl[k]? = some q → u_Kn s q.1 q.2.1 q.2.2 cC iS := by
    intro k
    cases hq : vwCl[k]? with
    | none => exact ⟨cI, fun _ => 0, fun q h => by cases h⟩
    | some q =>
      obtain ⟨Cn, T, N⟩ := q
      obtain ⟨o1, o2, o3⟩ := okC_spec hq
      obtain ⟨cC, iS, hh⟩ := u_known hG o1 (hG _ o2)
      exact ⟨cC, iS, fun q h => by cases h; exact hh⟩
  obtain ⟨dC, h1⟩ := Classical.axiomOfChoice hu
  obtain ⟨dI, h2⟩ := Classical.axiomOfChoice h1
  have hK : va_K (dC, dI) vwCl (tyG cI cG) s := by
    refine ⟨fun k q h => h2 k q h, fun k q h => ?_⟩
    match k, h with
    | 0, h => cases h; exact ⟨fun n z => ⟨(fun k h => by cases h), kA1, f2, comp1, f3⟩, f1⟩
    | 1, h => cases h; exact ⟨fun n z => ⟨(fun k h => by cases h), kA2, g3, comp2, g4⟩, kA2, comp2, g3, g4, g1, g5⟩
    | k + 2, h => simp at h
  have hN : nestOk s := by
    intro w hw
    have h3 := (List.mem_filter.mp hw).2
    have h4 := hts w (List.mem_filter.mp hw).1
    unfold isN at h3
    split at h3
    · exact va_Nw.of rfl h4
    · exact va_Nw.of rfl h4
    · cases h3
  have C : CtL p s m meth c (dC, dI) cI cG b L xs := ⟨hx, hb, hml, hown, hG, hK, va_AO.of hao, hN, hX, hbl, hlocks, hr⟩
  have hS : va_S (aL s) s.heap s.heap [] := va_S.rf
  have hP : va_P (dC, dI) vwCl (wsO cI cG [] []) s.heap := fun k q h => by simp [wsO] at h
  have hD : va_D (aL s) (wsO cI cG [] []) := ⟨fun i j p q h => by simp [wsO] at h, fun k q h => by simp [wsO] at h⟩
  have hl := lv_entry ([.ref b]) (n := 8) (Nat.le_of_ble_eq_true rfl)
  rw [lg_entry_eq]
  generalize (lg_sl ([.ref b]) ++ List.replicate (8 - (lg_sl ([.ref b])).length) Slot.unset).toArray = ls at hl ⊢
  have hl : lv_has ls 8 [(0, .ref b)] := hl
  have key : LW p l e s m below meth c (dC, dI) cI cG b [] [] 0 0 0 [(0, .ref b)] [] := by
    refine L_new (a := 7) (idx := 7) C rfl rfl (fun o ho => by cases ho) dl_0 (lwG_in (List.mem_of_getElem? (i := 61) (by decide +kernel)) rfl) (by omega) (by rw [nC_7]; omega) (fun q0 => ?_)
    refine L_dup C dl_3 ?_
    refine L_callJ (i := 0) (a := q0) C rfl run86 dl_4 lk_9 rfl rfl rfl wh_1 (show 0 < 1 by omega) rfl (Nat.le_of_ble_eq_true rfl) (by rw [len149]; decide) (by have := sl149; rw [nC_7]; omega) (fun as1 a1 a2 a3 => ?_)
    rw [len149] at a2
    exact start2 C hL a2 (by rw [pre_get a1 (show 0 < 1 by omega)]; rfl) (by rw [len149]; decide) (by have := sl149; rw [nC_7]; omega) a3
  exact key s.heap [] ls hP hD hS hl
end Whole
