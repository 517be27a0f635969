/-! ===== WHOLE RUNS ===== -/
/-- what a run keeps: the heap in range, the answer in range, the heap grows alone -/
def KpR (h : AH) (r : Option AV) (h' : AH) : Prop := wh h' ∧ (∀ v, r = some v → wv h'.length v) ∧ h.length ≤ h'.length ∧ slN h ≤ slN h'
theorem retOk_wv {k : Nat} {st : List AV} {i : Instr} {r : Option AV} {n : Nat} (hr : retOk k st i = some r) (hws : wl n st) : ∀ v, r = some v → wv n v := by
  intro v hv
  subst hv
  unfold retOk at hr
  split at hr
  · cases hr
  · cases hr; exact (wl_cons.mp hws).1
  · split at hr
    · cases hr; exact (wl_cons.mp hws).1
    · cases hr
  · cases hr; exact (wl_cons.mp hws).1
  · cases hr; trivial
  · cases hr
theorem mathB_wl {a n : Nat} {st rest : List AV} {v : AV} (hv : mathB a st = some (v, rest)) (hws : wl n st) : wl n (v :: rest) := by
  unfold mathB at hv
  split at hv
  · rename_i y st1
    have hy : wv n (I y) := (wl_cons.mp hws).1
    have h1 := (wl_cons.mp hws).2
    split at hv
    · cases hv
      refine wl_cons.mpr ⟨?_, h1⟩
      show inr _
      split
      · exact hy
      · exact inr_w2 _ _ _
    · split at hv
      · rename_i x st2
        have hx : wv n (I x) := (wl_cons.mp h1).1
        split at hv
        · cases hv
          refine wl_cons.mpr ⟨?_, (wl_cons.mp h1).2⟩
          show inr _
          split
          · exact hy
          · exact hx
        · split at hv
          · cases hv
            refine wl_cons.mpr ⟨?_, (wl_cons.mp h1).2⟩
            show inr _
            split
            · exact hy
            · exact hx
          · cases hv
      · cases hv
  · cases hv
theorem loc0_wl {n k : Nat} {av : List AV} (h : wl n av) : wl n (loc0 k av) := wl_app.mpr ⟨h, fun v hv => by rw [List.eq_of_mem_replicate hv]; trivial⟩
theorem loc0_len {k : Nat} {av : List AV} (h : av.length ≤ maxl k) : (loc0 k av).length = maxl k := by
  unfold loc0
  simp
  omega
theorem isI_ret_all : ∀ k, k < 117 → isI k = true → rM k = none := by decide +kernel
theorem isI_ret {k : Nat} (h : k < 117) (hi : isI k = true) : rM k = none := isI_ret_all k h hi
theorem ret_len {k : Nat} {st : List AV} {i : Instr} {r : Option AV} (h : retOk k st i = some r) : lenI i = 1 := by
  unfold retOk at h
  split at h <;> first | rfl | cases h
section Runs
variable {l : Launch} {D : va_G} {cI cG : ClassId}
/-- a run from any point, as the machine's -/
def RunS (l : Launch) (D : va_G) (cI cG : ClassId) (n : Nat) : Prop := ∀ (k pc : Nat) (ls st : List AV) (h : AH) (r : Option AV) (h' : AH), arun n k pc ls st h = some (r, h') → k < 117 → wh h → wl h.length ls → wl h.length st → ls.length = maxl k →
  KpR h r h' ∧ ∀ (p : Program) (e : Env) (R : Room) (s : State) (m : MethodId) (args : Array Value) (below : List Frame) (meth : Method) (c : Code) (A : Nat → Prop) (as0 as : List Nat) (cells slots mc ms : Nat), Ctx p s m args meth c D cI cG k → as0 <+: as → as.length = h.length → (∀ q, s.heap.size ≤ q → A q) → dpM k ≤ R.frames → lcM k ≤ R.locals → cells + (h'.length - h.length) = mc → slots + (slN h' - slN h) = ms → mc ≤ R.cells → ms ≤ R.slots →
    Wg p l e R s m args below meth c D cI cG A (MQ below (Qcn D cI cG as0 h' r A) args s mc ms A) (maxl k) as cells slots pc ls st h
set_option maxHeartbeats 4000000 in
/-- the contract of a method, out of runs -/
theorem Cok_of {n k : Nat} {as : List Nat} {av : List AV} {h : AH} {r : Option AV} {h' : AH} (ih : RunS l D cI cG n) (hr : arun n k 0 (loc0 k av) [] h = some (r, h')) (hk : k < 117) (hw : wh h) (hav : wl h.length av) (hn : av.length = nar k) (hmx : nar k ≤ maxl k) (hdb : noDb av = true) (hl : as.length = h.length) : Cok l D cI cG k as av h r h' := by
  obtain ⟨m1, m2, m3, m4, m5, m6, m7, m8⟩ := okM_spec hk
  intro sz
  refine Met.ofW (cc := bM k) (maxL := maxl k) (ret := rM k) m5 rfl ?_
  intro p e s m args below meth c s₁ B hml hv
  obtain ⟨rfl, hsz, hP, hK, hAO, hN, hD0⟩ := hv
  have hts0 := atoms_spec (ws := wsM k) B.pre
  have hts : ∀ w ∈ lwG, w.before ((av.map (cv as)).toArray) s = true := fun w hw => hts0 w (List.mem_cons_of_mem _ hw)
  have hown : s.vm.findClass (oN (mOs.getD k 0)) = some m.cls := by rw [m8]; exact findClass_of_methodNamed B.named
  have C : Ctx p s m ((av.map (cv as)).toArray) meth c D cI cG k := ⟨B.exec, B.bytes, hml, hown, hts, hK, hAO, B.notSynchronized, B.returns, fun q => by
    have h1 : meth.name = (yM k).name := (name_of_methodNamed B.named B.method).1
    rw [h1]
    simpa [isI] using q, hN⟩
  subst hsz
  have hD := hD0.self (sz := s.heap.size)
  have hA : ∀ q : Nat, s.heap.size ≤ q → va_A (wsO cI cG as h) s.heap.size q := fun q h => Or.inr h
  have hS : va_S (va_A (wsO cI cG as h) s.heap.size) s.heap s.heap [] := va_S.rf
  have hlen : (lg_sl (av.map (cv as))).length ≤ maxl k := by rw [lg_sl_len hdb, hn]; exact hmx
  have hl0 := lv_entry (av.map (cv as)) (n := maxl k) hlen
  rw [lg_entry_eq]
  generalize (lg_sl (av.map (cv as)) ++ List.replicate (maxl k - (lg_sl (av.map (cv as))).length) Slot.unset).toArray = lsA at hl0 ⊢
  have hlv : lv_has lsA (maxl k) (lvl as 0 (loc0 k av)) := by
    unfold loc0
    rw [lvl_append hdb, lvl_db, List.append_nil, ← lv_args_eq hdb]
    exact hl0
  have h1 := (ih k 0 (loc0 k av) [] h r h' hr hk hw (loc0_wl hav) wl_nil (loc0_len (by rw [hn]; exact hmx))).2 p e (headSpec (wsM k) (rmM k h h')).room s m ((av.map (cv as)).toArray) below meth c (va_A (wsO cI cG as h) s.heap.size) as as 0 0 (h'.length - h.length) (slN h' - slN h) C (List.prefix_refl _) hl hA (Nat.le_refl _) (Nat.le_refl _) (Nat.zero_add _) (Nat.zero_add _) (Nat.le_refl _) (Nat.le_refl _)
  exact h1 s.heap [] lsA hP hD hS hlv
set_option maxHeartbeats 8000000 in
theorem runs (n : Nat) : RunS l D cI cG n := by
  induction n with
  | zero =>
    intro k pc ls st h r h' hr
    exact absurd hr (by simp [arun])
  | succ n ih =>
    intro k pc ls st h r h' hr hk hw hwl hws hls
    unfold arun at hr
    split at hr
    · cases hr
    rename_i E hE
    obtain ⟨hmem, hpc⟩ := cd_mem hE
    subst hpc
    have hD0 := okD_spec hk hmem
    obtain ⟨hL, hO⟩ := okL_spec hk hmem
    split at hr
    · rename_i pc' ls' st' h1 hs
      obtain ⟨k1, k2, k3, k4, k5, k6⟩ := ast_kp hs hw hwl hws
      obtain ⟨⟨q1, q2, q3, q4⟩, q5⟩ := ih k pc' ls' st' h1 r h' hr hk k4 k2 k3 (k1.trans hls)
      refine ⟨⟨q1, q2, Nat.le_trans k5 q3, Nat.le_trans k6 q4⟩, ?_⟩
      intro p e R s m args below meth c A as0 as cells slots mc ms C has hl hA hRf hRl hmc hms hmc2 hms2
      have k5' : h.length ≤ h1.length := k5
      have k6' : slN h ≤ slN h1 := k6
      refine (ast_sound C hD0 hL hO hs hl hw hwl hws hA hls).2 (by show cells + (h1.length - h.length) ≤ R.cells; omega) (by show slots + (slN h1 - slN h) ≤ R.slots; omega) (fun as' g1 g2 => ?_)
      exact q5 p e R s m args below meth c A as0 as' _ _ mc ms C (has.trans g1) g2 hA hRf hRl (by show cells + (h1.length - h.length) + (h'.length - h1.length) = mc; omega) (by show slots + (slN h1 - slN h) + (slN h' - slN h1) = ms; omega) hmc2 hms2
    · split at hr
      · -- invokevirtual
        rename_i idx hins
        obtain ⟨pc, ins, len, a, b, pl⟩ := E
        simp only [] at hins hr hD0
        subst hins
        have e := chkL_len hL (fun _ _ _ _ => by intro q; cases q); subst e
        split at hr
        · rename_i av rest hst
          split at hr
          · rename_i hok
            simp only [Bool.and_eq_true, Bool.not_eq_true'] at hok
            obtain ⟨⟨⟨⟨ok1, ok2⟩, ok3⟩, ok4⟩, ok5⟩ := hok
            obtain ⟨c1, c2, c3, c4, c5⟩ := callOk_spec ok1
            obtain ⟨e1, e2⟩ := popA_spec hst
            have hsplit := wl_app.mp (by rw [← e1]; exact hws : wl h.length (av.reverse ++ rest))
            have hav : wl h.length av := fun v hv => hsplit.1 v (List.mem_reverse.mpr hv)
            split at hr
            · rename_i r1 h1 hcal
              split at hr
              · rename_i hlen
                obtain ⟨⟨w1, w2', w3, w4⟩, -⟩ := ih a 0 (loc0 a av) [] h r1 h1 hcal c5 hw (loc0_wl hav) wl_nil (loc0_len (by rw [e2]; exact c4))
                have hst2 : wl h1.length (r1.toList ++ rest) := wl_app.mpr ⟨fun v hv => w2' v (Option.mem_toList.mp hv), wl_mono w3 hsplit.2⟩
                obtain ⟨⟨q1, q2, q3, q4⟩, q5⟩ := ih k (pc + 3) ls (r1.toList ++ rest) h1 r h' hr hk w1 (wl_mono w3 hwl) hst2 hls
                refine ⟨⟨q1, q2, Nat.le_trans w3 q3, Nat.le_trans w4 q4⟩, ?_⟩
                intro p e R s m args below meth c A as0 as cells slots mc ms C has hl hA hRf hRl hmc hms hmc2 hms2
                refine g_callV C (Cok_of ih hcal c5 hw hav e2 c4 ok3 hl) hD0 (lwG_in (isW_mem hO) rfl) ok1 ok2 hst ok4 ok5 hl hwl hws hA ⟨hRf, hRl⟩ (by omega) (by omega) rfl (fun as' g1 g2 => ?_)
                exact q5 p e R s m args below meth c A as0 as' _ _ mc ms C (has.trans g1) g2 hA hRf hRl (by omega) (by omega) hmc2 hms2
              · cases hr
            · cases hr
          · cases hr
        · cases hr
      · -- invokestatic
        rename_i idx hins
        obtain ⟨pc, ins, len, a, b, pl⟩ := E
        simp only [] at hins hr hD0
        subst hins
        have e := chkL_len hL (fun _ _ _ _ => by intro q; cases q); subst e
        split at hr
        · split at hr
          · rename_i v rest hv
            split at hr
            · rename_i hok
              have hst2 := mathB_wl hv hws
              obtain ⟨⟨q1, q2, q3, q4⟩, q5⟩ := ih k (pc + 3) ls (v :: rest) h r h' hr hk hw hwl hst2 hls
              refine ⟨⟨q1, q2, q3, q4⟩, ?_⟩
              intro p e R s m args below meth c A as0 as cells slots mc ms C has hl hA hRf hRl hmc hms hmc2 hms2
              refine g_math C hD0 hO hv hws hok.1 ⟨Nat.le_trans hok.2.1 hRf, Nat.le_trans hok.2.2 hRl⟩ (by omega) (by omega) rfl ?_
              exact q5 p e R s m args below meth c A as0 as _ _ mc ms C has hl hA hRf hRl hmc hms hmc2 hms2
            · cases hr
          · cases hr
        · rename_i h900
          split at hr
          · rename_i av rest hst
            split at hr
            · rename_i hok
              simp only [Bool.and_eq_true] at hok
              obtain ⟨⟨ok1, ok3⟩, ok4⟩ := hok
              obtain ⟨c1, c2, c3, c4, c5⟩ := callOk_spec ok1
              obtain ⟨e1, e2⟩ := popA_spec hst
              have hsplit := wl_app.mp (by rw [← e1]; exact hws : wl h.length (av.reverse ++ rest))
              have hav : wl h.length av := fun v hv => hsplit.1 v (List.mem_reverse.mpr hv)
              split at hr
              · rename_i r1 h1 hcal
                split at hr
                · rename_i hlen
                  obtain ⟨⟨w1, w2', w3, w4⟩, -⟩ := ih a 0 (loc0 a av) [] h r1 h1 hcal c5 hw (loc0_wl hav) wl_nil (loc0_len (by rw [e2]; exact c4))
                  have hst2 : wl h1.length (r1.toList ++ rest) := wl_app.mpr ⟨fun v hv => w2' v (Option.mem_toList.mp hv), wl_mono w3 hsplit.2⟩
                  obtain ⟨⟨q1, q2, q3, q4⟩, q5⟩ := ih k (pc + 3) ls (r1.toList ++ rest) h1 r h' hr hk w1 (wl_mono w3 hwl) hst2 hls
                  refine ⟨⟨q1, q2, Nat.le_trans w3 q3, Nat.le_trans w4 q4⟩, ?_⟩
                  intro p e R s m args below meth c A as0 as cells slots mc ms C has hl hA hRf hRl hmc hms hmc2 hms2
                  have hO2 : isW pl (.methodLink (oN (mOs.getD k 0)) idx (yM a)) = true := by
                    unfold chkO at hO
                    simp only [] at hO
                    rw [if_neg (by omega), if_neg (by omega), if_neg (by omega)] at hO
                    exact hO
                  refine g_callS C (Cok_of ih hcal c5 hw hav e2 c4 ok3 hl) hD0 (lwG_in (isW_mem hO2) rfl) ok1 hst ok4 hl hwl hws hA ⟨hRf, hRl⟩ (by omega) (by omega) rfl (fun as' g1 g2 => ?_)
                  exact q5 p e R s m args below meth c A as0 as' _ _ mc ms C (has.trans g1) g2 hA hRf hRl (by omega) (by omega) hmc2 hms2
                · cases hr
              · cases hr
            · cases hr
          · cases hr
      · -- invokespecial
        rename_i idx hins
        obtain ⟨pc, ins, len, a, b, pl⟩ := E
        simp only [] at hins hr hD0
        subst hins
        have e := chkL_len hL (fun _ _ _ _ => by intro q; cases q); subst e
        split at hr
        · rename_i h999
          split at hr
          · rename_i i rest _
            split at hr
            · rename_i hok
              have hst2 := (wl_cons.mp hws).2
              obtain ⟨⟨q1, q2, q3, q4⟩, q5⟩ := ih k (pc + 3) ls rest h r h' hr hk hw hwl hst2 hls
              refine ⟨⟨q1, q2, q3, q4⟩, ?_⟩
              intro p e R s m args below meth c A as0 as cells slots mc ms C has hl hA hRf hRl hmc hms hmc2 hms2
              have hO2 : isW pl (.methodLink (oN (mOs.getD k 0)) idx objectInit) = true := by
                unfold chkO at hO
                simp only [] at hO
                rw [if_pos h999] at hO
                exact hO
              refine g_obj C hD0 (lwG_in (isW_mem hO2) rfl) hok.1 ⟨Nat.le_trans hok.2.1 hRf, Nat.le_trans hok.2.2 hRl⟩ rfl ?_
              exact q5 p e R s m args below meth c A as0 as _ _ mc ms C has hl hA hRf hRl hmc hms hmc2 hms2
            · cases hr
          · cases hr
        · rename_i h999
          split at hr
          · rename_i av rest hst
            split at hr
            · rename_i hok
              simp only [Bool.and_eq_true, Bool.not_eq_true'] at hok
              obtain ⟨⟨⟨⟨⟨ok1, ok2⟩, ok3⟩, ok4⟩, ok5⟩, ok6⟩ := hok
              obtain ⟨c1, c2, c3, c4, c5⟩ := callOk_spec ok1
              obtain ⟨e1, e2⟩ := popA_spec hst
              have hsplit := wl_app.mp (by rw [← e1]; exact hws : wl h.length (av.reverse ++ rest))
              have hav : wl h.length av := fun v hv => hsplit.1 v (List.mem_reverse.mpr hv)
              split at hr
              · rename_i r1 h1 hcal
                split at hr
                · rename_i hrn
                  cases r1 with
                  | some v => cases hrn
                  | none =>
                    obtain ⟨⟨w1, w2', w3, w4⟩, -⟩ := ih a 0 (loc0 a av) [] h none h1 hcal c5 hw (loc0_wl hav) wl_nil (loc0_len (by rw [e2]; exact c4))
                    obtain ⟨⟨q1, q2, q3, q4⟩, q5⟩ := ih k (pc + 3) ls rest h1 r h' hr hk w1 (wl_mono w3 hwl) (wl_mono w3 hsplit.2) hls
                    refine ⟨⟨q1, q2, Nat.le_trans w3 q3, Nat.le_trans w4 q4⟩, ?_⟩
                    intro p e R s m args below meth c A as0 as cells slots mc ms C has hl hA hRf hRl hmc hms hmc2 hms2
                    have hO2 : Cond.methodLink (oN (mOs.getD k 0)) idx (yM a) ∈ lwG ∨ Cond.methodLinkNest (oN (mOs.getD k 0)) idx (yM a) "TankDivers" ∈ lwN := by
                      unfold chkO at hO
                      simp only [] at hO
                      rw [if_neg h999] at hO
                      split at hO
                      · exact Or.inr (lwN_in (isW_mem hO) rfl)
                      · exact Or.inl (lwG_in (isW_mem hO) rfl)
                    refine g_callI C (Cok_of ih hcal c5 hw hav e2 c4 ok3 hl) hD0 hO2 ok1 ok2 hst ok4 ok5 (isI_ret c5 ok5) hl hwl hws hA ⟨hRf, hRl⟩ (by omega) (by omega) rfl (fun as' g1 g2 => ?_)
                    exact q5 p e R s m args below meth c A as0 as' _ _ mc ms C (has.trans g1) g2 hA hRf hRl (by omega) (by omega) hmc2 hms2
                · cases hr
              · cases hr
            · cases hr
          · cases hr
      · -- a return
        split at hr
        · rename_i r1 hret
          cases hr
          obtain ⟨pc, ins, len, a, b, pl⟩ := E
          simp only [] at hret hD0
          have hlen : len = 1 := by
            have hz : ∀ d lo hi offs, ins ≠ .tableswitch d lo hi offs := by
              intro d lo hi offs q
              subst q
              cases hret
            have e := chkL_len hL hz
            rw [e]
            exact ret_len hret
          subst hlen
          refine ⟨⟨hw, retOk_wv hret hws, Nat.le_refl _, Nat.le_refl _⟩, ?_⟩
          intro p e R s m args below meth c A as0 as cells slots mc ms C has hl hA hRf hRl hmc hms hmc2 hms2
          have e1 : cells = mc := by omega
          have e2 : slots = ms := by omega
          subst e1; subst e2
          exact g_ret C hret hD0 has hl
        · cases hr
end Runs
