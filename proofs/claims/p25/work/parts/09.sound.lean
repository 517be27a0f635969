/-! ===== one step, and whole runs, are the machine's ===== -/
theorem chkL_len {pc len a b p : Nat} {i : Instr} (h : chkL (pc, i, len, a, b, p) = true) (hi : ∀ d lo hi offs, i ≠ .tableswitch d lo hi offs) : len = lenI i := by
  unfold chkL at h
  simp only [] at h
  exact eq_of_beq h
/-- what a step keeps -/
def Kp (ls : List AV) (h : AH) (t : ASt) : Prop := t.2.1.length = ls.length ∧ wl t.2.2.2.length t.2.1 ∧ wl t.2.2.2.length t.2.2.1 ∧ wh t.2.2.2 ∧ h.length ≤ t.2.2.2.length ∧ slN h ≤ slN t.2.2.2
theorem Kp_same {ls ls' st' : List AV} {h : AH} {pc : Nat} (h1 : ls'.length = ls.length) (h2 : wl h.length ls') (h3 : wl h.length st') (h4 : wh h) : Kp ls h (pc, ls', st', h) := ⟨h1, h2, h3, h4, Nat.le_refl _, Nat.le_refl _⟩
theorem Kp_set {ls st' : List AV} {h : AH} {pc i c : Nat} {fs fs' : List AV} (h2 : wl h.length ls) (h3 : wl h.length st') (h4 : wh h) (hi : h[i]? = some (c, fs)) (hl : fs'.length = fs.length) (hf : wl h.length fs') : Kp ls h (pc, ls, st', h.set i (c, fs')) := by
  have e : (h.set i (c, fs')).length = h.length := List.length_set
  refine ⟨rfl, ?_, ?_, wh_set h4 hf, by rw [e]; exact Nat.le_refl _, by rw [slN_set hi hl]; exact Nat.le_refl _⟩
  · show wl (h.set i (c, fs')).length ls
    rw [e]; exact h2
  · show wl (h.set i (c, fs')).length st'
    rw [e]; exact h3
theorem Kp_push {ls st' : List AV} {h : AH} {pc : Nat} {o : AO} (h2 : wl h.length ls) (h3 : wl h.length st') (h4 : wh h) (ho : wl (h.length + 1) o.2) : Kp ls h (pc, ls, Rf h.length :: st', h ++ [o]) := by
  have e : (h ++ [o]).length = h.length + 1 := by simp
  refine ⟨rfl, ?_, ?_, wh_push h4 ho, by rw [e]; omega, by rw [slN_push]; omega⟩
  · show wl (h ++ [o]).length ls
    rw [e]; exact wl_mono (Nat.le_add_right _ _) h2
  · show wl (h ++ [o]).length (Rf h.length :: st')
    rw [e]; exact wl_cons.mpr ⟨Nat.lt_succ_self _, wl_mono (Nat.le_add_right _ _) h3⟩
theorem stI_spec {ls st : List AV} {i pc : Nat} {h : AH} {t : ASt} (hs : stI ls i pc st h = some t) : ∃ z, ls[i]? = some (I z) ∧ t = (pc, ls, I z :: st, h) := by
  unfold stI at hs
  split at hs
  · rename_i z hz; cases hs; exact ⟨z, hz, rfl⟩
  · cases hs
theorem stA_spec {ls st : List AV} {i pc : Nat} {h : AH} {t : ASt} (hs : stA ls i pc st h = some t) : ∃ r, ls[i]? = some (.inr (.inl r)) ∧ t = (pc, ls, .inr (.inl r) :: st, h) := by
  unfold stA at hs
  split at hs
  · rename_i z hz; cases hs; exact ⟨z, hz, rfl⟩
  · cases hs
theorem ssI_spec {ls st : List AV} {i pc : Nat} {h : AH} {t : ASt} (hs : ssI ls i pc st h = some t) : ∃ z st2, st = I z :: st2 ∧ i < ls.length ∧ t = (pc, ls.set i (I z), st2, h) := by
  unfold ssI at hs
  split at hs
  · rename_i z st2
    split at hs
    · rename_i hi; cases hs; exact ⟨z, st2, rfl, hi, rfl⟩
    · cases hs
  · cases hs
theorem ssA_spec {ls st : List AV} {i pc : Nat} {h : AH} {t : ASt} (hs : ssA ls i pc st h = some t) : ∃ r st2, st = .inr (.inl r) :: st2 ∧ i < ls.length ∧ t = (pc, ls.set i (.inr (.inl r)), st2, h) := by
  unfold ssA at hs
  split at hs
  · rename_i z st2
    split at hs
    · rename_i hi; cases hs; exact ⟨z, st2, rfl, hi, rfl⟩
    · cases hs
  · cases hs
theorem sbin_spec {f : Int32 → Int32 → Int32} {ls st : List AV} {pc : Nat} {h : AH} {t : ASt} (hs : sbin f pc ls st h = some t) : ∃ x y st2, st = I y :: I x :: st2 ∧ t = (pc, ls, I (w2 f x y) :: st2, h) := by
  unfold sbin at hs
  split at hs
  · rename_i y x st2; cases hs; exact ⟨x, y, st2, rfl, rfl⟩
  · cases hs
theorem sdiv_spec {f : Int32 → Int32 → Int32} {ls st : List AV} {pc : Nat} {h : AH} {t : ASt} (hs : sdiv f pc ls st h = some t) : ∃ x y st2, st = I y :: I x :: st2 ∧ y ≠ 0 ∧ t = (pc, ls, I (w2 f x y) :: st2, h) := by
  unfold sdiv at hs
  split at hs
  · rename_i y x st2
    split at hs
    · rename_i hy; cases hs; exact ⟨x, y, st2, rfl, hy, rfl⟩
    · cases hs
  · cases hs
theorem stL_spec {ls st : List AV} {i pc : Nat} {h : AH} {t : ASt} (hs : stL ls i pc st h = some t) : ∃ x, ls[i]? = some (Lg x) ∧ ls[i + 1]? = some (Db 0) ∧ t = (pc, ls, Lg x :: st, h) := by
  unfold stL at hs
  split at hs
  · rename_i x hx hy; cases hs; exact ⟨x, hx, hy, rfl⟩
  · cases hs
theorem ssL_spec {ls st : List AV} {i pc : Nat} {h : AH} {t : ASt} (hs : ssL ls i pc st h = some t) : ∃ x st2, st = Lg x :: st2 ∧ i + 1 < ls.length ∧ t = (pc, (ls.set i (Lg x)).set (i + 1) (Db 0), st2, h) := by
  unfold ssL at hs
  split at hs
  · rename_i z st2
    split at hs
    · rename_i hi; cases hs; exact ⟨z, st2, rfl, hi, rfl⟩
    · cases hs
  · cases hs
theorem wl_c2 {n : Nat} {v u : AV} {l : List AV} (h : wl n (v :: u :: l)) : wv n v ∧ wv n u ∧ wl n l := ⟨(wl_cons.mp h).1, (wl_cons.mp (wl_cons.mp h).2).1, (wl_cons.mp (wl_cons.mp h).2).2⟩
theorem nat_inr {n : Nat} (h : n ≤ 1000000) : inr (n : Int) := ⟨by omega, by omega⟩
theorem ast_kp {ini : Bool} {ls st : List AV} {h : AH} {E : AE} {t : ASt} (hs : ast ini E ls st h = some t) (hw : wh h) (hwl : wl h.length ls) (hws : wl h.length st) : Kp ls h t := by
  have same : ∀ {pc' : Nat} {ls' st' : List AV}, t = (pc', ls', st', h) → ls'.length = ls.length → wl h.length ls' → wl h.length st' → Kp ls h t := by
    intro pc' ls' st' h5 h1 h2 h3
    subst h5
    exact Kp_same h1 h2 h3 hw
  have sett : ∀ {pc' i c0 : Nat} {st' fs fs' : List AV}, t = (pc', ls, st', h.set i (c0, fs')) → h[i]? = some (c0, fs) → fs'.length = fs.length → wl h.length fs' → wl h.length st' → Kp ls h t := by
    intro pc' i c0 st' fs fs' h5 h1 h2 h3 h3'
    subst h5
    exact Kp_set hwl h3' hw h1 h2 h3
  obtain ⟨pc, ins, len, a, b, pl⟩ := E
  unfold ast at hs
  simp only [] at hs
  split at hs
  · rename_i n
    split at hs
    · rename_i hn
      exact same (Option.some.inj hs).symm rfl hwl (wl_cons.mpr ⟨inrB_iff.mp hn, hws⟩)
    · cases hs
  · rename_i n
    split at hs
    · rename_i hn
      simp only [Bool.and_eq_true, decide_eq_true_eq] at hn
      exact same (Option.some.inj hs).symm rfl hwl (wl_cons.mpr ⟨inrB_iff.mp hn.1, hws⟩)
    · cases hs
  · rename_i n
    split at hs
    · rename_i hn
      simp only [Bool.and_eq_true, decide_eq_true_eq] at hn
      exact same (Option.some.inj hs).symm rfl hwl (wl_cons.mpr ⟨inrB_iff.mp hn.1, hws⟩)
    · cases hs
  · skip
    exact same (Option.some.inj hs).symm rfl hwl (wl_cons.mpr ⟨trivial, hws⟩)
  · skip
    obtain ⟨z, hz, ht⟩ := stI_spec hs
    exact same ht rfl hwl (wl_cons.mpr ⟨wl_get hwl hz, hws⟩)
  · skip
    obtain ⟨z, hz, ht⟩ := stI_spec hs
    exact same ht rfl hwl (wl_cons.mpr ⟨wl_get hwl hz, hws⟩)
  · skip
    obtain ⟨z, hz, ht⟩ := stA_spec hs
    exact same ht rfl hwl (wl_cons.mpr ⟨wl_get hwl hz, hws⟩)
  · skip
    obtain ⟨z, hz, ht⟩ := stA_spec hs
    exact same ht rfl hwl (wl_cons.mpr ⟨wl_get hwl hz, hws⟩)
  · skip
    obtain ⟨z, st2, rfl, hi, ht⟩ := ssI_spec hs
    exact same ht List.length_set (wl_set hwl (wl_cons.mp hws).1) (wl_cons.mp hws).2
  · skip
    obtain ⟨z, st2, rfl, hi, ht⟩ := ssI_spec hs
    exact same ht List.length_set (wl_set hwl (wl_cons.mp hws).1) (wl_cons.mp hws).2
  · skip
    obtain ⟨z, st2, rfl, hi, ht⟩ := ssA_spec hs
    exact same ht List.length_set (wl_set hwl (wl_cons.mp hws).1) (wl_cons.mp hws).2
  · rename_i i n
    split at hs
    · rename_i z hz
      exact same (Option.some.inj hs).symm List.length_set (wl_set hwl (inr_w2 _ _ _)) hws
    · cases hs
  · skip
    obtain ⟨x, y, st2, rfl, ht⟩ := sbin_spec hs
    exact same ht rfl hwl (wl_cons.mpr ⟨inr_w2 _ _ _, (wl_c2 hws).2.2⟩)
  · skip
    obtain ⟨x, y, st2, rfl, ht⟩ := sbin_spec hs
    exact same ht rfl hwl (wl_cons.mpr ⟨inr_w2 _ _ _, (wl_c2 hws).2.2⟩)
  · skip
    obtain ⟨x, y, st2, rfl, ht⟩ := sbin_spec hs
    exact same ht rfl hwl (wl_cons.mpr ⟨inr_w2 _ _ _, (wl_c2 hws).2.2⟩)
  · skip
    obtain ⟨x, y, st2, rfl, ht⟩ := sbin_spec hs
    exact same ht rfl hwl (wl_cons.mpr ⟨inr_w2 _ _ _, (wl_c2 hws).2.2⟩)
  · skip
    obtain ⟨x, y, st2, rfl, ht⟩ := sbin_spec hs
    exact same ht rfl hwl (wl_cons.mpr ⟨inr_w2 _ _ _, (wl_c2 hws).2.2⟩)
  · skip
    obtain ⟨x, y, st2, rfl, ht⟩ := sbin_spec hs
    exact same ht rfl hwl (wl_cons.mpr ⟨inr_w2 _ _ _, (wl_c2 hws).2.2⟩)
  · skip
    obtain ⟨x, y, st2, rfl, ht⟩ := sbin_spec hs
    exact same ht rfl hwl (wl_cons.mpr ⟨inr_w2 _ _ _, (wl_c2 hws).2.2⟩)
  · skip
    obtain ⟨x, y, st2, rfl, hy, ht⟩ := sdiv_spec hs
    exact same ht rfl hwl (wl_cons.mpr ⟨inr_w2 _ _ _, (wl_c2 hws).2.2⟩)
  · skip
    obtain ⟨x, y, st2, rfl, hy, ht⟩ := sdiv_spec hs
    exact same ht rfl hwl (wl_cons.mpr ⟨inr_w2 _ _ _, (wl_c2 hws).2.2⟩)
  · skip
    split at hs
    · exact same (Option.some.inj hs).symm rfl hwl (wl_cons.mpr ⟨inr_w2 _ _ _, (wl_cons.mp hws).2⟩)
    · cases hs
  · skip
    split at hs
    · cases hs
    · rename_i v st2 hv
      have hd : isDb v = false := by
        rcases v with z | r | x
        · rfl
        · rfl
        · exact absurd rfl (hv x)
      exact same (Option.some.inj hs).symm rfl hwl (wl_cons.mpr ⟨(wl_cons.mp hws).1, hws⟩)
    · cases hs
  · skip
    split at hs
    · cases hs
    · rename_i v st2 hv
      have hd : isDb v = false := by
        rcases v with z | r | x
        · rfl
        · rfl
        · exact absurd rfl (hv x)
      exact same (Option.some.inj hs).symm rfl hwl (wl_cons.mp hws).2
    · cases hs
  · skip
    split at hs
    · cases hs
    · cases hs
    · rename_i v u st2 hv hu
      have hd : isDb v = false := by
        rcases v with z | r | x
        · rfl
        · rfl
        · exact absurd rfl (hv x)
      have hd2 : isDb u = false := by
        rcases u with z | r | x
        · rfl
        · rfl
        · exact absurd rfl (hu x)
      exact same (Option.some.inj hs).symm rfl hwl (wl_cons.mpr ⟨(wl_c2 hws).1, wl_cons.mpr ⟨(wl_c2 hws).2.1, hws⟩⟩)
    · cases hs
  · skip
    split at hs
    · split at hs
      · rename_i ht
        exact same (Option.some.inj hs).symm rfl hwl (wl_cons.mp hws).2
      · cases hs
    · cases hs
  · skip
    split at hs
    · split at hs
      · rename_i ht
        exact same (Option.some.inj hs).symm rfl hwl (wl_c2 hws).2.2
      · cases hs
    · cases hs
  · skip
    split at hs
    · split at hs
      · rename_i ht
        exact same (Option.some.inj hs).symm rfl hwl (wl_cons.mp hws).2
      · cases hs
    · cases hs
  · skip
    split at hs
    · split at hs
      · rename_i ht
        exact same (Option.some.inj hs).symm rfl hwl (wl_cons.mp hws).2
      · cases hs
    · cases hs
  · skip
    split at hs
    · rename_i ht
      exact same (Option.some.inj hs).symm rfl hwl hws
    · cases hs
  · split at hs
    · split at hs
      · rename_i hq
        split at hs
        · rename_i ht
          exact same (Option.some.inj hs).symm rfl hwl (wl_cons.mp hws).2
        · cases hs
      · rename_i hq
        split at hs
        · rename_i off ho
          split at hs
          · rename_i ht
            exact same (Option.some.inj hs).symm rfl hwl (wl_cons.mp hws).2
          · cases hs
        · cases hs
    · cases hs
  · skip
    split at hs
    · split at hs
      · rename_i c0 fs hi
        split at hs
        · rename_i hc0
          subst hc0
          split at hs
          · rename_i v hv
            exact same (Option.some.inj hs).symm rfl hwl (wl_cons.mpr ⟨wl_get (wh_get hw hi) hv, (wl_cons.mp hws).2⟩)
          · cases hs
        · cases hs
      · cases hs
    · cases hs
  · skip
    split at hs
    · split at hs
      · rename_i c0 fs hi
        split at hs
        · rename_i hc0
          obtain ⟨hc0, hb, hf, hfin⟩ := hc0
          subst hc0
          exact sett (Option.some.inj hs).symm hi List.length_set (wl_set (wh_get hw hi) (wl_c2 hws).1) (wl_c2 hws).2.2
        · cases hs
      · cases hs
    · cases hs
  · skip
    split at hs
    · split at hs
      · rename_i c0 fs hi
        split at hs
        · rename_i hc0
          obtain ⟨hc0, hz⟩ := hc0
          subst hc0
          split at hs
          · rename_i x hv
            exact same (Option.some.inj hs).symm rfl hwl (wl_cons.mpr ⟨wl_get (wh_get hw hi) hv, (wl_c2 hws).2.2⟩)
          · cases hs
        · cases hs
      · cases hs
    · cases hs
  · skip
    split at hs
    · split at hs
      · rename_i c0 fs hi
        split at hs
        · rename_i hc0
          obtain ⟨hc0, hz, hlt⟩ := hc0
          subst hc0
          have h1 := wl_c2 hws
          exact sett (Option.some.inj hs).symm hi List.length_set (wl_set (wh_get hw hi) h1.1) (wl_cons.mp h1.2.2).2
        · cases hs
      · cases hs
    · cases hs
  · skip
    split at hs
    · split at hs
      · rename_i c0 fs hi
        split at hs
        · rename_i hc0
          obtain ⟨hc0, hz⟩ := hc0
          subst hc0
          split at hs
          · rename_i x hv
            exact same (Option.some.inj hs).symm rfl hwl (wl_cons.mpr ⟨wl_get (wh_get hw hi) hv, (wl_c2 hws).2.2⟩)
          · cases hs
        · cases hs
      · cases hs
    · cases hs
  · skip
    split at hs
    · split at hs
      · rename_i c0 fs c2 vs hi hv
        split at hs
        · rename_i hc0
          obtain ⟨hc0, hc2, hz, hlt⟩ := hc0
          subst hc0; subst hc2
          have h1 := wl_c2 hws
          exact sett (Option.some.inj hs).symm hi List.length_set (wl_set (wh_get hw hi) h1.1) (wl_cons.mp h1.2.2).2
        · cases hs
      · cases hs
    · cases hs
  · skip
    split at hs
    · split at hs
      · rename_i c0 fs hi
        split at hs
        · rename_i hc0
          exact same (Option.some.inj hs).symm rfl hwl (wl_cons.mpr ⟨nat_inr hc0.2, (wl_cons.mp hws).2⟩)
        · cases hs
      · cases hs
    · cases hs
  · skip
    split at hs
    · rename_i hn
      exact same (Option.some.inj hs).symm rfl hwl (wl_cons.mpr ⟨inrB_iff.mp hn, hws⟩)
    · cases hs
  · skip
    exact same (Option.some.inj hs).symm rfl hwl (wl_cons.mpr ⟨trivial, hws⟩)
  · skip
    obtain ⟨z, hz, hz2, ht⟩ := stL_spec hs
    exact same ht rfl hwl (wl_cons.mpr ⟨trivial, hws⟩)
  · skip
    obtain ⟨z, hz, hz2, ht⟩ := stL_spec hs
    exact same ht rfl hwl (wl_cons.mpr ⟨trivial, hws⟩)
  · skip
    obtain ⟨z, st2, rfl, hi, ht⟩ := ssL_spec hs
    exact same ht (by rw [List.length_set, List.length_set]) (wl_set (wl_set hwl trivial) trivial) (wl_cons.mp hws).2
  · skip
    obtain ⟨z, st2, rfl, hi, ht⟩ := ssL_spec hs
    exact same ht (by rw [List.length_set, List.length_set]) (wl_set (wl_set hwl trivial) trivial) (wl_cons.mp hws).2
  · skip
    split at hs
    · exact same (Option.some.inj hs).symm rfl hwl (wl_cons.mpr ⟨trivial, (wl_cons.mp hws).2⟩)
    · cases hs
  · skip
    split at hs
    · exact same (Option.some.inj hs).symm rfl hwl (wl_cons.mpr ⟨trivial, (wl_c2 hws).2.2⟩)
    · cases hs
  · skip
    split at hs
    · exact same (Option.some.inj hs).symm rfl hwl (wl_cons.mpr ⟨trivial, (wl_c2 hws).2.2⟩)
    · cases hs
  · skip
    split at hs
    · exact same (Option.some.inj hs).symm rfl hwl (wl_cons.mpr ⟨inr_toInt _, (wl_c2 hws).2.2⟩)
    · cases hs
  · skip
    split at hs
    · cases hs
      exact Kp_push hwl hws hw (dflO_wl _ _)
    · cases hs
  · skip
    split at hs
    · rename_i n st2
      split at hs
      · rename_i hq
        obtain ⟨_, rfl, h0, h1⟩ := hq
        cases hs
        have hwf : wl (h.length + 1) (List.replicate n.toNat (I 0)) := fun v hv => by rw [List.eq_of_mem_replicate hv]; exact inr_0
        exact Kp_push (o := (100, List.replicate n.toNat (I 0))) hwl (wl_cons.mp hws).2 hw hwf
      · cases hs
    · cases hs
  · skip
    split at hs
    · rename_i n st2
      split at hs
      · rename_i hq
        obtain ⟨_, rfl, h0, h1⟩ := hq
        cases hs
        have hwf : wl (h.length + 1) (List.replicate n.toNat Nu) := fun v hv => by rw [List.eq_of_mem_replicate hv]; trivial
        exact Kp_push (o := (101, List.replicate n.toNat Nu)) hwl (wl_cons.mp hws).2 hw hwf
      · cases hs
    · cases hs
  · cases hs
section Sound
variable {p : Program} {l : Launch} {e : Env} {R : Room} {s : State} {m : MethodId} {args : Array Value} {below : List Frame} {meth : Method} {c : Code} {D : va_G} {cI cG : ClassId} {A : Nat → Prop} {Q : State → Prop} {k nL cells slots : Nat} {as : List Nat} {ls st : List AV} {h : AH}
/-- a step: it keeps what it must, and the machine goes with it -/
theorem ast_sound (C : Ctx p s m args meth c D cI cG k) {E : AE} {t : ASt} (hD0 : decode (bM k) E.1 = .ok (E.2.1, E.2.2.1)) (hL : chkL E = true) (hO : chkO (mOs.getD k 0) E = true) (hs : ast (isI k) E ls st h = some t) (hl : as.length = h.length) (hw : wh h) (hwl : wl h.length ls) (hws : wl h.length st) (hA : ∀ q, s.heap.size ≤ q → A q) (hnL : ls.length = nL) :
    Kp ls h t ∧ (cells + (t.2.2.2.length - h.length) ≤ R.cells → slots + (slN t.2.2.2 - slN h) ≤ R.slots →
      (∀ as' : List Nat, as <+: as' → as'.length = t.2.2.2.length → Wg p l e R s m args below meth c D cI cG A Q nL as' (cells + (t.2.2.2.length - h.length)) (slots + (slN t.2.2.2 - slN h)) t.1 t.2.1 t.2.2.1 t.2.2.2) → Wg p l e R s m args below meth c D cI cG A Q nL as cells slots E.1 ls st h) := by
  have same : ∀ {pc' : Nat} {ls' st' : List AV}, t = (pc', ls', st', h) → ls'.length = ls.length → wl h.length ls' → wl h.length st' → (Wg p l e R s m args below meth c D cI cG A Q nL as cells slots pc' ls' st' h → Wg p l e R s m args below meth c D cI cG A Q nL as cells slots E.1 ls st h) →
      Kp ls h t ∧ (cells + (t.2.2.2.length - h.length) ≤ R.cells → slots + (slN t.2.2.2 - slN h) ≤ R.slots → (∀ as' : List Nat, as <+: as' → as'.length = t.2.2.2.length → Wg p l e R s m args below meth c D cI cG A Q nL as' (cells + (t.2.2.2.length - h.length)) (slots + (slN t.2.2.2 - slN h)) t.1 t.2.1 t.2.2.1 t.2.2.2) → Wg p l e R s m args below meth c D cI cG A Q nL as cells slots E.1 ls st h) := by
    intro pc' ls' st' h5 h1 h2 h3 h4
    subst h5
    refine ⟨Kp_same h1 h2 h3 hw, fun _ _ kk => h4 ?_⟩
    have := kk as (List.prefix_refl _) hl
    simp only [Nat.sub_self, Nat.add_zero] at this
    exact this
  have sett : ∀ {pc' i c0 : Nat} {st' fs fs' : List AV}, t = (pc', ls, st', h.set i (c0, fs')) → h[i]? = some (c0, fs) → fs'.length = fs.length → wl h.length fs' → wl h.length st' → (Wg p l e R s m args below meth c D cI cG A Q nL as cells slots pc' ls st' (h.set i (c0, fs')) → Wg p l e R s m args below meth c D cI cG A Q nL as cells slots E.1 ls st h) →
      Kp ls h t ∧ (cells + (t.2.2.2.length - h.length) ≤ R.cells → slots + (slN t.2.2.2 - slN h) ≤ R.slots → (∀ as' : List Nat, as <+: as' → as'.length = t.2.2.2.length → Wg p l e R s m args below meth c D cI cG A Q nL as' (cells + (t.2.2.2.length - h.length)) (slots + (slN t.2.2.2 - slN h)) t.1 t.2.1 t.2.2.1 t.2.2.2) → Wg p l e R s m args below meth c D cI cG A Q nL as cells slots E.1 ls st h) := by
    intro pc' i c0 st' fs fs' h5 h1 h2 h3 h3' h4
    subst h5
    refine ⟨Kp_set hwl h3' hw h1 h2 h3, fun _ _ kk => h4 ?_⟩
    have := kk as (List.prefix_refl _) (by rw [hl]; exact List.length_set.symm)
    simp only [List.length_set, slN_set h1 h2, Nat.sub_self, Nat.add_zero] at this
    exact this
  obtain ⟨pc, ins, len, a, b, pl⟩ := E
  unfold ast at hs
  simp only [] at hs hD0
  split at hs
  · rename_i n
    have e := chkL_len hL (fun _ _ _ _ => by intro q; cases q); subst e
    split at hs
    · rename_i hn
      exact same (Option.some.inj hs).symm rfl hwl (wl_cons.mpr ⟨inrB_iff.mp hn, hws⟩) (g_iconst C hD0)
    · cases hs
  · rename_i n
    have e := chkL_len hL (fun _ _ _ _ => by intro q; cases q); subst e
    split at hs
    · rename_i hn
      simp only [Bool.and_eq_true, decide_eq_true_eq] at hn
      exact same (Option.some.inj hs).symm rfl hwl (wl_cons.mpr ⟨inrB_iff.mp hn.1, hws⟩) (g_bipush C hD0 hn.2)
    · cases hs
  · rename_i n
    have e := chkL_len hL (fun _ _ _ _ => by intro q; cases q); subst e
    split at hs
    · rename_i hn
      simp only [Bool.and_eq_true, decide_eq_true_eq] at hn
      exact same (Option.some.inj hs).symm rfl hwl (wl_cons.mpr ⟨inrB_iff.mp hn.1, hws⟩) (g_sipush C hD0 hn.2)
    · cases hs
  · have e := chkL_len hL (fun _ _ _ _ => by intro q; cases q); subst e
    exact same (Option.some.inj hs).symm rfl hwl (wl_cons.mpr ⟨trivial, hws⟩) (g_null C hD0)
  · have e := chkL_len hL (fun _ _ _ _ => by intro q; cases q); subst e
    obtain ⟨z, hz, ht⟩ := stI_spec hs
    exact same ht rfl hwl (wl_cons.mpr ⟨wl_get hwl hz, hws⟩) (g_iload_n C hD0 hz)
  · have e := chkL_len hL (fun _ _ _ _ => by intro q; cases q); subst e
    obtain ⟨z, hz, ht⟩ := stI_spec hs
    exact same ht rfl hwl (wl_cons.mpr ⟨wl_get hwl hz, hws⟩) (g_iload C hD0 hz)
  · have e := chkL_len hL (fun _ _ _ _ => by intro q; cases q); subst e
    obtain ⟨z, hz, ht⟩ := stA_spec hs
    exact same ht rfl hwl (wl_cons.mpr ⟨wl_get hwl hz, hws⟩) (g_aload_n C hD0 hz)
  · have e := chkL_len hL (fun _ _ _ _ => by intro q; cases q); subst e
    obtain ⟨z, hz, ht⟩ := stA_spec hs
    exact same ht rfl hwl (wl_cons.mpr ⟨wl_get hwl hz, hws⟩) (g_aload C hD0 hz)
  · have e := chkL_len hL (fun _ _ _ _ => by intro q; cases q); subst e
    obtain ⟨z, st2, rfl, hi, ht⟩ := ssI_spec hs
    exact same ht List.length_set (wl_set hwl (wl_cons.mp hws).1) (wl_cons.mp hws).2 (g_istore_n C hD0 (by rw [← hnL]; exact hi))
  · have e := chkL_len hL (fun _ _ _ _ => by intro q; cases q); subst e
    obtain ⟨z, st2, rfl, hi, ht⟩ := ssI_spec hs
    exact same ht List.length_set (wl_set hwl (wl_cons.mp hws).1) (wl_cons.mp hws).2 (g_istore C hD0 (by rw [← hnL]; exact hi))
  · have e := chkL_len hL (fun _ _ _ _ => by intro q; cases q); subst e
    obtain ⟨z, st2, rfl, hi, ht⟩ := ssA_spec hs
    exact same ht List.length_set (wl_set hwl (wl_cons.mp hws).1) (wl_cons.mp hws).2 (g_astore_n C hD0 (by rw [← hnL]; exact hi))
  · rename_i i n
    have e := chkL_len hL (fun _ _ _ _ => by intro q; cases q); subst e
    split at hs
    · rename_i z hz
      exact same (Option.some.inj hs).symm List.length_set (wl_set hwl (inr_w2 _ _ _)) hws (g_iinc C hD0 hz (by rw [← hnL]; exact (List.getElem?_eq_some_iff.mp hz).1))
    · cases hs
  · have e := chkL_len hL (fun _ _ _ _ => by intro q; cases q); subst e
    obtain ⟨x, y, st2, rfl, ht⟩ := sbin_spec hs
    exact same ht rfl hwl (wl_cons.mpr ⟨inr_w2 _ _ _, (wl_c2 hws).2.2⟩) (g_iadd C hD0)
  · have e := chkL_len hL (fun _ _ _ _ => by intro q; cases q); subst e
    obtain ⟨x, y, st2, rfl, ht⟩ := sbin_spec hs
    exact same ht rfl hwl (wl_cons.mpr ⟨inr_w2 _ _ _, (wl_c2 hws).2.2⟩) (g_isub C hD0)
  · have e := chkL_len hL (fun _ _ _ _ => by intro q; cases q); subst e
    obtain ⟨x, y, st2, rfl, ht⟩ := sbin_spec hs
    exact same ht rfl hwl (wl_cons.mpr ⟨inr_w2 _ _ _, (wl_c2 hws).2.2⟩) (g_imul C hD0)
  · have e := chkL_len hL (fun _ _ _ _ => by intro q; cases q); subst e
    obtain ⟨x, y, st2, rfl, ht⟩ := sbin_spec hs
    exact same ht rfl hwl (wl_cons.mpr ⟨inr_w2 _ _ _, (wl_c2 hws).2.2⟩) (g_iand C hD0)
  · have e := chkL_len hL (fun _ _ _ _ => by intro q; cases q); subst e
    obtain ⟨x, y, st2, rfl, ht⟩ := sbin_spec hs
    exact same ht rfl hwl (wl_cons.mpr ⟨inr_w2 _ _ _, (wl_c2 hws).2.2⟩) (g_ior C hD0)
  · have e := chkL_len hL (fun _ _ _ _ => by intro q; cases q); subst e
    obtain ⟨x, y, st2, rfl, ht⟩ := sbin_spec hs
    exact same ht rfl hwl (wl_cons.mpr ⟨inr_w2 _ _ _, (wl_c2 hws).2.2⟩) (g_ishl C hD0)
  · have e := chkL_len hL (fun _ _ _ _ => by intro q; cases q); subst e
    obtain ⟨x, y, st2, rfl, ht⟩ := sbin_spec hs
    exact same ht rfl hwl (wl_cons.mpr ⟨inr_w2 _ _ _, (wl_c2 hws).2.2⟩) (g_ishr C hD0)
  · have e := chkL_len hL (fun _ _ _ _ => by intro q; cases q); subst e
    obtain ⟨x, y, st2, rfl, hy, ht⟩ := sdiv_spec hs
    exact same ht rfl hwl (wl_cons.mpr ⟨inr_w2 _ _ _, (wl_c2 hws).2.2⟩) (g_idiv C hD0 (wl_c2 hws).1 hy)
  · have e := chkL_len hL (fun _ _ _ _ => by intro q; cases q); subst e
    obtain ⟨x, y, st2, rfl, hy, ht⟩ := sdiv_spec hs
    exact same ht rfl hwl (wl_cons.mpr ⟨inr_w2 _ _ _, (wl_c2 hws).2.2⟩) (g_irem C hD0 (wl_c2 hws).1 hy)
  · have e := chkL_len hL (fun _ _ _ _ => by intro q; cases q); subst e
    split at hs
    · exact same (Option.some.inj hs).symm rfl hwl (wl_cons.mpr ⟨inr_w2 _ _ _, (wl_cons.mp hws).2⟩) (g_ineg C hD0)
    · cases hs
  · have e := chkL_len hL (fun _ _ _ _ => by intro q; cases q); subst e
    split at hs
    · cases hs
    · rename_i v st2 hv
      have hd : isDb v = false := by
        rcases v with z | r | x
        · rfl
        · rfl
        · exact absurd rfl (hv x)
      exact same (Option.some.inj hs).symm rfl hwl (wl_cons.mpr ⟨(wl_cons.mp hws).1, hws⟩) (g_dup C hD0 hd)
    · cases hs
  · have e := chkL_len hL (fun _ _ _ _ => by intro q; cases q); subst e
    split at hs
    · cases hs
    · rename_i v st2 hv
      have hd : isDb v = false := by
        rcases v with z | r | x
        · rfl
        · rfl
        · exact absurd rfl (hv x)
      exact same (Option.some.inj hs).symm rfl hwl (wl_cons.mp hws).2 (g_pop C hD0 hd)
    · cases hs
  · have e := chkL_len hL (fun _ _ _ _ => by intro q; cases q); subst e
    split at hs
    · cases hs
    · cases hs
    · rename_i v u st2 hv hu
      have hd : isDb v = false := by
        rcases v with z | r | x
        · rfl
        · rfl
        · exact absurd rfl (hv x)
      have hd2 : isDb u = false := by
        rcases u with z | r | x
        · rfl
        · rfl
        · exact absurd rfl (hu x)
      exact same (Option.some.inj hs).symm rfl hwl (wl_cons.mpr ⟨(wl_c2 hws).1, wl_cons.mpr ⟨(wl_c2 hws).2.1, hws⟩⟩) (g_dup2 C hD0 hd hd2)
    · cases hs
  · have e := chkL_len hL (fun _ _ _ _ => by intro q; cases q); subst e
    split at hs
    · split at hs
      · rename_i ht
        exact same (Option.some.inj hs).symm rfl hwl (wl_cons.mp hws).2 (g_if C hD0 ht (wl_cons.mp hws).1)
      · cases hs
    · cases hs
  · have e := chkL_len hL (fun _ _ _ _ => by intro q; cases q); subst e
    split at hs
    · split at hs
      · rename_i ht
        exact same (Option.some.inj hs).symm rfl hwl (wl_c2 hws).2.2 (g_icmp C hD0 ht (wl_c2 hws).2.1 (wl_c2 hws).1)
      · cases hs
    · cases hs
  · have e := chkL_len hL (fun _ _ _ _ => by intro q; cases q); subst e
    split at hs
    · split at hs
      · rename_i ht
        exact same (Option.some.inj hs).symm rfl hwl (wl_cons.mp hws).2 (g_ifnull C hD0 ht)
      · cases hs
    · cases hs
  · have e := chkL_len hL (fun _ _ _ _ => by intro q; cases q); subst e
    split at hs
    · split at hs
      · rename_i ht
        exact same (Option.some.inj hs).symm rfl hwl (wl_cons.mp hws).2 (g_ifnonnull C hD0 ht)
      · cases hs
    · cases hs
  · have e := chkL_len hL (fun _ _ _ _ => by intro q; cases q); subst e
    split at hs
    · rename_i ht
      exact same (Option.some.inj hs).symm rfl hwl hws (g_goto C hD0 ht)
    · cases hs
  · split at hs
    · split at hs
      · rename_i hq
        split at hs
        · rename_i ht
          exact same (Option.some.inj hs).symm rfl hwl (wl_cons.mp hws).2 (g_tabOut C hD0 (wl_cons.mp hws).1 hq ht)
        · cases hs
      · rename_i hq
        split at hs
        · rename_i off ho
          split at hs
          · rename_i ht
            exact same (Option.some.inj hs).symm rfl hwl (wl_cons.mp hws).2 (g_tabIn C hD0 (wl_cons.mp hws).1 hq ho ht)
          · cases hs
        · cases hs
    · cases hs
  · have e := chkL_len hL (fun _ _ _ _ => by intro q; cases q); subst e
    split at hs
    · split at hs
      · rename_i c0 fs hi
        split at hs
        · rename_i hc0
          subst hc0
          split at hs
          · rename_i v hv
            exact same (Option.some.inj hs).symm rfl hwl (wl_cons.mpr ⟨wl_get (wh_get hw hi) hv, (wl_cons.mp hws).2⟩) (g_getf C hD0 hl hO hi hv)
          · cases hs
        · cases hs
      · cases hs
    · cases hs
  · have e := chkL_len hL (fun _ _ _ _ => by intro q; cases q); subst e
    split at hs
    · split at hs
      · rename_i c0 fs hi
        split at hs
        · rename_i hc0
          obtain ⟨hc0, hb, hf, hfin⟩ := hc0
          subst hc0
          exact sett (Option.some.inj hs).symm hi List.length_set (wl_set (wh_get hw hi) (wl_c2 hws).1) (wl_c2 hws).2.2 (g_putf C hD0 hl hO hi hb hf hfin)
        · cases hs
      · cases hs
    · cases hs
  · have e := chkL_len hL (fun _ _ _ _ => by intro q; cases q); subst e
    split at hs
    · split at hs
      · rename_i c0 fs hi
        split at hs
        · rename_i hc0
          obtain ⟨hc0, hz⟩ := hc0
          subst hc0
          split at hs
          · rename_i x hv
            exact same (Option.some.inj hs).symm rfl hwl (wl_cons.mpr ⟨wl_get (wh_get hw hi) hv, (wl_c2 hws).2.2⟩) (g_iald C hD0 hl (wl_c2 hws).1 hz hi hv)
          · cases hs
        · cases hs
      · cases hs
    · cases hs
  · have e := chkL_len hL (fun _ _ _ _ => by intro q; cases q); subst e
    split at hs
    · split at hs
      · rename_i c0 fs hi
        split at hs
        · rename_i hc0
          obtain ⟨hc0, hz, hlt⟩ := hc0
          subst hc0
          have h1 := wl_c2 hws
          exact sett (Option.some.inj hs).symm hi List.length_set (wl_set (wh_get hw hi) h1.1) (wl_cons.mp h1.2.2).2 (g_iast C hD0 hl h1.2.1 hz hi hlt)
        · cases hs
      · cases hs
    · cases hs
  · have e := chkL_len hL (fun _ _ _ _ => by intro q; cases q); subst e
    split at hs
    · split at hs
      · rename_i c0 fs hi
        split at hs
        · rename_i hc0
          obtain ⟨hc0, hz⟩ := hc0
          subst hc0
          split at hs
          · rename_i x hv
            exact same (Option.some.inj hs).symm rfl hwl (wl_cons.mpr ⟨wl_get (wh_get hw hi) hv, (wl_c2 hws).2.2⟩) (g_aald C hD0 hl (wl_c2 hws).1 hz hi hv)
          · cases hs
        · cases hs
      · cases hs
    · cases hs
  · have e := chkL_len hL (fun _ _ _ _ => by intro q; cases q); subst e
    split at hs
    · split at hs
      · rename_i c0 fs c2 vs hi hv
        split at hs
        · rename_i hc0
          obtain ⟨hc0, hc2, hz, hlt⟩ := hc0
          subst hc0; subst hc2
          have h1 := wl_c2 hws
          exact sett (Option.some.inj hs).symm hi List.length_set (wl_set (wh_get hw hi) h1.1) (wl_cons.mp h1.2.2).2 (g_aast C hD0 hl h1.2.1 hz hi hv hlt)
        · cases hs
      · cases hs
    · cases hs
  · have e := chkL_len hL (fun _ _ _ _ => by intro q; cases q); subst e
    split at hs
    · split at hs
      · rename_i c0 fs hi
        split at hs
        · rename_i hc0
          exact same (Option.some.inj hs).symm rfl hwl (wl_cons.mpr ⟨nat_inr hc0.2, (wl_cons.mp hws).2⟩) (g_alen C hD0 hl hc0.1 hi)
        · cases hs
      · cases hs
    · cases hs
  · skip
    have e := chkL_len hL (fun _ _ _ _ => by intro q; cases q); subst e
    split at hs
    · rename_i hn
      exact same (Option.some.inj hs).symm rfl hwl (wl_cons.mpr ⟨inrB_iff.mp hn, hws⟩) (g_ldc C hD0 hO)
    · cases hs
  · skip
    have e := chkL_len hL (fun _ _ _ _ => by intro q; cases q); subst e
    exact same (Option.some.inj hs).symm rfl hwl (wl_cons.mpr ⟨trivial, hws⟩) (g_ldc2 C hD0 hO)
  · skip
    have e := chkL_len hL (fun _ _ _ _ => by intro q; cases q); subst e
    obtain ⟨z, hz, hz2, ht⟩ := stL_spec hs
    exact same ht rfl hwl (wl_cons.mpr ⟨trivial, hws⟩) (g_lload_n C hD0 hz hz2)
  · skip
    have e := chkL_len hL (fun _ _ _ _ => by intro q; cases q); subst e
    obtain ⟨z, hz, hz2, ht⟩ := stL_spec hs
    exact same ht rfl hwl (wl_cons.mpr ⟨trivial, hws⟩) (g_lload C hD0 hz hz2)
  · skip
    have e := chkL_len hL (fun _ _ _ _ => by intro q; cases q); subst e
    obtain ⟨z, st2, rfl, hi, ht⟩ := ssL_spec hs
    exact same ht (by rw [List.length_set, List.length_set]) (wl_set (wl_set hwl trivial) trivial) (wl_cons.mp hws).2 (g_lstore_n C hD0 (by rw [← hnL]; exact hi))
  · skip
    have e := chkL_len hL (fun _ _ _ _ => by intro q; cases q); subst e
    obtain ⟨z, st2, rfl, hi, ht⟩ := ssL_spec hs
    exact same ht (by rw [List.length_set, List.length_set]) (wl_set (wl_set hwl trivial) trivial) (wl_cons.mp hws).2 (g_lstore C hD0 (by rw [← hnL]; exact hi))
  · skip
    have e := chkL_len hL (fun _ _ _ _ => by intro q; cases q); subst e
    split at hs
    · exact same (Option.some.inj hs).symm rfl hwl (wl_cons.mpr ⟨trivial, (wl_cons.mp hws).2⟩) (g_i2l C hD0)
    · cases hs
  · skip
    have e := chkL_len hL (fun _ _ _ _ => by intro q; cases q); subst e
    split at hs
    · exact same (Option.some.inj hs).symm rfl hwl (wl_cons.mpr ⟨trivial, (wl_c2 hws).2.2⟩) (g_ladd C hD0)
    · cases hs
  · skip
    have e := chkL_len hL (fun _ _ _ _ => by intro q; cases q); subst e
    split at hs
    · exact same (Option.some.inj hs).symm rfl hwl (wl_cons.mpr ⟨trivial, (wl_c2 hws).2.2⟩) (g_lmul C hD0)
    · cases hs
  · skip
    have e := chkL_len hL (fun _ _ _ _ => by intro q; cases q); subst e
    split at hs
    · exact same (Option.some.inj hs).symm rfl hwl (wl_cons.mpr ⟨inr_toInt _, (wl_c2 hws).2.2⟩) (g_lcmp C hD0)
    · cases hs
  · have e := chkL_len hL (fun _ _ _ _ => by intro q; cases q); subst e
    split at hs
    · cases hs
      refine ⟨Kp_push hwl hws hw (dflO_wl _ _), fun hc2 hs2 kk => ?_⟩
      have ho : a < 8 := by
        unfold chkO at hO
        simp only [] at hO
        split at hO
        · rename_i hq; exact vw_lt hq
        · cases hO
      have e1 : (h ++ [(a, dflO a)]).length - h.length = 1 := by simp
      have e2 : slN (h ++ [(a, dflO a)]) - slN h = nC a := by
        rw [slN_push]
        show slN h + slO (a, dflO a) - slN h = nC a
        unfold slO
        rw [if_neg (by simp only []; omega)]
        exact Nat.add_sub_cancel_left _ _
      have hc3 : cells + ((h ++ [(a, dflO a)]).length - h.length) ≤ R.cells := hc2
      have hs3 : slots + (slN (h ++ [(a, dflO a)]) - slN h) ≤ R.slots := hs2
      rw [e1] at hc3
      rw [e2] at hs3
      refine g_new C hl hw hwl hws hD0 (by unfold chkO at hO ⊢; exact hO) hA hc3 hs3 (fun q => ?_)
      have h3 := kk (as ++ [q]) (List.prefix_append _ _) (by show (as ++ [q]).length = (h ++ [(a, dflO a)]).length; simp [hl])
      have h4 : Wg p l e R s m args below meth c D cI cG A Q nL (as ++ [q]) (cells + ((h ++ [(a, dflO a)]).length - h.length)) (slots + (slN (h ++ [(a, dflO a)]) - slN h)) (pc + 3) ls (Rf h.length :: st) (h ++ [(a, dflO a)]) := h3
      rw [e1, e2] at h4
      exact h4
    · cases hs
  · have e := chkL_len hL (fun _ _ _ _ => by intro q; cases q); subst e
    split at hs
    · rename_i n st2
      split at hs
      · rename_i hq
        obtain ⟨_, rfl, h0, h1⟩ := hq
        cases hs
        have hwf : wl (h.length + 1) (List.replicate n.toNat (I 0)) := fun v hv => by rw [List.eq_of_mem_replicate hv]; exact inr_0
        refine ⟨Kp_push (o := (100, List.replicate n.toNat (I 0))) hwl (wl_cons.mp hws).2 hw hwf, fun hc2 hs2 kk => ?_⟩
        have e1 : (h ++ [(100, List.replicate n.toNat (I 0))]).length - h.length = 1 := by simp
        have e2 : slN (h ++ [(100, List.replicate n.toNat (I 0))]) - slN h = n.toNat := by
          rw [slN_push]
          show slN h + slO (100, List.replicate n.toNat (I 0)) - slN h = n.toNat
          unfold slO
          rw [if_pos (Or.inl rfl), List.length_replicate]
          omega
        have hc3 : cells + ((h ++ [(100, List.replicate n.toNat (I 0))]).length - h.length) ≤ R.cells := hc2
        have hs3 : slots + (slN (h ++ [(100, List.replicate n.toNat (I 0))]) - slN h) ≤ R.slots := hs2
        rw [e1] at hc3
        rw [e2] at hs3
        refine g_newa C hl hw hwl (wl_cons.mp hws).2 hD0 h0 h1 hA hc3 hs3 (fun q => ?_)
        have h3 := kk (as ++ [q]) (List.prefix_append _ _) (by show (as ++ [q]).length = (h ++ [(100, List.replicate n.toNat (I 0))]).length; simp [hl])
        have h4 : Wg p l e R s m args below meth c D cI cG A Q nL (as ++ [q]) (cells + ((h ++ [(100, List.replicate n.toNat (I 0))]).length - h.length)) (slots + (slN (h ++ [(100, List.replicate n.toNat (I 0))]) - slN h)) (pc + 2) ls (Rf h.length :: st2) (h ++ [(100, List.replicate n.toNat (I 0))]) := h3
        rw [e1, e2] at h4
        exact h4
      · cases hs
    · cases hs
  · have e := chkL_len hL (fun _ _ _ _ => by intro q; cases q); subst e
    split at hs
    · rename_i n st2
      split at hs
      · rename_i hq
        obtain ⟨_, rfl, h0, h1⟩ := hq
        cases hs
        have hwf : wl (h.length + 1) (List.replicate n.toNat Nu) := fun v hv => by rw [List.eq_of_mem_replicate hv]; trivial
        refine ⟨Kp_push (o := (101, List.replicate n.toNat Nu)) hwl (wl_cons.mp hws).2 hw hwf, fun hc2 hs2 kk => ?_⟩
        have e1 : (h ++ [(101, List.replicate n.toNat Nu)]).length - h.length = 1 := by simp
        have e2 : slN (h ++ [(101, List.replicate n.toNat Nu)]) - slN h = n.toNat := by
          rw [slN_push]
          show slN h + slO (101, List.replicate n.toNat Nu) - slN h = n.toNat
          unfold slO
          rw [if_pos (Or.inr rfl), List.length_replicate]
          omega
        have hc3 : cells + ((h ++ [(101, List.replicate n.toNat Nu)]).length - h.length) ≤ R.cells := hc2
        have hs3 : slots + (slN (h ++ [(101, List.replicate n.toNat Nu)]) - slN h) ≤ R.slots := hs2
        rw [e1] at hc3
        rw [e2] at hs3
        refine g_anew C hl hw hwl (wl_cons.mp hws).2 hD0 (lwG_in (isW_mem hO) rfl) h0 h1 hA hc3 hs3 (fun q => ?_)
        have h3 := kk (as ++ [q]) (List.prefix_append _ _) (by show (as ++ [q]).length = (h ++ [(101, List.replicate n.toNat Nu)]).length; simp [hl])
        have h4 : Wg p l e R s m args below meth c D cI cG A Q nL (as ++ [q]) (cells + ((h ++ [(101, List.replicate n.toNat Nu)]).length - h.length)) (slots + (slN (h ++ [(101, List.replicate n.toNat Nu)]) - slN h)) (pc + 3) ls (Rf h.length :: st2) (h ++ [(101, List.replicate n.toNat Nu)]) := h3
        rw [e1, e2] at h4
        exact h4
      · cases hs
    · cases hs
  · cases hs
end Sound
