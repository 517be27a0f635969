theorem cT_eq {x y : Int} (h : x = y) : cmpB .eq x y = true := decide_eq_true h
theorem cF_eq {x y : Int} (h : ¬ (x = y)) : cmpB .eq x y = false := decide_eq_false h
theorem cT_ne {x y : Int} (h : x ≠ y) : cmpB .ne x y = true := decide_eq_true h
theorem cF_ne {x y : Int} (h : ¬ (x ≠ y)) : cmpB .ne x y = false := decide_eq_false h
theorem cT_lt {x y : Int} (h : x < y) : cmpB .lt x y = true := decide_eq_true h
theorem cF_lt {x y : Int} (h : ¬ (x < y)) : cmpB .lt x y = false := decide_eq_false h
theorem cT_ge {x y : Int} (h : y ≤ x) : cmpB .ge x y = true := decide_eq_true h
theorem cF_ge {x y : Int} (h : ¬ (y ≤ x)) : cmpB .ge x y = false := decide_eq_false h
theorem cT_gt {x y : Int} (h : y < x) : cmpB .gt x y = true := decide_eq_true h
theorem cF_gt {x y : Int} (h : ¬ (y < x)) : cmpB .gt x y = false := decide_eq_false h
theorem cT_le {x y : Int} (h : x ≤ y) : cmpB .le x y = true := decide_eq_true h
theorem cF_le {x y : Int} (h : ¬ (x ≤ y)) : cmpB .le x y = false := decide_eq_false h
section WholeP
variable {M N : Mem} {P Q : PMem}
/-- the kept digest is the snapshot's -/
def KP (M : Mem) (kp : Int64) : Prop := ∃ n sp t hl, CB (blk M 24) n sp t hl ∧ CT (blk M 24) t ∧ kp = lookG (blk M 24) n sp t hl
def LI (M : Mem) (P : PMem) (kp : Int64) : Prop := RW M P ∧ M 0 5 = 1 ∧ KP M kp
theorem KP_same {kp : Int64} (h : KP M kp) (e : ∀ a b, 24 ≤ a → a < 47 → N a b = M a b) : KP N kp := by
  obtain ⟨n, sp, t, hl, h1, h2, h3⟩ := h
  have eS : ∀ o b, cS o b = true → blk N 24 (o + 1) b = blk M 24 (o + 1) b := fun o b hcs => by
    have ho := cS_sm _ _ hcs
    rw [blk_e (by omega), blk_e (by omega), e (24 + o) b (by omega) (by omega)]
  have h4 := CB_castS h1 eS
  have := h1.cN.2
  have := h1.tn
  exact ⟨n, sp, t, hl, h4, CT_castS h2 (by omega) eS, by rw [h3, LK_det h1 h4 eS]⟩
/-- the digest of the main game -/
def LM (M : Mem) (w : Int64) : Prop := ∃ n sp t hl, CB M n sp t hl ∧ CT M t ∧ w = lookG M n sp t hl
theorem LM_ev {w : Int64} (h : LM M w) : evM 109 [Rf 0] (Hp M P) = some (some (Lg w), Hp M P) := by
  obtain ⟨n, sp, t, hl, h1, h2, h3⟩ := h
  rw [h3]
  exact look_ev h1 h2
theorem LM_of (h : RW M P) : ∃ w, LM M w := by
  obtain ⟨n, sp, t, hl, h1, h2⟩ := h.1
  exact ⟨_, n, sp, t, hl, h1, h2, rfl⟩
theorem LM_eq {w w' : Int64} (h : LM M w) (h' : LM N w') (e : eqS M N) : w' = w := by
  obtain ⟨n, sp, t, hl, h1, h2, h3⟩ := h
  obtain ⟨n', sp', t', hl', h1', h2', h3'⟩ := h'
  rw [h3, h3']
  exact LK_det h1 h1' e
theorem LM_KP {w kp : Int64} (h : KP M kp) (h' : LM N w) (e : ∀ o b, cS o b = true → N (o + 1) b = M (24 + o) b) : w = kp := by
  obtain ⟨n, sp, t, hl, h1, h2, h3⟩ := h
  exact LM_eq ⟨n, sp, t, hl, h1, h2, h3⟩ h' (fun o b hcs => by rw [e o b hcs, blk_e (by omega)])
theorem rf_inr (hw : wh (Hp M P)) : inr (M 1 9) := by
  have h1 := wh_get hw (Hp_get (M := M) (P := P) (i := 1) (by decide))
  have h2 : (obM M P 1).2[9]? = some (vl M P 1 9) := ob_get (by decide)
  have h3 := wl_get h1 h2
  have e : vl M P 1 9 = I (M 1 9) := rfl
  rw [e] at h3
  exact h3
/-- what a call kept of the object, with the odds' rows written -/
theorem RW_scr (h : RW M P) (e : ∀ a b, a ≠ 146 → a ≠ 148 → N a b = M a b) : RW N P := by
  obtain ⟨L, l1, l2⟩ := h.2.2.2
  exact RW_cast h (fun a b _ y => e a b (by omega) (by omega)) ⟨L, l1, by rw [e 141 1 (by omega) (by omega)]; exact l2⟩
theorem Step_scr {E : Mem} (h : StepQ M P N Q) (e : ∀ a b, a ≠ 146 → a ≠ 148 → E a b = N a b) (hQ : PO Q) : StepQ M P E Q := by
  refine ⟨RW_scr h.1 e, ?_⟩
  rcases h.2 with ⟨x1, x2, x3, x4, x5⟩ | ⟨x1, x2, x3, x4⟩
  · refine Or.inl ⟨x1, by rw [e 47 1 (by omega) (by omega)]; exact x2, fun o b hcs => ?_, fun a b y z => by rw [e a b (by omega) (by omega)]; exact x4 a b y z, by rw [e 0 5 (by omega) (by omega)]; exact x5⟩
    have := cS_sm _ _ hcs
    rw [e _ _ (by omega) (by omega)]
    exact x3 o b hcs
  · refine Or.inr ⟨fun k hk hk2 => ?_, fun y => by rw [e 47 1 (by omega) (by omega)]; exact x2 y, fun a b y z => by rw [e a b (by omega) (by omega)]; exact x3 a b y z, by rw [e 0 5 (by omega) (by omega)]; exact x4⟩
    obtain ⟨y1, y2⟩ := x1 k hk hk2
    refine ⟨by rw [e 47 1 (by omega) (by omega)]; exact y1, fun o b hcs => ?_⟩
    have := cS_sm _ _ hcs
    have hb := hQ k hk
    unfold hB at hb
    rw [e _ _ (by omega) (by omega)]
    exact y2 o b hcs
theorem RW_PO (h : RW M P) : PO P := by
  obtain ⟨-, ⟨K, -, -, hP, -⟩, -⟩ := h
  exact hP
theorem RW_47 (h : RW M P) : ∃ k : Nat, k ≤ 4 ∧ M 47 1 = (k : Int) := by
  obtain ⟨-, ⟨K, k1, k4, -⟩, -⟩ := h
  exact ⟨K, k4, k1⟩
theorem RW_14 (h : RW M P) : 0 ≤ M 1 4 ∧ M 1 4 ≤ 3 := by
  obtain ⟨n, sp, t, hl, h1, h2⟩ := h.1
  exact CT_r h2
end WholeP
section Whole
variable {p : Program} {l : Launch} {e : Env} {s : State} {m : MethodId} {below : List Frame} {meth : Method} {c : Code} {D : va_G} {cI cG : ClassId} {b L : Nat} {xs : Nat → Int32} {as : List Nat} {cells slots n : Nat} {M N : Mem} {P Q : PMem} {kp w : Int64} {x y : Int}
theorem sA (C : CtL p s m meth c D cI cG b L xs) (hl : as.length = NN) (hcs : cells ≤ 729158) (hss : slots ≤ 6914773) (hL : L ≤ 260) (hn : n < 50) {h : AH} (kk : ∀ x y : Int, inr x → inr y → LW p l e s m below meth c D cI cG b as h cells slots 95 [(0, .ref b), (1, .ref (adr as 0)), (2, .int (i32 1)), (3, .long kp), (5, .int (i32 (n : Int))), (6, .int (i32 x)), (7, .int (i32 y))] []) : LW p l e s m below meth c D cI cG b as h cells slots 62 [(0, .ref b), (1, .ref (adr as 0)), (2, .int (i32 1)), (3, .long kp), (5, .int (i32 (n : Int)))] [] := by
  refine L_il C (k := 5) 4 dl_62 rfl ?_
  refine L_bp C (n := 50) dl_64 (by decide) ?_
  refine L_icmp C (tgt := 381) dl_66 (by decide) ⟨by omega, by omega⟩ ⟨by omega, by omega⟩ (bF (cF_ge (by omega))) (fun _ => ?_)
  refine L_iload C (k := 2) 2 dl_69 rfl ?_
  refine L_if C (tgt := 381) dl_70 (by decide) ⟨by omega, by omega⟩ (bF (cF_eq (by omega))) (fun _ => ?_)
  refine L_aload C (k := 0) 0 dl_73 rfl ?_
  refine L_ic C (n := 2) dl_74 ?_
  refine L_il C (k := 5) 4 dl_75 rfl ?_
  refine L_mul C (z := ((2 * n : Nat) : Int)) dl_77 (by rw [ml_eq (by omega) (by omega)]; push_cast; omega) ?_
  refine L_lot C (j := 2 * n) rfl (by omega) hL dl_78 hcs hss (Nat.le_of_ble_eq_true rfl) (fun x hx => ?_)
  refine L_is C (k := 6) (lv' := [(6, .int (i32 x)), (0, .ref b), (1, .ref (adr as 0)), (2, .int (i32 1)), (3, .long kp), (5, .int (i32 (n : Int)))]) dl_81 (by decide) rfl ?_
  refine L_aload C (k := 0) 1 dl_83 rfl ?_
  refine L_ic C (n := 2) dl_84 ?_
  refine L_il C (k := 5) 5 dl_85 rfl ?_
  refine L_mul C (z := ((2 * n : Nat) : Int)) dl_87 (by rw [ml_eq (by omega) (by omega)]; push_cast; omega) ?_
  refine L_ic C (n := 1) dl_88 ?_
  refine L_add C (z := ((2 * n + 1 : Nat) : Int)) dl_89 (by rw [ad_eq (by omega) (by omega)]; push_cast; omega) ?_
  refine L_lot C (j := 2 * n + 1) rfl (by omega) hL dl_90 hcs hss (Nat.le_of_ble_eq_true rfl) (fun y hy => ?_)
  refine L_is C (k := 7) (lv' := [(7, .int (i32 y)), (6, .int (i32 x)), (0, .ref b), (1, .ref (adr as 0)), (2, .int (i32 1)), (3, .long kp), (5, .int (i32 (n : Int)))]) dl_93 (by decide) rfl ?_
  refine L_sub (lv' := [(0, .ref b), (1, .ref (adr as 0)), (2, .int (i32 1)), (3, .long kp), (5, .int (i32 (n : Int))), (6, .int (i32 x)), (7, .int (i32 y))]) [2, 3, 4, 5, 6, 1, 0] rfl ?_
  exact kk x y hx hy
theorem sB3 (C : CtL p s m meth c D cI cG b L xs) (hl : as.length = NN) (hcs : cells ≤ 729158) (hss : slots ≤ 6914773) {h : AH} {iz : Int} (kk : LW p l e s m below meth c D cI cG b as h cells slots 157 [(0, .ref b), (1, .ref (adr as 0)), (2, .int (i32 1)), (3, .long kp), (5, .int (i32 (n : Int))), (6, .int (i32 x)), (7, .int (i32 y)), (8, .long w), (10, .int (i32 (M 47 1)))] []) : LW p l e s m below meth c D cI cG b as h cells slots 151 [(0, .ref b), (1, .ref (adr as 0)), (2, .int (i32 iz)), (3, .long kp), (5, .int (i32 (n : Int))), (6, .int (i32 x)), (7, .int (i32 y)), (8, .long w), (10, .int (i32 (M 47 1)))] [] := by
  refine L_ic C (n := 1) dl_151 ?_
  refine L_goto C (tgt := 156) dl_152 (by decide) ?_
  refine L_isn C (k := 2) (lv' := [(2, .int (i32 1)), (0, .ref b), (1, .ref (adr as 0)), (3, .long kp), (5, .int (i32 (n : Int))), (6, .int (i32 x)), (7, .int (i32 y)), (8, .long w), (10, .int (i32 (M 47 1)))]) dl_156 rfl ?_
  refine L_sub (lv' := [(0, .ref b), (1, .ref (adr as 0)), (2, .int (i32 1)), (3, .long kp), (5, .int (i32 (n : Int))), (6, .int (i32 x)), (7, .int (i32 y)), (8, .long w), (10, .int (i32 (M 47 1)))]) [1, 2, 0, 3, 4, 5, 6, 7, 8] rfl ?_
  exact kk
theorem sB2 (C : CtL p s m meth c D cI cG b L xs) (hl : as.length = NN) (hcs : cells ≤ 729158) (hss : slots ≤ 6914773) (hn : n < 50) (hy : inr y) (hW : RW N Q) (hw : wh (Hp N Q)) (kk : ∀ E : Mem, (∀ a b, a ≠ 146 → a ≠ 148 → E a b = N a b) → wh (Hp E Q) → LW p l e s m below meth c D cI cG b as (Hp E Q) cells slots 157 [(0, .ref b), (1, .ref (adr as 0)), (2, .int (i32 1)), (3, .long kp), (5, .int (i32 (n : Int))), (6, .int (i32 x)), (7, .int (i32 y)), (8, .long w), (10, .int (i32 (M 47 1)))] []) : LW p l e s m below meth c D cI cG b as (Hp N Q) cells slots 134 [(0, .ref b), (1, .ref (adr as 0)), (2, .int (i32 1)), (3, .long kp), (5, .int (i32 (n : Int))), (6, .int (i32 x)), (7, .int (i32 y)), (8, .long w), (10, .int (i32 (M 47 1)))] [] := by
  obtain ⟨n0, sp0, t0, hl0, hB, hT⟩ := hW.1
  obtain ⟨E, e1, e2⟩ := would_ev (P := Q) hB hT y
  have hy1 := hy.1
  have hy2 := hy.2
  by_cases c4 : n % 4 = 2
  · skip
    refine L_il C (k := 5) 4 dl_134 rfl ?_
    refine L_ic C (n := 4) dl_136 ?_
    refine L_rem C (z := ((n % 4 : Nat) : Int)) dl_137 ⟨by decide, by decide⟩ (by decide) (by rw [rm_eq (by omega) (by omega) (by omega) (by omega)]; omega) ?_
    refine L_ic C (n := 2) dl_138 ?_
    refine L_icmp C (tgt := 151) dl_139 (by decide) ⟨by omega, by omega⟩ ⟨by omega, by omega⟩ (bF (cF_ne (by omega))) (fun _ => ?_)
    refine L_aload C (k := 1) 1 dl_142 rfl ?_
    refine L_il C (k := 7) 6 dl_143 rfl ?_
    refine L_evS (av := [Rf 0, I y]) (st := []) (v := I 1) C e1 dl_145 lk_104 rfl rfl rfl hw (wl_cons.mpr ⟨show 0 < NN by decide, wl_cons.mpr ⟨(show inr _ from ⟨by omega, by omega⟩), wl_nil⟩⟩) hl (Nat.le_of_ble_eq_true rfl) hcs hss (fun hw2 _ => ?_)
    refine L_if C (tgt := 155) dl_148 (by decide) ⟨by omega, by omega⟩ (bF (cF_eq (by omega))) (fun _ => ?_)
    exact sB3 C hl hcs hss (kk E e2 hw2)
  · skip
    refine L_il C (k := 5) 4 dl_134 rfl ?_
    refine L_ic C (n := 4) dl_136 ?_
    refine L_rem C (z := ((n % 4 : Nat) : Int)) dl_137 ⟨by decide, by decide⟩ (by decide) (by rw [rm_eq (by omega) (by omega) (by omega) (by omega)]; omega) ?_
    refine L_ic C (n := 2) dl_138 ?_
    refine L_icmp C (tgt := 151) dl_139 (by decide) ⟨by omega, by omega⟩ ⟨by omega, by omega⟩ (fun _ => ?_) (bT (cT_ne (by omega)))
    exact sB3 C hl hcs hss (kk N (fun _ _ _ _ => rfl) hw)
theorem sB1 (C : CtL p s m meth c D cI cG b L xs) (hl : as.length = NN) (hcs : cells ≤ 729158) (hss : slots ≤ 6914773) (hn : n < 50) (hx : inr x) (hy : inr y) (hW : RW M P) (hw : wh (Hp M P)) (kk : ∀ (w : Int64) (N : Mem) (Q : PMem), LM M w → StepQ M P N Q → wh (Hp N Q) → LW p l e s m below meth c D cI cG b as (Hp N Q) cells slots 134 [(0, .ref b), (1, .ref (adr as 0)), (2, .int (i32 1)), (3, .long kp), (5, .int (i32 (n : Int))), (6, .int (i32 x)), (7, .int (i32 y)), (8, .long w), (10, .int (i32 (M 47 1)))] []) : LW p l e s m below meth c D cI cG b as (Hp M P) cells slots 95 [(0, .ref b), (1, .ref (adr as 0)), (2, .int (i32 1)), (3, .long kp), (5, .int (i32 (n : Int))), (6, .int (i32 x)), (7, .int (i32 y))] [] := by
  obtain ⟨n0, sp0, t0, hl0, hB, hT⟩ := hW.1
  obtain ⟨w, hLM⟩ := LM_of hW
  have e1 := LM_ev (P := P) hLM
  have e2 := v_c15 (M := M) (P := P)
  obtain ⟨N, Q, e3, hS⟩ := acts_ev hB hT hW (rf_inr hw) x y
  obtain ⟨n1, sp1, t1, hl1, hB1, hT1⟩ := hS.1.1
  have e4 := holds_ev (P := Q) hB1 hT1
  have hx1 := hx.1
  have hx2 := hx.2
  have hy1 := hy.1
  have hy2 := hy.2
  obtain ⟨k0, k4, k1⟩ := RW_47 hW
  by_cases c3 : 0 < n % 3
  · skip
    refine L_aload C (k := 1) 1 dl_95 rfl ?_
    refine L_evS (av := [Rf 0]) (st := []) (v := Lg w) C e1 dl_96 lk_56 rfl rfl rfl hw (wl_cons.mpr ⟨show 0 < NN by decide, wl_nil⟩) hl (Nat.le_of_ble_eq_true rfl) hcs hss (fun hw1 _ => ?_)
    refine L_ls C (k := 8) (lv' := [(8, .long w), (0, .ref b), (1, .ref (adr as 0)), (2, .int (i32 1)), (3, .long kp), (5, .int (i32 (n : Int))), (6, .int (i32 x)), (7, .int (i32 y))]) dl_99 (by decide) rfl ?_
    refine L_aload C (k := 1) 2 dl_101 rfl ?_
    refine L_bp C (n := 15) dl_102 (by decide) ?_
    refine L_ev (i := 0) (ci := 7) (av' := [I 15]) (st := []) (v := I (M 47 1)) C e2 dl_104 lk_13 rfl rfl rfl rfl rfl kd_0 hw1 (wl_cons.mpr ⟨show 0 < NN by decide, wl_cons.mpr ⟨(show inr _ from ⟨by omega, by omega⟩), wl_nil⟩⟩) hl (Nat.le_of_ble_eq_true rfl) hcs hss (fun hw2 _ => ?_)
    refine L_is C (k := 10) (lv' := [(10, .int (i32 (M 47 1))), (8, .long w), (0, .ref b), (1, .ref (adr as 0)), (2, .int (i32 1)), (3, .long kp), (5, .int (i32 (n : Int))), (6, .int (i32 x)), (7, .int (i32 y))]) dl_107 (by decide) rfl ?_
    refine L_aload C (k := 1) 3 dl_109 rfl ?_
    refine L_il C (k := 6) 7 dl_110 rfl ?_
    refine L_il C (k := 7) 8 dl_112 rfl ?_
    refine L_evS (av := [Rf 0, I x, I y]) (st := []) (v := I 1) C e3 dl_114 lk_120 rfl rfl rfl hw2 (wl_cons.mpr ⟨show 0 < NN by decide, wl_cons.mpr ⟨(show inr _ from ⟨by omega, by omega⟩), wl_cons.mpr ⟨(show inr _ from ⟨by omega, by omega⟩), wl_nil⟩⟩⟩) hl (Nat.le_of_ble_eq_true rfl) hcs hss (fun hw3 _ => ?_)
    refine L_if C (tgt := 155) dl_117 (by decide) ⟨by omega, by omega⟩ (bF (cF_eq (by omega))) (fun _ => ?_)
    refine L_il C (k := 5) 6 dl_120 rfl ?_
    refine L_ic C (n := 3) dl_122 ?_
    refine L_rem C (z := ((n % 3 : Nat) : Int)) dl_123 ⟨by decide, by decide⟩ (by decide) (by rw [rm_eq (by omega) (by omega) (by omega) (by omega)]; omega) ?_
    refine L_if C (tgt := 134) dl_124 (by decide) ⟨by omega, by omega⟩ (fun _ => ?_) (bT (cT_gt (by omega)))
    refine L_sub (lv' := [(0, .ref b), (1, .ref (adr as 0)), (2, .int (i32 1)), (3, .long kp), (5, .int (i32 (n : Int))), (6, .int (i32 x)), (7, .int (i32 y)), (8, .long w), (10, .int (i32 (M 47 1)))]) [2, 3, 4, 5, 6, 7, 8, 1, 0] rfl ?_
    exact kk w N Q hLM hS hw3
  · skip
    refine L_aload C (k := 1) 1 dl_95 rfl ?_
    refine L_evS (av := [Rf 0]) (st := []) (v := Lg w) C e1 dl_96 lk_56 rfl rfl rfl hw (wl_cons.mpr ⟨show 0 < NN by decide, wl_nil⟩) hl (Nat.le_of_ble_eq_true rfl) hcs hss (fun hw1 _ => ?_)
    refine L_ls C (k := 8) (lv' := [(8, .long w), (0, .ref b), (1, .ref (adr as 0)), (2, .int (i32 1)), (3, .long kp), (5, .int (i32 (n : Int))), (6, .int (i32 x)), (7, .int (i32 y))]) dl_99 (by decide) rfl ?_
    refine L_aload C (k := 1) 2 dl_101 rfl ?_
    refine L_bp C (n := 15) dl_102 (by decide) ?_
    refine L_ev (i := 0) (ci := 7) (av' := [I 15]) (st := []) (v := I (M 47 1)) C e2 dl_104 lk_13 rfl rfl rfl rfl rfl kd_0 hw1 (wl_cons.mpr ⟨show 0 < NN by decide, wl_cons.mpr ⟨(show inr _ from ⟨by omega, by omega⟩), wl_nil⟩⟩) hl (Nat.le_of_ble_eq_true rfl) hcs hss (fun hw2 _ => ?_)
    refine L_is C (k := 10) (lv' := [(10, .int (i32 (M 47 1))), (8, .long w), (0, .ref b), (1, .ref (adr as 0)), (2, .int (i32 1)), (3, .long kp), (5, .int (i32 (n : Int))), (6, .int (i32 x)), (7, .int (i32 y))]) dl_107 (by decide) rfl ?_
    refine L_aload C (k := 1) 3 dl_109 rfl ?_
    refine L_il C (k := 6) 7 dl_110 rfl ?_
    refine L_il C (k := 7) 8 dl_112 rfl ?_
    refine L_evS (av := [Rf 0, I x, I y]) (st := []) (v := I 1) C e3 dl_114 lk_120 rfl rfl rfl hw2 (wl_cons.mpr ⟨show 0 < NN by decide, wl_cons.mpr ⟨(show inr _ from ⟨by omega, by omega⟩), wl_cons.mpr ⟨(show inr _ from ⟨by omega, by omega⟩), wl_nil⟩⟩⟩) hl (Nat.le_of_ble_eq_true rfl) hcs hss (fun hw3 _ => ?_)
    refine L_if C (tgt := 155) dl_117 (by decide) ⟨by omega, by omega⟩ (bF (cF_eq (by omega))) (fun _ => ?_)
    refine L_il C (k := 5) 6 dl_120 rfl ?_
    refine L_ic C (n := 3) dl_122 ?_
    refine L_rem C (z := ((n % 3 : Nat) : Int)) dl_123 ⟨by decide, by decide⟩ (by decide) (by rw [rm_eq (by omega) (by omega) (by omega) (by omega)]; omega) ?_
    refine L_if C (tgt := 134) dl_124 (by decide) ⟨by omega, by omega⟩ (bF (cF_gt (by omega))) (fun _ => ?_)
    refine L_aload C (k := 1) 3 dl_127 rfl ?_
    refine L_evS (av := [Rf 0]) (st := []) (v := I 1) C e4 dl_128 lk_100 rfl rfl rfl hw3 (wl_cons.mpr ⟨show 0 < NN by decide, wl_nil⟩) hl (Nat.le_of_ble_eq_true rfl) hcs hss (fun hw4 _ => ?_)
    refine L_if C (tgt := 155) dl_131 (by decide) ⟨by omega, by omega⟩ (bF (cF_eq (by omega))) (fun _ => ?_)
    refine L_sub (lv' := [(0, .ref b), (1, .ref (adr as 0)), (2, .int (i32 1)), (3, .long kp), (5, .int (i32 (n : Int))), (6, .int (i32 x)), (7, .int (i32 y)), (8, .long w), (10, .int (i32 (M 47 1)))]) [2, 3, 4, 5, 6, 7, 8, 1, 0] rfl ?_
    exact kk w N Q hLM hS hw4
theorem sC2n (C : CtL p s m meth c D cI cG b L xs) (hl : as.length = NN) (hcs : cells ≤ 729158) (hss : slots ≤ 6914773) {h : AH} {k0 k1 : Nat} (a0 : M 47 1 = (k0 : Int)) (b0 : k0 ≤ 4) (a1 : N 47 1 = (k1 : Int)) (b1 : k1 ≤ 4) (hne : N 47 1 ≠ M 47 1 + 1) (kk : LW p l e s m below meth c D cI cG b as h cells slots 257 [(0, .ref b), (1, .ref (adr as 0)), (2, .int (i32 1)), (3, .long kp), (5, .int (i32 (n : Int)))] []) : LW p l e s m below meth c D cI cG b as h cells slots 201 [(0, .ref b), (1, .ref (adr as 0)), (2, .int (i32 1)), (3, .long kp), (5, .int (i32 (n : Int))), (7, .int (i32 y)), (8, .long w), (10, .int (i32 (M 47 1))), (11, .int (i32 (N 47 1)))] [] := by
  refine L_ic C (n := 1) dl_201 ?_
  refine L_goto C (tgt := 206) dl_202 (by decide) ?_
  refine L_isn C (k := 2) (lv' := [(2, .int (i32 1)), (0, .ref b), (1, .ref (adr as 0)), (3, .long kp), (5, .int (i32 (n : Int))), (7, .int (i32 y)), (8, .long w), (10, .int (i32 (M 47 1))), (11, .int (i32 (N 47 1)))]) dl_206 rfl ?_
  refine L_iload C (k := 2) 0 dl_207 rfl ?_
  refine L_if C (tgt := 257) dl_208 (by decide) ⟨by omega, by omega⟩ (bF (cF_eq (by omega))) (fun _ => ?_)
  refine L_il C (k := 11) 8 dl_211 rfl ?_
  refine L_il C (k := 10) 7 dl_213 rfl ?_
  refine L_ic C (n := 1) dl_215 ?_
  refine L_add C (z := M 47 1 + 1) dl_216 (ad_eq (by omega) (by omega)) ?_
  refine L_icmp C (tgt := 257) dl_217 (by decide) ⟨by omega, by omega⟩ ⟨by omega, by omega⟩ (fun _ => ?_) (bT (cT_ne (by omega)))
  refine L_sub (lv' := [(0, .ref b), (1, .ref (adr as 0)), (2, .int (i32 1)), (3, .long kp), (5, .int (i32 (n : Int)))]) [1, 2, 0, 3, 4] rfl ?_
  exact kk
theorem sC2y (C : CtL p s m meth c D cI cG b L xs) (hl : as.length = NN) (hcs : cells ≤ 729158) (hss : slots ≤ 6914773) {k0 : Nat} (a0 : M 47 1 = (k0 : Int)) (b0 : k0 < 4) (a1 : N 47 1 = ((k0 + 1 : Nat) : Int)) (hW : RW N Q) (hy : inr y) (hw : wh (Hp N Q)) (hLM : LM M w) (hT0 : ∀ o b, cS o b = true → N (Q k0 + o) b = M (o + 1) b) (kk : ∀ E : Mem, RW E Q → (∀ a b, 24 ≤ a → a < 47 → E a b = N a b) → E 0 5 = N 0 5 → wh (Hp E Q) → LW p l e s m below meth c D cI cG b as (Hp E Q) cells slots 257 [(0, .ref b), (1, .ref (adr as 0)), (2, .int (i32 1)), (3, .long kp), (5, .int (i32 (n : Int)))] []) : LW p l e s m below meth c D cI cG b as (Hp N Q) cells slots 201 [(0, .ref b), (1, .ref (adr as 0)), (2, .int (i32 1)), (3, .long kp), (5, .int (i32 (n : Int))), (7, .int (i32 y)), (8, .long w), (10, .int (i32 (M 47 1))), (11, .int (i32 (N 47 1)))] [] := by
  have hlow := lowF_b (v := shr y 8) (n := 3) (by omega) (by omega)
  have hsh : inr (shr y 8) := inr_w2 _ _ _
  have hs1 := hsh.1
  have hs2 := hsh.2
  have eL := low_ev (v := shr y 8) (n := 3) (h := Hp N Q) (by omega)
  by_cases c : lowF (shr y 8) 3 = 0
  · obtain ⟨E, g1, g2, g3, g4, g5, g6⟩ := W_undo hW a1
    obtain ⟨w2, hL2⟩ := LM_of g2
    have eE := LM_ev (P := Q) hL2
    have ew : w2 = w := LM_eq hLM hL2 (fun o b hcs => by rw [g4 o b hcs, hT0 o b hcs])
    refine L_ic C (n := 1) dl_201 ?_
    refine L_goto C (tgt := 206) dl_202 (by decide) ?_
    refine L_isn C (k := 2) (lv' := [(2, .int (i32 1)), (0, .ref b), (1, .ref (adr as 0)), (3, .long kp), (5, .int (i32 (n : Int))), (7, .int (i32 y)), (8, .long w), (10, .int (i32 (M 47 1))), (11, .int (i32 (N 47 1)))]) dl_206 rfl ?_
    refine L_iload C (k := 2) 0 dl_207 rfl ?_
    refine L_if C (tgt := 257) dl_208 (by decide) ⟨by omega, by omega⟩ (bF (cF_eq (by omega))) (fun _ => ?_)
    refine L_il C (k := 11) 8 dl_211 rfl ?_
    refine L_il C (k := 10) 7 dl_213 rfl ?_
    refine L_ic C (n := 1) dl_215 ?_
    refine L_add C (z := M 47 1 + 1) dl_216 (ad_eq (by omega) (by omega)) ?_
    refine L_icmp C (tgt := 257) dl_217 (by decide) ⟨by omega, by omega⟩ ⟨by omega, by omega⟩ (bF (cF_ne (by omega))) (fun _ => ?_)
    refine L_il C (k := 7) 5 dl_220 rfl ?_
    refine L_bp C (n := 8) dl_222 (by decide) ?_
    refine L_shr C (z := shr y 8) dl_224 rfl ?_
    refine L_ic C (n := 3) dl_225 ?_
    refine L_evS (av := [I (shr y 8), I 3]) (st := []) (v := I (lowF (shr y 8) 3)) C eL dl_226 lk_39 rfl rfl rfl hw (wl_cons.mpr ⟨(show inr _ from ⟨by omega, by omega⟩), wl_cons.mpr ⟨(show inr _ from ⟨by omega, by omega⟩), wl_nil⟩⟩) hl (Nat.le_of_ble_eq_true rfl) hcs hss (fun hw1 _ => ?_)
    refine L_if C (tgt := 257) dl_229 (by decide) ⟨by omega, by omega⟩ (bF (cF_ne (by omega))) (fun _ => ?_)
    refine L_aload C (k := 1) 2 dl_232 rfl ?_
    refine L_ev (i := 0) (ci := 7) (av' := []) (st := []) (v := I ((k0 : Nat) : Int)) C g1 dl_233 lk_107 rfl rfl rfl rfl rfl kd_0 hw1 (wl_cons.mpr ⟨show 0 < NN by decide, wl_nil⟩) hl (Nat.le_of_ble_eq_true rfl) hcs hss (fun hw2 _ => ?_)
    refine L_il C (k := 10) 7 dl_236 rfl ?_
    refine L_icmp C (tgt := 255) dl_238 (by decide) ⟨by omega, by omega⟩ ⟨by omega, by omega⟩ (bF (cF_ne (by omega))) (fun _ => ?_)
    refine L_aload C (k := 1) 2 dl_241 rfl ?_
    refine L_evS (av := [Rf 0]) (st := []) (v := Lg w2) C eE dl_242 lk_56 rfl rfl rfl hw2 (wl_cons.mpr ⟨show 0 < NN by decide, wl_nil⟩) hl (Nat.le_of_ble_eq_true rfl) hcs hss (fun hw3 _ => ?_)
    refine L_ll C (k := 8) 6 dl_245 rfl ?_
    refine L_cmp C dl_247 ew ?_
    refine L_if C (tgt := 255) dl_248 (by decide) ⟨by omega, by omega⟩ (bF (cF_ne (by omega))) (fun _ => ?_)
    refine L_ic C (n := 1) dl_251 ?_
    refine L_goto C (tgt := 256) dl_252 (by decide) ?_
    refine L_isn C (k := 2) (lv' := [(2, .int (i32 1)), (0, .ref b), (1, .ref (adr as 0)), (3, .long kp), (5, .int (i32 (n : Int))), (7, .int (i32 y)), (8, .long w), (10, .int (i32 (M 47 1))), (11, .int (i32 (N 47 1)))]) dl_256 rfl ?_
    refine L_sub (lv' := [(0, .ref b), (1, .ref (adr as 0)), (2, .int (i32 1)), (3, .long kp), (5, .int (i32 (n : Int)))]) [1, 2, 0, 3, 4] rfl ?_
    exact kk E g2 g5 g6 hw3
  · skip
    refine L_ic C (n := 1) dl_201 ?_
    refine L_goto C (tgt := 206) dl_202 (by decide) ?_
    refine L_isn C (k := 2) (lv' := [(2, .int (i32 1)), (0, .ref b), (1, .ref (adr as 0)), (3, .long kp), (5, .int (i32 (n : Int))), (7, .int (i32 y)), (8, .long w), (10, .int (i32 (M 47 1))), (11, .int (i32 (N 47 1)))]) dl_206 rfl ?_
    refine L_iload C (k := 2) 0 dl_207 rfl ?_
    refine L_if C (tgt := 257) dl_208 (by decide) ⟨by omega, by omega⟩ (bF (cF_eq (by omega))) (fun _ => ?_)
    refine L_il C (k := 11) 8 dl_211 rfl ?_
    refine L_il C (k := 10) 7 dl_213 rfl ?_
    refine L_ic C (n := 1) dl_215 ?_
    refine L_add C (z := M 47 1 + 1) dl_216 (ad_eq (by omega) (by omega)) ?_
    refine L_icmp C (tgt := 257) dl_217 (by decide) ⟨by omega, by omega⟩ ⟨by omega, by omega⟩ (bF (cF_ne (by omega))) (fun _ => ?_)
    refine L_il C (k := 7) 5 dl_220 rfl ?_
    refine L_bp C (n := 8) dl_222 (by decide) ?_
    refine L_shr C (z := shr y 8) dl_224 rfl ?_
    refine L_ic C (n := 3) dl_225 ?_
    refine L_evS (av := [I (shr y 8), I 3]) (st := []) (v := I (lowF (shr y 8) 3)) C eL dl_226 lk_39 rfl rfl rfl hw (wl_cons.mpr ⟨(show inr _ from ⟨by omega, by omega⟩), wl_cons.mpr ⟨(show inr _ from ⟨by omega, by omega⟩), wl_nil⟩⟩) hl (Nat.le_of_ble_eq_true rfl) hcs hss (fun hw1 _ => ?_)
    refine L_if C (tgt := 257) dl_229 (by decide) ⟨by omega, by omega⟩ (fun _ => ?_) (bT (cT_ne (by omega)))
    refine L_sub (lv' := [(0, .ref b), (1, .ref (adr as 0)), (2, .int (i32 1)), (3, .long kp), (5, .int (i32 (n : Int)))]) [1, 2, 0, 3, 4] rfl ?_
    exact kk N hW (fun _ _ _ _ => rfl) rfl hw1
theorem sC1 (C : CtL p s m meth c D cI cG b L xs) (hl : as.length = NN) (hcs : cells ≤ 729158) (hss : slots ≤ 6914773) (hI : LI M P kp) (hS : StepQ M P N Q) (hy : inr y) (hw : wh (Hp N Q)) (hLM : LM M w) (kk : ∀ (E : Mem) (Q : PMem), LI E Q kp → wh (Hp E Q) → LW p l e s m below meth c D cI cG b as (Hp E Q) cells slots 257 [(0, .ref b), (1, .ref (adr as 0)), (2, .int (i32 1)), (3, .long kp), (5, .int (i32 (n : Int)))] []) : LW p l e s m below meth c D cI cG b as (Hp N Q) cells slots 157 [(0, .ref b), (1, .ref (adr as 0)), (2, .int (i32 1)), (3, .long kp), (5, .int (i32 (n : Int))), (6, .int (i32 x)), (7, .int (i32 y)), (8, .long w), (10, .int (i32 (M 47 1)))] [] := by
  obtain ⟨hWM, hM5, hKP⟩ := hI
  obtain ⟨k0, b0, a0⟩ := RW_47 hWM
  obtain ⟨k1, b1, a1⟩ := RW_47 hS.1
  have e1 := v_c15 (M := N) (P := Q)
  rcases hS.2 with ⟨x1, x2, x3, x4, x5⟩ | ⟨x1, x2, x3, x4⟩
  · have hKN := KP_same hKP x4
    have hIN : LI N Q kp := ⟨hS.1, by rw [x5]; exact hM5, hKN⟩
    by_cases c4 : k0 = 4
    · skip
      refine L_aload C (k := 1) 1 dl_157 rfl ?_
      refine L_bp C (n := 15) dl_158 (by decide) ?_
      refine L_ev (i := 0) (ci := 7) (av' := [I 15]) (st := []) (v := I (N 47 1)) C e1 dl_160 lk_13 rfl rfl rfl rfl rfl kd_0 hw (wl_cons.mpr ⟨show 0 < NN by decide, wl_cons.mpr ⟨(show inr _ from ⟨by omega, by omega⟩), wl_nil⟩⟩) hl (Nat.le_of_ble_eq_true rfl) hcs hss (fun hw1 _ => ?_)
      refine L_is C (k := 11) (lv' := [(11, .int (i32 (N 47 1))), (0, .ref b), (1, .ref (adr as 0)), (2, .int (i32 1)), (3, .long kp), (5, .int (i32 (n : Int))), (6, .int (i32 x)), (7, .int (i32 y)), (8, .long w), (10, .int (i32 (M 47 1)))]) dl_163 (by decide) rfl ?_
      refine L_iload C (k := 2) 3 dl_165 rfl ?_
      refine L_if C (tgt := 205) dl_166 (by decide) ⟨by omega, by omega⟩ (bF (cF_eq (by omega))) (fun _ => ?_)
      refine L_il C (k := 11) 0 dl_169 rfl ?_
      refine L_il C (k := 10) 9 dl_171 rfl ?_
      refine L_icmp C (tgt := 192) dl_173 (by decide) ⟨by omega, by omega⟩ ⟨by omega, by omega⟩ (bF (cF_ne (by omega))) (fun _ => ?_)
      refine L_il C (k := 10) 9 dl_176 rfl ?_
      refine L_ic C (n := 4) dl_178 ?_
      refine L_icmp C (tgt := 201) dl_179 (by decide) ⟨by omega, by omega⟩ ⟨by omega, by omega⟩ (fun _ => ?_) (bT (cT_eq (by omega)))
      refine L_sub (lv' := [(0, .ref b), (1, .ref (adr as 0)), (2, .int (i32 1)), (3, .long kp), (5, .int (i32 (n : Int))), (7, .int (i32 y)), (8, .long w), (10, .int (i32 (M 47 1))), (11, .int (i32 (N 47 1)))]) [1, 2, 3, 4, 5, 7, 8, 9, 0] rfl ?_
      exact sC2n C hl hcs hss a0 b0 a1 b1 (by omega) (kk N Q hIN hw1)
    · obtain ⟨w2, hL2⟩ := LM_of hS.1
      have e2 := LM_ev (P := Q) hL2
      have ew : w2 = w := LM_eq hLM hL2 x3
      refine L_aload C (k := 1) 1 dl_157 rfl ?_
      refine L_bp C (n := 15) dl_158 (by decide) ?_
      refine L_ev (i := 0) (ci := 7) (av' := [I 15]) (st := []) (v := I (N 47 1)) C e1 dl_160 lk_13 rfl rfl rfl rfl rfl kd_0 hw (wl_cons.mpr ⟨show 0 < NN by decide, wl_cons.mpr ⟨(show inr _ from ⟨by omega, by omega⟩), wl_nil⟩⟩) hl (Nat.le_of_ble_eq_true rfl) hcs hss (fun hw1 _ => ?_)
      refine L_is C (k := 11) (lv' := [(11, .int (i32 (N 47 1))), (0, .ref b), (1, .ref (adr as 0)), (2, .int (i32 1)), (3, .long kp), (5, .int (i32 (n : Int))), (6, .int (i32 x)), (7, .int (i32 y)), (8, .long w), (10, .int (i32 (M 47 1)))]) dl_163 (by decide) rfl ?_
      refine L_iload C (k := 2) 3 dl_165 rfl ?_
      refine L_if C (tgt := 205) dl_166 (by decide) ⟨by omega, by omega⟩ (bF (cF_eq (by omega))) (fun _ => ?_)
      refine L_il C (k := 11) 0 dl_169 rfl ?_
      refine L_il C (k := 10) 9 dl_171 rfl ?_
      refine L_icmp C (tgt := 192) dl_173 (by decide) ⟨by omega, by omega⟩ ⟨by omega, by omega⟩ (bF (cF_ne (by omega))) (fun _ => ?_)
      refine L_il C (k := 10) 9 dl_176 rfl ?_
      refine L_ic C (n := 4) dl_178 ?_
      refine L_icmp C (tgt := 201) dl_179 (by decide) ⟨by omega, by omega⟩ ⟨by omega, by omega⟩ (bF (cF_eq (by omega))) (fun _ => ?_)
      refine L_aload C (k := 1) 2 dl_182 rfl ?_
      refine L_evS (av := [Rf 0]) (st := []) (v := Lg w2) C e2 dl_183 lk_56 rfl rfl rfl hw1 (wl_cons.mpr ⟨show 0 < NN by decide, wl_nil⟩) hl (Nat.le_of_ble_eq_true rfl) hcs hss (fun hw2 _ => ?_)
      refine L_ll C (k := 8) 8 dl_186 rfl ?_
      refine L_cmp C dl_188 ew ?_
      refine L_if C (tgt := 201) dl_189 (by decide) ⟨by omega, by omega⟩ (fun _ => ?_) (bT (cT_eq (by omega)))
      refine L_sub (lv' := [(0, .ref b), (1, .ref (adr as 0)), (2, .int (i32 1)), (3, .long kp), (5, .int (i32 (n : Int))), (7, .int (i32 y)), (8, .long w), (10, .int (i32 (M 47 1))), (11, .int (i32 (N 47 1)))]) [1, 2, 3, 4, 5, 7, 8, 9, 0] rfl ?_
      exact sC2n C hl hcs hss a0 b0 a1 b1 (by omega) (kk N Q hIN hw2)
  · have hKN := KP_same hKP x3
    have hIN : LI N Q kp := ⟨hS.1, by rw [x4]; exact hM5, hKN⟩
    by_cases c4 : k0 = 4
    · have z := x2 (by omega)
      refine L_aload C (k := 1) 1 dl_157 rfl ?_
      refine L_bp C (n := 15) dl_158 (by decide) ?_
      refine L_ev (i := 0) (ci := 7) (av' := [I 15]) (st := []) (v := I (N 47 1)) C e1 dl_160 lk_13 rfl rfl rfl rfl rfl kd_0 hw (wl_cons.mpr ⟨show 0 < NN by decide, wl_cons.mpr ⟨(show inr _ from ⟨by omega, by omega⟩), wl_nil⟩⟩) hl (Nat.le_of_ble_eq_true rfl) hcs hss (fun hw1 _ => ?_)
      refine L_is C (k := 11) (lv' := [(11, .int (i32 (N 47 1))), (0, .ref b), (1, .ref (adr as 0)), (2, .int (i32 1)), (3, .long kp), (5, .int (i32 (n : Int))), (6, .int (i32 x)), (7, .int (i32 y)), (8, .long w), (10, .int (i32 (M 47 1)))]) dl_163 (by decide) rfl ?_
      refine L_iload C (k := 2) 3 dl_165 rfl ?_
      refine L_if C (tgt := 205) dl_166 (by decide) ⟨by omega, by omega⟩ (bF (cF_eq (by omega))) (fun _ => ?_)
      refine L_il C (k := 11) 0 dl_169 rfl ?_
      refine L_il C (k := 10) 9 dl_171 rfl ?_
      refine L_icmp C (tgt := 192) dl_173 (by decide) ⟨by omega, by omega⟩ ⟨by omega, by omega⟩ (bF (cF_ne (by omega))) (fun _ => ?_)
      refine L_il C (k := 10) 9 dl_176 rfl ?_
      refine L_ic C (n := 4) dl_178 ?_
      refine L_icmp C (tgt := 201) dl_179 (by decide) ⟨by omega, by omega⟩ ⟨by omega, by omega⟩ (fun _ => ?_) (bT (cT_eq (by omega)))
      refine L_sub (lv' := [(0, .ref b), (1, .ref (adr as 0)), (2, .int (i32 1)), (3, .long kp), (5, .int (i32 (n : Int))), (7, .int (i32 y)), (8, .long w), (10, .int (i32 (M 47 1))), (11, .int (i32 (N 47 1)))]) [1, 2, 3, 4, 5, 7, 8, 9, 0] rfl ?_
      exact sC2n C hl hcs hss a0 b0 a1 b1 (by omega) (kk N Q hIN hw1)
    · obtain ⟨z1, z2⟩ := x1 k0 (by omega) a0
      refine L_aload C (k := 1) 1 dl_157 rfl ?_
      refine L_bp C (n := 15) dl_158 (by decide) ?_
      refine L_ev (i := 0) (ci := 7) (av' := [I 15]) (st := []) (v := I (N 47 1)) C e1 dl_160 lk_13 rfl rfl rfl rfl rfl kd_0 hw (wl_cons.mpr ⟨show 0 < NN by decide, wl_cons.mpr ⟨(show inr _ from ⟨by omega, by omega⟩), wl_nil⟩⟩) hl (Nat.le_of_ble_eq_true rfl) hcs hss (fun hw1 _ => ?_)
      refine L_is C (k := 11) (lv' := [(11, .int (i32 (N 47 1))), (0, .ref b), (1, .ref (adr as 0)), (2, .int (i32 1)), (3, .long kp), (5, .int (i32 (n : Int))), (6, .int (i32 x)), (7, .int (i32 y)), (8, .long w), (10, .int (i32 (M 47 1)))]) dl_163 (by decide) rfl ?_
      refine L_iload C (k := 2) 3 dl_165 rfl ?_
      refine L_if C (tgt := 205) dl_166 (by decide) ⟨by omega, by omega⟩ (bF (cF_eq (by omega))) (fun _ => ?_)
      refine L_il C (k := 11) 0 dl_169 rfl ?_
      refine L_il C (k := 10) 9 dl_171 rfl ?_
      refine L_icmp C (tgt := 192) dl_173 (by decide) ⟨by omega, by omega⟩ ⟨by omega, by omega⟩ (fun _ => ?_) (bT (cT_ne (by omega)))
      refine L_il C (k := 11) 0 dl_192 rfl ?_
      refine L_il C (k := 10) 9 dl_194 rfl ?_
      refine L_ic C (n := 1) dl_196 ?_
      refine L_add C (z := M 47 1 + 1) dl_197 (ad_eq (by omega) (by omega)) ?_
      refine L_icmp C (tgt := 205) dl_198 (by decide) ⟨by omega, by omega⟩ ⟨by omega, by omega⟩ (bF (cF_ne (by omega))) (fun _ => ?_)
      refine L_sub (lv' := [(0, .ref b), (1, .ref (adr as 0)), (2, .int (i32 1)), (3, .long kp), (5, .int (i32 (n : Int))), (7, .int (i32 y)), (8, .long w), (10, .int (i32 (M 47 1))), (11, .int (i32 (N 47 1)))]) [1, 2, 3, 4, 5, 7, 8, 9, 0] rfl ?_
      exact sC2y C hl hcs hss a0 (by omega) z1 hS.1 hy hw1 hLM z2 (fun E g1 g2 g3 g4 => kk E Q ⟨g1, by rw [g3]; exact hIN.2.1, KP_same hKN g2⟩ g4)
theorem sD (C : CtL p s m meth c D cI cG b L xs) (hl : as.length = NN) (hcs : cells ≤ 729158) (hss : slots ≤ 6914773) (hn : n < 50) (hI : LI M P kp) (hw : wh (Hp M P)) (kk : ∀ (E : Mem) (Q : PMem) (kp2 : Int64), LI E Q kp2 → wh (Hp E Q) → LW p l e s m below meth c D cI cG b as (Hp E Q) cells slots 326 [(0, .ref b), (1, .ref (adr as 0)), (2, .int (i32 1)), (3, .long kp2), (5, .int (i32 (n : Int)))] []) : LW p l e s m below meth c D cI cG b as (Hp M P) cells slots 257 [(0, .ref b), (1, .ref (adr as 0)), (2, .int (i32 1)), (3, .long kp), (5, .int (i32 (n : Int)))] [] := by
  by_cases c : n % 15 = 14
  · obtain ⟨hWM, hM5, hKP⟩ := hI
    obtain ⟨N, Q, e1, hS, hRec, hG⟩ := W_restore hWM hM5
    have e2 := v_c2 (M := N) (P := Q)
    obtain ⟨w1, hL1⟩ := LM_of hS.1
    have e3 := LM_ev (P := Q) hL1
    have ew : w1 = kp := LM_KP hKP hL1 hG
    have r1 := RW_14 hS.1
    have hk : ∃ k : Nat, k < 4 ∧ N 47 1 = ((k + 1 : Nat) : Int) := by
      obtain ⟨k0, b0, a0⟩ := RW_47 hWM
      by_cases c4 : k0 = 4
      · exact ⟨3, by omega, by rw [hRec.2.1 (by omega)]; rfl⟩
      · exact ⟨k0, by omega, (hRec.1 k0 (by omega) a0).1⟩
    obtain ⟨k, hk4, hk⟩ := hk
    obtain ⟨E, e4, g2, g3, g4, g5, g6⟩ := W_undo hS.1 hk
    obtain ⟨F, e5, f2, f3, f4, f5⟩ := W_save g2
    have e6 := v_c2 (M := F) (P := Q)
    have r2 := RW_14 g2
    have r3 := RW_14 f2
    have f14 : F 1 4 = E 1 4 := f5 1 4 (by omega) (by omega)
    obtain ⟨w2, hL2⟩ := LM_of f2
    have e7 := LM_ev (P := Q) hL2
    have hKF : KP F w2 := by
      obtain ⟨n0, sp0, t0, hl0, h1, h2, h3⟩ := hL2
      have eS : ∀ o b, cS o b = true → blk F 24 (o + 1) b = F (o + 1) b := fun o b hcs => by
        have ho := cS_sm _ _ hcs
        rw [blk_e (by omega), f4 o b hcs, f5 (o + 1) b (by omega) (by omega)]
      have h4 := CB_castS h1 eS
      have := h1.cN.2
      have := h1.tn
      exact ⟨n0, sp0, t0, hl0, h4, CT_castS h2 (by omega) eS, by rw [h3, LK_det h1 h4 eS]⟩
    refine L_iload C (k := 2) 2 dl_257 rfl ?_
    refine L_if C (tgt := 326) dl_258 (by decide) ⟨by omega, by omega⟩ (bF (cF_eq (by omega))) (fun _ => ?_)
    refine L_il C (k := 5) 4 dl_261 rfl ?_
    refine L_bp C (n := 15) dl_263 (by decide) ?_
    refine L_rem C (z := ((n % 15 : Nat) : Int)) dl_265 ⟨by decide, by decide⟩ (by decide) (by rw [rm_eq (by omega) (by omega) (by omega) (by omega)]; omega) ?_
    refine L_bp C (n := 14) dl_266 (by decide) ?_
    refine L_icmp C (tgt := 326) dl_268 (by decide) ⟨by omega, by omega⟩ ⟨by omega, by omega⟩ (bF (cF_ne (by omega))) (fun _ => ?_)
    refine L_aload C (k := 1) 1 dl_271 rfl ?_
    refine L_ev (i := 0) (ci := 7) (av' := []) (st := []) (v := I (N 1 4)) C e1 dl_272 lk_110 rfl rfl rfl rfl rfl kd_0 hw (wl_cons.mpr ⟨show 0 < NN by decide, wl_nil⟩) hl (Nat.le_of_ble_eq_true rfl) hcs hss (fun hw1 _ => ?_)
    refine L_is C (k := 12) (lv' := [(12, .int (i32 (N 1 4))), (0, .ref b), (1, .ref (adr as 0)), (2, .int (i32 1)), (3, .long kp), (5, .int (i32 (n : Int)))]) dl_275 (by decide) rfl ?_
    refine L_il C (k := 12) 0 dl_277 rfl ?_
    refine L_aload C (k := 1) 2 dl_279 rfl ?_
    refine L_ic C (n := 2) dl_280 ?_
    refine L_ev (i := 0) (ci := 7) (av' := [I 2]) (st := [.int (i32 (N 1 4))]) (v := I (N 1 4)) C e2 dl_281 lk_13 rfl rfl rfl rfl rfl kd_0 hw1 (wl_cons.mpr ⟨show 0 < NN by decide, wl_cons.mpr ⟨(show inr _ from ⟨by omega, by omega⟩), wl_nil⟩⟩) hl (Nat.le_of_ble_eq_true rfl) hcs hss (fun hw2 _ => ?_)
    refine L_icmp C (tgt := 319) dl_284 (by decide) ⟨by omega, by omega⟩ ⟨by omega, by omega⟩ (bF (cF_ne (by omega))) (fun _ => ?_)
    refine L_aload C (k := 1) 2 dl_287 rfl ?_
    refine L_evS (av := [Rf 0]) (st := []) (v := Lg w1) C e3 dl_288 lk_56 rfl rfl rfl hw2 (wl_cons.mpr ⟨show 0 < NN by decide, wl_nil⟩) hl (Nat.le_of_ble_eq_true rfl) hcs hss (fun hw3 _ => ?_)
    refine L_lln C (k := 3) 4 dl_291 rfl ?_
    refine L_cmp C dl_292 ew ?_
    refine L_if C (tgt := 319) dl_293 (by decide) ⟨by omega, by omega⟩ (bF (cF_ne (by omega))) (fun _ => ?_)
    refine L_aload C (k := 1) 2 dl_296 rfl ?_
    refine L_ev (i := 0) (ci := 7) (av' := []) (st := []) (v := I ((k : Nat) : Int)) C e4 dl_297 lk_107 rfl rfl rfl rfl rfl kd_0 hw3 (wl_cons.mpr ⟨show 0 < NN by decide, wl_nil⟩) hl (Nat.le_of_ble_eq_true rfl) hcs hss (fun hw4 _ => ?_)
    refine L_if C (tgt := 319) dl_300 (by decide) ⟨by omega, by omega⟩ (bF (cF_lt (by omega))) (fun _ => ?_)
    refine L_aload C (k := 1) 2 dl_303 rfl ?_
    refine L_ev (i := 0) (ci := 7) (av' := []) (st := []) (v := I (E 1 4)) C e5 dl_304 lk_113 rfl rfl rfl rfl rfl kd_0 hw4 (wl_cons.mpr ⟨show 0 < NN by decide, wl_nil⟩) hl (Nat.le_of_ble_eq_true rfl) hcs hss (fun hw5 _ => ?_)
    refine L_aload C (k := 1) 2 dl_307 rfl ?_
    refine L_ic C (n := 2) dl_308 ?_
    refine L_ev (i := 0) (ci := 7) (av' := [I 2]) (st := [.int (i32 (E 1 4))]) (v := I (F 1 4)) C e6 dl_309 lk_13 rfl rfl rfl rfl rfl kd_0 hw5 (wl_cons.mpr ⟨show 0 < NN by decide, wl_cons.mpr ⟨(show inr _ from ⟨by omega, by omega⟩), wl_nil⟩⟩) hl (Nat.le_of_ble_eq_true rfl) hcs hss (fun hw6 _ => ?_)
    refine L_icmp C (tgt := 319) dl_312 (by decide) ⟨by omega, by omega⟩ ⟨by omega, by omega⟩ (bF (cF_ne (by omega))) (fun _ => ?_)
    refine L_ic C (n := 1) dl_315 ?_
    refine L_goto C (tgt := 320) dl_316 (by decide) ?_
    refine L_isn C (k := 2) (lv' := [(2, .int (i32 1)), (12, .int (i32 (N 1 4))), (0, .ref b), (1, .ref (adr as 0)), (3, .long kp), (5, .int (i32 (n : Int)))]) dl_320 rfl ?_
    refine L_aload C (k := 1) 3 dl_321 rfl ?_
    refine L_evS (av := [Rf 0]) (st := []) (v := Lg w2) C e7 dl_322 lk_56 rfl rfl rfl hw6 (wl_cons.mpr ⟨show 0 < NN by decide, wl_nil⟩) hl (Nat.le_of_ble_eq_true rfl) hcs hss (fun hw7 _ => ?_)
    refine L_lsn C (k := 3) (lv' := [(3, .long w2), (2, .int (i32 1)), (12, .int (i32 (N 1 4))), (0, .ref b), (1, .ref (adr as 0)), (5, .int (i32 (n : Int)))]) dl_325 rfl ?_
    refine L_sub (lv' := [(0, .ref b), (1, .ref (adr as 0)), (2, .int (i32 1)), (3, .long w2), (5, .int (i32 (n : Int)))]) [3, 4, 1, 0, 5] rfl ?_
    exact kk F Q w2 ⟨f2, f3, hKF⟩ hw7
  · skip
    refine L_iload C (k := 2) 2 dl_257 rfl ?_
    refine L_if C (tgt := 326) dl_258 (by decide) ⟨by omega, by omega⟩ (bF (cF_eq (by omega))) (fun _ => ?_)
    refine L_il C (k := 5) 4 dl_261 rfl ?_
    refine L_bp C (n := 15) dl_263 (by decide) ?_
    refine L_rem C (z := ((n % 15 : Nat) : Int)) dl_265 ⟨by decide, by decide⟩ (by decide) (by rw [rm_eq (by omega) (by omega) (by omega) (by omega)]; omega) ?_
    refine L_bp C (n := 14) dl_266 (by decide) ?_
    refine L_icmp C (tgt := 326) dl_268 (by decide) ⟨by omega, by omega⟩ ⟨by omega, by omega⟩ (fun _ => ?_) (bT (cT_ne (by omega)))
    refine L_sub (lv' := [(0, .ref b), (1, .ref (adr as 0)), (2, .int (i32 1)), (3, .long kp), (5, .int (i32 (n : Int)))]) [0, 1, 2, 3, 4] rfl ?_
    exact kk M P kp hI hw
theorem sE (C : CtL p s m meth c D cI cG b L xs) (hl : as.length = NN) (hcs : cells ≤ 729158) (hss : slots ≤ 6914773) (hn : n < 50) (hI : LI M P kp) (hw : wh (Hp M P)) (kk : ∀ E : Mem, LI E P kp → wh (Hp E P) → LW p l e s m below meth c D cI cG b as (Hp E P) cells slots 375 [(0, .ref b), (1, .ref (adr as 0)), (2, .int (i32 1)), (3, .long kp), (5, .int (i32 (n : Int)))] []) : LW p l e s m below meth c D cI cG b as (Hp M P) cells slots 326 [(0, .ref b), (1, .ref (adr as 0)), (2, .int (i32 1)), (3, .long kp), (5, .int (i32 (n : Int)))] [] := by
  by_cases c : n % 11 = 10
  · obtain ⟨hWM, hM5, hKP⟩ := hI
    obtain ⟨k0, b0, a0⟩ := RW_47 hWM
    have e1 := v_c15 (M := M) (P := P)
    cases k0 with
    | zero =>
      have e2 := W_undo0 (M := M) (P := P) a0
      refine L_iload C (k := 2) 2 dl_326 rfl ?_
      refine L_if C (tgt := 375) dl_327 (by decide) ⟨by omega, by omega⟩ (bF (cF_eq (by omega))) (fun _ => ?_)
      refine L_il C (k := 5) 4 dl_330 rfl ?_
      refine L_bp C (n := 11) dl_332 (by decide) ?_
      refine L_rem C (z := ((n % 11 : Nat) : Int)) dl_334 ⟨by decide, by decide⟩ (by decide) (by rw [rm_eq (by omega) (by omega) (by omega) (by omega)]; omega) ?_
      refine L_bp C (n := 10) dl_335 (by decide) ?_
      refine L_icmp C (tgt := 375) dl_337 (by decide) ⟨by omega, by omega⟩ ⟨by omega, by omega⟩ (bF (cF_ne (by omega))) (fun _ => ?_)
      refine L_aload C (k := 1) 1 dl_340 rfl ?_
      refine L_bp C (n := 15) dl_341 (by decide) ?_
      refine L_ev (i := 0) (ci := 7) (av' := [I 15]) (st := []) (v := I (M 47 1)) C e1 dl_343 lk_13 rfl rfl rfl rfl rfl kd_0 hw (wl_cons.mpr ⟨show 0 < NN by decide, wl_cons.mpr ⟨(show inr _ from ⟨by omega, by omega⟩), wl_nil⟩⟩) hl (Nat.le_of_ble_eq_true rfl) hcs hss (fun hw1 _ => ?_)
      refine L_is C (k := 12) (lv' := [(12, .int (i32 (M 47 1))), (0, .ref b), (1, .ref (adr as 0)), (2, .int (i32 1)), (3, .long kp), (5, .int (i32 (n : Int)))]) dl_346 (by decide) rfl ?_
      refine L_aload C (k := 1) 2 dl_348 rfl ?_
      refine L_ev (i := 0) (ci := 7) (av' := []) (st := []) (v := I (-2)) C e2 dl_349 lk_107 rfl rfl rfl rfl rfl kd_0 hw1 (wl_cons.mpr ⟨show 0 < NN by decide, wl_nil⟩) hl (Nat.le_of_ble_eq_true rfl) hcs hss (fun hw2 _ => ?_)
      refine L_il C (k := 12) 0 dl_352 rfl ?_
      refine L_if C (tgt := 362) dl_354 (by decide) ⟨by omega, by omega⟩ (bF (cF_ne (by omega))) (fun _ => ?_)
      refine L_bp C (n := (-2)) dl_357 (by decide) ?_
      refine L_goto C (tgt := 366) dl_359 (by decide) ?_
      refine L_icmp C (tgt := 373) dl_366 (by decide) ⟨by omega, by omega⟩ ⟨by omega, by omega⟩ (bF (cF_ne (by omega))) (fun _ => ?_)
      refine L_ic C (n := 1) dl_369 ?_
      refine L_goto C (tgt := 374) dl_370 (by decide) ?_
      refine L_isn C (k := 2) (lv' := [(2, .int (i32 1)), (12, .int (i32 (M 47 1))), (0, .ref b), (1, .ref (adr as 0)), (3, .long kp), (5, .int (i32 (n : Int)))]) dl_374 rfl ?_
      refine L_sub (lv' := [(0, .ref b), (1, .ref (adr as 0)), (2, .int (i32 1)), (3, .long kp), (5, .int (i32 (n : Int)))]) [2, 3, 0, 4, 5] rfl ?_
      exact kk M ⟨hWM, hM5, hKP⟩ hw2
    | succ k =>
      obtain ⟨E, e2, g2, g3, g4, g5, g6⟩ := W_undo hWM a0
      refine L_iload C (k := 2) 2 dl_326 rfl ?_
      refine L_if C (tgt := 375) dl_327 (by decide) ⟨by omega, by omega⟩ (bF (cF_eq (by omega))) (fun _ => ?_)
      refine L_il C (k := 5) 4 dl_330 rfl ?_
      refine L_bp C (n := 11) dl_332 (by decide) ?_
      refine L_rem C (z := ((n % 11 : Nat) : Int)) dl_334 ⟨by decide, by decide⟩ (by decide) (by rw [rm_eq (by omega) (by omega) (by omega) (by omega)]; omega) ?_
      refine L_bp C (n := 10) dl_335 (by decide) ?_
      refine L_icmp C (tgt := 375) dl_337 (by decide) ⟨by omega, by omega⟩ ⟨by omega, by omega⟩ (bF (cF_ne (by omega))) (fun _ => ?_)
      refine L_aload C (k := 1) 1 dl_340 rfl ?_
      refine L_bp C (n := 15) dl_341 (by decide) ?_
      refine L_ev (i := 0) (ci := 7) (av' := [I 15]) (st := []) (v := I (M 47 1)) C e1 dl_343 lk_13 rfl rfl rfl rfl rfl kd_0 hw (wl_cons.mpr ⟨show 0 < NN by decide, wl_cons.mpr ⟨(show inr _ from ⟨by omega, by omega⟩), wl_nil⟩⟩) hl (Nat.le_of_ble_eq_true rfl) hcs hss (fun hw1 _ => ?_)
      refine L_is C (k := 12) (lv' := [(12, .int (i32 (M 47 1))), (0, .ref b), (1, .ref (adr as 0)), (2, .int (i32 1)), (3, .long kp), (5, .int (i32 (n : Int)))]) dl_346 (by decide) rfl ?_
      refine L_aload C (k := 1) 2 dl_348 rfl ?_
      refine L_ev (i := 0) (ci := 7) (av' := []) (st := []) (v := I ((k : Nat) : Int)) C e2 dl_349 lk_107 rfl rfl rfl rfl rfl kd_0 hw1 (wl_cons.mpr ⟨show 0 < NN by decide, wl_nil⟩) hl (Nat.le_of_ble_eq_true rfl) hcs hss (fun hw2 _ => ?_)
      refine L_il C (k := 12) 0 dl_352 rfl ?_
      refine L_if C (tgt := 362) dl_354 (by decide) ⟨by omega, by omega⟩ (fun _ => ?_) (bT (cT_ne (by omega)))
      refine L_il C (k := 12) 0 dl_362 rfl ?_
      refine L_ic C (n := 1) dl_364 ?_
      refine L_isub C (z := M 47 1 - 1) dl_365 (sb_eq (by omega) (by omega)) ?_
      refine L_icmp C (tgt := 373) dl_366 (by decide) ⟨by omega, by omega⟩ ⟨by omega, by omega⟩ (bF (cF_ne (by omega))) (fun _ => ?_)
      refine L_ic C (n := 1) dl_369 ?_
      refine L_goto C (tgt := 374) dl_370 (by decide) ?_
      refine L_isn C (k := 2) (lv' := [(2, .int (i32 1)), (12, .int (i32 (M 47 1))), (0, .ref b), (1, .ref (adr as 0)), (3, .long kp), (5, .int (i32 (n : Int)))]) dl_374 rfl ?_
      refine L_sub (lv' := [(0, .ref b), (1, .ref (adr as 0)), (2, .int (i32 1)), (3, .long kp), (5, .int (i32 (n : Int)))]) [2, 3, 0, 4, 5] rfl ?_
      exact kk E ⟨g2, by rw [g6]; exact hM5, KP_same hKP g5⟩ hw2
  · skip
    refine L_iload C (k := 2) 2 dl_326 rfl ?_
    refine L_if C (tgt := 375) dl_327 (by decide) ⟨by omega, by omega⟩ (bF (cF_eq (by omega))) (fun _ => ?_)
    refine L_il C (k := 5) 4 dl_330 rfl ?_
    refine L_bp C (n := 11) dl_332 (by decide) ?_
    refine L_rem C (z := ((n % 11 : Nat) : Int)) dl_334 ⟨by decide, by decide⟩ (by decide) (by rw [rm_eq (by omega) (by omega) (by omega) (by omega)]; omega) ?_
    refine L_bp C (n := 10) dl_335 (by decide) ?_
    refine L_icmp C (tgt := 375) dl_337 (by decide) ⟨by omega, by omega⟩ ⟨by omega, by omega⟩ (fun _ => ?_) (bT (cT_ne (by omega)))
    refine L_sub (lv' := [(0, .ref b), (1, .ref (adr as 0)), (2, .int (i32 1)), (3, .long kp), (5, .int (i32 (n : Int)))]) [0, 1, 2, 3, 4] rfl ?_
    exact kk M hI hw
theorem sG (C : CtL p s m meth c D cI cG b L xs) (hl : as.length = NN) (hcs : cells ≤ 729158) (hss : slots ≤ 6914773) (hn : n = 50) (hI : LI M P kp) (hw : wh (Hp M P)) : LW p l e s m below meth c D cI cG b as (Hp M P) cells slots 62 [(0, .ref b), (1, .ref (adr as 0)), (2, .int (i32 1)), (3, .long kp), (5, .int (i32 (n : Int)))] [] := by
  obtain ⟨n0, sp0, t0, hl0, hB, hT⟩ := hI.1.1
  have e1 := holds_ev (P := P) hB hT
  refine L_il C (k := 5) 4 dl_62 rfl ?_
  refine L_bp C (n := 50) dl_64 (by decide) ?_
  refine L_icmp C (tgt := 381) dl_66 (by decide) ⟨by omega, by omega⟩ ⟨by omega, by omega⟩ (fun _ => ?_) (bT (cT_ge (by omega)))
  refine L_iload C (k := 2) 2 dl_381 rfl ?_
  refine L_if C (tgt := 396) dl_382 (by decide) ⟨by omega, by omega⟩ (bF (cF_eq (by omega))) (fun _ => ?_)
  refine L_aload C (k := 1) 1 dl_385 rfl ?_
  refine L_evS (av := [Rf 0]) (st := []) (v := I 1) C e1 dl_386 lk_100 rfl rfl rfl hw (wl_cons.mpr ⟨show 0 < NN by decide, wl_nil⟩) hl (Nat.le_of_ble_eq_true rfl) hcs hss (fun hw1 _ => ?_)
  refine L_if C (tgt := 396) dl_389 (by decide) ⟨by omega, by omega⟩ (bF (cF_eq (by omega))) (fun _ => ?_)
  refine L_ic C (n := 1) dl_392 ?_
  refine L_goto C (tgt := 397) dl_393 (by decide) ?_
  intro H locs ls hP hD hS hv
  obtain ⟨hx, hb, hml, hown, hts, hK, hAO, hN, hX, hbl, hlk, hrt⟩ := C
  refine va_forget (fun q hq => hS.2.2 q hq) ?_
  refine W.widen (k := 729158) (n := 6914773) hcs hss ?_
  exact lw_ret hx hb hrt hlk dl_397
theorem inc_e {n : Nat} (h : n < 1000) : i32 (n : Int) + Int32.ofInt 1 = i32 ((n + 1 : Nat) : Int) := by
  have e : i32 (ad (n : Int) 1) = i32 (n : Int) + i32 1 := i32_w2 _ _ _
  rw [ad_n n (by omega)] at e
  exact e.symm
theorem sF (C : CtL p s m meth c D cI cG b L xs) (hl : as.length = NN) (hcs : cells ≤ 729158) (hss : slots ≤ 6914773) (hn : n < 50) {h : AH} (kk : LW p l e s m below meth c D cI cG b as h cells slots 62 [(0, .ref b), (1, .ref (adr as 0)), (2, .int (i32 1)), (3, .long kp), (5, .int (i32 ((n + 1 : Nat) : Int)))] []) : LW p l e s m below meth c D cI cG b as h cells slots 375 [(0, .ref b), (1, .ref (adr as 0)), (2, .int (i32 1)), (3, .long kp), (5, .int (i32 (n : Int)))] [] := by
  refine L_iinc C (j := 4) (lv' := [(5, .int (i32 (((n + 1 : Nat) : Int)))), (0, .ref b), (1, .ref (adr as 0)), (2, .int (i32 1)), (3, .long kp)]) dl_375 rfl (inc_e (n := n) (by omega)) (by decide) rfl ?_
  refine L_goto C (tgt := 62) dl_378 (by decide) ?_
  refine L_sub (lv' := [(0, .ref b), (1, .ref (adr as 0)), (2, .int (i32 1)), (3, .long kp), (5, .int (i32 (((n + 1 : Nat) : Int))))]) [1, 2, 3, 4, 0] rfl ?_
  exact kk
theorem law_loop (C : CtL p s m meth c D cI cG b L xs) (hl : as.length = NN) (hcs : cells ≤ 729158) (hss : slots ≤ 6914773) (hL : L ≤ 260) : ∀ (j n : Nat) (M : Mem) (P : PMem) (kp : Int64), n + j = 50 → LI M P kp → wh (Hp M P) → LW p l e s m below meth c D cI cG b as (Hp M P) cells slots 62 [(0, .ref b), (1, .ref (adr as 0)), (2, .int (i32 1)), (3, .long kp), (5, .int (i32 (n : Int)))] [] := by
  intro j
  induction j with
  | zero =>
    intro n M P kp hj hI hw
    exact sG C hl hcs hss (by omega) hI hw
  | succ j ih =>
    intro n M P kp hj hI hw
    refine sA C hl hcs hss hL (by omega) (fun x y hx hy => ?_)
    refine sB1 C hl hcs hss (by omega) hx hy hI.1 hw (fun w N Q hLM hS hw1 => ?_)
    refine sB2 C hl hcs hss (by omega) hy hS.1 hw1 (fun E hE hw2 => ?_)
    have hS2 := Step_scr hS hE (RW_PO hS.1)
    refine sC1 C hl hcs hss hI hS2 hy hw2 hLM (fun E2 Q2 hI2 hw3 => ?_)
    refine sD C hl hcs hss (by omega) hI2 hw3 (fun E3 Q3 kp3 hI3 hw4 => ?_)
    refine sE C hl hcs hss (by omega) hI3 hw4 (fun E4 hI4 hw5 => ?_)
    refine sF C hl hcs hss (by omega) ?_
    exact ih (n + 1) E4 Q3 kp3 (by omega) hI4 hw5
theorem start2 (C : CtL p s m meth c D cI cG b L xs) (hl : as.length = NN) (hcs : cells ≤ 729158) (hss : slots ≤ 6914773) (hL : L ≤ 260) (hw : wh (Hp M0 P0)) : LW p l e s m below meth c D cI cG b as (Hp M0 P0) cells slots 8 [(1, .ref (adr as 0)), (0, .ref b)] [] := by
  obtain ⟨hB, hT⟩ := start_CB
  have e1 := holds_ev (P := P0) hB hT
  obtain ⟨N, e2, hN⟩ := would_ev (P := P0) hB hT 0
  have hWN := RW_scr RW_start hN
  have e3 := W_undo0 (M := N) (P := P0) (by rw [hN 47 1 (by omega) (by omega)]; exact M0_47)
  have e4 := W_restoreN (M := N) (P := P0) (by rw [hN 0 5 (by omega) (by omega)]; exact M0_05)
  obtain ⟨F, e5, f2, f3, f4, f5⟩ := W_save hWN
  have n14 : N 1 4 = 0 := by
    rw [hN 1 4 (by omega) (by omega), M0_c (by omega)]
    exact (de_1 (C := Z0)).2.1
  obtain ⟨kp, hLF⟩ := LM_of f2
  have e6 := LM_ev (P := P0) hLF
  have hKF : KP F kp := by
    obtain ⟨n0, sp0, t0, hl0, h1, h2, h3⟩ := hLF
    have eS : ∀ o b, cS o b = true → blk F 24 (o + 1) b = F (o + 1) b := fun o b hcs => by
      have ho := cS_sm _ _ hcs
      rw [blk_e (by omega), f4 o b hcs, f5 (o + 1) b (by omega) (by omega)]
    have h4 := CB_castS h1 eS
    have := h1.cN.2
    have := h1.tn
    exact ⟨n0, sp0, t0, hl0, h4, CT_castS h2 (by omega) eS, by rw [h3, LK_det h1 h4 eS]⟩
  refine L_aload C (k := 1) 0 dl_8 rfl ?_
  refine L_evS (av := [Rf 0]) (st := []) (v := I 1) C e1 dl_9 lk_100 rfl rfl rfl hw (wl_cons.mpr ⟨show 0 < NN by decide, wl_nil⟩) hl (Nat.le_of_ble_eq_true rfl) hcs hss (fun hw1 _ => ?_)
  refine L_if C (tgt := 52) dl_12 (by decide) ⟨by omega, by omega⟩ (bF (cF_eq (by omega))) (fun _ => ?_)
  refine L_aload C (k := 1) 0 dl_15 rfl ?_
  refine L_ic C (n := 0) dl_16 ?_
  refine L_evS (av := [Rf 0, I 0]) (st := []) (v := I 1) C e2 dl_17 lk_104 rfl rfl rfl hw1 (wl_cons.mpr ⟨show 0 < NN by decide, wl_cons.mpr ⟨(show inr _ from ⟨by omega, by omega⟩), wl_nil⟩⟩) hl (Nat.le_of_ble_eq_true rfl) hcs hss (fun hw2 _ => ?_)
  refine L_if C (tgt := 52) dl_20 (by decide) ⟨by omega, by omega⟩ (bF (cF_eq (by omega))) (fun _ => ?_)
  refine L_aload C (k := 1) 0 dl_23 rfl ?_
  refine L_ev (i := 0) (ci := 7) (av' := []) (st := []) (v := I (-2)) C e3 dl_24 lk_107 rfl rfl rfl rfl rfl kd_0 hw2 (wl_cons.mpr ⟨show 0 < NN by decide, wl_nil⟩) hl (Nat.le_of_ble_eq_true rfl) hcs hss (fun hw3 _ => ?_)
  refine L_bp C (n := (-2)) dl_27 (by decide) ?_
  refine L_icmp C (tgt := 52) dl_29 (by decide) ⟨by omega, by omega⟩ ⟨by omega, by omega⟩ (bF (cF_ne (by omega))) (fun _ => ?_)
  refine L_aload C (k := 1) 0 dl_32 rfl ?_
  refine L_ev (i := 0) (ci := 7) (av' := []) (st := []) (v := I (-2)) C e4 dl_33 lk_110 rfl rfl rfl rfl rfl kd_0 hw3 (wl_cons.mpr ⟨show 0 < NN by decide, wl_nil⟩) hl (Nat.le_of_ble_eq_true rfl) hcs hss (fun hw4 _ => ?_)
  refine L_bp C (n := (-2)) dl_36 (by decide) ?_
  refine L_icmp C (tgt := 52) dl_38 (by decide) ⟨by omega, by omega⟩ ⟨by omega, by omega⟩ (bF (cF_ne (by omega))) (fun _ => ?_)
  refine L_aload C (k := 1) 0 dl_41 rfl ?_
  refine L_ev (i := 0) (ci := 7) (av' := []) (st := []) (v := I (N 1 4)) C e5 dl_42 lk_113 rfl rfl rfl rfl rfl kd_0 hw4 (wl_cons.mpr ⟨show 0 < NN by decide, wl_nil⟩) hl (Nat.le_of_ble_eq_true rfl) hcs hss (fun hw5 _ => ?_)
  refine L_if C (tgt := 52) dl_45 (by decide) ⟨by omega, by omega⟩ (bF (cF_ne (by omega))) (fun _ => ?_)
  refine L_ic C (n := 1) dl_48 ?_
  refine L_goto C (tgt := 53) dl_49 (by decide) ?_
  refine L_isn C (k := 2) (lv' := [(2, .int (i32 1)), (1, .ref (adr as 0)), (0, .ref b)]) dl_53 rfl ?_
  refine L_aload C (k := 1) 1 dl_54 rfl ?_
  refine L_evS (av := [Rf 0]) (st := []) (v := Lg kp) C e6 dl_55 lk_56 rfl rfl rfl hw5 (wl_cons.mpr ⟨show 0 < NN by decide, wl_nil⟩) hl (Nat.le_of_ble_eq_true rfl) hcs hss (fun hw6 _ => ?_)
  refine L_lsn C (k := 3) (lv' := [(3, .long kp), (2, .int (i32 1)), (1, .ref (adr as 0)), (0, .ref b)]) dl_58 rfl ?_
  refine L_ic C (n := 0) dl_59 ?_
  refine L_is C (k := 5) (lv' := [(5, .int (i32 0)), (3, .long kp), (2, .int (i32 1)), (1, .ref (adr as 0)), (0, .ref b)]) dl_60 (by decide) rfl ?_
  refine L_sub (lv' := [(0, .ref b), (1, .ref (adr as 0)), (2, .int (i32 1)), (3, .long kp), (5, .int (i32 ((0 : Nat) : Int)))]) [4, 3, 2, 1, 0] rfl ?_
  exact law_loop C hl hcs hss hL 50 0 F P0 kp (by omega) ⟨f2, f3, hKF⟩ hw6
set_option maxRecDepth 100000 in
theorem sl149 : slN (Hp M0 P0) ≤ 5000 := by decide +kernel
theorem nC_7 : nC 7 = 8 := by decide
theorem wh_1 {o : Nat} : wh [(o, dflO o)] := by
  intro x hx
  rw [List.mem_singleton.mp hx]
  exact dflO_wl _ _
theorem pre_get {as as' : List Nat} {i : Nat} (h : as <+: as') (hi : i < as.length) : adr as' i = adr as i := by
  obtain ⟨t, rfl⟩ := h
  exact adr_app hi
end Whole
section Stages
variable {p : Program} {l : Launch} {e : Env} {s : State} {m : MethodId} {below : List Frame} {meth : Method} {c : Code} {D : va_G} {cI cG : ClassId} {b L : Nat} {xs : Nat → Int32} {as : List Nat} {h : AH} {cells slots pc : Nat} {lv : List (Nat × Value)} {st : List Value}
theorem L_callJ (C : CtL p s m meth c D cI cG b L xs) {idx k' n i a : Nat} {h' : AH} (ha : adr as i = a) (hr : arun n k' 0 (loc0 k' [Rf i]) [] h = some (none, h')) (hd : decode code pc = .ok (.invokespecial idx, 3)) (hlink : Cond.methodLink R_law idx (yM k') ∈ lwG) (hok : lkV k' = true) (hini : isI k' = true) (hn : 1 = nar k') (hw : wh h) (hav : i < h.length) (hl : as.length = h.length) (hrest : (st.map fun v => v.category).sum ≤ 8) (hcs : cells + (h'.length - h.length) ≤ 729158) (hss : slots + (slN h' - slN h) ≤ 6914773)
    (kk : ∀ as' : List Nat, as <+: as' → as'.length = h'.length → wh h' → LW p l e s m below meth c D cI cG b as' h' (cells + (h'.length - h.length)) (slots + (slN h' - slN h)) (pc + 3) lv st) :
    LW p l e s m below meth c D cI cG b as h cells slots pc lv (.ref a :: st) := by
  subst ha
  exact L_callI (av' := []) C hr hd hlink hok hini (by rw [← hn]; rfl) rfl hw (wl_cons.mpr ⟨hav, wl_nil⟩) hl hrest hcs hss kk
end Stages
/-- THE LAW, from its entry -/
theorem whole_start {p : Program} {e : Env} {s : State} {m : MethodId} {below : List Frame} {meth : Method} {c : Code} (l : Launch) (hflags : l.flags = flags0) {b L : Nat} {xs : Nat → Int32} (hL : L ≤ 260) (C0 : lw_At p s m meth c b L xs) : W p l e room_1 s m #[Value.ref b] below meth c s.heap [] 0 0 (lw_Z below #[Value.ref b] s) (entryFrame m ([Value.ref b] : List Value).toArray 13) := by
  obtain ⟨hx, hb, hr, hml, hown, hts, hX, hbl, hlocks, hgv⟩ := id C0
  have hG : ∀ w ∈ lwG, w.before #[Value.ref b] s = true := fun w hw => hts w (List.mem_filter.mp hw).1
  obtain ⟨cI, kA1, comp1, f1, f2, f3⟩ := Cond.arrayClass_spec (hts _ w_arr)
  have hao : (Cond.arrayOver (.object RX1)).before #[Value.ref b] s = true := hts _ (List.mem_of_getElem? (i := 160) (by decide +kernel))
  obtain ⟨comp2, cG, kA2, g1, g2, g3, g4, g5⟩ := Cond.arrayOver_spec hao
  have hu : ∀ k : Nat, ∃ cC : ClassId, ∃ iS : Nat → Nat, ∀ q : vw_C, vwCl[k]? = some q → u_Kn s q.1 q.2.1 q.2.2 cC iS := by
    intro k
    cases hq : vwCl[k]? with
    | none => exact ⟨cI, fun _ => 0, fun q h => by cases h⟩
    | some q =>
      obtain ⟨Cn, T, N⟩ := q
      obtain ⟨o1, o2, o3⟩ := okC_spec hq
      obtain ⟨cC, iS, hh⟩ := u_known hG o1 (hG _ o2)
      exact ⟨cC, iS, fun q h => by cases h; exact hh⟩
  obtain ⟨dC, h1⟩ := Classical.axiomOfChoice hu
  obtain ⟨dI, h2⟩ := Classical.axiomOfChoice h1
  have hK : va_K (dC, dI) vwCl (tyG cI cG) s := by
    refine ⟨fun k q h => h2 k q h, fun k q h => ?_⟩
    match k, h with
    | 0, h => cases h; exact ⟨fun n z => ⟨(fun k h => by cases h), kA1, f2, comp1, f3⟩, f1⟩
    | 1, h => cases h; exact ⟨fun n z => ⟨(fun k h => by cases h), kA2, g3, comp2, g4⟩, kA2, comp2, g3, g4, g1, g5⟩
    | k + 2, h => simp at h
  have hN : nestOk s := by
    intro w hw
    have h3 := (List.mem_filter.mp hw).2
    have h4 := hts w (List.mem_filter.mp hw).1
    unfold isN at h3
    split at h3
    · exact va_Nw.of rfl h4
    · exact va_Nw.of rfl h4
    · cases h3
  have C : CtL p s m meth c (dC, dI) cI cG b L xs := ⟨hx, hb, hml, hown, hG, hK, va_AO.of hao, hN, hX, hbl, hlocks, hr⟩
  have hS : va_S (aL s) s.heap s.heap [] := va_S.rf
  have hP : va_P (dC, dI) vwCl (wsO cI cG [] []) s.heap := fun k q h => by simp [wsO] at h
  have hD : va_D (aL s) (wsO cI cG [] []) := ⟨fun i j p q h => by simp [wsO] at h, fun k q h => by simp [wsO] at h⟩
  have hl := lv_entry ([.ref b]) (n := 13) (Nat.le_of_ble_eq_true rfl)
  rw [lg_entry_eq]
  generalize (lg_sl ([.ref b]) ++ List.replicate (13 - (lg_sl ([.ref b])).length) Slot.unset).toArray = ls at hl ⊢
  have hl : lv_has ls 13 [(0, .ref b)] := hl
  have key : LW p l e s m below meth c (dC, dI) cI cG b [] [] 0 0 0 [(0, .ref b)] [] := by
    refine L_new (a := 7) (idx := 14) C rfl rfl (fun o ho => by cases ho) dl_0 (lwG_in (List.mem_of_getElem? (i := 23) (by decide +kernel)) rfl) (by omega) (by rw [nC_7]; omega) (fun q0 => ?_)
    refine L_dup C dl_3 ?_
    refine L_callJ (i := 0) (a := q0) C rfl run86 dl_4 lk_99 rfl rfl rfl wh_1 (show 0 < 1 by omega) rfl (Nat.le_of_ble_eq_true rfl) (by rw [Hp_len]; decide) (by have := sl149; rw [nC_7]; omega) (fun as1 a1 a2 a3 => ?_)
    rw [Hp_len] at a2
    have y1 : adr as1 0 = q0 := by rw [pre_get a1 (show 0 < 1 by omega)]; rfl
    refine L_astore (k := 1) (lv' := [(1, .ref q0), (0, .ref b)]) C dl_7 rfl ?_
    rw [← y1]
    exact start2 C a2 (by rw [Hp_len]; decide) (by have := sl149; rw [nC_7]; omega) hL a3
  exact key s.heap [] ls hP hD hS hl
