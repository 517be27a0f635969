section Cases
variable {p : Program} {l : Launch} {e : Env} {s : State} {m : MethodId} {below : List Frame} {meth : Method} {c : Code} {D : va_G} {cI cG : ClassId} {b L : Nat} {xs : Nat → Int32} {as : List Nat} {cells slots i : Nat} {M : Mem} {P : PMem}
/-- the law's locals -/
def lvF (as : List Nat) (b i : Nat) : List (Nat × Value) := [(0, .ref b), (1, .ref (adr as 0)), (2, .ref (adr as 149)), (3, .int (nI i))]
theorem lk_9 : Cond.methodLink R_law 9 (yM 86) ∈ lwG := lwG_in (List.mem_of_getElem? (i := 63) (by decide +kernel)) rfl
theorem lk_12 : Cond.methodLink R_law 12 (yM 109) ∈ lwG := lwG_in (List.mem_of_getElem? (i := 705) (by decide +kernel)) rfl
theorem lk_13 : Cond.methodLink R_law 13 (yM 87) ∈ lwG := lwG_in (List.mem_of_getElem? (i := 296) (by decide +kernel)) rfl
theorem lk_17 : Cond.methodLink R_law 17 (yM 146) ∈ lwG := lwG_in (List.mem_of_getElem? (i := 780) (by decide +kernel)) rfl
theorem lk_18 : Cond.methodLink R_law 18 (yM 88) ∈ lwG := lwG_in (List.mem_of_getElem? (i := 369) (by decide +kernel)) rfl
theorem lk_22 : Cond.methodLink R_law 22 (yM 147) ∈ lwG := lwG_in (List.mem_of_getElem? (i := 794) (by decide +kernel)) rfl
theorem lk_23 : Cond.methodLink R_law 23 (yM 89) ∈ lwG := lwG_in (List.mem_of_getElem? (i := 418) (by decide +kernel)) rfl
theorem lk_27 : Cond.methodLink R_law 27 (yM 148) ∈ lwG := lwG_in (List.mem_of_getElem? (i := 830) (by decide +kernel)) rfl
theorem lk_28 : Cond.methodLink R_law 28 (yM 90) ∈ lwG := lwG_in (List.mem_of_getElem? (i := 514) (by decide +kernel)) rfl
theorem lk_32 : Cond.methodLink R_law 32 (yM 149) ∈ lwG := lwG_in (List.mem_of_getElem? (i := 891) (by decide +kernel)) rfl
theorem lk_33 : Cond.methodLink R_law 33 (yM 91) ∈ lwG := lwG_in (List.mem_of_getElem? (i := 518) (by decide +kernel)) rfl
theorem lk_36 : Cond.methodLink R_law 36 (yM 150) ∈ lwG := lwG_in (List.mem_of_getElem? (i := 899) (by decide +kernel)) rfl
theorem lk_37 : Cond.methodLink R_law 37 (yM 92) ∈ lwG := lwG_in (List.mem_of_getElem? (i := 522) (by decide +kernel)) rfl
theorem lk_40 : Cond.methodLink R_law 40 (yM 151) ∈ lwG := lwG_in (List.mem_of_getElem? (i := 907) (by decide +kernel)) rfl
theorem lk_41 : Cond.methodLink R_law 41 (yM 93) ∈ lwG := lwG_in (List.mem_of_getElem? (i := 531) (by decide +kernel)) rfl
theorem lk_44 : Cond.methodLink R_law 44 (yM 152) ∈ lwG := lwG_in (List.mem_of_getElem? (i := 911) (by decide +kernel)) rfl
theorem lk_45 : Cond.methodLink R_law 45 (yM 94) ∈ lwG := lwG_in (List.mem_of_getElem? (i := 539) (by decide +kernel)) rfl
theorem lk_48 : Cond.methodLink R_law 48 (yM 157) ∈ lwG := lwG_in (List.mem_of_getElem? (i := 915) (by decide +kernel)) rfl
theorem lk_49 : Cond.methodLink R_law 49 (yM 95) ∈ lwG := lwG_in (List.mem_of_getElem? (i := 551) (by decide +kernel)) rfl
theorem lk_52 : Cond.methodLink R_law 52 (yM 159) ∈ lwG := lwG_in (List.mem_of_getElem? (i := 935) (by decide +kernel)) rfl
theorem lk_53 : Cond.methodLink R_law 53 (yM 96) ∈ lwG := lwG_in (List.mem_of_getElem? (i := 563) (by decide +kernel)) rfl
theorem lk_56 : Cond.methodLink R_law 56 (yM 160) ∈ lwG := lwG_in (List.mem_of_getElem? (i := 943) (by decide +kernel)) rfl
theorem lk_57 : Cond.methodLink R_law 57 (yM 97) ∈ lwG := lwG_in (List.mem_of_getElem? (i := 567) (by decide +kernel)) rfl
theorem lk_60 : Cond.methodLink R_law 60 (yM 161) ∈ lwG := lwG_in (List.mem_of_getElem? (i := 947) (by decide +kernel)) rfl
theorem lk_61 : Cond.methodLink R_law 61 (yM 98) ∈ lwG := lwG_in (List.mem_of_getElem? (i := 579) (by decide +kernel)) rfl
theorem lk_65 : Cond.methodLink R_law 65 (yM 162) ∈ lwG := lwG_in (List.mem_of_getElem? (i := 955) (by decide +kernel)) rfl
theorem lk_66 : Cond.methodLink R_law 66 (yM 99) ∈ lwG := lwG_in (List.mem_of_getElem? (i := 587) (by decide +kernel)) rfl
theorem lk_69 : Cond.methodLink R_law 69 (yM 163) ∈ lwG := lwG_in (List.mem_of_getElem? (i := 959) (by decide +kernel)) rfl
theorem lk_70 : Cond.methodLink R_law 70 (yM 100) ∈ lwG := lwG_in (List.mem_of_getElem? (i := 597) (by decide +kernel)) rfl
theorem lk_73 : Cond.methodLink R_law 73 (yM 165) ∈ lwG := lwG_in (List.mem_of_getElem? (i := 963) (by decide +kernel)) rfl
theorem lk_74 : Cond.methodLink R_law 74 (yM 101) ∈ lwG := lwG_in (List.mem_of_getElem? (i := 626) (by decide +kernel)) rfl
theorem lk_77 : Cond.methodLink R_law 77 (yM 166) ∈ lwG := lwG_in (List.mem_of_getElem? (i := 983) (by decide +kernel)) rfl
theorem lk_78 : Cond.methodLink R_law 78 (yM 102) ∈ lwG := lwG_in (List.mem_of_getElem? (i := 634) (by decide +kernel)) rfl
theorem lk_82 : Cond.methodLink R_law 82 (yM 168) ∈ lwG := lwG_in (List.mem_of_getElem? (i := 987) (by decide +kernel)) rfl
theorem lk_83 : Cond.methodLink R_law 83 (yM 103) ∈ lwG := lwG_in (List.mem_of_getElem? (i := 656) (by decide +kernel)) rfl
theorem lk_86 : Cond.methodLink R_law 86 (yM 169) ∈ lwG := lwG_in (List.mem_of_getElem? (i := 994) (by decide +kernel)) rfl
theorem lk_87 : Cond.methodLink R_law 87 (yM 104) ∈ lwG := lwG_in (List.mem_of_getElem? (i := 674) (by decide +kernel)) rfl
theorem lk_90 : Cond.methodLink R_law 90 (yM 170) ∈ lwG := lwG_in (List.mem_of_getElem? (i := 998) (by decide +kernel)) rfl
theorem lk_91 : Cond.methodLink R_law 91 (yM 105) ∈ lwG := lwG_in (List.mem_of_getElem? (i := 682) (by decide +kernel)) rfl
theorem lk_95 : Cond.methodLink R_law 95 (yM 171) ∈ lwG := lwG_in (List.mem_of_getElem? (i := 1002) (by decide +kernel)) rfl
theorem lk_96 : Cond.methodLink R_law 96 (yM 106) ∈ lwG := lwG_in (List.mem_of_getElem? (i := 686) (by decide +kernel)) rfl
theorem lk_99 : Cond.methodLink R_law 99 (yM 172) ∈ lwG := lwG_in (List.mem_of_getElem? (i := 1006) (by decide +kernel)) rfl
theorem lk_100 : Cond.methodLink R_law 100 (yM 107) ∈ lwG := lwG_in (List.mem_of_getElem? (i := 694) (by decide +kernel)) rfl
theorem lk_103 : Cond.methodLink R_law 103 (yM 173) ∈ lwG := lwG_in (List.mem_of_getElem? (i := 1010) (by decide +kernel)) rfl
theorem lk_104 : Cond.methodLink R_law 104 (yM 108) ∈ lwG := lwG_in (List.mem_of_getElem? (i := 699) (by decide +kernel)) rfl
theorem lk_107 : Cond.methodLink R_law 107 (yM 174) ∈ lwG := lwG_in (List.mem_of_getElem? (i := 1014) (by decide +kernel)) rfl
theorem case_0 (C : CtL p s m meth c D cI cG b L xs) (hL : L ≤ 2048) (hi : i + 3 < L) (hR : R M P) (hw : wh (Hp M P)) (hl : as.length = NN) (hcs : cells ≤ 600000) (hss : slots ≤ 7302250) (kk : ∀ (N : Mem) (Q : PMem), R N Q → wh (Hp N Q) → LW p l e s m below meth c D cI cG b as (Hp N Q) cells slots 662 (lvF as b i) []) : LW p l e s m below meth c D cI cG b as (Hp M P) cells slots 136 (lvF as b i) [] := by
  obtain ⟨v, N, P1, N2, e1, e2, hR2⟩ := P_begin hR (xs (i + 1)).toInt (xs (i + 2)).toInt
  refine L_aload C 1 dl_136 rfl ?_
  refine L_rd C (j := 1) hL (by omega) rfl rfl rfl dl_137 dl_138 dl_139 dl_140 dl_141 ?_
  refine L_rd C (j := 2) hL (by omega) rfl rfl rfl dl_142 dl_143 dl_144 dl_145 dl_146 ?_
  rw [← cv_I (as := as) (xs (i + 1)), ← cv_I (as := as) (xs (i + 2))]
  refine L_ev (i := 0) (ci := 7) (av' := [I (xs (i + 1)).toInt, I (xs (i + 2)).toInt]) (st := []) C e1 dl_147 lk_13 rfl rfl rfl rfl rfl kd_0 hw (wl_cons.mpr ⟨show 0 < NN by decide, wl_i _ (wl_i _ (wl_nil))⟩) hl (Nat.le_of_ble_eq_true rfl) hcs hss (fun hw1 _ => ?_)
  refine L_aload C 2 dl_150 rfl ?_
  refine L_rd C (j := 1) hL (by omega) rfl rfl rfl dl_151 dl_152 dl_153 dl_154 dl_155 ?_
  refine L_rd C (j := 2) hL (by omega) rfl rfl rfl dl_156 dl_157 dl_158 dl_159 dl_160 ?_
  rw [← cv_I (as := as) (xs (i + 1)), ← cv_I (as := as) (xs (i + 2))]
  refine L_ev (i := 149) (ci := 8) (av' := [I (xs (i + 1)).toInt, I (xs (i + 2)).toInt]) (st := [cv as (I v)]) C e2 dl_161 lk_17 rfl rfl rfl rfl rfl kd_149 hw1 (wl_cons.mpr ⟨show 149 < NN by decide, wl_i _ (wl_i _ (wl_nil))⟩) hl (Nat.le_of_ble_eq_true rfl) hcs hss (fun hw2 _ => ?_)
  refine L_same (x := i32 v) (tgt := 662) C dl_164 (by decide) ?_
  exact kk N2 P1 hR2 hw2
theorem case_1 (C : CtL p s m meth c D cI cG b L xs) (hL : L ≤ 2048) (hi : i + 3 < L) (hR : R M P) (hw : wh (Hp M P)) (hl : as.length = NN) (hcs : cells ≤ 600000) (hss : slots ≤ 7302250) (kk : ∀ (N : Mem) (Q : PMem), R N Q → wh (Hp N Q) → LW p l e s m below meth c D cI cG b as (Hp N Q) cells slots 662 (lvF as b i) []) : LW p l e s m below meth c D cI cG b as (Hp M P) cells slots 169 (lvF as b i) [] := by
  by_cases hx : xs (i + 1) = 0
  · skip
    obtain ⟨v, N, P1, N2, e1, e2, hR2⟩ := P_move hR 0 (Or.inl rfl)
    refine L_aload C 1 dl_169 rfl ?_
    refine L_rd C (j := 1) hL (by omega) rfl rfl rfl dl_170 dl_171 dl_172 dl_173 dl_174 ?_
    refine L_ifeq (tgt := 182) C dl_175 (by decide) (fun _ => ?_) (fun q => absurd hx q)
    refine L_iconst (v := i32 0) C dl_182 rfl ?_
    refine L_ev (i := 0) (ci := 7) (av' := [I 0]) (st := []) C e1 dl_183 lk_18 rfl rfl rfl rfl rfl kd_0 hw (wl_cons.mpr ⟨show 0 < NN by decide, wl_cons.mpr ⟨inr_0, wl_nil⟩⟩) hl (Nat.le_of_ble_eq_true rfl) hcs hss (fun hw1 _ => ?_)
    refine L_aload C 2 dl_186 rfl ?_
    refine L_rd C (j := 1) hL (by omega) rfl rfl rfl dl_187 dl_188 dl_189 dl_190 dl_191 ?_
    refine L_ifeq (tgt := 199) C dl_192 (by decide) (fun _ => ?_) (fun q => absurd hx q)
    refine L_iconst (v := i32 0) C dl_199 rfl ?_
    refine L_ev (i := 149) (ci := 8) (av' := [I 0]) (st := [cv as (I v)]) C e2 dl_200 lk_22 rfl rfl rfl rfl rfl kd_149 hw1 (wl_cons.mpr ⟨show 149 < NN by decide, wl_cons.mpr ⟨inr_0, wl_nil⟩⟩) hl (Nat.le_of_ble_eq_true rfl) hcs hss (fun hw2 _ => ?_)
    refine L_same (x := i32 v) (tgt := 662) C dl_203 (by decide) ?_
    exact kk N2 P1 hR2 hw2
  · skip
    obtain ⟨v, N, P1, N2, e1, e2, hR2⟩ := P_move hR 1 (Or.inr rfl)
    refine L_aload C 1 dl_169 rfl ?_
    refine L_rd C (j := 1) hL (by omega) rfl rfl rfl dl_170 dl_171 dl_172 dl_173 dl_174 ?_
    refine L_ifeq (tgt := 182) C dl_175 (by decide) (fun q => absurd q hx) (fun _ => ?_)
    refine L_iconst (v := i32 1) C dl_178 rfl ?_
    refine L_goto (tgt := 183) C dl_179 (by decide) ?_
    refine L_ev (i := 0) (ci := 7) (av' := [I 1]) (st := []) C e1 dl_183 lk_18 rfl rfl rfl rfl rfl kd_0 hw (wl_cons.mpr ⟨show 0 < NN by decide, wl_cons.mpr ⟨inr_1, wl_nil⟩⟩) hl (Nat.le_of_ble_eq_true rfl) hcs hss (fun hw1 _ => ?_)
    refine L_aload C 2 dl_186 rfl ?_
    refine L_rd C (j := 1) hL (by omega) rfl rfl rfl dl_187 dl_188 dl_189 dl_190 dl_191 ?_
    refine L_ifeq (tgt := 199) C dl_192 (by decide) (fun q => absurd q hx) (fun _ => ?_)
    refine L_iconst (v := i32 1) C dl_195 rfl ?_
    refine L_goto (tgt := 200) C dl_196 (by decide) ?_
    refine L_ev (i := 149) (ci := 8) (av' := [I 1]) (st := [cv as (I v)]) C e2 dl_200 lk_22 rfl rfl rfl rfl rfl kd_149 hw1 (wl_cons.mpr ⟨show 149 < NN by decide, wl_cons.mpr ⟨inr_1, wl_nil⟩⟩) hl (Nat.le_of_ble_eq_true rfl) hcs hss (fun hw2 _ => ?_)
    refine L_same (x := i32 v) (tgt := 662) C dl_203 (by decide) ?_
    exact kk N2 P1 hR2 hw2
theorem case_2 (C : CtL p s m meth c D cI cG b L xs) (hL : L ≤ 2048) (hi : i + 3 < L) (hR : R M P) (hw : wh (Hp M P)) (hl : as.length = NN) (hcs : cells ≤ 600000) (hss : slots ≤ 7302250) (kk : ∀ (N : Mem) (Q : PMem), R N Q → wh (Hp N Q) → LW p l e s m below meth c D cI cG b as (Hp N Q) cells slots 662 (lvF as b i) []) : LW p l e s m below meth c D cI cG b as (Hp M P) cells slots 208 (lvF as b i) [] := by
  obtain ⟨v, N, P1, N2, e1, e2, hR2⟩ := P_take hR
  refine L_aload C 1 dl_208 rfl ?_
  refine L_ev (i := 0) (ci := 7) (av' := []) (st := []) C e1 dl_209 lk_23 rfl rfl rfl rfl rfl kd_0 hw (wl_cons.mpr ⟨show 0 < NN by decide, wl_nil⟩) hl (Nat.le_of_ble_eq_true rfl) hcs hss (fun hw1 _ => ?_)
  refine L_aload C 2 dl_212 rfl ?_
  refine L_ev (i := 149) (ci := 8) (av' := []) (st := [cv as (I v)]) C e2 dl_213 lk_27 rfl rfl rfl rfl rfl kd_149 hw1 (wl_cons.mpr ⟨show 149 < NN by decide, wl_nil⟩) hl (Nat.le_of_ble_eq_true rfl) hcs hss (fun hw2 _ => ?_)
  refine L_same (x := i32 v) (tgt := 662) C dl_216 (by decide) ?_
  exact kk N2 P1 hR2 hw2
theorem case_3 (C : CtL p s m meth c D cI cG b L xs) (hL : L ≤ 2048) (hi : i + 3 < L) (hR : R M P) (hw : wh (Hp M P)) (hl : as.length = NN) (hcs : cells ≤ 600000) (hss : slots ≤ 7302250) (kk : ∀ (N : Mem) (Q : PMem), R N Q → wh (Hp N Q) → LW p l e s m below meth c D cI cG b as (Hp N Q) cells slots 662 (lvF as b i) []) : LW p l e s m below meth c D cI cG b as (Hp M P) cells slots 221 (lvF as b i) [] := by
  obtain ⟨v, N, P1, N2, e1, e2, hR2⟩ := P_lay hR (xs (i + 1)).toInt
  refine L_aload C 1 dl_221 rfl ?_
  refine L_rd C (j := 1) hL (by omega) rfl rfl rfl dl_222 dl_223 dl_224 dl_225 dl_226 ?_
  rw [← cv_I (as := as) (xs (i + 1))]
  refine L_ev (i := 0) (ci := 7) (av' := [I (xs (i + 1)).toInt]) (st := []) C e1 dl_227 lk_28 rfl rfl rfl rfl rfl kd_0 hw (wl_cons.mpr ⟨show 0 < NN by decide, wl_i _ (wl_nil)⟩) hl (Nat.le_of_ble_eq_true rfl) hcs hss (fun hw1 _ => ?_)
  refine L_aload C 2 dl_230 rfl ?_
  refine L_rd C (j := 1) hL (by omega) rfl rfl rfl dl_231 dl_232 dl_233 dl_234 dl_235 ?_
  rw [← cv_I (as := as) (xs (i + 1))]
  refine L_ev (i := 149) (ci := 8) (av' := [I (xs (i + 1)).toInt]) (st := [cv as (I v)]) C e2 dl_236 lk_32 rfl rfl rfl rfl rfl kd_149 hw1 (wl_cons.mpr ⟨show 149 < NN by decide, wl_i _ (wl_nil)⟩) hl (Nat.le_of_ble_eq_true rfl) hcs hss (fun hw2 _ => ?_)
  refine L_same (x := i32 v) (tgt := 662) C dl_239 (by decide) ?_
  exact kk N2 P1 hR2 hw2
theorem case_4 (C : CtL p s m meth c D cI cG b L xs) (hL : L ≤ 2048) (hi : i + 3 < L) (hR : R M P) (hw : wh (Hp M P)) (hl : as.length = NN) (hcs : cells ≤ 600000) (hss : slots ≤ 7302250) (kk : ∀ (N : Mem) (Q : PMem), R N Q → wh (Hp N Q) → LW p l e s m below meth c D cI cG b as (Hp N Q) cells slots 662 (lvF as b i) []) : LW p l e s m below meth c D cI cG b as (Hp M P) cells slots 244 (lvF as b i) [] := by
  obtain ⟨v, N, P1, N2, e1, e2, hR2⟩ := P_noth hR
  refine L_aload C 1 dl_244 rfl ?_
  refine L_ev (i := 0) (ci := 7) (av' := []) (st := []) C e1 dl_245 lk_33 rfl rfl rfl rfl rfl kd_0 hw (wl_cons.mpr ⟨show 0 < NN by decide, wl_nil⟩) hl (Nat.le_of_ble_eq_true rfl) hcs hss (fun hw1 _ => ?_)
  refine L_aload C 2 dl_248 rfl ?_
  refine L_ev (i := 149) (ci := 8) (av' := []) (st := [cv as (I v)]) C e2 dl_249 lk_36 rfl rfl rfl rfl rfl kd_149 hw1 (wl_cons.mpr ⟨show 149 < NN by decide, wl_nil⟩) hl (Nat.le_of_ble_eq_true rfl) hcs hss (fun hw2 _ => ?_)
  refine L_same (x := i32 v) (tgt := 662) C dl_252 (by decide) ?_
  exact kk N2 P1 hR2 hw2
theorem case_5 (C : CtL p s m meth c D cI cG b L xs) (hL : L ≤ 2048) (hi : i + 3 < L) (hR : R M P) (hw : wh (Hp M P)) (hl : as.length = NN) (hcs : cells ≤ 600000) (hss : slots ≤ 7302250) (kk : ∀ (N : Mem) (Q : PMem), R N Q → wh (Hp N Q) → LW p l e s m below meth c D cI cG b as (Hp N Q) cells slots 662 (lvF as b i) []) : LW p l e s m below meth c D cI cG b as (Hp M P) cells slots 257 (lvF as b i) [] := by
  obtain ⟨v, N, P1, N2, e1, e2, hR2⟩ := P_append hR (xs (i + 1)).toInt
  refine L_aload C 1 dl_257 rfl ?_
  refine L_rd C (j := 1) hL (by omega) rfl rfl rfl dl_258 dl_259 dl_260 dl_261 dl_262 ?_
  rw [← cv_I (as := as) (xs (i + 1))]
  refine L_ev (i := 0) (ci := 7) (av' := [I (xs (i + 1)).toInt]) (st := []) C e1 dl_263 lk_37 rfl rfl rfl rfl rfl kd_0 hw (wl_cons.mpr ⟨show 0 < NN by decide, wl_i _ (wl_nil)⟩) hl (Nat.le_of_ble_eq_true rfl) hcs hss (fun hw1 _ => ?_)
  refine L_aload C 2 dl_266 rfl ?_
  refine L_rd C (j := 1) hL (by omega) rfl rfl rfl dl_267 dl_268 dl_269 dl_270 dl_271 ?_
  rw [← cv_I (as := as) (xs (i + 1))]
  refine L_ev (i := 149) (ci := 8) (av' := [I (xs (i + 1)).toInt]) (st := [cv as (I v)]) C e2 dl_272 lk_40 rfl rfl rfl rfl rfl kd_149 hw1 (wl_cons.mpr ⟨show 149 < NN by decide, wl_i _ (wl_nil)⟩) hl (Nat.le_of_ble_eq_true rfl) hcs hss (fun hw2 _ => ?_)
  refine L_same (x := i32 v) (tgt := 662) C dl_275 (by decide) ?_
  exact kk N2 P1 hR2 hw2
theorem case_6 (C : CtL p s m meth c D cI cG b L xs) (hL : L ≤ 2048) (hi : i + 3 < L) (hR : R M P) (hw : wh (Hp M P)) (hl : as.length = NN) (hcs : cells ≤ 600000) (hss : slots ≤ 7302250) (kk : ∀ (N : Mem) (Q : PMem), R N Q → wh (Hp N Q) → LW p l e s m below meth c D cI cG b as (Hp N Q) cells slots 662 (lvF as b i) []) : LW p l e s m below meth c D cI cG b as (Hp M P) cells slots 280 (lvF as b i) [] := by
  obtain ⟨v, N, P1, N2, e1, e2, hR2⟩ := P_clear hR
  refine L_aload C 1 dl_280 rfl ?_
  refine L_ev (i := 0) (ci := 7) (av' := []) (st := []) C e1 dl_281 lk_41 rfl rfl rfl rfl rfl kd_0 hw (wl_cons.mpr ⟨show 0 < NN by decide, wl_nil⟩) hl (Nat.le_of_ble_eq_true rfl) hcs hss (fun hw1 _ => ?_)
  refine L_aload C 2 dl_284 rfl ?_
  refine L_ev (i := 149) (ci := 8) (av' := []) (st := [cv as (I v)]) C e2 dl_285 lk_44 rfl rfl rfl rfl rfl kd_149 hw1 (wl_cons.mpr ⟨show 149 < NN by decide, wl_nil⟩) hl (Nat.le_of_ble_eq_true rfl) hcs hss (fun hw2 _ => ?_)
  refine L_same (x := i32 v) (tgt := 662) C dl_288 (by decide) ?_
  exact kk N2 P1 hR2 hw2
theorem case_7 (C : CtL p s m meth c D cI cG b L xs) (hL : L ≤ 2048) (hi : i + 3 < L) (hR : R M P) (hw : wh (Hp M P)) (hl : as.length = NN) (hcs : cells ≤ 600000) (hss : slots ≤ 7302250) (kk : ∀ (N : Mem) (Q : PMem), R N Q → wh (Hp N Q) → LW p l e s m below meth c D cI cG b as (Hp N Q) cells slots 662 (lvF as b i) []) : LW p l e s m below meth c D cI cG b as (Hp M P) cells slots 293 (lvF as b i) [] := by
  obtain ⟨v, N, P1, N2, e1, e2, hR2⟩ := P_fault hR
  refine L_aload C 1 dl_293 rfl ?_
  refine L_ev (i := 0) (ci := 7) (av' := []) (st := []) C e1 dl_294 lk_45 rfl rfl rfl rfl rfl kd_0 hw (wl_cons.mpr ⟨show 0 < NN by decide, wl_nil⟩) hl (Nat.le_of_ble_eq_true rfl) hcs hss (fun hw1 _ => ?_)
  refine L_aload C 2 dl_297 rfl ?_
  refine L_ev (i := 149) (ci := 8) (av' := []) (st := [cv as (I v)]) C e2 dl_298 lk_48 rfl rfl rfl rfl rfl kd_149 hw1 (wl_cons.mpr ⟨show 149 < NN by decide, wl_nil⟩) hl (Nat.le_of_ble_eq_true rfl) hcs hss (fun hw2 _ => ?_)
  refine L_same (x := i32 v) (tgt := 662) C dl_301 (by decide) ?_
  exact kk N2 P1 hR2 hw2
theorem case_8 (C : CtL p s m meth c D cI cG b L xs) (hL : L ≤ 2048) (hi : i + 3 < L) (hR : R M P) (hw : wh (Hp M P)) (hl : as.length = NN) (hcs : cells ≤ 600000) (hss : slots ≤ 7302250) (kk : ∀ (N : Mem) (Q : PMem), R N Q → wh (Hp N Q) → LW p l e s m below meth c D cI cG b as (Hp N Q) cells slots 662 (lvF as b i) []) : LW p l e s m below meth c D cI cG b as (Hp M P) cells slots 306 (lvF as b i) [] := by
  obtain ⟨v, N, P1, N2, e1, e2, hR2⟩ := P_play hR
  refine L_aload C 1 dl_306 rfl ?_
  refine L_ev (i := 0) (ci := 7) (av' := []) (st := []) C e1 dl_307 lk_49 rfl rfl rfl rfl rfl kd_0 hw (wl_cons.mpr ⟨show 0 < NN by decide, wl_nil⟩) hl (Nat.le_of_ble_eq_true rfl) hcs hss (fun hw1 _ => ?_)
  refine L_aload C 2 dl_310 rfl ?_
  refine L_ev (i := 149) (ci := 8) (av' := []) (st := [cv as (I v)]) C e2 dl_311 lk_52 rfl rfl rfl rfl rfl kd_149 hw1 (wl_cons.mpr ⟨show 149 < NN by decide, wl_nil⟩) hl (Nat.le_of_ble_eq_true rfl) hcs hss (fun hw2 _ => ?_)
  refine L_same (x := i32 v) (tgt := 662) C dl_314 (by decide) ?_
  exact kk N2 P1 hR2 hw2
theorem case_9 (C : CtL p s m meth c D cI cG b L xs) (hL : L ≤ 2048) (hi : i + 3 < L) (hR : R M P) (hw : wh (Hp M P)) (hl : as.length = NN) (hcs : cells ≤ 600000) (hss : slots ≤ 7302250) (kk : ∀ (N : Mem) (Q : PMem), R N Q → wh (Hp N Q) → LW p l e s m below meth c D cI cG b as (Hp N Q) cells slots 662 (lvF as b i) []) : LW p l e s m below meth c D cI cG b as (Hp M P) cells slots 319 (lvF as b i) [] := by
  obtain ⟨v, N, P1, N2, e1, e2, hR2⟩ := P_why hR (xs (i + 1)).toInt
  refine L_aload C 1 dl_319 rfl ?_
  refine L_rd C (j := 1) hL (by omega) rfl rfl rfl dl_320 dl_321 dl_322 dl_323 dl_324 ?_
  rw [← cv_I (as := as) (xs (i + 1))]
  refine L_ev (i := 0) (ci := 7) (av' := [I (xs (i + 1)).toInt]) (st := []) C e1 dl_325 lk_53 rfl rfl rfl rfl rfl kd_0 hw (wl_cons.mpr ⟨show 0 < NN by decide, wl_i _ (wl_nil)⟩) hl (Nat.le_of_ble_eq_true rfl) hcs hss (fun hw1 _ => ?_)
  refine L_aload C 2 dl_328 rfl ?_
  refine L_rd C (j := 1) hL (by omega) rfl rfl rfl dl_329 dl_330 dl_331 dl_332 dl_333 ?_
  rw [← cv_I (as := as) (xs (i + 1))]
  refine L_ev (i := 149) (ci := 8) (av' := [I (xs (i + 1)).toInt]) (st := [cv as (I v)]) C e2 dl_334 lk_56 rfl rfl rfl rfl rfl kd_149 hw1 (wl_cons.mpr ⟨show 149 < NN by decide, wl_i _ (wl_nil)⟩) hl (Nat.le_of_ble_eq_true rfl) hcs hss (fun hw2 _ => ?_)
  refine L_same (x := i32 v) (tgt := 662) C dl_337 (by decide) ?_
  exact kk N2 P1 hR2 hw2
theorem case_10 (C : CtL p s m meth c D cI cG b L xs) (hL : L ≤ 2048) (hi : i + 3 < L) (hR : R M P) (hw : wh (Hp M P)) (hl : as.length = NN) (hcs : cells ≤ 600000) (hss : slots ≤ 7302250) (kk : ∀ (N : Mem) (Q : PMem), R N Q → wh (Hp N Q) → LW p l e s m below meth c D cI cG b as (Hp N Q) cells slots 662 (lvF as b i) []) : LW p l e s m below meth c D cI cG b as (Hp M P) cells slots 342 (lvF as b i) [] := by
  obtain ⟨v, N, P1, N2, e1, e2, hR2⟩ := P_diver hR (xs (i + 1)).toInt (xs (i + 2)).toInt
  refine L_aload C 1 dl_342 rfl ?_
  refine L_rd C (j := 1) hL (by omega) rfl rfl rfl dl_343 dl_344 dl_345 dl_346 dl_347 ?_
  refine L_rd C (j := 2) hL (by omega) rfl rfl rfl dl_348 dl_349 dl_350 dl_351 dl_352 ?_
  rw [← cv_I (as := as) (xs (i + 1)), ← cv_I (as := as) (xs (i + 2))]
  refine L_ev (i := 0) (ci := 7) (av' := [I (xs (i + 1)).toInt, I (xs (i + 2)).toInt]) (st := []) C e1 dl_353 lk_57 rfl rfl rfl rfl rfl kd_0 hw (wl_cons.mpr ⟨show 0 < NN by decide, wl_i _ (wl_i _ (wl_nil))⟩) hl (Nat.le_of_ble_eq_true rfl) hcs hss (fun hw1 _ => ?_)
  refine L_aload C 2 dl_356 rfl ?_
  refine L_rd C (j := 1) hL (by omega) rfl rfl rfl dl_357 dl_358 dl_359 dl_360 dl_361 ?_
  refine L_rd C (j := 2) hL (by omega) rfl rfl rfl dl_362 dl_363 dl_364 dl_365 dl_366 ?_
  rw [← cv_I (as := as) (xs (i + 1)), ← cv_I (as := as) (xs (i + 2))]
  refine L_ev (i := 149) (ci := 8) (av' := [I (xs (i + 1)).toInt, I (xs (i + 2)).toInt]) (st := [cv as (I v)]) C e2 dl_367 lk_60 rfl rfl rfl rfl rfl kd_149 hw1 (wl_cons.mpr ⟨show 149 < NN by decide, wl_i _ (wl_i _ (wl_nil))⟩) hl (Nat.le_of_ble_eq_true rfl) hcs hss (fun hw2 _ => ?_)
  refine L_same (x := i32 v) (tgt := 662) C dl_370 (by decide) ?_
  exact kk N2 P1 hR2 hw2
theorem case_11 (C : CtL p s m meth c D cI cG b L xs) (hL : L ≤ 2048) (hi : i + 3 < L) (hR : R M P) (hw : wh (Hp M P)) (hl : as.length = NN) (hcs : cells ≤ 600000) (hss : slots ≤ 7302250) (kk : ∀ (N : Mem) (Q : PMem), R N Q → wh (Hp N Q) → LW p l e s m below meth c D cI cG b as (Hp N Q) cells slots 662 (lvF as b i) []) : LW p l e s m below meth c D cI cG b as (Hp M P) cells slots 375 (lvF as b i) [] := by
  obtain ⟨v, N, P1, N2, e1, e2, hR2⟩ := P_stack hR (xs (i + 1)).toInt (xs (i + 2)).toInt (xs (i + 3)).toInt
  refine L_aload C 1 dl_375 rfl ?_
  refine L_rd C (j := 1) hL (by omega) rfl rfl rfl dl_376 dl_377 dl_378 dl_379 dl_380 ?_
  refine L_rd C (j := 2) hL (by omega) rfl rfl rfl dl_381 dl_382 dl_383 dl_384 dl_385 ?_
  refine L_rd C (j := 3) hL (by omega) rfl rfl rfl dl_386 dl_387 dl_388 dl_389 dl_390 ?_
  rw [← cv_I (as := as) (xs (i + 1)), ← cv_I (as := as) (xs (i + 2)), ← cv_I (as := as) (xs (i + 3))]
  refine L_ev (i := 0) (ci := 7) (av' := [I (xs (i + 1)).toInt, I (xs (i + 2)).toInt, I (xs (i + 3)).toInt]) (st := []) C e1 dl_391 lk_61 rfl rfl rfl rfl rfl kd_0 hw (wl_cons.mpr ⟨show 0 < NN by decide, wl_i _ (wl_i _ (wl_i _ (wl_nil)))⟩) hl (Nat.le_of_ble_eq_true rfl) hcs hss (fun hw1 _ => ?_)
  refine L_aload C 2 dl_394 rfl ?_
  refine L_rd C (j := 1) hL (by omega) rfl rfl rfl dl_395 dl_396 dl_397 dl_398 dl_399 ?_
  refine L_rd C (j := 2) hL (by omega) rfl rfl rfl dl_400 dl_401 dl_402 dl_403 dl_404 ?_
  refine L_rd C (j := 3) hL (by omega) rfl rfl rfl dl_405 dl_406 dl_407 dl_408 dl_409 ?_
  rw [← cv_I (as := as) (xs (i + 1)), ← cv_I (as := as) (xs (i + 2)), ← cv_I (as := as) (xs (i + 3))]
  refine L_ev (i := 149) (ci := 8) (av' := [I (xs (i + 1)).toInt, I (xs (i + 2)).toInt, I (xs (i + 3)).toInt]) (st := [cv as (I v)]) C e2 dl_410 lk_65 rfl rfl rfl rfl rfl kd_149 hw1 (wl_cons.mpr ⟨show 149 < NN by decide, wl_i _ (wl_i _ (wl_i _ (wl_nil)))⟩) hl (Nat.le_of_ble_eq_true rfl) hcs hss (fun hw2 _ => ?_)
  refine L_same (x := i32 v) (tgt := 662) C dl_413 (by decide) ?_
  exact kk N2 P1 hR2 hw2
theorem case_12 (C : CtL p s m meth c D cI cG b L xs) (hL : L ≤ 2048) (hi : i + 3 < L) (hR : R M P) (hw : wh (Hp M P)) (hl : as.length = NN) (hcs : cells ≤ 600000) (hss : slots ≤ 7302250) (kk : ∀ (N : Mem) (Q : PMem), R N Q → wh (Hp N Q) → LW p l e s m below meth c D cI cG b as (Hp N Q) cells slots 662 (lvF as b i) []) : LW p l e s m below meth c D cI cG b as (Hp M P) cells slots 418 (lvF as b i) [] := by
  obtain ⟨v, N, P1, N2, e1, e2, hR2⟩ := P_space hR (xs (i + 1)).toInt (xs (i + 2)).toInt
  refine L_aload C 1 dl_418 rfl ?_
  refine L_rd C (j := 1) hL (by omega) rfl rfl rfl dl_419 dl_420 dl_421 dl_422 dl_423 ?_
  refine L_rd C (j := 2) hL (by omega) rfl rfl rfl dl_424 dl_425 dl_426 dl_427 dl_428 ?_
  rw [← cv_I (as := as) (xs (i + 1)), ← cv_I (as := as) (xs (i + 2))]
  refine L_ev (i := 0) (ci := 7) (av' := [I (xs (i + 1)).toInt, I (xs (i + 2)).toInt]) (st := []) C e1 dl_429 lk_66 rfl rfl rfl rfl rfl kd_0 hw (wl_cons.mpr ⟨show 0 < NN by decide, wl_i _ (wl_i _ (wl_nil))⟩) hl (Nat.le_of_ble_eq_true rfl) hcs hss (fun hw1 _ => ?_)
  refine L_aload C 2 dl_432 rfl ?_
  refine L_rd C (j := 1) hL (by omega) rfl rfl rfl dl_433 dl_434 dl_435 dl_436 dl_437 ?_
  refine L_rd C (j := 2) hL (by omega) rfl rfl rfl dl_438 dl_439 dl_440 dl_441 dl_442 ?_
  rw [← cv_I (as := as) (xs (i + 1)), ← cv_I (as := as) (xs (i + 2))]
  refine L_ev (i := 149) (ci := 8) (av' := [I (xs (i + 1)).toInt, I (xs (i + 2)).toInt]) (st := [cv as (I v)]) C e2 dl_443 lk_69 rfl rfl rfl rfl rfl kd_149 hw1 (wl_cons.mpr ⟨show 149 < NN by decide, wl_i _ (wl_i _ (wl_nil))⟩) hl (Nat.le_of_ble_eq_true rfl) hcs hss (fun hw2 _ => ?_)
  refine L_same (x := i32 v) (tgt := 662) C dl_446 (by decide) ?_
  exact kk N2 P1 hR2 hw2
theorem case_13 (C : CtL p s m meth c D cI cG b L xs) (hL : L ≤ 2048) (hi : i + 3 < L) (hR : R M P) (hw : wh (Hp M P)) (hl : as.length = NN) (hcs : cells ≤ 600000) (hss : slots ≤ 7302250) (kk : ∀ (N : Mem) (Q : PMem), R N Q → wh (Hp N Q) → LW p l e s m below meth c D cI cG b as (Hp N Q) cells slots 662 (lvF as b i) []) : LW p l e s m below meth c D cI cG b as (Hp M P) cells slots 451 (lvF as b i) [] := by
  obtain ⟨v, N, P1, N2, e1, e2, hR2⟩ := P_count hR (xs (i + 1)).toInt
  refine L_aload C 1 dl_451 rfl ?_
  refine L_rd C (j := 1) hL (by omega) rfl rfl rfl dl_452 dl_453 dl_454 dl_455 dl_456 ?_
  rw [← cv_I (as := as) (xs (i + 1))]
  refine L_ev (i := 0) (ci := 7) (av' := [I (xs (i + 1)).toInt]) (st := []) C e1 dl_457 lk_70 rfl rfl rfl rfl rfl kd_0 hw (wl_cons.mpr ⟨show 0 < NN by decide, wl_i _ (wl_nil)⟩) hl (Nat.le_of_ble_eq_true rfl) hcs hss (fun hw1 _ => ?_)
  refine L_aload C 2 dl_460 rfl ?_
  refine L_rd C (j := 1) hL (by omega) rfl rfl rfl dl_461 dl_462 dl_463 dl_464 dl_465 ?_
  rw [← cv_I (as := as) (xs (i + 1))]
  refine L_ev (i := 149) (ci := 8) (av' := [I (xs (i + 1)).toInt]) (st := [cv as (I v)]) C e2 dl_466 lk_73 rfl rfl rfl rfl rfl kd_149 hw1 (wl_cons.mpr ⟨show 149 < NN by decide, wl_i _ (wl_nil)⟩) hl (Nat.le_of_ble_eq_true rfl) hcs hss (fun hw2 _ => ?_)
  refine L_same (x := i32 v) (tgt := 662) C dl_469 (by decide) ?_
  exact kk N2 P1 hR2 hw2
theorem case_14 (C : CtL p s m meth c D cI cG b L xs) (hL : L ≤ 2048) (hi : i + 3 < L) (hR : R M P) (hw : wh (Hp M P)) (hl : as.length = NN) (hcs : cells ≤ 600000) (hss : slots ≤ 7302250) (kk : ∀ (N : Mem) (Q : PMem), R N Q → wh (Hp N Q) → LW p l e s m below meth c D cI cG b as (Hp N Q) cells slots 662 (lvF as b i) []) : LW p l e s m below meth c D cI cG b as (Hp M P) cells slots 474 (lvF as b i) [] := by
  obtain ⟨v, N, P1, N2, e1, e2, hR2⟩ := P_leader hR
  refine L_aload C 1 dl_474 rfl ?_
  refine L_ev (i := 0) (ci := 7) (av' := []) (st := []) C e1 dl_475 lk_74 rfl rfl rfl rfl rfl kd_0 hw (wl_cons.mpr ⟨show 0 < NN by decide, wl_nil⟩) hl (Nat.le_of_ble_eq_true rfl) hcs hss (fun hw1 _ => ?_)
  refine L_aload C 2 dl_478 rfl ?_
  refine L_ev (i := 149) (ci := 8) (av' := []) (st := [cv as (I v)]) C e2 dl_479 lk_77 rfl rfl rfl rfl rfl kd_149 hw1 (wl_cons.mpr ⟨show 149 < NN by decide, wl_nil⟩) hl (Nat.le_of_ble_eq_true rfl) hcs hss (fun hw2 _ => ?_)
  refine L_same (x := i32 v) (tgt := 662) C dl_482 (by decide) ?_
  exact kk N2 P1 hR2 hw2
theorem case_15 (C : CtL p s m meth c D cI cG b L xs) (hL : L ≤ 2048) (hi : i + 3 < L) (hR : R M P) (hw : wh (Hp M P)) (hl : as.length = NN) (hcs : cells ≤ 600000) (hss : slots ≤ 7302250) (kk : ∀ (N : Mem) (Q : PMem), R N Q → wh (Hp N Q) → LW p l e s m below meth c D cI cG b as (Hp N Q) cells slots 662 (lvF as b i) []) : LW p l e s m below meth c D cI cG b as (Hp M P) cells slots 487 (lvF as b i) [] := by
  by_cases hx : xs (i + 2) = 0
  · skip
    obtain ⟨v, N, P1, N2, e1, e2, hR2⟩ := P_chances hR (xs (i + 1)).toInt 0 (xs (i + 3)).toInt
    refine L_aload C 1 dl_487 rfl ?_
    refine L_rd C (j := 1) hL (by omega) rfl rfl rfl dl_488 dl_489 dl_490 dl_491 dl_492 ?_
    refine L_rd C (j := 2) hL (by omega) rfl rfl rfl dl_493 dl_494 dl_495 dl_496 dl_497 ?_
    refine L_ifeq (tgt := 505) C dl_498 (by decide) (fun _ => ?_) (fun q => absurd hx q)
    refine L_iconst (v := i32 0) C dl_505 rfl ?_
    refine L_rd C (j := 3) hL (by omega) rfl rfl rfl dl_506 dl_507 dl_508 dl_509 dl_510 ?_
    rw [← cv_I (as := as) (xs (i + 1)), ← cv_I (as := as) (xs (i + 3))]
    refine L_ev (i := 0) (ci := 7) (av' := [I (xs (i + 1)).toInt, I 0, I (xs (i + 3)).toInt]) (st := []) C e1 dl_511 lk_78 rfl rfl rfl rfl rfl kd_0 hw (wl_cons.mpr ⟨show 0 < NN by decide, wl_i _ (wl_cons.mpr ⟨inr_0, wl_i _ (wl_nil)⟩)⟩) hl (Nat.le_of_ble_eq_true rfl) hcs hss (fun hw1 _ => ?_)
    refine L_aload C 2 dl_514 rfl ?_
    refine L_rd C (j := 1) hL (by omega) rfl rfl rfl dl_515 dl_516 dl_517 dl_518 dl_519 ?_
    refine L_rd C (j := 2) hL (by omega) rfl rfl rfl dl_520 dl_521 dl_522 dl_523 dl_524 ?_
    refine L_ifeq (tgt := 532) C dl_525 (by decide) (fun _ => ?_) (fun q => absurd hx q)
    refine L_iconst (v := i32 0) C dl_532 rfl ?_
    refine L_rd C (j := 3) hL (by omega) rfl rfl rfl dl_533 dl_534 dl_535 dl_536 dl_537 ?_
    rw [← cv_I (as := as) (xs (i + 1)), ← cv_I (as := as) (xs (i + 3))]
    refine L_ev (i := 149) (ci := 8) (av' := [I (xs (i + 1)).toInt, I 0, I (xs (i + 3)).toInt]) (st := [cv as (I v)]) C e2 dl_538 lk_82 rfl rfl rfl rfl rfl kd_149 hw1 (wl_cons.mpr ⟨show 149 < NN by decide, wl_i _ (wl_cons.mpr ⟨inr_0, wl_i _ (wl_nil)⟩)⟩) hl (Nat.le_of_ble_eq_true rfl) hcs hss (fun hw2 _ => ?_)
    refine L_same (x := i32 v) (tgt := 662) C dl_541 (by decide) ?_
    exact kk N2 P1 hR2 hw2
  · skip
    obtain ⟨v, N, P1, N2, e1, e2, hR2⟩ := P_chances hR (xs (i + 1)).toInt 1 (xs (i + 3)).toInt
    refine L_aload C 1 dl_487 rfl ?_
    refine L_rd C (j := 1) hL (by omega) rfl rfl rfl dl_488 dl_489 dl_490 dl_491 dl_492 ?_
    refine L_rd C (j := 2) hL (by omega) rfl rfl rfl dl_493 dl_494 dl_495 dl_496 dl_497 ?_
    refine L_ifeq (tgt := 505) C dl_498 (by decide) (fun q => absurd q hx) (fun _ => ?_)
    refine L_iconst (v := i32 1) C dl_501 rfl ?_
    refine L_goto (tgt := 506) C dl_502 (by decide) ?_
    refine L_rd C (j := 3) hL (by omega) rfl rfl rfl dl_506 dl_507 dl_508 dl_509 dl_510 ?_
    rw [← cv_I (as := as) (xs (i + 1)), ← cv_I (as := as) (xs (i + 3))]
    refine L_ev (i := 0) (ci := 7) (av' := [I (xs (i + 1)).toInt, I 1, I (xs (i + 3)).toInt]) (st := []) C e1 dl_511 lk_78 rfl rfl rfl rfl rfl kd_0 hw (wl_cons.mpr ⟨show 0 < NN by decide, wl_i _ (wl_cons.mpr ⟨inr_1, wl_i _ (wl_nil)⟩)⟩) hl (Nat.le_of_ble_eq_true rfl) hcs hss (fun hw1 _ => ?_)
    refine L_aload C 2 dl_514 rfl ?_
    refine L_rd C (j := 1) hL (by omega) rfl rfl rfl dl_515 dl_516 dl_517 dl_518 dl_519 ?_
    refine L_rd C (j := 2) hL (by omega) rfl rfl rfl dl_520 dl_521 dl_522 dl_523 dl_524 ?_
    refine L_ifeq (tgt := 532) C dl_525 (by decide) (fun q => absurd q hx) (fun _ => ?_)
    refine L_iconst (v := i32 1) C dl_528 rfl ?_
    refine L_goto (tgt := 533) C dl_529 (by decide) ?_
    refine L_rd C (j := 3) hL (by omega) rfl rfl rfl dl_533 dl_534 dl_535 dl_536 dl_537 ?_
    rw [← cv_I (as := as) (xs (i + 1)), ← cv_I (as := as) (xs (i + 3))]
    refine L_ev (i := 149) (ci := 8) (av' := [I (xs (i + 1)).toInt, I 1, I (xs (i + 3)).toInt]) (st := [cv as (I v)]) C e2 dl_538 lk_82 rfl rfl rfl rfl rfl kd_149 hw1 (wl_cons.mpr ⟨show 149 < NN by decide, wl_i _ (wl_cons.mpr ⟨inr_1, wl_i _ (wl_nil)⟩)⟩) hl (Nat.le_of_ble_eq_true rfl) hcs hss (fun hw2 _ => ?_)
    refine L_same (x := i32 v) (tgt := 662) C dl_541 (by decide) ?_
    exact kk N2 P1 hR2 hw2
theorem case_16 (C : CtL p s m meth c D cI cG b L xs) (hL : L ≤ 2048) (hi : i + 3 < L) (hR : R M P) (hw : wh (Hp M P)) (hl : as.length = NN) (hcs : cells ≤ 600000) (hss : slots ≤ 7302250) (kk : ∀ (N : Mem) (Q : PMem), R N Q → wh (Hp N Q) → LW p l e s m below meth c D cI cG b as (Hp N Q) cells slots 662 (lvF as b i) []) : LW p l e s m below meth c D cI cG b as (Hp M P) cells slots 546 (lvF as b i) [] := by
  obtain ⟨v, N, P1, N2, e1, e2, hR2⟩ := P_homeward hR (xs (i + 1)).toInt
  refine L_aload C 1 dl_546 rfl ?_
  refine L_rd C (j := 1) hL (by omega) rfl rfl rfl dl_547 dl_548 dl_549 dl_550 dl_551 ?_
  rw [← cv_I (as := as) (xs (i + 1))]
  refine L_ev (i := 0) (ci := 7) (av' := [I (xs (i + 1)).toInt]) (st := []) C e1 dl_552 lk_83 rfl rfl rfl rfl rfl kd_0 hw (wl_cons.mpr ⟨show 0 < NN by decide, wl_i _ (wl_nil)⟩) hl (Nat.le_of_ble_eq_true rfl) hcs hss (fun hw1 _ => ?_)
  refine L_aload C 2 dl_555 rfl ?_
  refine L_rd C (j := 1) hL (by omega) rfl rfl rfl dl_556 dl_557 dl_558 dl_559 dl_560 ?_
  rw [← cv_I (as := as) (xs (i + 1))]
  refine L_ev (i := 149) (ci := 8) (av' := [I (xs (i + 1)).toInt]) (st := [cv as (I v)]) C e2 dl_561 lk_86 rfl rfl rfl rfl rfl kd_149 hw1 (wl_cons.mpr ⟨show 149 < NN by decide, wl_i _ (wl_nil)⟩) hl (Nat.le_of_ble_eq_true rfl) hcs hss (fun hw2 _ => ?_)
  refine L_same (x := i32 v) (tgt := 662) C dl_564 (by decide) ?_
  exact kk N2 P1 hR2 hw2
theorem case_17 (C : CtL p s m meth c D cI cG b L xs) (hL : L ≤ 2048) (hi : i + 3 < L) (hR : R M P) (hw : wh (Hp M P)) (hl : as.length = NN) (hcs : cells ≤ 600000) (hss : slots ≤ 7302250) (kk : ∀ (N : Mem) (Q : PMem), R N Q → wh (Hp N Q) → LW p l e s m below meth c D cI cG b as (Hp N Q) cells slots 662 (lvF as b i) []) : LW p l e s m below meth c D cI cG b as (Hp M P) cells slots 569 (lvF as b i) [] := by
  obtain ⟨v, N, P1, N2, e1, e2, hR2⟩ := P_used hR
  refine L_aload C 1 dl_569 rfl ?_
  refine L_ev (i := 0) (ci := 7) (av' := []) (st := []) C e1 dl_570 lk_87 rfl rfl rfl rfl rfl kd_0 hw (wl_cons.mpr ⟨show 0 < NN by decide, wl_nil⟩) hl (Nat.le_of_ble_eq_true rfl) hcs hss (fun hw1 _ => ?_)
  refine L_aload C 2 dl_573 rfl ?_
  refine L_ev (i := 149) (ci := 8) (av' := []) (st := [cv as (I v)]) C e2 dl_574 lk_90 rfl rfl rfl rfl rfl kd_149 hw1 (wl_cons.mpr ⟨show 149 < NN by decide, wl_nil⟩) hl (Nat.le_of_ble_eq_true rfl) hcs hss (fun hw2 _ => ?_)
  refine L_same (x := i32 v) (tgt := 662) C dl_577 (by decide) ?_
  exact kk N2 P1 hR2 hw2
theorem case_19 (C : CtL p s m meth c D cI cG b L xs) (hL : L ≤ 2048) (hi : i + 3 < L) (hR : R M P) (hw : wh (Hp M P)) (hl : as.length = NN) (hcs : cells ≤ 600000) (hss : slots ≤ 7302250) (kk : ∀ (N : Mem) (Q : PMem), R N Q → wh (Hp N Q) → LW p l e s m below meth c D cI cG b as (Hp N Q) cells slots 662 (lvF as b i) []) : LW p l e s m below meth c D cI cG b as (Hp M P) cells slots 623 (lvF as b i) [] := by
  obtain ⟨v, N, P1, N2, e1, e2, hR2⟩ := P_undo hR
  refine L_aload C 1 dl_623 rfl ?_
  refine L_ev (i := 0) (ci := 7) (av' := []) (st := []) C e1 dl_624 lk_96 rfl rfl rfl rfl rfl kd_0 hw (wl_cons.mpr ⟨show 0 < NN by decide, wl_nil⟩) hl (Nat.le_of_ble_eq_true rfl) hcs hss (fun hw1 _ => ?_)
  refine L_aload C 2 dl_627 rfl ?_
  refine L_ev (i := 149) (ci := 8) (av' := []) (st := [cv as (I v)]) C e2 dl_628 lk_99 rfl rfl rfl rfl rfl kd_149 hw1 (wl_cons.mpr ⟨show 149 < NN by decide, wl_nil⟩) hl (Nat.le_of_ble_eq_true rfl) hcs hss (fun hw2 _ => ?_)
  refine L_same (x := i32 v) (tgt := 662) C dl_631 (by decide) ?_
  exact kk N2 P1 hR2 hw2
theorem case_20 (C : CtL p s m meth c D cI cG b L xs) (hL : L ≤ 2048) (hi : i + 3 < L) (hR : R M P) (hw : wh (Hp M P)) (hl : as.length = NN) (hcs : cells ≤ 600000) (hss : slots ≤ 7302250) (kk : ∀ (N : Mem) (Q : PMem), R N Q → wh (Hp N Q) → LW p l e s m below meth c D cI cG b as (Hp N Q) cells slots 662 (lvF as b i) []) : LW p l e s m below meth c D cI cG b as (Hp M P) cells slots 636 (lvF as b i) [] := by
  obtain ⟨v, N, P1, N2, e1, e2, hR2⟩ := P_save hR
  refine L_aload C 1 dl_636 rfl ?_
  refine L_ev (i := 0) (ci := 7) (av' := []) (st := []) C e1 dl_637 lk_100 rfl rfl rfl rfl rfl kd_0 hw (wl_cons.mpr ⟨show 0 < NN by decide, wl_nil⟩) hl (Nat.le_of_ble_eq_true rfl) hcs hss (fun hw1 _ => ?_)
  refine L_aload C 2 dl_640 rfl ?_
  refine L_ev (i := 149) (ci := 8) (av' := []) (st := [cv as (I v)]) C e2 dl_641 lk_103 rfl rfl rfl rfl rfl kd_149 hw1 (wl_cons.mpr ⟨show 149 < NN by decide, wl_nil⟩) hl (Nat.le_of_ble_eq_true rfl) hcs hss (fun hw2 _ => ?_)
  refine L_same (x := i32 v) (tgt := 662) C dl_644 (by decide) ?_
  exact kk N2 P1 hR2 hw2
theorem case_21 (C : CtL p s m meth c D cI cG b L xs) (hL : L ≤ 2048) (hi : i + 3 < L) (hR : R M P) (hw : wh (Hp M P)) (hl : as.length = NN) (hcs : cells ≤ 600000) (hss : slots ≤ 7302250) (kk : ∀ (N : Mem) (Q : PMem), R N Q → wh (Hp N Q) → LW p l e s m below meth c D cI cG b as (Hp N Q) cells slots 662 (lvF as b i) []) : LW p l e s m below meth c D cI cG b as (Hp M P) cells slots 649 (lvF as b i) [] := by
  obtain ⟨v, N, P1, N2, e1, e2, hR2⟩ := P_restore hR
  refine L_aload C 1 dl_649 rfl ?_
  refine L_ev (i := 0) (ci := 7) (av' := []) (st := []) C e1 dl_650 lk_104 rfl rfl rfl rfl rfl kd_0 hw (wl_cons.mpr ⟨show 0 < NN by decide, wl_nil⟩) hl (Nat.le_of_ble_eq_true rfl) hcs hss (fun hw1 _ => ?_)
  refine L_aload C 2 dl_653 rfl ?_
  refine L_ev (i := 149) (ci := 8) (av' := []) (st := [cv as (I v)]) C e2 dl_654 lk_107 rfl rfl rfl rfl rfl kd_149 hw1 (wl_cons.mpr ⟨show 149 < NN by decide, wl_nil⟩) hl (Nat.le_of_ble_eq_true rfl) hcs hss (fun hw2 _ => ?_)
  refine L_same (x := i32 v) (tgt := 662) C dl_657 (by decide) ?_
  exact kk N2 P1 hR2 hw2
end Cases
