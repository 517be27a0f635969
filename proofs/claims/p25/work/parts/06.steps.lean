/-! ===== the abstract machine's steps are the machine's ===== -/
def lwG : List Cond := lw_tbl.filter goodWord
theorem lwG_in {w : Cond} (h : w ∈ lw_tbl) (g : goodWord w = true) : w ∈ lwG := List.mem_filter.mpr ⟨h, g⟩
theorem lwG_good : GoodIn lwG lwG := fun w h => ⟨h, good_of_word (List.mem_filter.mp h).2⟩
def isN (w : Cond) : Bool := match w with | .fieldLinkNest _ _ _ _ _ _ => true | .methodLinkNest _ _ _ _ => true | _ => false
def lwN : List Cond := lw_tbl.filter isN
theorem lwN_in {w : Cond} (h : w ∈ lw_tbl) (g : isN w = true) : w ∈ lwN := List.mem_filter.mpr ⟨h, g⟩
def nestOk (U : State) : Prop := ∀ w ∈ lwN, va_Nw w U
theorem nestOk.warm {s U : State} (hW : s.WarmedH U.vm) (h : nestOk s) : nestOk U := by
  intro w hw
  have h1 := h w hw
  have h2 := (List.mem_filter.mp hw).2
  unfold isN at h2
  split at h2
  · exact va_Nw.warmF hW h1
  · exact va_Nw.warmM hW h1
  · cases h2
theorem nestOk.same {u U : State} (hv : u.vm = U.vm) (h : nestOk u) : nestOk U := by
  intro w hw
  have h1 := h w hw
  have h2 := (List.mem_filter.mp hw).2
  unfold isN at h2
  split at h2
  · exact va_Nw.same rfl hv h1
  · exact va_Nw.same rfl hv h1
  · cases h2
abbrev tyG (cI cG : ClassId) : List (ClassId × FieldType) := [(cI, .int), (cG, .object RX1)]
def Ctx (p : Program) (s : State) (m : MethodId) (args : Array Value) (meth : Method) (c : Code) (D : va_G) (cI cG : ClassId) (k : Nat) : Prop :=
  p.tables.exec = Jvm.exec ∧ c.code = bM k ∧ c.maxLocals = maxl k ∧ s.vm.findClass (oN (mOs.getD k 0)) = some m.cls ∧ (∀ w ∈ lwG, w.before args s = true) ∧ va_K D vwCl (tyG cI cG) s ∧ va_AO RX1 s ∧ meth.locks = false ∧ meth.sig.returnType = rM k ∧ (isI k = true → meth.name = "<init>") ∧ nestOk s
def Wg (p : Program) (l : Launch) (e : Env) (R : Room) (s : State) (m : MethodId) (args : Array Value) (below : List Frame) (meth : Method) (c : Code) (D : va_G) (cI cG : ClassId) (A : Nat → Prop) (Q : State → Prop) (nL : Nat) (as : List Nat) (cells slots pc : Nat) (ls st : List AV) (h : AH) : Prop :=
  ∀ (H : Heap) (locs : List Loc) (lsA : Array Slot), va_P D vwCl (wsO cI cG as h) H → va_D A (wsO cI cG as h) → va_S A s.heap H locs → lv_has lsA nL (lvl as 0 ls) → W p l e R s m args below meth c H locs cells slots Q (F0 m pc lsA (st.map (cv as)))
theorem tgN_ok {pc : Nat} {off : Int} (h : tgB pc off = true) : (pc : Int) + off = ((tgN pc off : Nat) : Int) := by
  have h1 : 0 ≤ (pc : Int) + off := of_decide_eq_true h
  exact (Int.toNat_of_nonneg h1).symm
section Steps
variable {p : Program} {l : Launch} {e : Env} {R : Room} {s : State} {m : MethodId} {args : Array Value} {below : List Frame} {meth : Method} {c : Code} {D : va_G} {cI cG : ClassId} {A : Nat → Prop} {Q : State → Prop} {k nL cells slots pc : Nat} {as : List Nat} {ls st : List AV} {h : AH}
theorem g_iconst (C : Ctx p s m args meth c D cI cG k) {n : Int} (hd : decode (bM k) pc = .ok (.iconst n, 1)) (kk : Wg p l e R s m args below meth c D cI cG A Q nL as cells slots (pc + 1) ls (I n :: st) h) : Wg p l e R s m args below meth c D cI cG A Q nL as cells slots pc ls st h :=
  fun H locs lsA hP hD hS hl => lv_iconst (v := i32 n) C.1 C.2.1 hd rfl (kk H locs lsA hP hD hS hl)
theorem g_bipush (C : Ctx p s m args meth c D cI cG k) {n : Int} (hd : decode (bM k) pc = .ok (.bipush n, 2)) (hn : (Int8.ofInt n).toInt32 = i32 n) (kk : Wg p l e R s m args below meth c D cI cG A Q nL as cells slots (pc + 2) ls (I n :: st) h) : Wg p l e R s m args below meth c D cI cG A Q nL as cells slots pc ls st h :=
  fun H locs lsA hP hD hS hl => lv_bipush (v := i32 n) C.1 C.2.1 hd hn (kk H locs lsA hP hD hS hl)
theorem g_sipush (C : Ctx p s m args meth c D cI cG k) {n : Int} (hd : decode (bM k) pc = .ok (.sipush n, 3)) (hn : (Int16.ofInt n).toInt32 = i32 n) (kk : Wg p l e R s m args below meth c D cI cG A Q nL as cells slots (pc + 3) ls (I n :: st) h) : Wg p l e R s m args below meth c D cI cG A Q nL as cells slots pc ls st h :=
  fun H locs lsA hP hD hS hl => lv_sipush (v := i32 n) C.1 C.2.1 hd hn (kk H locs lsA hP hD hS hl)
theorem g_null (C : Ctx p s m args meth c D cI cG k) (hd : decode (bM k) pc = .ok (.aconst_null, 1)) (kk : Wg p l e R s m args below meth c D cI cG A Q nL as cells slots (pc + 1) ls (Nu :: st) h) : Wg p l e R s m args below meth c D cI cG A Q nL as cells slots pc ls st h :=
  fun H locs lsA hP hD hS hl => lv_null C.1 C.2.1 hd (kk H locs lsA hP hD hS hl)
theorem g_iload_n (C : Ctx p s m args meth c D cI cG k) {i : Fin 4} {z : Int} (hd : decode (bM k) pc = .ok (.iload_n i, 1)) (hi : ls[i.val]? = some (I z)) (kk : Wg p l e R s m args below meth c D cI cG A Q nL as cells slots (pc + 1) ls (I z :: st) h) : Wg p l e R s m args below meth c D cI cG A Q nL as cells slots pc ls st h :=
  fun H locs lsA hP hD hS hl => lv_iload_n (x := i32 z) C.1 C.2.1 hd rfl (lvl_at hl hi rfl) (kk H locs lsA hP hD hS hl)
theorem g_iload (C : Ctx p s m args meth c D cI cG k) {i : Nat} {z : Int} (hd : decode (bM k) pc = .ok (.iload i, 2)) (hi : ls[i]? = some (I z)) (kk : Wg p l e R s m args below meth c D cI cG A Q nL as cells slots (pc + 2) ls (I z :: st) h) : Wg p l e R s m args below meth c D cI cG A Q nL as cells slots pc ls st h :=
  fun H locs lsA hP hD hS hl => lv_iload (x := i32 z) C.1 C.2.1 hd (lvl_at hl hi rfl) (kk H locs lsA hP hD hS hl)
theorem g_aload_n (C : Ctx p s m args meth c D cI cG k) {i : Fin 4} {r : Option Nat} (hd : decode (bM k) pc = .ok (.aload_n i, 1)) (hi : ls[i.val]? = some (.inr (.inl r))) (kk : Wg p l e R s m args below meth c D cI cG A Q nL as cells slots (pc + 1) ls (.inr (.inl r) :: st) h) : Wg p l e R s m args below meth c D cI cG A Q nL as cells slots pc ls st h := by
  intro H locs lsA hP hD hS hl
  have h1 := lvl_at hl hi rfl
  have h2 := kk H locs lsA hP hD hS hl
  cases r with
  | none => exact lv_aload_nN C.1 C.2.1 hd rfl h1 h2
  | some x => exact lv_aload_n C.1 C.2.1 hd rfl h1 h2
theorem g_aload (C : Ctx p s m args meth c D cI cG k) {i : Nat} {r : Option Nat} (hd : decode (bM k) pc = .ok (.aload i, 2)) (hi : ls[i]? = some (.inr (.inl r))) (kk : Wg p l e R s m args below meth c D cI cG A Q nL as cells slots (pc + 2) ls (.inr (.inl r) :: st) h) : Wg p l e R s m args below meth c D cI cG A Q nL as cells slots pc ls st h := by
  intro H locs lsA hP hD hS hl
  have h1 := lvl_at hl hi rfl
  have h2 := kk H locs lsA hP hD hS hl
  cases r with
  | none => exact lv_aloadN C.1 C.2.1 hd h1 h2
  | some x => exact lv_aload C.1 C.2.1 hd h1 h2
theorem g_istore_n (C : Ctx p s m args meth c D cI cG k) {i : Fin 4} {z : Int} (hd : decode (bM k) pc = .ok (.istore_n i, 1)) (hi : i.val < nL) (kk : Wg p l e R s m args below meth c D cI cG A Q nL as cells slots (pc + 1) (ls.set i.val (I z)) st h) : Wg p l e R s m args below meth c D cI cG A Q nL as cells slots pc ls (I z :: st) h :=
  fun H locs lsA hP hD hS hl => lv_istore_n (x := i32 z) C.1 C.2.1 hd rfl hl hi rfl (fun ls' hl' => kk H locs ls' hP hD hS (lvl_set (v := I z) rfl hl'))
theorem g_istore (C : Ctx p s m args meth c D cI cG k) {i : Nat} {z : Int} (hd : decode (bM k) pc = .ok (.istore i, 2)) (hi : i < nL) (kk : Wg p l e R s m args below meth c D cI cG A Q nL as cells slots (pc + 2) (ls.set i (I z)) st h) : Wg p l e R s m args below meth c D cI cG A Q nL as cells slots pc ls (I z :: st) h :=
  fun H locs lsA hP hD hS hl => lv_istore (x := i32 z) C.1 C.2.1 hd hl hi rfl (fun ls' hl' => kk H locs ls' hP hD hS (lvl_set (v := I z) rfl hl'))
theorem g_astore_n (C : Ctx p s m args meth c D cI cG k) {i : Fin 4} {r : Option Nat} (hd : decode (bM k) pc = .ok (.astore_n i, 1)) (hi : i.val < nL) (kk : Wg p l e R s m args below meth c D cI cG A Q nL as cells slots (pc + 1) (ls.set i.val (.inr (.inl r))) st h) : Wg p l e R s m args below meth c D cI cG A Q nL as cells slots pc ls (.inr (.inl r) :: st) h := by
  intro H locs lsA hP hD hS hl
  cases r with
  | none => exact lv_astore_nN C.1 C.2.1 hd rfl hl hi rfl (fun ls' hl' => kk H locs ls' hP hD hS (lvl_set (v := Nu) rfl hl'))
  | some x => exact lv_astore_n C.1 C.2.1 hd rfl hl hi rfl (fun ls' hl' => kk H locs ls' hP hD hS (lvl_set (v := Rf x) rfl hl'))
theorem g_iinc (C : Ctx p s m args meth c D cI cG k) {i : Nat} {n z : Int} (hd : decode (bM k) pc = .ok (.iinc i n, 3)) (hi : ls[i]? = some (I z)) (hn : i < nL) (kk : Wg p l e R s m args below meth c D cI cG A Q nL as cells slots (pc + 3) (ls.set i (I (w2 (· + ·) z n))) st h) : Wg p l e R s m args below meth c D cI cG A Q nL as cells slots pc ls st h := by
  intro H locs lsA hP hD hS hl
  obtain ⟨q, hq⟩ := List.getElem?_of_mem (lvl_mem.mpr ⟨i, I z, hi, Or.inl rfl, by rw [Nat.zero_add]⟩ : (i, cv as (I z)) ∈ lvl as 0 ls)
  exact lv_iinc (k := q) (x := i32 z) (v := i32 (w2 (· + ·) z n)) C.1 C.2.1 hd hl hq (by rw [i32_w2]; rfl) hn rfl (fun ls' hl' => kk H locs ls' hP hD hS (lvl_set (v := I (w2 (· + ·) z n)) rfl hl'))
theorem Wg_i {f : Int32 → Int32 → Int32} {x y : Int} (kk : Wg p l e R s m args below meth c D cI cG A Q nL as cells slots pc ls (I (w2 f x y) :: st) h) {H : Heap} {locs : List Loc} {lsA : Array Slot} (hP : va_P D vwCl (wsO cI cG as h) H) (hD : va_D A (wsO cI cG as h)) (hS : va_S A s.heap H locs) (hl : lv_has lsA nL (lvl as 0 ls)) : W p l e R s m args below meth c H locs cells slots Q (F0 m pc lsA (.int (f (i32 x) (i32 y)) :: st.map (cv as))) := by
  have h2 := kk H locs lsA hP hD hS hl
  simp only [List.map_cons, cv, i32_w2] at h2
  exact h2
theorem g_iadd (C : Ctx p s m args meth c D cI cG k) {x y : Int} (hd : decode (bM k) pc = .ok (.iadd, 1)) (kk : Wg p l e R s m args below meth c D cI cG A Q nL as cells slots (pc + 1) ls (I (w2 (· + ·) x y) :: st) h) : Wg p l e R s m args below meth c D cI cG A Q nL as cells slots pc ls (I y :: I x :: st) h :=
  fun _ _ _ hP hD hS hl => lv_iadd C.1 C.2.1 hd (Wg_i kk hP hD hS hl)
theorem g_isub (C : Ctx p s m args meth c D cI cG k) {x y : Int} (hd : decode (bM k) pc = .ok (.isub, 1)) (kk : Wg p l e R s m args below meth c D cI cG A Q nL as cells slots (pc + 1) ls (I (w2 (· - ·) x y) :: st) h) : Wg p l e R s m args below meth c D cI cG A Q nL as cells slots pc ls (I y :: I x :: st) h :=
  fun _ _ _ hP hD hS hl => lv_isub C.1 C.2.1 hd (Wg_i kk hP hD hS hl)
theorem g_imul (C : Ctx p s m args meth c D cI cG k) {x y : Int} (hd : decode (bM k) pc = .ok (.imul, 1)) (kk : Wg p l e R s m args below meth c D cI cG A Q nL as cells slots (pc + 1) ls (I (w2 (· * ·) x y) :: st) h) : Wg p l e R s m args below meth c D cI cG A Q nL as cells slots pc ls (I y :: I x :: st) h :=
  fun _ _ _ hP hD hS hl => lv_imul C.1 C.2.1 hd (Wg_i kk hP hD hS hl)
theorem g_iand (C : Ctx p s m args meth c D cI cG k) {x y : Int} (hd : decode (bM k) pc = .ok (.iand, 1)) (kk : Wg p l e R s m args below meth c D cI cG A Q nL as cells slots (pc + 1) ls (I (w2 (· &&& ·) x y) :: st) h) : Wg p l e R s m args below meth c D cI cG A Q nL as cells slots pc ls (I y :: I x :: st) h :=
  fun _ _ _ hP hD hS hl => lv_iand C.1 C.2.1 hd (Wg_i kk hP hD hS hl)
theorem g_ior (C : Ctx p s m args meth c D cI cG k) {x y : Int} (hd : decode (bM k) pc = .ok (.ior, 1)) (kk : Wg p l e R s m args below meth c D cI cG A Q nL as cells slots (pc + 1) ls (I (w2 (· ||| ·) x y) :: st) h) : Wg p l e R s m args below meth c D cI cG A Q nL as cells slots pc ls (I y :: I x :: st) h :=
  fun _ _ _ hP hD hS hl => lv_ior C.1 C.2.1 hd (Wg_i kk hP hD hS hl)
theorem g_ishl (C : Ctx p s m args meth c D cI cG k) {x y : Int} (hd : decode (bM k) pc = .ok (.ishl, 1)) (kk : Wg p l e R s m args below meth c D cI cG A Q nL as cells slots (pc + 1) ls (I (w2 (fun x y => x <<< (y &&& 31)) x y) :: st) h) : Wg p l e R s m args below meth c D cI cG A Q nL as cells slots pc ls (I y :: I x :: st) h :=
  fun _ _ _ hP hD hS hl => lv_ishl C.1 C.2.1 hd (Wg_i kk hP hD hS hl)
theorem g_ishr (C : Ctx p s m args meth c D cI cG k) {x y : Int} (hd : decode (bM k) pc = .ok (.ishr, 1)) (kk : Wg p l e R s m args below meth c D cI cG A Q nL as cells slots (pc + 1) ls (I (w2 (fun x y => x >>> (y &&& 31)) x y) :: st) h) : Wg p l e R s m args below meth c D cI cG A Q nL as cells slots pc ls (I y :: I x :: st) h :=
  fun _ _ _ hP hD hS hl => lv_ishr C.1 C.2.1 hd (Wg_i kk hP hD hS hl)
theorem g_idiv (C : Ctx p s m args meth c D cI cG k) {x y : Int} (hd : decode (bM k) pc = .ok (.idiv, 1)) (hy : inr y) (h0 : y ≠ 0) (kk : Wg p l e R s m args below meth c D cI cG A Q nL as cells slots (pc + 1) ls (I (w2 (· / ·) x y) :: st) h) : Wg p l e R s m args below meth c D cI cG A Q nL as cells slots pc ls (I y :: I x :: st) h :=
  fun _ _ _ hP hD hS hl => lv_idiv C.1 C.2.1 hd (fun q => h0 ((i32_eq hy inr_0).mp (by rw [q, i32_0]))) (Wg_i kk hP hD hS hl)
theorem g_irem (C : Ctx p s m args meth c D cI cG k) {x y : Int} (hd : decode (bM k) pc = .ok (.irem, 1)) (hy : inr y) (h0 : y ≠ 0) (kk : Wg p l e R s m args below meth c D cI cG A Q nL as cells slots (pc + 1) ls (I (w2 (fun x y => x - x / y * y) x y) :: st) h) : Wg p l e R s m args below meth c D cI cG A Q nL as cells slots pc ls (I y :: I x :: st) h :=
  fun _ _ _ hP hD hS hl => lv_irem C.1 C.2.1 hd (fun q => h0 ((i32_eq hy inr_0).mp (by rw [q, i32_0]))) (Wg_i kk hP hD hS hl)
theorem g_ineg (C : Ctx p s m args meth c D cI cG k) {x : Int} (hd : decode (bM k) pc = .ok (.ineg, 1)) (kk : Wg p l e R s m args below meth c D cI cG A Q nL as cells slots (pc + 1) ls (I (w2 (fun x _ => -x) x 0) :: st) h) : Wg p l e R s m args below meth c D cI cG A Q nL as cells slots pc ls (I x :: st) h :=
  fun _ _ _ hP hD hS hl => lv_ineg C.1 C.2.1 hd (Wg_i kk hP hD hS hl)
theorem g_dup (C : Ctx p s m args meth c D cI cG k) {v : AV} (hd : decode (bM k) pc = .ok (.dup, 1)) (hv : isDb v = false) (kk : Wg p l e R s m args below meth c D cI cG A Q nL as cells slots (pc + 1) ls (v :: v :: st) h) : Wg p l e R s m args below meth c D cI cG A Q nL as cells slots pc ls (v :: st) h :=
  fun _ _ _ hP hD hS hl => lv_dup C.1 C.2.1 hd (cv_cat1 hv) (kk _ _ _ hP hD hS hl)
theorem g_pop (C : Ctx p s m args meth c D cI cG k) {v : AV} (hd : decode (bM k) pc = .ok (.pop, 1)) (hv : isDb v = false) (kk : Wg p l e R s m args below meth c D cI cG A Q nL as cells slots (pc + 1) ls st h) : Wg p l e R s m args below meth c D cI cG A Q nL as cells slots pc ls (v :: st) h :=
  fun _ _ _ hP hD hS hl => lv_pop C.1 C.2.1 hd (cv_cat1 hv) (kk _ _ _ hP hD hS hl)
theorem g_dup2 (C : Ctx p s m args meth c D cI cG k) {v u : AV} (hd : decode (bM k) pc = .ok (.dup2, 1)) (hv : isDb v = false) (hu : isDb u = false) (kk : Wg p l e R s m args below meth c D cI cG A Q nL as cells slots (pc + 1) ls (v :: u :: v :: u :: st) h) : Wg p l e R s m args below meth c D cI cG A Q nL as cells slots pc ls (v :: u :: st) h :=
  fun _ _ _ hP hD hS hl => lv_dup2_11 C.1 C.2.1 hd (cv_cat1 hv) (cv_cat1 hu) (kk _ _ _ hP hD hS hl)
theorem W_if {H : Heap} {locs : List Loc} {ls : Array Slot} {st : List Value} {t f : Nat} {b : Bool} (hk : W p l e R s m args below meth c H locs cells slots Q (F0 m (if b then t else f) ls st)) : (b = true → W p l e R s m args below meth c H locs cells slots Q (F0 m t ls st)) ∧ (b = false → W p l e R s m args below meth c H locs cells slots Q (F0 m f ls st)) := by
  constructor
  · intro q; subst q; exact hk
  · intro q; subst q; exact hk
theorem g_icmp (C : Ctx p s m args meth c D cI cG k) {x y : Int} {cn : ClassFile.Cond} {off : Int} (hd : decode (bM k) pc = .ok (.if_icmp cn off, 3)) (ht : tgB pc off = true) (hx : inr x) (hy : inr y) (kk : Wg p l e R s m args below meth c D cI cG A Q nL as cells slots (if cmpB cn x y then tgN pc off else pc + 3) ls st h) : Wg p l e R s m args below meth c D cI cG A Q nL as cells slots pc ls (I y :: I x :: st) h := by
  intro H locs lsA hP hD hS hl
  obtain ⟨k1, k2⟩ := W_if (kk H locs lsA hP hD hS hl)
  cases cn with
  | eq => exact lv_icmp_eq C.1 C.2.1 hd (tgN_ok ht) (fun q => k1 (decide_eq_true ((i32_eq hx hy).mp q))) (fun q => k2 (decide_eq_false (fun w => q ((i32_eq hx hy).mpr w))))
  | ne => exact lv_icmp_ne C.1 C.2.1 hd (tgN_ok ht) (fun q => k1 (decide_eq_true (fun w => q ((i32_eq hx hy).mpr w)))) (fun q => k2 (decide_eq_false (fun w => w ((i32_eq hx hy).mp q))))
  | lt => exact lv_icmp_lt C.1 C.2.1 hd (tgN_ok ht) (fun q => k1 (decide_eq_true ((i32_lt hx hy).mp q))) (fun q => k2 (decide_eq_false (fun w => q ((i32_lt hx hy).mpr w))))
  | ge => exact lv_icmp_ge C.1 C.2.1 hd (tgN_ok ht) (fun q => k1 (decide_eq_true ((i32_le hy hx).mp q))) (fun q => k2 (decide_eq_false (fun w => q ((i32_le hy hx).mpr w))))
  | gt => exact lv_icmp_gt C.1 C.2.1 hd (tgN_ok ht) (fun q => k1 (decide_eq_true ((i32_lt hy hx).mp q))) (fun q => k2 (decide_eq_false (fun w => q ((i32_lt hy hx).mpr w))))
  | le => exact lv_icmp_le C.1 C.2.1 hd (tgN_ok ht) (fun q => k1 (decide_eq_true ((i32_le hx hy).mp q))) (fun q => k2 (decide_eq_false (fun w => q ((i32_le hx hy).mpr w))))
theorem g_if (C : Ctx p s m args meth c D cI cG k) {x : Int} {cn : ClassFile.Cond} {off : Int} (hd : decode (bM k) pc = .ok (.ifCond cn off, 3)) (ht : tgB pc off = true) (hx : inr x) (kk : Wg p l e R s m args below meth c D cI cG A Q nL as cells slots (if cmpB cn x 0 then tgN pc off else pc + 3) ls st h) : Wg p l e R s m args below meth c D cI cG A Q nL as cells slots pc ls (I x :: st) h := by
  intro H locs lsA hP hD hS hl
  obtain ⟨k1, k2⟩ := W_if (kk H locs lsA hP hD hS hl)
  have e0 : (0 : Int32) = i32 0 := i32_0.symm
  have hy := inr_0
  cases cn with
  | eq => exact lv_if_eq C.1 C.2.1 hd (tgN_ok ht) (fun q => k1 (decide_eq_true ((i32_eq hx hy).mp (q.trans e0)))) (fun q => k2 (decide_eq_false (fun w => q (((i32_eq hx hy).mpr w).trans i32_0))))
  | ne => exact lv_if_ne C.1 C.2.1 hd (tgN_ok ht) (fun q => k1 (decide_eq_true (fun w => q (((i32_eq hx hy).mpr w).trans i32_0)))) (fun q => k2 (decide_eq_false (fun w => w ((i32_eq hx hy).mp (q.trans e0)))))
  | lt => exact lv_if_lt C.1 C.2.1 hd (tgN_ok ht) (fun q => k1 (decide_eq_true ((i32_lt hx hy).mp (by rw [i32_0]; exact q)))) (fun q => k2 (decide_eq_false (fun w => q (by have := (i32_lt hx hy).mpr w; rwa [i32_0] at this))))
  | ge => exact lv_if_ge C.1 C.2.1 hd (tgN_ok ht) (fun q => k1 (decide_eq_true ((i32_le hy hx).mp (by rw [i32_0]; exact q)))) (fun q => k2 (decide_eq_false (fun w => q (by have := (i32_le hy hx).mpr w; rwa [i32_0] at this))))
  | gt => exact lv_if_gt C.1 C.2.1 hd (tgN_ok ht) (fun q => k1 (decide_eq_true ((i32_lt hy hx).mp (by rw [i32_0]; exact q)))) (fun q => k2 (decide_eq_false (fun w => q (by have := (i32_lt hy hx).mpr w; rwa [i32_0] at this))))
  | le => exact lv_if_le C.1 C.2.1 hd (tgN_ok ht) (fun q => k1 (decide_eq_true ((i32_le hx hy).mp (by rw [i32_0]; exact q)))) (fun q => k2 (decide_eq_false (fun w => q (by have := (i32_le hx hy).mpr w; rwa [i32_0] at this))))
theorem g_ifnull (C : Ctx p s m args meth c D cI cG k) {r : Option Nat} {off : Int} (hd : decode (bM k) pc = .ok (.ifnull off, 3)) (ht : tgB pc off = true) (kk : Wg p l e R s m args below meth c D cI cG A Q nL as cells slots (match r with | none => tgN pc off | some _ => pc + 3) ls st h) : Wg p l e R s m args below meth c D cI cG A Q nL as cells slots pc ls (.inr (.inl r) :: st) h := by
  intro H locs lsA hP hD hS hl
  have h2 := kk H locs lsA hP hD hS hl
  cases r with
  | none => exact lv_ifnullN C.1 C.2.1 hd (tgN_ok ht) h2
  | some x => exact lv_ifnull C.1 C.2.1 hd h2
theorem g_ifnonnull (C : Ctx p s m args meth c D cI cG k) {r : Option Nat} {off : Int} (hd : decode (bM k) pc = .ok (.ifnonnull off, 3)) (ht : tgB pc off = true) (kk : Wg p l e R s m args below meth c D cI cG A Q nL as cells slots (match r with | none => pc + 3 | some _ => tgN pc off) ls st h) : Wg p l e R s m args below meth c D cI cG A Q nL as cells slots pc ls (.inr (.inl r) :: st) h := by
  intro H locs lsA hP hD hS hl
  have h2 := kk H locs lsA hP hD hS hl
  cases r with
  | none => exact lv_ifnonnullN C.1 C.2.1 hd h2
  | some x => exact lv_ifnonnull C.1 C.2.1 hd (tgN_ok ht) h2
theorem g_goto (C : Ctx p s m args meth c D cI cG k) {off : Int} (hd : decode (bM k) pc = .ok (.goto off, 3)) (ht : tgB pc off = true) (kk : Wg p l e R s m args below meth c D cI cG A Q nL as cells slots (tgN pc off) ls st h) : Wg p l e R s m args below meth c D cI cG A Q nL as cells slots pc ls st h :=
  fun _ _ _ hP hD hS hl => lv_goto C.1 C.2.1 hd (tgN_ok ht) (kk _ _ _ hP hD hS hl)
theorem g_tabOut (C : Ctx p s m args meth c D cI cG k) {d lo hi : Int} {offs : Array Int} {len : Nat} {x : Int} (hd : decode (bM k) pc = .ok (.tableswitch d lo hi offs, len)) (hx : inr x) (hq : x < lo ∨ hi < x) (ht : tgB pc d = true) (kk : Wg p l e R s m args below meth c D cI cG A Q nL as cells slots (tgN pc d) ls st h) : Wg p l e R s m args below meth c D cI cG A Q nL as cells slots pc ls (I x :: st) h :=
  fun _ _ _ hP hD hS hl => lv_tableOut (x := i32 x) C.1 C.2.1 hd (by rw [i32_toInt hx]; exact hq) (tgN_ok ht) (kk _ _ _ hP hD hS hl)
theorem g_tabIn (C : Ctx p s m args meth c D cI cG k) {d lo hi off : Int} {offs : Array Int} {len : Nat} {x : Int} (hd : decode (bM k) pc = .ok (.tableswitch d lo hi offs, len)) (hx : inr x) (hq : ¬ (x < lo ∨ hi < x)) (ho : offs[(x - lo).toNat]? = some off) (ht : tgB pc off = true) (kk : Wg p l e R s m args below meth c D cI cG A Q nL as cells slots (tgN pc off) ls st h) : Wg p l e R s m args below meth c D cI cG A Q nL as cells slots pc ls (I x :: st) h :=
  fun _ _ _ hP hD hS hl => lv_tableIn (x := i32 x) C.1 C.2.1 hd (by rw [i32_toInt hx]; exact fun w => hq (Or.inl w)) (by rw [i32_toInt hx]; exact fun w => hq (Or.inr w)) (by rw [i32_toInt hx]; exact ho) (tgN_ok ht) (kk _ _ _ hP hD hS hl)
theorem g_ldc (C : Ctx p s m args meth c D cI cG k) {idx a b pl : Nat} (hd : decode (bM k) pc = .ok (.ldc idx, 2)) (hc : chkO (mOs.getD k 0) (pc, .ldc idx, 2, a, b, pl) = true) (kk : Wg p l e R s m args below meth c D cI cG A Q nL as cells slots (pc + 2) ls (I (a : Int) :: st) h) : Wg p l e R s m args below meth c D cI cG A Q nL as cells slots pc ls st h :=
  fun H locs lsA hP hD hS hl => lv_ldc (v := i32 (a : Int)) C.1 C.2.1 C.2.2.2.1 (C.2.2.2.2.1 _ (lwG_in (isW_mem hc) rfl)) hd (kk H locs lsA hP hD hS hl)
theorem g_ldc2 (C : Ctx p s m args meth c D cI cG k) {idx a b pl : Nat} (hd : decode (bM k) pc = .ok (.ldc2_w idx, 3)) (hc : chkO (mOs.getD k 0) (pc, .ldc2_w idx, 3, a, b, pl) = true) (kk : Wg p l e R s m args below meth c D cI cG A Q nL as cells slots (pc + 3) ls (Lg (Int64.ofNat a) :: st) h) : Wg p l e R s m args below meth c D cI cG A Q nL as cells slots pc ls st h :=
  fun H locs lsA hP hD hS hl => lv_ldc2 (v := Int64.ofNat a) C.1 C.2.1 C.2.2.2.1 (C.2.2.2.2.1 _ (lwG_in (isW_mem hc) rfl)) hd (kk H locs lsA hP hD hS hl)
theorem g_lload_n (C : Ctx p s m args meth c D cI cG k) {i : Fin 4} {x : Int64} (hd : decode (bM k) pc = .ok (.lload_n i, 1)) (hi : ls[i.val]? = some (Lg x)) (hi2 : ls[i.val + 1]? = some (Db 0)) (kk : Wg p l e R s m args below meth c D cI cG A Q nL as cells slots (pc + 1) ls (Lg x :: st) h) : Wg p l e R s m args below meth c D cI cG A Q nL as cells slots pc ls st h :=
  fun H locs lsA hP hD hS hl => lv_lload_n C.1 C.2.1 hd rfl (lvl_atL hl hi hi2) (kk H locs lsA hP hD hS hl)
theorem g_lload (C : Ctx p s m args meth c D cI cG k) {i : Nat} {x : Int64} (hd : decode (bM k) pc = .ok (.lload i, 2)) (hi : ls[i]? = some (Lg x)) (hi2 : ls[i + 1]? = some (Db 0)) (kk : Wg p l e R s m args below meth c D cI cG A Q nL as cells slots (pc + 2) ls (Lg x :: st) h) : Wg p l e R s m args below meth c D cI cG A Q nL as cells slots pc ls st h :=
  fun H locs lsA hP hD hS hl => lv_lload C.1 C.2.1 hd (lvl_atL hl hi hi2) (kk H locs lsA hP hD hS hl)
theorem g_lstore_n (C : Ctx p s m args meth c D cI cG k) {i : Fin 4} {x : Int64} (hd : decode (bM k) pc = .ok (.lstore_n i, 1)) (hi : i.val + 1 < nL) (kk : Wg p l e R s m args below meth c D cI cG A Q nL as cells slots (pc + 1) ((ls.set i.val (Lg x)).set (i.val + 1) (Db 0)) st h) : Wg p l e R s m args below meth c D cI cG A Q nL as cells slots pc ls (Lg x :: st) h :=
  fun H locs lsA hP hD hS hl => lv_lstore_n C.1 C.2.1 hd rfl hl hi rfl (fun ls' hl' => kk H locs ls' hP hD hS (lvl_setL hl'))
theorem g_lstore (C : Ctx p s m args meth c D cI cG k) {i : Nat} {x : Int64} (hd : decode (bM k) pc = .ok (.lstore i, 2)) (hi : i + 1 < nL) (kk : Wg p l e R s m args below meth c D cI cG A Q nL as cells slots (pc + 2) ((ls.set i (Lg x)).set (i + 1) (Db 0)) st h) : Wg p l e R s m args below meth c D cI cG A Q nL as cells slots pc ls (Lg x :: st) h :=
  fun H locs lsA hP hD hS hl => lv_lstore C.1 C.2.1 hd hl hi rfl (fun ls' hl' => kk H locs ls' hP hD hS (lvl_setL hl'))
theorem g_i2l (C : Ctx p s m args meth c D cI cG k) {x : Int} (hd : decode (bM k) pc = .ok (.i2l, 1)) (kk : Wg p l e R s m args below meth c D cI cG A Q nL as cells slots (pc + 1) ls (Lg (i32 x).toInt64 :: st) h) : Wg p l e R s m args below meth c D cI cG A Q nL as cells slots pc ls (I x :: st) h :=
  fun H locs lsA hP hD hS hl => lv_i2l C.1 C.2.1 hd rfl (kk H locs lsA hP hD hS hl)
theorem g_ladd (C : Ctx p s m args meth c D cI cG k) {x y : Int64} (hd : decode (bM k) pc = .ok (.ladd, 1)) (kk : Wg p l e R s m args below meth c D cI cG A Q nL as cells slots (pc + 1) ls (Lg (x + y) :: st) h) : Wg p l e R s m args below meth c D cI cG A Q nL as cells slots pc ls (Lg y :: Lg x :: st) h :=
  fun H locs lsA hP hD hS hl => lv_ladd C.1 C.2.1 hd (kk H locs lsA hP hD hS hl)
theorem g_lmul (C : Ctx p s m args meth c D cI cG k) {x y : Int64} (hd : decode (bM k) pc = .ok (.lmul, 1)) (kk : Wg p l e R s m args below meth c D cI cG A Q nL as cells slots (pc + 1) ls (Lg (x * y) :: st) h) : Wg p l e R s m args below meth c D cI cG A Q nL as cells slots pc ls (Lg y :: Lg x :: st) h :=
  fun H locs lsA hP hD hS hl => lv_lmul C.1 C.2.1 hd (kk H locs lsA hP hD hS hl)
theorem g_lcmp (C : Ctx p s m args meth c D cI cG k) {x y : Int64} (hd : decode (bM k) pc = .ok (.lcmp, 1)) (kk : Wg p l e R s m args below meth c D cI cG A Q nL as cells slots (pc + 1) ls (I (lg_cmp x y).toInt :: st) h) : Wg p l e R s m args below meth c D cI cG A Q nL as cells slots pc ls (Lg y :: Lg x :: st) h := by
  intro H locs lsA hP hD hS hl
  have h2 := kk H locs lsA hP hD hS hl
  simp only [List.map_cons, cv, i32_of] at h2
  exact W.lcmp C.1 C.2.1 hd h2
end Steps
