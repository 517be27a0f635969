/-! ===== AN ABSTRACT MACHINE: values, objects, a heap as a list; one step; runs with fuel ===== -/
/-- a value: a whole number, a reference (by its place in the heap) or null, a long (its second place, and what is unset: none) -/
abbrev AV : Type := Int ⊕ (Option Nat ⊕ Option Int64)
/-- an object: its kind (the class's place in vwCl; 100: a row of ints; 101: a row of references) and its cells -/
abbrev AO : Type := Nat × List AV
abbrev AH : Type := List AO
abbrev I (z : Int) : AV := Sum.inl z
abbrev Rf (i : Nat) : AV := Sum.inr (Sum.inl (some i))
abbrev Nu : AV := Sum.inr (Sum.inl none)
abbrev Db (_ : Nat) : AV := Sum.inr (Sum.inr none)
abbrev Lg (x : Int64) : AV := Sum.inr (Sum.inr (some x))
def i32 (z : Int) : Int32 := Int32.ofInt z
def inr (z : Int) : Prop := -2147483648 ≤ z ∧ z ≤ 2147483647
def inrB (z : Int) : Bool := decide (-2147483648 ≤ z) && decide (z ≤ 2147483647)
theorem inrB_iff {z : Int} : inrB z = true ↔ inr z := by simp [inrB, inr]
def w2 (f : Int32 → Int32 → Int32) (x y : Int) : Int := (f (i32 x) (i32 y)).toInt
def cmpB (c : ClassFile.Cond) (x y : Int) : Bool := match c with
  | .eq => decide (x = y) | .ne => decide (x ≠ y) | .lt => decide (x < y) | .ge => decide (y ≤ x) | .gt => decide (y < x) | .le => decide (x ≤ y)
def tgN (pc : Nat) (off : Int) : Nat := ((pc : Int) + off).toNat
def tgB (pc : Nat) (off : Int) : Bool := decide (0 ≤ (pc : Int) + off)
abbrev ASt : Type := Nat × List AV × List AV × AH
def stI (ls : List AV) (i : Nat) (pc : Nat) (st : List AV) (h : AH) : Option ASt := match ls[i]? with
  | some (.inl z) => some (pc, ls, I z :: st, h) | _ => none
def stA (ls : List AV) (i : Nat) (pc : Nat) (st : List AV) (h : AH) : Option ASt := match ls[i]? with
  | some (.inr (.inl r)) => some (pc, ls, .inr (.inl r) :: st, h) | _ => none
def ssI (ls : List AV) (i : Nat) (pc : Nat) (st : List AV) (h : AH) : Option ASt := match st with
  | .inl z :: st => if i < ls.length then some (pc, ls.set i (I z), st, h) else none | _ => none
def ssA (ls : List AV) (i : Nat) (pc : Nat) (st : List AV) (h : AH) : Option ASt := match st with
  | .inr (.inl r) :: st => if i < ls.length then some (pc, ls.set i (.inr (.inl r)), st, h) else none | _ => none
def stL (ls : List AV) (i : Nat) (pc : Nat) (st : List AV) (h : AH) : Option ASt := match ls[i]?, ls[i + 1]? with
  | some (.inr (.inr (some x))), some (.inr (.inr none)) => some (pc, ls, Lg x :: st, h) | _, _ => none
def ssL (ls : List AV) (i : Nat) (pc : Nat) (st : List AV) (h : AH) : Option ASt := match st with
  | .inr (.inr (some x)) :: st => if i + 1 < ls.length then some (pc, (ls.set i (Lg x)).set (i + 1) (Db 0), st, h) else none | _ => none
def sbin (f : Int32 → Int32 → Int32) (pc : Nat) (ls st : List AV) (h : AH) : Option ASt := match st with
  | .inl y :: .inl x :: st => some (pc, ls, I (w2 f x y) :: st, h) | _ => none
def sdiv (f : Int32 → Int32 → Int32) (pc : Nat) (ls st : List AV) (h : AH) : Option ASt := match st with
  | .inl y :: .inl x :: st => if y ≠ 0 then some (pc, ls, I (w2 f x y) :: st, h) else none | _ => none
/-- a field's type takes a value -/
def fitV (ty : FieldType) (v : AV) : Bool := match ty, v with
  | .int, .inl _ => true
  | .boolean, .inl z => decide (z = 0) || decide (z = 1)
  | .object _, .inr (.inl _) => true
  | .array _, .inr (.inl _) => true
  | _, _ => false
def dfV (ty : FieldType) : AV := match ty with
  | .object _ => Nu | .array _ => Nu | _ => I 0
def tysL : List (Nat → FieldType) := [tyX0, tyX1, tyX2, tyX3, tyX4, tyX5, tyX7, tyX8]
def tyC (ci : Nat) : Nat → FieldType := tysL.getD ci (fun _ => .int)
def nC (ci : Nat) : Nat := match vwCl[ci]? with | some q => q.2.2 | none => 0
def finC (ci k : Nat) : Bool := match vwCl[ci]? with | some q => (q.2.1 k).2.2.2 | none => false
/-- one step of what is no call and no return; b: whether the method is a constructor -/
def ast (ini : Bool) (e : AE) (ls st : List AV) (h : AH) : Option ASt :=
  let pc := e.1
  let a := e.2.2.2.1
  let b := e.2.2.2.2.1
  match e.2.1 with
  | .iconst n => if inrB n then some (pc + 1, ls, I n :: st, h) else none
  | .bipush n => if inrB n && decide ((Int8.ofInt n).toInt32 = i32 n) then some (pc + 2, ls, I n :: st, h) else none
  | .sipush n => if inrB n && decide ((Int16.ofInt n).toInt32 = i32 n) then some (pc + 3, ls, I n :: st, h) else none
  | .aconst_null => some (pc + 1, ls, Nu :: st, h)
  | .iload_n k => stI ls k.val (pc + 1) st h
  | .iload i => stI ls i (pc + 2) st h
  | .aload_n k => stA ls k.val (pc + 1) st h
  | .aload i => stA ls i (pc + 2) st h
  | .istore_n k => ssI ls k.val (pc + 1) st h
  | .istore i => ssI ls i (pc + 2) st h
  | .astore_n k => ssA ls k.val (pc + 1) st h
  | .iinc i n => match ls[i]? with
    | some (.inl z) => some (pc + 3, ls.set i (I (w2 (· + ·) z n)), st, h) | _ => none
  | .iadd => sbin (· + ·) (pc + 1) ls st h
  | .isub => sbin (· - ·) (pc + 1) ls st h
  | .imul => sbin (· * ·) (pc + 1) ls st h
  | .iand => sbin (· &&& ·) (pc + 1) ls st h
  | .ior => sbin (· ||| ·) (pc + 1) ls st h
  | .ishl => sbin (fun x y => x <<< (y &&& 31)) (pc + 1) ls st h
  | .ishr => sbin (fun x y => x >>> (y &&& 31)) (pc + 1) ls st h
  | .idiv => sdiv (· / ·) (pc + 1) ls st h
  | .irem => sdiv (fun x y => x - x / y * y) (pc + 1) ls st h
  | .ineg => match st with
    | .inl x :: st => some (pc + 1, ls, I (w2 (fun x _ => -x) x 0) :: st, h) | _ => none
  | .dup => match st with
    | .inr (.inr _) :: _ => none
    | v :: st => some (pc + 1, ls, v :: v :: st, h) | _ => none
  | .pop => match st with
    | .inr (.inr _) :: _ => none
    | _ :: st => some (pc + 1, ls, st, h) | _ => none
  | .dup2 => match st with
    | .inr (.inr _) :: _ => none
    | _ :: .inr (.inr _) :: _ => none
    | v :: u :: st => some (pc + 1, ls, v :: u :: v :: u :: st, h) | _ => none
  | .ifCond c off => match st with
    | .inl x :: st => if tgB pc off then some (if cmpB c x 0 then tgN pc off else pc + 3, ls, st, h) else none | _ => none
  | .if_icmp c off => match st with
    | .inl y :: .inl x :: st => if tgB pc off then some (if cmpB c x y then tgN pc off else pc + 3, ls, st, h) else none | _ => none
  | .ifnull off => match st with
    | .inr (.inl r) :: st => if tgB pc off then some (match r with | none => tgN pc off | some _ => pc + 3, ls, st, h) else none | _ => none
  | .ifnonnull off => match st with
    | .inr (.inl r) :: st => if tgB pc off then some (match r with | none => pc + 3 | some _ => tgN pc off, ls, st, h) else none | _ => none
  | .goto off => if tgB pc off then some (tgN pc off, ls, st, h) else none
  | .tableswitch d lo hi offs => match st with
    | .inl x :: st =>
      if x < lo ∨ hi < x then (if tgB pc d then some (tgN pc d, ls, st, h) else none)
      else match offs[(x - lo).toNat]? with
        | some off => if tgB pc off then some (tgN pc off, ls, st, h) else none
        | none => none
    | _ => none
  | .getfield _ => match st with
    | .inr (.inl (some i)) :: st => match h[i]? with
      | some (c, fs) => if c = a then (match fs[b]? with | some v => some (pc + 3, ls, v :: st, h) | none => none) else none
      | none => none
    | _ => none
  | .putfield _ => match st with
    | v :: .inr (.inl (some i)) :: st => match h[i]? with
      | some (c, fs) => if c = a ∧ b < fs.length ∧ fitV (tyC a b) v = true ∧ (finC a b = true → ini = true) then some (pc + 3, ls, st, h.set i (c, fs.set b v)) else none
      | none => none
    | _ => none
  | .iaload => match st with
    | .inl z :: .inr (.inl (some i)) :: st => match h[i]? with
      | some (c, fs) => if c = 100 ∧ 0 ≤ z then (match fs[z.toNat]? with | some (.inl x) => some (pc + 1, ls, I x :: st, h) | _ => none) else none
      | none => none
    | _ => none
  | .iastore => match st with
    | .inl x :: .inl z :: .inr (.inl (some i)) :: st => match h[i]? with
      | some (c, fs) => if c = 100 ∧ 0 ≤ z ∧ z.toNat < fs.length then some (pc + 1, ls, st, h.set i (c, fs.set z.toNat (I x))) else none
      | none => none
    | _ => none
  | .aaload => match st with
    | .inl z :: .inr (.inl (some i)) :: st => match h[i]? with
      | some (c, fs) => if c = 101 ∧ 0 ≤ z then (match fs[z.toNat]? with | some (.inr (.inl r)) => some (pc + 1, ls, .inr (.inl r) :: st, h) | _ => none) else none
      | none => none
    | _ => none
  | .aastore => match st with
    | .inr (.inl (some v)) :: .inl z :: .inr (.inl (some i)) :: st => match h[i]?, h[v]? with
      | some (c, fs), some (c2, _) => if c = 101 ∧ c2 = 1 ∧ 0 ≤ z ∧ z.toNat < fs.length then some (pc + 1, ls, st, h.set i (c, fs.set z.toNat (Rf v))) else none
      | _, _ => none
    | _ => none
  | .arraylength => match st with
    | .inr (.inl (some i)) :: st => match h[i]? with
      | some (c, fs) => if (c = 100 ∨ c = 101) ∧ fs.length ≤ 1000000 then some (pc + 1, ls, I (fs.length : Int) :: st, h) else none
      | none => none
    | _ => none
  | .ldc _ => if inrB a then some (pc + 2, ls, I (a : Int) :: st, h) else none
  | .ldc2_w _ => some (pc + 3, ls, Lg (Int64.ofNat a) :: st, h)
  | .lload_n k => stL ls k.val (pc + 1) st h
  | .lload i => stL ls i (pc + 2) st h
  | .lstore_n k => ssL ls k.val (pc + 1) st h
  | .lstore i => ssL ls i (pc + 2) st h
  | .i2l => match st with
    | .inl x :: st => some (pc + 1, ls, Lg (i32 x).toInt64 :: st, h) | _ => none
  | .ladd => match st with
    | .inr (.inr (some y)) :: .inr (.inr (some x)) :: st => some (pc + 1, ls, Lg (x + y) :: st, h) | _ => none
  | .lmul => match st with
    | .inr (.inr (some y)) :: .inr (.inr (some x)) :: st => some (pc + 1, ls, Lg (x * y) :: st, h) | _ => none
  | .lcmp => match st with
    | .inr (.inr (some y)) :: .inr (.inr (some x)) :: st => some (pc + 1, ls, I (lg_cmp x y).toInt :: st, h) | _ => none
  | .new _ => if ini then some (pc + 3, ls, Rf h.length :: st, h ++ [(a, (List.range (nC a)).map fun k => dfV (tyC a k))]) else none
  | .newarray t => match st with
    | .inl n :: st => if ini = true ∧ t = .int ∧ 0 ≤ n ∧ n ≤ 1000000 then some (pc + 2, ls, Rf h.length :: st, h ++ [(100, List.replicate n.toNat (I 0))]) else none
    | _ => none
  | .anewarray _ => match st with
    | .inl n :: st => if ini = true ∧ a = 1 ∧ 0 ≤ n ∧ n ≤ 1000000 then some (pc + 3, ls, Rf h.length :: st, h ++ [(101, List.replicate n.toNat Nu)]) else none
    | _ => none
  | _ => none
def cd (k pc : Nat) : Option AE := (codes.getD k []).find? (fun e => e.1 == pc)
def maxl (k : Nat) : Nat := mLs.getD k 0
def nar (k : Nat) : Nat := mNs.getD k 0
def ownR (k : Nat) : String := oNs.getD (mOs.getD k 0) ""
def yM (k : Nat) : MethodName := mYs.getD k ⟨"", "", ""⟩
def bM (k : Nat) : ByteArray := mBs.getD k code
def rM (k : Nat) : Option FieldType := mRs.getD k none
def dpM (k : Nat) : Nat := mDs.getD k 0
def lcM (k : Nat) : Nat := mWs.getD k 0
def stM (k : Nat) : Bool := mSs.getD k false
def isI (k : Nat) : Bool := (yM k).name == "<init>"
/-- the locals with which a method begins: the arguments, then unset places -/
def loc0 (k : Nat) (as : List AV) : List AV := as ++ List.replicate (maxl k - as.length) (Db 0)
def noDb (as : List AV) : Bool := as.all fun v => match v with | .inr (.inr _) => false | _ => true
def restOk (rest : List AV) : Bool := decide (rest.length ≤ 4) || (noDb rest && decide (rest.length ≤ 8))
/-- what a call wants: place in the frames and the locals' words, few values left on the stack -/
def callOk (k k' : Nat) (rest : List AV) : Bool := decide (dpM k' + 1 ≤ dpM k) && decide (8 + (maxl k' + 11) + lcM k' ≤ lcM k) && restOk rest && decide (nar k' ≤ maxl k') && decide (k' < 117)
def clsOk (h : AH) (k' : Nat) (v : Option AV) : Bool := match v with
  | some (.inr (.inl (some i))) => match h[i]? with
    | some (c, _) => match vwCl[c]? with | some q => decide (q.1 = (yM k').cls) | none => false
    | none => false
  | _ => false
/-- a call's arguments taken off the stack (the first one first), and what is left -/
def popA (n : Nat) (st : List AV) : Option (List AV × List AV) := if n ≤ st.length then some ((st.take n).reverse, st.drop n) else none
def retOk (k : Nat) (st : List AV) (i : Instr) : Option (Option AV) := match i, st, rM k with
  | .return_, [], none => some none
  | .ireturn, [.inl z], some .int => some (some (I z))
  | .ireturn, [.inl z], some .boolean => if z = 0 ∨ z = 1 then some (some (I z)) else none
  | .areturn, [.inr (.inl r)], some (.object _) => some (some (.inr (.inl r)))
  | .lreturn, [.inr (.inr (some x))], some .long => some (some (Lg x))
  | _, _, _ => none
/-- Math.abs, max, min of ints -/
def mathB (a : Nat) (st : List AV) : Option (AV × List AV) := match st with
  | .inl y :: st => if a = 900 then some (I (if 0 ≤ y then y else w2 (· - ·) 0 y), st) else match st with
    | .inl x :: st => if a = 901 then some (I (if x < y then y else x), st) else if a = 902 then some (I (if y < x then y else x), st) else none
    | _ => none
  | _ => none
/-- runs with fuel -/
def arun : Nat → Nat → Nat → List AV → List AV → AH → Option (Option AV × AH)
  | 0, _, _, _, _, _ => none
  | n + 1, k, pc, ls, st, h => match cd k pc with
    | none => none
    | some e =>
      match ast (isI k) e ls st h with
      | some (pc', ls', st', h') => arun n k pc' ls' st' h'
      | none => match e.2.1 with
        | .invokevirtual _ => match popA (nar e.2.2.2.1) st with
          | some (as, rest) => if callOk k e.2.2.2.1 rest && clsOk h e.2.2.2.1 as[0]? && noDb as && !(stM e.2.2.2.1) && !(isI e.2.2.2.1) then
              match arun n e.2.2.2.1 0 (loc0 e.2.2.2.1 as) [] h with
              | some (r, h') => if h'.length = h.length then arun n k (pc + 3) ls (r.toList ++ rest) h' else none
              | none => none
            else none
          | none => none
        | .invokestatic _ => if 900 ≤ e.2.2.2.1 then (match mathB e.2.2.2.1 st with
          | some (v, rest) => if rest.length ≤ 4 ∧ 1 ≤ dpM k ∧ 21 ≤ lcM k then arun n k (pc + 3) ls (v :: rest) h else none
          | none => none) else
          match popA (nar e.2.2.2.1) st with
          | some (as, rest) => if callOk k e.2.2.2.1 rest && noDb as && stM e.2.2.2.1 then
              match arun n e.2.2.2.1 0 (loc0 e.2.2.2.1 as) [] h with
              | some (r, h') => if h'.length = h.length then arun n k (pc + 3) ls (r.toList ++ rest) h' else none
              | none => none
            else none
          | none => none
        | .invokespecial _ => if e.2.2.2.1 = 999 then
            match st with
            | .inr (.inl (some _)) :: rest => if rest.length ≤ 4 ∧ 1 ≤ dpM k ∧ 20 ≤ lcM k then arun n k (pc + 3) ls rest h else none
            | _ => none
          else match popA (nar e.2.2.2.1) st with
          | some (as, rest) => if callOk k e.2.2.2.1 rest && clsOk h e.2.2.2.1 as[0]? && noDb as && !(stM e.2.2.2.1) && isI e.2.2.2.1 && isI k then
              match arun n e.2.2.2.1 0 (loc0 e.2.2.2.1 as) [] h with
              | some (r, h') => if r.isNone then arun n k (pc + 3) ls rest h' else none
              | none => none
            else none
          | none => none
        | i => match retOk k st i with
          | some r => some (r, h)
          | none => none
