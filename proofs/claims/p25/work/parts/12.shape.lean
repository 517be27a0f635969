/-! ===== the objects of a run: their kinds, lengths, and references (made by wip/p25/gen12.py) ===== -/
def NN : Nat := 149
def kdL : List Nat := [7, 1, 5, 6, 100, 0, 6, 100, 6, 100, 6, 100, 6, 100, 6, 100, 6, 100, 6, 100, 6, 100, 6, 100, 1, 5, 6, 100, 0, 6, 100, 6, 100, 6, 100, 6, 100, 6, 100, 6, 100, 6, 100, 6, 100, 6, 100, 2, 101, 1, 5, 6, 100, 0, 6, 100, 6, 100, 6, 100, 6, 100, 6, 100, 6, 100, 6, 100, 6, 100, 6, 100, 1, 5, 6, 100, 0, 6, 100, 6, 100, 6, 100, 6, 100, 6, 100, 6, 100, 6, 100, 6, 100, 6, 100, 1, 5, 6, 100, 0, 6, 100, 6, 100, 6, 100, 6, 100, 6, 100, 6, 100, 6, 100, 6, 100, 6, 100, 1, 5, 6, 100, 0, 6, 100, 6, 100, 6, 100, 6, 100, 6, 100, 6, 100, 6, 100, 6, 100, 6, 100, 4, 6, 100, 3, 6, 100, 6, 100]
def lnL : List Nat := [8, 10, 2, 1, 17, 9, 1, 4, 1, 4, 1, 4, 1, 4, 1, 24, 1, 4, 1, 4, 1, 4, 1, 16, 10, 2, 1, 17, 9, 1, 4, 1, 4, 1, 4, 1, 4, 1, 24, 1, 4, 1, 4, 1, 4, 1, 16, 2, 4, 10, 2, 1, 17, 9, 1, 4, 1, 4, 1, 4, 1, 4, 1, 24, 1, 4, 1, 4, 1, 4, 1, 16, 10, 2, 1, 17, 9, 1, 4, 1, 4, 1, 4, 1, 4, 1, 24, 1, 4, 1, 4, 1, 4, 1, 16, 10, 2, 1, 17, 9, 1, 4, 1, 4, 1, 4, 1, 4, 1, 24, 1, 4, 1, 4, 1, 4, 1, 16, 10, 2, 1, 17, 9, 1, 4, 1, 4, 1, 4, 1, 4, 1, 24, 1, 4, 1, 4, 1, 4, 1, 16, 2, 1, 60, 2, 1, 17, 1, 17]
def rfL : List (List (Option Nat)) := [[some 1, some 24, some 47, some 141, some 144, none, none, none], [some 2, some 5, some 22, none, none, none, none, none, none, none], [some 3, none], [some 4], [], [some 6, some 8, some 10, some 12, some 14, some 16, some 18, some 20, none], [some 7], [], [some 9], [], [some 11], [], [some 13], [], [some 15], [], [some 17], [], [some 19], [], [some 21], [], [some 23], [], [some 25, some 28, some 45, none, none, none, none, none, none, none], [some 26, none], [some 27], [], [some 29, some 31, some 33, some 35, some 37, some 39, some 41, some 43, none], [some 30], [], [some 32], [], [some 34], [], [some 36], [], [some 38], [], [some 40], [], [some 42], [], [some 44], [], [some 46], [], [some 48, none], [], [some 50, some 53, some 70, none, none, none, none, none, none, none], [some 51, none], [some 52], [], [some 54, some 56, some 58, some 60, some 62, some 64, some 66, some 68, none], [some 55], [], [some 57], [], [some 59], [], [some 61], [], [some 63], [], [some 65], [], [some 67], [], [some 69], [], [some 71], [], [some 73, some 76, some 93, none, none, none, none, none, none, none], [some 74, none], [some 75], [], [some 77, some 79, some 81, some 83, some 85, some 87, some 89, some 91, none], [some 78], [], [some 80], [], [some 82], [], [some 84], [], [some 86], [], [some 88], [], [some 90], [], [some 92], [], [some 94], [], [some 96, some 99, some 116, none, none, none, none, none, none, none], [some 97, none], [some 98], [], [some 100, some 102, some 104, some 106, some 108, some 110, some 112, some 114, none], [some 101], [], [some 103], [], [some 105], [], [some 107], [], [some 109], [], [some 111], [], [some 113], [], [some 115], [], [some 117], [], [some 119, some 122, some 139, none, none, none, none, none, none, none], [some 120, none], [some 121], [], [some 123, some 125, some 127, some 129, some 131, some 133, some 135, some 137, none], [some 124], [], [some 126], [], [some 128], [], [some 130], [], [some 132], [], [some 134], [], [some 136], [], [some 138], [], [some 140], [], [some 142, none], [some 143], [], [some 145, some 147], [some 146], [], [some 148], []]
def kd (i : Nat) : Nat := kdL.getD i 999
def ln (i : Nat) : Nat := lnL.getD i 0
def RF (i j : Nat) : Option Nat := (rfL.getD i []).getD j none
def rfd (i j : Nat) : Nat := (RF i j).getD 0
abbrev Mem : Type := Nat → Nat → Int
abbrev PMem : Type := Nat → Nat
def vl (M : Mem) (P : PMem) (i j : Nat) : AV := match RF i j with
  | some r => Rf r
  | none => if kd i = 101 then Rf (P j) else I (M i j)
def obM (M : Mem) (P : PMem) (i : Nat) : AO := (kd i, (List.range (ln i)).map (vl M P i))
def Hp (M : Mem) (P : PMem) : AH := (List.range NN).map (obM M P)
def wr (M : Mem) (i j : Nat) (z : Int) : Mem := fun a b => if a = i ∧ b = j then z else M a b
def upP (P : PMem) (j v : Nat) : PMem := fun a => if a = j then v else P a
theorem Hp_len (M : Mem) (P : PMem) : (Hp M P).length = NN := by simp [Hp]
theorem kd_lt {i : Nat} (h : kd i ≠ 999) : i < NN := by
  refine Nat.lt_of_not_le fun q => h ?_
  unfold kd
  rw [List.getD_eq_getElem?_getD, List.getElem?_eq_none (by exact q)]
  rfl
theorem Hp_get {M : Mem} {P : PMem} {i : Nat} (h : i < NN) : (Hp M P)[i]? = some (obM M P i) := by
  simp [Hp, h]
theorem ob_get {M : Mem} {P : PMem} {i j : Nat} (h : j < ln i) : ((List.range (ln i)).map (vl M P i))[j]? = some (vl M P i j) := by
  simp [h]
def shpB (i : Nat) : Bool := if kd i < 8 then decide (ln i = nC (kd i)) && (List.range (ln i)).all (fun f => decide ((RF i f).isSome = !(match tyC (kd i) f with | .int => true | .boolean => true | _ => false))) else decide ((rfL.getD i []) = []) && decide (kd i = 100 ∨ (kd i = 101 ∧ i = 48))
theorem shpB_all : ∀ i, i < NN → shpB i = true := by decide +kernel
def isIn (ci f : Nat) : Bool := match tyC ci f with | .int => true | .boolean => true | _ => false
theorem shp_obj {i f : Nat} (h9 : kd i < 8) (hf : f < nC (kd i)) : f < ln i ∧ (RF i f).isSome = !(isIn (kd i) f) := by
  have h := shpB_all i (kd_lt (by omega))
  unfold shpB at h
  rw [if_pos h9] at h
  simp only [Bool.and_eq_true, decide_eq_true_eq, List.all_eq_true] at h
  have h1 : f < ln i := by rw [h.1]; exact hf
  exact ⟨h1, h.2 f (List.mem_range.mpr h1)⟩
theorem shp_arr {i : Nat} (h : kd i = 100) (j : Nat) : RF i j = none := by
  have h1 := shpB_all i (kd_lt (by omega))
  unfold shpB at h1
  rw [if_neg (by omega)] at h1
  simp only [Bool.and_eq_true, decide_eq_true_eq] at h1
  unfold RF
  rw [h1.1]
  rfl
theorem shp_ref {i : Nat} (h : kd i = 101) : i = 48 := by
  have h1 := shpB_all i (kd_lt (by omega))
  unfold shpB at h1
  rw [if_neg (by omega)] at h1
  simp only [Bool.and_eq_true, decide_eq_true_eq] at h1
  omega
theorem RF48 (j : Nat) : RF 48 j = none := rfl
theorem vl_int {M : Mem} {P : PMem} {i j : Nat} (h : kd i ≠ 101) (hr : RF i j = none) : vl M P i j = I (M i j) := by
  unfold vl
  rw [hr]
  simp only []
  rw [if_neg h]
theorem Hp_set {M : Mem} {P : PMem} {i j : Nat} {z : Int} (h : kd i ≠ 101) (hr : RF i j = none) : (Hp M P).set i (kd i, ((List.range (ln i)).map (vl M P i)).set j (I z)) = Hp (wr M i j z) P := by
  apply List.ext_getElem?
  intro a
  by_cases ha : a < NN
  · rw [Hp_get ha]
    by_cases hia : i = a
    · subst hia
      rw [List.getElem?_set_self (by rw [Hp_len]; exact ha)]
      unfold obM
      congr 2
      apply List.ext_getElem?
      intro b
      by_cases hb : b < ln i
      · by_cases hjb : j = b
        · subst hjb
          rw [List.getElem?_set_self (by simp [hb]), ob_get hb, vl_int h hr]
          simp [wr]
        · rw [List.getElem?_set_ne hjb, ob_get hb, ob_get hb]
          unfold vl
          cases RF i b with
          | some r => rfl
          | none =>
            simp only []
            rw [if_neg h, if_neg h]
            simp [wr, Ne.symm hjb]
      · rw [List.getElem?_eq_none (by simp; omega), List.getElem?_eq_none (by simp; omega)]
    · rw [List.getElem?_set_ne hia, Hp_get ha]
      unfold obM
      congr 2
      apply List.map_congr_left
      intro b _
      unfold vl
      cases RF a b with
      | some r => rfl
      | none =>
        simp only []
        split
        · rfl
        · simp [wr, Ne.symm hia]
  · rw [List.getElem?_eq_none (by rw [List.length_set, Hp_len]; omega), List.getElem?_eq_none (by rw [Hp_len]; omega)]
theorem Hp_setP {M : Mem} {P : PMem} {j v : Nat} : (Hp M P).set 48 (101, ((List.range (ln 48)).map (vl M P 48)).set j (Rf v)) = Hp M (upP P j v) := by
  apply List.ext_getElem?
  intro a
  by_cases ha : a < NN
  · rw [Hp_get ha]
    by_cases hia : 48 = a
    · subst hia
      rw [List.getElem?_set_self (by rw [Hp_len]; exact ha)]
      show some (101, _) = some (101, _)
      congr 2
      apply List.ext_getElem?
      intro b
      by_cases hb : b < ln 48
      · by_cases hjb : j = b
        · subst hjb
          rw [List.getElem?_set_self (by simp [hb]), ob_get hb]
          show some (Rf v) = some (Rf (upP P j v j))
          simp [upP]
        · rw [List.getElem?_set_ne hjb, ob_get hb, ob_get hb]
          show some (Rf (P b)) = some (Rf (upP P j v b))
          simp [upP, Ne.symm hjb]
      · rw [List.getElem?_eq_none (by simp; omega), List.getElem?_eq_none (by simp; omega)]
    · rw [List.getElem?_set_ne hia, Hp_get ha]
      unfold obM
      congr 2
      apply List.map_congr_left
      intro b _
      unfold vl
      cases RF a b with
      | some r => rfl
      | none =>
        simp only []
        split
        · rename_i hk
          exact absurd (shp_ref hk).symm hia
        · rfl
  · rw [List.getElem?_eq_none (by rw [List.length_set, Hp_len]; omega), List.getElem?_eq_none (by rw [Hp_len]; omega)]
/-! the arithmetic of 32 bits, by names -/
def ad (x y : Int) : Int := w2 (· + ·) x y
def sb (x y : Int) : Int := w2 (· - ·) x y
def ml (x y : Int) : Int := w2 (· * ·) x y
def an (x y : Int) : Int := w2 (· &&& ·) x y
def orr (x y : Int) : Int := w2 (· ||| ·) x y
def shl (x y : Int) : Int := w2 (fun x y => x <<< (y &&& 31)) x y
def shr (x y : Int) : Int := w2 (fun x y => x >>> (y &&& 31)) x y
def dv (x y : Int) : Int := w2 (· / ·) x y
def rm (x y : Int) : Int := w2 (fun x y => x - x / y * y) x y
/-! the steps over Hp M P -/
section Ev
variable {k pc idx p : Nat} {M : Mem} {P : PMem} {ls st : List AV}
def okIn (ci f : Nat) : Bool := decide (ci < 8) && decide (f < nC ci) && isIn ci f
def okRf (ci f : Nat) : Bool := decide (ci < 8) && decide (f < nC ci) && !(isIn ci f)
theorem e_getI {i ci f : Nat} (hc : cd k pc = some (pc, .getfield idx, 3, ci, f, p)) (ho : okIn ci f = true) (hk : kd i = ci) : evL k pc ls (Rf i :: st) (Hp M P) = evL k (pc + 3) ls (I (M i f) :: st) (Hp M P) := by
  subst hk
  unfold okIn at ho
  simp only [Bool.and_eq_true, decide_eq_true_eq] at ho
  obtain ⟨⟨h9, hf⟩, hi⟩ := ho
  obtain ⟨h1, h2⟩ := shp_obj h9 hf
  rw [hi] at h2
  have h3 : RF i f = none := by simpa using h2
  refine ev_go hc ?_
  unfold ast
  simp only [Hp_get (kd_lt (show kd i ≠ 999 by omega)), obM, if_true, ob_get h1, vl_int (show kd i ≠ 101 by omega) h3]
theorem e_getR {i ci f : Nat} (hc : cd k pc = some (pc, .getfield idx, 3, ci, f, p)) (ho : okRf ci f = true) (hk : kd i = ci) : evL k pc ls (Rf i :: st) (Hp M P) = evL k (pc + 3) ls (Rf (rfd i f) :: st) (Hp M P) := by
  subst hk
  unfold okRf at ho
  simp only [Bool.and_eq_true, decide_eq_true_eq, Bool.not_eq_true'] at ho
  obtain ⟨⟨h9, hf⟩, hi⟩ := ho
  obtain ⟨h1, h2⟩ := shp_obj h9 hf
  rw [hi] at h2
  obtain ⟨r, h3⟩ := Option.isSome_iff_exists.mp (show (RF i f).isSome = true from h2)
  refine ev_go hc ?_
  have h4 : vl M P i f = Rf (rfd i f) := by unfold vl rfd; rw [h3]; rfl
  unfold ast
  simp only [Hp_get (kd_lt (show kd i ≠ 999 by omega)), obM, if_true, ob_get h1, h4]
def okPt (k ci f : Nat) : Bool := decide (ci < 8) && decide (f < nC ci) && (match tyC ci f with | .int => true | _ => false) && !(finC ci f)
theorem e_putI {i ci f : Nat} {z : Int} (hc : cd k pc = some (pc, .putfield idx, 3, ci, f, p)) (ho : okPt k ci f = true) (hk : kd i = ci) : evL k pc ls (I z :: Rf i :: st) (Hp M P) = evL k (pc + 3) ls st (Hp (wr M i f z) P) := by
  subst hk
  unfold okPt at ho
  simp only [Bool.and_eq_true, decide_eq_true_eq, Bool.not_eq_true'] at ho
  obtain ⟨⟨⟨h9, hf⟩, hi⟩, hfin⟩ := ho
  have hty : tyC (kd i) f = .int := by split at hi <;> first | assumption | cases hi
  obtain ⟨h1, h2⟩ := shp_obj h9 hf
  have hin : isIn (kd i) f = true := by unfold isIn; rw [hty]
  rw [hin] at h2
  have h3 : RF i f = none := by simpa using h2
  refine ev_go hc ?_
  rw [← Hp_set (show kd i ≠ 101 by omega) h3]
  unfold ast
  simp only [Hp_get (kd_lt (show kd i ≠ 999 by omega)), obM]
  rw [if_pos ⟨trivial, by simp [h1], by rw [hty]; rfl, fun q => by rw [hfin] at q; cases q⟩]
def okPz (k ci f : Nat) : Bool := decide (ci < 8) && decide (f < nC ci) && (match tyC ci f with | .boolean => true | _ => false) && !(finC ci f)
theorem e_putZ {i ci f : Nat} {z : Int} (hc : cd k pc = some (pc, .putfield idx, 3, ci, f, p)) (ho : okPz k ci f = true) (hk : kd i = ci) (hz : z = 0 ∨ z = 1) : evL k pc ls (I z :: Rf i :: st) (Hp M P) = evL k (pc + 3) ls st (Hp (wr M i f z) P) := by
  subst hk
  unfold okPz at ho
  simp only [Bool.and_eq_true, decide_eq_true_eq, Bool.not_eq_true'] at ho
  obtain ⟨⟨⟨h9, hf⟩, hi⟩, hfin⟩ := ho
  have hty : tyC (kd i) f = .boolean := by split at hi <;> first | assumption | cases hi
  obtain ⟨h1, h2⟩ := shp_obj h9 hf
  have hin : isIn (kd i) f = true := by unfold isIn; rw [hty]
  rw [hin] at h2
  have h3 : RF i f = none := by simpa using h2
  refine ev_go hc ?_
  rw [← Hp_set (show kd i ≠ 101 by omega) h3]
  unfold ast
  simp only [Hp_get (kd_lt (show kd i ≠ 999 by omega)), obM]
  rw [if_pos ⟨trivial, by simp [h1], by rw [hty]; simpa [fitV] using hz, fun q => by rw [hfin] at q; cases q⟩]
theorem e_iald {i a b : Nat} {z : Int} (hc : cd k pc = some (pc, .iaload, 1, a, b, p)) (hk : kd i = 100) (h0 : 0 ≤ z) (hz : z.toNat < ln i) : evL k pc ls (I z :: Rf i :: st) (Hp M P) = evL k (pc + 1) ls (I (M i z.toNat) :: st) (Hp M P) := by
  refine ev_go hc ?_
  unfold ast
  simp only [Hp_get (kd_lt (show kd i ≠ 999 by omega)), obM, hk, h0, and_self, if_true, ob_get hz, vl_int (show kd i ≠ 101 by omega) (shp_arr hk _)]
theorem e_iast {i a b : Nat} {z x : Int} (hc : cd k pc = some (pc, .iastore, 1, a, b, p)) (hk : kd i = 100) (h0 : 0 ≤ z) (hz : z.toNat < ln i) : evL k pc ls (I x :: I z :: Rf i :: st) (Hp M P) = evL k (pc + 1) ls st (Hp (wr M i z.toNat x) P) := by
  refine ev_go hc ?_
  rw [← Hp_set (show kd i ≠ 101 by omega) (shp_arr hk _)]
  unfold ast
  simp only [Hp_get (kd_lt (show kd i ≠ 999 by omega)), obM]
  rw [if_pos ⟨hk, h0, by simp [hz]⟩, hk]
theorem e_aald {a b : Nat} {z : Int} (hc : cd k pc = some (pc, .aaload, 1, a, b, p)) (h0 : 0 ≤ z) (hz : z < 4) : evL k pc ls (I z :: Rf 48 :: st) (Hp M P) = evL k (pc + 1) ls (Rf (P z.toNat) :: st) (Hp M P) := by
  refine ev_go hc ?_
  have h1 : z.toNat < ln 48 := by show z.toNat < 4; omega
  have h2 : vl M P 48 z.toNat = Rf (P z.toNat) := rfl
  unfold ast
  simp only [Hp_get (show 48 < NN by decide), obM, show kd 48 = 101 from rfl, h0, and_self, if_true, ob_get h1, h2]
theorem e_aast {a b v : Nat} {z : Int} (hc : cd k pc = some (pc, .aastore, 1, a, b, p)) (hv : kd v = 1) (h0 : 0 ≤ z) (hz : z < 4) : evL k pc ls (Rf v :: I z :: Rf 48 :: st) (Hp M P) = evL k (pc + 1) ls st (Hp M (upP P z.toNat v)) := by
  refine ev_go hc ?_
  have h1 : z.toNat < ln 48 := by show z.toNat < 4; omega
  rw [← Hp_setP]
  unfold ast
  simp only [Hp_get (show 48 < NN by decide), Hp_get (kd_lt (show kd v ≠ 999 by omega)), obM, show kd 48 = 101 from rfl]
  rw [if_pos ⟨trivial, hv, h0, by simp [h1]⟩]
theorem e_alen {i a b : Nat} (hc : cd k pc = some (pc, .arraylength, 1, a, b, p)) (hk : kd i = 100 ∨ kd i = 101) (hl : ln i ≤ 1000000) : evL k pc ls (Rf i :: st) (Hp M P) = evL k (pc + 1) ls (I (ln i : Int) :: st) (Hp M P) := by
  refine ev_go hc ?_
  unfold ast
  simp only [Hp_get (kd_lt (show kd i ≠ 999 by omega)), obM, List.length_map, List.length_range]
  rw [if_pos ⟨hk, hl⟩]
/-- behind a call -/
def cont (o : Option (Option AV × AH)) (f : Option AV → AH → Option (Option AV × AH)) : Option (Option AV × AH) := match o with
  | some (r, h') => if h'.length = NN then f r h' else none
  | none => none
theorem cont_some {r : Option AV} {f : Option AV → AH → Option (Option AV × AH)} : cont (some (r, Hp M P)) f = f r (Hp M P) := by
  unfold cont
  simp only [Hp_len, if_true]
def rl (r : Option AV) (l : List AV) : List AV := r.toList ++ l
theorem rl_some {v : AV} {l : List AV} : rl (some v) l = v :: l := rfl
theorem rl_none {l : List AV} : rl none l = l := rfl
def cllS (k k' : Nat) : Bool := decide (dpM k' + 1 ≤ dpM k) && decide (8 + (maxl k' + 11) + lcM k' ≤ lcM k) && decide (nar k' ≤ maxl k') && decide (k' < 117)
def clsS (c k' : Nat) : Bool := decide (c < 8) && match vwCl[c]? with | some q => decide (q.1 = (yM k').cls) | none => false
theorem popA_app {av rest : List AV} {n : Nat} (hn : av.length = n) : popA n (av.reverse ++ rest) = some (av, rest) := by
  unfold popA
  rw [if_pos (by simp [hn]), List.take_left' (by simp [hn]), List.drop_left' (by simp [hn]), List.reverse_reverse]
theorem e_callV {k' b i c : Nat} {av' rest : List AV} (hc : cd k pc = some (pc, .invokevirtual idx, 3, k', b, p)) (hs : cllS k k' = true) (hst : stM k' = false) (hin : isI k' = false) (hcl : clsS c k' = true) (hn : av'.length + 1 = nar k') (hr : restOk rest = true) (hdb : noDb av' = true) (hk : kd i = c) (hi : st = av'.reverse ++ (Rf i :: rest)) : evL k pc ls st (Hp M P) = cont (evM k' (Rf i :: av') (Hp M P)) (fun r h => evL k (pc + 3) ls (rl r rest) h) := by
  subst hi; subst hk
  unfold cllS at hs
  simp only [Bool.and_eq_true, decide_eq_true_eq] at hs
  obtain ⟨⟨⟨s1, s2⟩, s3⟩, s4⟩ := hs
  unfold clsS at hcl
  simp only [Bool.and_eq_true, decide_eq_true_eq] at hcl
  have e1 : av'.reverse ++ Rf i :: rest = (Rf i :: av').reverse ++ rest := by simp
  rw [e1, evL_eq]
  have e2 : aone k pc ls ((Rf i :: av').reverse ++ rest) (Hp M P) = some (.inr (.inl (k', Rf i :: av', true, rest))) := by
    unfold aone
    rw [hc]
    simp only []
    have h0 : ast (isI k) (pc, .invokevirtual idx, 3, k', b, p) ls ((Rf i :: av').reverse ++ rest) (Hp M P) = none := rfl
    rw [h0]
    simp only []
    rw [popA_app (by simpa using hn)]
    simp only []
    have h1 : clsOk (Hp M P) k' (Rf i :: av')[0]? = true := by
      unfold clsOk
      simp only [List.getElem?_cons_zero, Hp_get (kd_lt (show kd i ≠ 999 by omega)), obM]
      exact hcl.2
    have h2 : callOk k k' rest = true := by
      unfold callOk
      simp [s1, s2, s3, s4, hr]
    have h3 : noDb (Rf i :: av') = true := noDb_cons.mpr ⟨rfl, hdb⟩
    rw [h1, h2, h3, hst, hin]
    rfl
  rw [e2]
  unfold aafter cont evM rl
  simp only [Hp_len]
  generalize evL k' 0 (loc0 k' (Rf i :: av')) [] (Hp M P) = o
  cases o <;> rfl
theorem e_callS {k' b : Nat} {av rest : List AV} (hc : cd k pc = some (pc, .invokestatic idx, 3, k', b, p)) (hs : cllS k k' = true) (hst : stM k' = true) (hn : av.length = nar k') (hr : restOk rest = true) (hdb : noDb av = true) (hi : st = av.reverse ++ rest) : evL k pc ls st (Hp M P) = cont (evM k' av (Hp M P)) (fun r h => evL k (pc + 3) ls (rl r rest) h) := by
  subst hi
  unfold cllS at hs
  simp only [Bool.and_eq_true, decide_eq_true_eq] at hs
  obtain ⟨⟨⟨s1, s2⟩, s3⟩, s4⟩ := hs
  rw [evL_eq]
  have e2 : aone k pc ls (av.reverse ++ rest) (Hp M P) = some (.inr (.inl (k', av, true, rest))) := by
    unfold aone
    rw [hc]
    simp only []
    have h0 : ast (isI k) (pc, .invokestatic idx, 3, k', b, p) ls (av.reverse ++ rest) (Hp M P) = none := rfl
    rw [h0]
    simp only []
    rw [if_neg (by omega), popA_app hn]
    simp only []
    have h2 : callOk k k' rest = true := by
      unfold callOk
      simp [s1, s2, s3, s4, hr]
    rw [h2, hdb, hst]
    rfl
  rw [e2]
  unfold aafter cont evM rl
  simp only [Hp_len]
  generalize evL k' 0 (loc0 k' av) [] (Hp M P) = o
  cases o <;> rfl
theorem e_math {a b : Nat} {h : AH} {v : AV} {rest : List AV} (hc : cd k pc = some (pc, .invokestatic idx, 3, a, b, p)) (h9 : 900 ≤ a) (hv : mathB a st = some (v, rest)) (hr : rest.length ≤ 4) (hk : 1 ≤ dpM k ∧ 21 ≤ lcM k) : evL k pc ls st h = evL k (pc + 3) ls (v :: rest) h := by
  rw [evL_eq]
  have e2 : aone k pc ls st h = some (.inl (pc + 3, ls, v :: rest, h)) := by
    unfold aone
    rw [hc]
    simp only []
    have h0 : ast (isI k) (pc, .invokestatic idx, 3, a, b, p) ls st h = none := rfl
    rw [h0]
    simp only []
    rw [if_pos h9, hv]
    simp only []
    rw [if_pos ⟨hr, hk⟩]
  rw [e2]
  rfl
theorem e_ret {i : Instr} {len a b : Nat} {h : AH} {r : Option AV} (hc : cd k pc = some (pc, i, len, a, b, p)) (hr : retOk k st i = some r) : evL k pc ls st h = some (r, h) := by
  rw [evL_eq]
  have e2 : aone k pc ls st h = some (.inr (.inr r)) := by
    unfold aone
    rw [hc]
    simp only []
    have h0 : ast (isI k) (pc, i, len, a, b, p) ls st h = none := by
      unfold retOk at hr
      split at hr <;> first | rfl | cases hr
    rw [h0]
    simp only []
    have hr0 := hr
    unfold retOk at hr
    split at hr <;> first | (simp only [hr0]; done) | cases hr
  rw [e2]
  rfl
theorem e_br {h : AH} {b : Bool} {t f : Nat} : evL k (if b = true then t else f) ls st h = if b = true then evL k t ls st h else evL k f ls st h := by cases b <;> rfl
end Ev
