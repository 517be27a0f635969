/-! ===== the arithmetic of 32 bits, where nothing runs over ===== -/
theorem w_toInt {x : Int} (h1 : -2147483648 ≤ x) (h2 : x ≤ 2147483647) : (Int32.ofInt x).toInt = x := Int32.toInt_ofInt_of_le (by omega) (by omega)
theorem ad_eq {x y : Int} (h1 : -2147483648 ≤ x + y) (h2 : x + y ≤ 2147483647) : ad x y = x + y := by
  unfold ad w2 i32
  simp only [← Int32.ofInt_add]
  exact w_toInt h1 h2
theorem sb_eq {x y : Int} (h1 : -2147483648 ≤ x - y) (h2 : x - y ≤ 2147483647) : sb x y = x - y := by
  unfold sb w2 i32
  simp only [← Int32.ofInt_sub]
  exact w_toInt h1 h2
theorem ml_eq {x y : Int} (h1 : -2147483648 ≤ x * y) (h2 : x * y ≤ 2147483647) : ml x y = x * y := by
  unfold ml w2 i32
  simp only [← Int32.ofInt_mul]
  exact w_toInt h1 h2
theorem ad_inr (x y : Int) : inr (ad x y) := inr_w2 _ _ _
theorem sb_inr (x y : Int) : inr (sb x y) := inr_w2 _ _ _
theorem ad_0 {x : Int} (h : inr x) : ad x 0 = x := by
  have := h.1
  have := h.2
  rw [ad_eq (by omega) (by omega)]
  omega
theorem ad_comm (x y : Int) : ad x y = ad y x := by
  unfold ad w2
  simp only [Int32.add_comm]
theorem ad_assoc (x y z : Int) : ad (ad x y) z = ad x (ad y z) := by
  unfold ad w2
  simp only [i32_of, Int32.add_assoc]
theorem sh_amt : ∀ n : Nat, n < 32 → ((i32 (n : Int) &&& 31).toBitVec.smod 32).toNat = n := by decide +kernel
theorem shr_eq {x y : Int} (hx : inr x) (h0 : 0 ≤ y) (h1 : y < 32) : shr x y = x / 2 ^ y.toNat := by
  obtain ⟨n, rfl⟩ := Int.eq_ofNat_of_zero_le h0
  have hn : n < 32 := by omega
  show (i32 x >>> (i32 (n : Int) &&& 31)).toInt = _
  have e : (i32 x >>> (i32 (n : Int) &&& 31)).toInt = ((i32 x).toBitVec.sshiftRight' ((i32 (n : Int) &&& 31).toBitVec.smod 32)).toInt := rfl
  rw [e, BitVec.toInt_sshiftRight', sh_amt n hn, Int.shiftRight_eq_div_pow]
  have e2 : (i32 x).toBitVec.toInt = x := i32_toInt hx
  rw [e2]
  simp
theorem ofNat_toInt {N : Nat} (h : (N : Int) ≤ 2147483647) : (BitVec.ofNat 32 N).toInt = (N : Int) := by
  rw [← BitVec.ofInt_natCast]
  have h0 : (0 : Int) ≤ (N : Int) := Int.natCast_nonneg _
  exact w_toInt (by omega) h
theorem shl_eq {x y : Int} (hx : 0 ≤ x) (h0 : 0 ≤ y) (h1 : y < 32) (h2 : x * 2 ^ y.toNat ≤ 2147483647) : shl x y = x * 2 ^ y.toNat := by
  obtain ⟨n, rfl⟩ := Int.eq_ofNat_of_zero_le h0
  obtain ⟨m, rfl⟩ := Int.eq_ofNat_of_zero_le hx
  have hn : n < 32 := by omega
  have e0 : ((n : Int)).toNat = n := rfl
  rw [e0] at h2 ⊢
  have h3 : ((m * 2 ^ n : Nat) : Int) ≤ 2147483647 := by rw [Int.natCast_mul, Int.natCast_pow]; exact h2
  show (i32 (m : Int) <<< (i32 (n : Int) &&& 31)).toInt = _
  have e : (i32 (m : Int) <<< (i32 (n : Int) &&& 31)).toInt = ((i32 (m : Int)).toBitVec <<< ((i32 (n : Int) &&& 31).toBitVec.smod 32).toNat).toInt := rfl
  rw [e, sh_amt n hn]
  have e1 : (i32 (m : Int)).toBitVec = BitVec.ofNat 32 m := by
    show BitVec.ofInt 32 (m : Int) = _
    exact BitVec.ofInt_natCast 32 m
  have e2 : BitVec.ofNat 32 m <<< n = BitVec.ofNat 32 (m * 2 ^ n) := by
    apply BitVec.eq_of_toNat_eq
    rw [BitVec.toNat_shiftLeft, BitVec.toNat_ofNat, BitVec.toNat_ofNat, Nat.shiftLeft_eq]
    exact Nat.mod_mul_mod ..
  rw [e1, e2, ofNat_toInt h3, Int.natCast_mul, Int.natCast_pow]
  rfl
theorem nat_an (m n : Nat) (hm : m ≤ 2147483647) : an (m : Int) (n : Int) = ((m &&& n : Nat) : Int) := by
  show (i32 (m : Int) &&& i32 (n : Int)).toInt = _
  have e : (i32 (m : Int) &&& i32 (n : Int)).toInt = (BitVec.ofInt 32 (m : Int) &&& BitVec.ofInt 32 (n : Int)).toInt := rfl
  have hle : m &&& n ≤ m := Nat.and_le_left
  rw [e, BitVec.ofInt_natCast, BitVec.ofInt_natCast, ← BitVec.ofNat_and]
  exact ofNat_toInt (by omega)
theorem an_15 {x : Int} (h0 : 0 ≤ x) (h1 : x ≤ 2147483647) : an x 15 = x % 16 := by
  obtain ⟨m, rfl⟩ := Int.eq_ofNat_of_zero_le h0
  rw [show (15 : Int) = ((15 : Nat) : Int) from rfl, nat_an m 15 (by omega), show (15 : Nat) = 2 ^ 4 - 1 from rfl, Nat.and_two_pow_sub_one_eq_mod]
  rfl
theorem an_31 {x : Int} (h0 : 0 ≤ x) (h1 : x ≤ 2147483647) : an x 31 = x % 32 := by
  obtain ⟨m, rfl⟩ := Int.eq_ofNat_of_zero_le h0
  rw [show (31 : Int) = ((31 : Nat) : Int) from rfl, nat_an m 31 (by omega), show (31 : Nat) = 2 ^ 5 - 1 from rfl, Nat.and_two_pow_sub_one_eq_mod]
  rfl
theorem an_1 {x : Int} (h0 : 0 ≤ x) (h1 : x ≤ 2147483647) : an x 1 = x % 2 := by
  obtain ⟨m, rfl⟩ := Int.eq_ofNat_of_zero_le h0
  rw [show (1 : Int) = ((1 : Nat) : Int) from rfl, nat_an m 1 (by omega), show (1 : Nat) = 2 ^ 1 - 1 from rfl, Nat.and_two_pow_sub_one_eq_mod]
  rfl
theorem nat_orr (m n : Nat) (h : m ||| n ≤ 2147483647) : orr (m : Int) (n : Int) = ((m ||| n : Nat) : Int) := by
  show (i32 (m : Int) ||| i32 (n : Int)).toInt = _
  have e : (i32 (m : Int) ||| i32 (n : Int)).toInt = (BitVec.ofInt 32 (m : Int) ||| BitVec.ofInt 32 (n : Int)).toInt := rfl
  rw [e, BitVec.ofInt_natCast, BitVec.ofInt_natCast, ← BitVec.ofNat_or]
  exact ofNat_toInt (by omega)
/-- or, of bits that lie apart: a sum -/
theorem orr_add {x z : Int} (k : Nat) (h0 : 0 ≤ x) (h1 : x < 2 ^ k) (hz : 0 ≤ z) (h2 : x + z * 2 ^ k ≤ 2147483647) : orr x (z * 2 ^ k) = x + z * 2 ^ k := by
  obtain ⟨m, rfl⟩ := Int.eq_ofNat_of_zero_le h0
  obtain ⟨n, rfl⟩ := Int.eq_ofNat_of_zero_le hz
  have h3 : m < 2 ^ k := by exact_mod_cast h1
  have e2 : ((n : Int) * 2 ^ k) = ((n * 2 ^ k : Nat) : Int) := by rw [Int.natCast_mul, Int.natCast_pow]; rfl
  rw [e2] at h2 ⊢
  have h4 : m + n * 2 ^ k ≤ 2147483647 := by
    generalize n * 2 ^ k = N at h2 ⊢
    omega
  have e : m ||| n * 2 ^ k = m + n * 2 ^ k := by
    rw [Nat.or_comm, Nat.mul_comm n, ← Nat.two_pow_add_eq_or_of_lt h3, Nat.add_comm]
  rw [nat_orr _ _ (by rw [e]; exact h4), e]
  generalize n * 2 ^ k = N
  omega
theorem dv_eq {x y : Int} (h0 : 0 ≤ x) (h1 : x ≤ 2147483647) (h2 : 0 < y) (h3 : y ≤ 2147483647) : dv x y = x / y := by
  show (i32 x / i32 y).toInt = _
  have hx : inr x := ⟨by omega, h1⟩
  have hy : inr y := ⟨by omega, h3⟩
  rw [Int32.toInt_div, i32_toInt hx, i32_toInt hy, Int.tdiv_eq_ediv_of_nonneg h0, Int.bmod_eq_of_le]
  · have := Int.ediv_nonneg h0 (by omega : 0 ≤ y); omega
  · have := Int.ediv_le_self y h0; omega
theorem rm_eq {x y : Int} (h0 : 0 ≤ x) (h1 : x ≤ 2147483647) (h2 : 0 < y) (h3 : y ≤ 2147483647) : rm x y = x % y := by
  show (i32 x - i32 x / i32 y * i32 y).toInt = _
  have e : i32 x / i32 y = i32 (x / y) := by
    have := dv_eq h0 h1 h2 h3
    rw [← this]
    exact (i32_of _).symm
  have e2 : i32 x - i32 (x / y) * i32 y = i32 (x - x / y * y) := by
    unfold i32
    rw [Int32.ofInt_sub, Int32.ofInt_mul]
  have h4 : x - x / y * y = x % y := by rw [Int.emod_def, Int.mul_comm]
  rw [e, e2, h4]
  refine i32_toInt ⟨?_, ?_⟩
  · have := Int.emod_nonneg x (by omega : y ≠ 0); omega
  · have := Int.emod_lt_of_pos x h2; omega
