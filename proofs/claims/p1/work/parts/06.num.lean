/-! numbers: an int by x + 2^31 -/
def sx_b (x : Int32) : Nat := (x.toInt + 2147483648).toNat
theorem sx_bd (x : Int32) : -2147483648 ≤ x.toInt ∧ x.toInt < 2147483648 := ⟨Int32.le_toInt x, Int32.toInt_lt x⟩
theorem sx_b_int (x : Int32) : (sx_b x : Int) = x.toInt + 2147483648 := by
  have h := sx_bd x
  unfold sx_b
  omega
theorem sx_b_lt (x : Int32) : sx_b x < 4294967296 := by
  have h := sx_bd x
  have h2 := sx_b_int x
  omega
theorem sx_b_inj {x y : Int32} (h : sx_b x = sx_b y) : x = y := by
  have h1 := sx_b_int x
  have h2 := sx_b_int y
  exact Int32.toInt_inj.mp (by omega)
theorem sx_b_of (n : Nat) : sx_b (Int32.ofNat n) = sx_bias n := by
  have h1 := sx_b_int (Int32.ofNat n)
  rw [Int32.toInt_ofNat'] at h1
  unfold sx_bias
  rw [Int.bmod_def] at h1
  have e : (Int32.size : Int) = 4294967296 := rfl
  simp only [Int32.size] at h1
  split at h1 <;> omega
theorem sx_bb {k : Nat} (h : k < 4294967296) : sx_bias (sx_bias k) = k := by
  unfold sx_bias
  omega
theorem sx_of_b (x : Int32) : Int32.ofNat (sx_bias (sx_b x)) = x := sx_b_inj (by rw [sx_b_of, sx_bb (sx_b_lt x)])
theorem sx_i_lt (x y : Int32) : x < y ↔ sx_b x < sx_b y := by
  have h1 := sx_b_int x
  have h2 := sx_b_int y
  rw [Int32.lt_iff_toInt_lt]
  omega
theorem sx_i_le (x y : Int32) : x ≤ y ↔ sx_b x ≤ sx_b y := by
  have h1 := sx_b_int x
  have h2 := sx_b_int y
  rw [Int32.le_iff_toInt_le]
  omega
theorem sx_i_eq (x y : Int32) : x = y ↔ sx_b x = sx_b y := ⟨fun h => by rw [h], sx_b_inj⟩
theorem sx_of_mod (n : Nat) : Int32.ofNat (n % 4294967296) = Int32.ofNat n := sx_b_inj (by
  rw [sx_b_of, sx_b_of]
  unfold sx_bias
  omega)
theorem sx_add (x y : Nat) : Int32.ofNat x + Int32.ofNat y = Int32.ofNat ((x + y) % 4294967296) := by
  rw [sx_of_mod]
  exact (Int32.ofNat_add x y).symm
theorem sx_mul (x y : Nat) : Int32.ofNat x * Int32.ofNat y = Int32.ofNat ((x * y) % 4294967296) := by
  rw [sx_of_mod]
  exact (Int32.ofNat_mul x y).symm
theorem sx_sub (x y : Nat) : Int32.ofNat x - Int32.ofNat y = Int32.ofNat ((x + (4294967296 - y % 4294967296)) % 4294967296) := by
  have h : Int32.ofNat ((x + (4294967296 - y % 4294967296)) % 4294967296) + Int32.ofNat y = Int32.ofNat x := by
    rw [sx_add]
    refine sx_b_inj ?_
    rw [sx_b_of, sx_b_of]
    unfold sx_bias
    omega
  rw [← h, Int32.add_sub_cancel]
theorem sx_clamp {n : Nat} (h : n < 2147483648) : (Int32.ofNat n).toNatClampNeg = n := nI_clamp (n := n) h
theorem sx_toInt {n : Nat} (h : n < 2147483648) : (Int32.ofNat n).toInt = (n : Int) := nI_toInt (n := n) h
theorem sx_zeroAdd (x : Int32) (n : Nat) (h : n = 0) : Int32.ofNat n + x = x := by
  subst h
  exact Int32.zero_add x
theorem sx_addZero (x : Int32) (n : Nat) (h : n = 0) : x + Int32.ofNat n = x := by
  subst h
  exact Int32.add_zero x
