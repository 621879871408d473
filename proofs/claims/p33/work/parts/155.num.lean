/-! Whole numbers of 32 and 64 bits as integers. -/
theorem i_lt {a b : Int32} : a < b ↔ a.toInt < b.toInt := Int32.lt_iff_toInt_lt
theorem i_le {a b : Int32} : a ≤ b ↔ a.toInt ≤ b.toInt := Int32.le_iff_toInt_le
theorem i_eq {a b : Int32} : a = b ↔ a.toInt = b.toInt := Int32.toInt_inj.symm
theorem i_cl (a : Int32) : a.toNatClampNeg = a.toInt.toNat := rfl
theorem i_lo (a : Int32) : -2147483648 ≤ a.toInt := Int32.le_toInt a
theorem i_hi (a : Int32) : a.toInt < 2147483648 := Int32.toInt_lt a
theorem bm {z : Int} (h1 : -2147483648 ≤ z) (h2 : z < 2147483648) : z.bmod 4294967296 = z := by
  rw [Int.bmod_def]
  split <;> omega
theorem i_add {a b : Int32} (h1 : -2147483648 ≤ a.toInt + b.toInt) (h2 : a.toInt + b.toInt < 2147483648) : (a + b).toInt = a.toInt + b.toInt := by
  rw [Int32.toInt_add]
  exact bm h1 h2
theorem i_sub {a b : Int32} (h1 : -2147483648 ≤ a.toInt - b.toInt) (h2 : a.toInt - b.toInt < 2147483648) : (a - b).toInt = a.toInt - b.toInt := by
  rw [Int32.toInt_sub]
  exact bm h1 h2
theorem i_mul {a b : Int32} (h1 : -2147483648 ≤ a.toInt * b.toInt) (h2 : a.toInt * b.toInt < 2147483648) : (a * b).toInt = a.toInt * b.toInt := by
  rw [Int32.toInt_mul]
  exact bm h1 h2
theorem i_neg {a : Int32} (h1 : a.toInt ≠ -2147483648) : (-a).toInt = -a.toInt := by
  rw [Int32.toInt_neg]
  have := i_lo a
  have := i_hi a
  exact bm (by omega) (by omega)
theorem i_div {a b : Int32} (h1 : 0 ≤ a.toInt) (h2 : 0 < b.toInt) : (a / b).toInt = a.toInt / b.toInt := by
  have h3 := i_hi a
  rw [Int32.toInt_div, Int.tdiv_eq_ediv_of_nonneg h1]
  have h4 : 0 ≤ a.toInt / b.toInt := Int.ediv_nonneg h1 (Int.le_of_lt h2)
  have h5 : a.toInt / b.toInt ≤ a.toInt := Int.ediv_le_self _ h1
  exact bm (by omega) (by omega)
theorem i_rem {a b : Int32} (h1 : 0 ≤ a.toInt) (h2 : 0 < b.toInt) : (a - a / b * b).toInt = a.toInt % b.toInt := by
  have h3 := i_hi a
  have h4 : 0 ≤ a.toInt / b.toInt := Int.ediv_nonneg h1 (Int.le_of_lt h2)
  have h5 : a.toInt / b.toInt * b.toInt ≤ a.toInt := Int.ediv_mul_le _ (by omega)
  have h6 : 0 ≤ a.toInt / b.toInt * b.toInt := Int.mul_nonneg h4 (Int.le_of_lt h2)
  have hd := i_div h1 h2
  have hm : (a / b * b).toInt = a.toInt / b.toInt * b.toInt := by
    rw [i_mul (by rw [hd]; omega) (by rw [hd]; omega), hd]
  rw [i_sub (by rw [hm]; omega) (by rw [hm]; omega), hm, Int.emod_def, Int.mul_comm]
theorem i_lit (n : Nat) (h : n < 2147483648) : (OfNat.ofNat n : Int32).toInt = (n : Int) := Int32.toInt_ofNat_of_lt h
