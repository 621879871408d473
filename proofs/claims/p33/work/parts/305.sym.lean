/-! For proofs along a program: what is computed, as integers. -/
theorem i_add2 {a b : Int32} {x y : Int} (ha : a.toInt = x) (hb : b.toInt = y) (h1 : -2147483648 ≤ x + y) (h2 : x + y < 2147483648) : (a + b).toInt = x + y := by
  subst ha
  subst hb
  exact i_add h1 h2
theorem i_sub2 {a b : Int32} {x y : Int} (ha : a.toInt = x) (hb : b.toInt = y) (h1 : -2147483648 ≤ x - y) (h2 : x - y < 2147483648) : (a - b).toInt = x - y := by
  subst ha
  subst hb
  exact i_sub h1 h2
theorem i_mul2 {a b : Int32} {x y : Int} (ha : a.toInt = x) (hb : b.toInt = y) (h1 : -2147483648 ≤ x * y) (h2 : x * y < 2147483648) : (a * b).toInt = x * y := by
  subst ha
  subst hb
  exact i_mul h1 h2
theorem i_div2 {a b : Int32} {x y : Int} (ha : a.toInt = x) (hb : b.toInt = y) (h1 : 0 ≤ x) (h2 : 0 < y) : (a / b).toInt = x / y := by
  subst ha
  subst hb
  exact i_div h1 h2
theorem i_rem2 {a b : Int32} {x y : Int} (ha : a.toInt = x) (hb : b.toInt = y) (h1 : 0 ≤ x) (h2 : 0 < y) : (a - a / b * b).toInt = x % y := by
  subst ha
  subst hb
  exact i_rem h1 h2
theorem j_bm {z : Int} (h1 : -9223372036854775808 ≤ z) (h2 : z < 9223372036854775808) : z.bmod 18446744073709551616 = z := by
  rw [bm3]
  omega
theorem j_add2 {a b : Int64} {x y : Int} (ha : a.toInt = x) (hb : b.toInt = y) (h1 : -9223372036854775808 ≤ x + y) (h2 : x + y < 9223372036854775808) : (a + b).toInt = x + y := by
  subst ha
  subst hb
  rw [Int64.toInt_add]
  exact j_bm h1 h2
theorem j_sub2 {a b : Int64} {x y : Int} (ha : a.toInt = x) (hb : b.toInt = y) (h1 : -9223372036854775808 ≤ x - y) (h2 : x - y < 9223372036854775808) : (a - b).toInt = x - y := by
  subst ha
  subst hb
  rw [Int64.toInt_sub]
  exact j_bm h1 h2
theorem j_mul2 {a b : Int64} {x y : Int} (ha : a.toInt = x) (hb : b.toInt = y) (h1 : -9223372036854775808 ≤ x * y) (h2 : x * y < 9223372036854775808) : (a * b).toInt = x * y := by
  subst ha
  subst hb
  rw [Int64.toInt_mul]
  exact j_bm h1 h2
theorem ix {i : Int32} {N : Nat} (h0 : 0 ≤ i.toInt) (h1 : i.toInt < (N : Int)) : ¬ (i < 0 ∨ N ≤ i.toNatClampNeg) := by
  have z : (0 : Int32).toInt = 0 := rfl
  rintro (h | h)
  · rw [i_lt] at h
    omega
  · rw [i_cl] at h
    omega
theorem nzi {y : Int32} (h : ¬ y.toInt = 0) : ¬ y = 0 := fun e => h (by rw [e]; rfl)
theorem nzj {y : Int64} (h : ¬ y.toInt = 0) : ¬ y = 0 := fun e => h (by rw [e]; rfl)
theorem b01 {v : Int32} (h : v.toInt = 0 ∨ v.toInt = 1) : v = 0 ∨ v = 1 := by
  rcases h with h | h
  · exact Or.inl (i_eq.mpr h)
  · exact Or.inr (i_eq.mpr h)
theorem clI {x : Int32} (h : 0 ≤ x.toInt) : (x.toNatClampNeg : Int) = x.toInt := by
  rw [i_cl]
  omega
theorem ok_nmi {β : Type} {e : Int32} {k : Int32 → Option β} {P : β → Prop} (h : ∀ x, x = e → x.toInt = e.toInt → okP (k x) P) : okP (nm e k) P := h e rfl rfl
theorem ok_nmj {β : Type} {e : Int64} {k : Int64 → Option β} {P : β → Prop} (h : ∀ x, x = e → x.toInt = e.toInt → okP (k x) P) : okP (nm e k) P := h e rfl rfl
theorem cp_n {x : Int32} (h : 0 ≤ x.toInt) : ¬ x < 0 := by
  rw [i_lt]
  have z : (0 : Int32).toInt = 0 := rfl
  omega
theorem upd_is {f : Nat → Int32} {k : Nat} {x : Int32} : upd f k x k = x := by
  unfold upd
  rw [if_pos rfl]
theorem upd_no {f : Nat → Int32} {k j : Nat} {x : Int32} (h : ¬ j = k) : upd f k x j = f j := by
  unfold upd
  rw [if_neg h]
theorem FU_gt3 {n : Nat} (h : n < 18446744073709551616) : n < FU := Nat.lt_trans h (by decide)
theorem j_lo (a : Int64) : -9223372036854775808 ≤ a.toInt := Int64.le_toInt a
theorem j_hi (a : Int64) : a.toInt < 9223372036854775808 := Int64.toInt_lt a
theorem FU_gt2 (a : Int64) : a.toInt.natAbs < FU := by
  have := j_lo a
  have := j_hi a
  exact FU_gt3 (by omega)
theorem j_rem_lt {a b : Int64} (hb : ¬ b.toInt = 0) : (a - a / b * b).toInt.natAbs < b.toInt.natAbs := by
  have h : (a - a / b * b).toInt = (a.toInt.tmod b.toInt).bmod (2 ^ 64) := by
    rw [Int64.toInt_sub, Int64.toInt_mul, Int64.toInt_div, Int.bmod_mul_bmod, Int.sub_bmod_bmod, Int.mul_comm, ← Int.tmod_def]
  have h2 : (a.toInt.tmod b.toInt).natAbs = a.toInt.natAbs % b.toInt.natAbs := Int.natAbs_tmod _ _
  have h3 : a.toInt.natAbs % b.toInt.natAbs < b.toInt.natAbs := Nat.mod_lt _ (by omega)
  have h4 := j_lo b
  have h5 := j_hi b
  have h6 : (a.toInt.tmod b.toInt).bmod (2 ^ 64) = a.toInt.tmod b.toInt := j_bm (by omega) (by omega)
  rw [h, h6, h2]
  exact h3
theorem or01 {a b : Int32} (ha : a.toInt = 0 ∨ a.toInt = 1) (hb : b.toInt = 0 ∨ b.toInt = 1) : (a ||| b).toInt = 0 ∨ (a ||| b).toInt = 1 := by
  rcases b01 ha with rfl | rfl <;> rcases b01 hb with rfl | rfl <;> decide
