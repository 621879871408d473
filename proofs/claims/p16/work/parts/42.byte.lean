/-! A byte of a long, taken in two ways. -/
theorem bit255 (n j : Nat) : Nat.testBit 255 j = decide (j < 8) := Nat.testBit_two_pow_sub_one 8 j
theorem bytB (w : BitVec 64) (s : Nat) (hs : s + 8 ≤ 64) : ((w >>> s).setWidth 32 &&& BitVec.ofNat 32 255) = ((w.sshiftRight s) &&& BitVec.ofNat 64 255).setWidth 32 := by
  apply BitVec.eq_of_getLsbD_eq
  intro j hj
  simp only [BitVec.getLsbD_and, BitVec.getLsbD_setWidth, BitVec.getLsbD_ushiftRight, BitVec.getLsbD_sshiftRight, BitVec.getLsbD_ofNat, bit255 0]
  by_cases h8 : j < 8
  · have h1 : s + j < 64 := by omega
    have h2 : ¬ 64 ≤ j := by omega
    have h3 : j < 64 := by omega
    simp [h8, h1, h2, h3, hj]
  · simp [h8]
theorem byt64 (w : BitVec 64) : (w &&& BitVec.ofNat 64 255).toNat < 256 := by
  rw [BitVec.toNat_and]
  exact Nat.lt_of_le_of_lt Nat.and_le_right (by decide)
def by8 (w : Int64) (v : Int32) : Int32 := ((w >>> ((8 * v).toInt64 &&& 63)) &&& 255).toInt32
theorem i07 {v : Int32} (h0 : 0 ≤ v.toInt) (h1 : v.toInt < 8) : v = 0 ∨ v = 1 ∨ v = 2 ∨ v = 3 ∨ v = 4 ∨ v = 5 ∨ v = 6 ∨ v = 7 := by
  have hv : v.toInt = 0 ∨ v.toInt = 1 ∨ v.toInt = 2 ∨ v.toInt = 3 ∨ v.toInt = 4 ∨ v.toInt = 5 ∨ v.toInt = 6 ∨ v.toInt = 7 := by omega
  rcases hv with h | h | h | h | h | h | h | h
  · exact Or.inl (i_eq.mpr h)
  · exact Or.inr (Or.inl (i_eq.mpr h))
  · exact Or.inr (Or.inr (Or.inl (i_eq.mpr h)))
  · exact Or.inr (Or.inr (Or.inr (Or.inl (i_eq.mpr h))))
  · exact Or.inr (Or.inr (Or.inr (Or.inr (Or.inl (i_eq.mpr h)))))
  · exact Or.inr (Or.inr (Or.inr (Or.inr (Or.inr (Or.inl (i_eq.mpr h))))))
  · exact Or.inr (Or.inr (Or.inr (Or.inr (Or.inr (Or.inr (Or.inl (i_eq.mpr h)))))))
  · exact Or.inr (Or.inr (Or.inr (Or.inr (Or.inr (Or.inr (Or.inr (i_eq.mpr h)))))))
theorem by8c (w : Int64) (s : Nat) (u : UInt64) (t : Int64) (hs : s + 8 ≤ 64) (hu : (u.toBitVec % 64).toNat = s) (ht : (t.toBitVec.smod 64).toNat = s) : (((w.toUInt64 >>> u).toInt64).toInt32) &&& 255 = ((w >>> t) &&& 255).toInt32 := by
  apply Int32.toBitVec_inj.mp
  show ((w.toBitVec >>> (u.toBitVec % 64)).signExtend 32 &&& BitVec.ofNat 32 255) = ((w.toBitVec.sshiftRight' (t.toBitVec.smod 64)) &&& BitVec.ofNat 64 255).signExtend 32
  rw [BitVec.signExtend_eq_setWidth_of_le _ (by decide), BitVec.signExtend_eq_setWidth_of_le _ (by decide), BitVec.ushiftRight_eq', BitVec.sshiftRight_eq', hu, ht]
  exact bytB w.toBitVec s hs
theorem by8_class {w : Int64} {v : Int32} (h0 : 0 ≤ v.toInt) (h1 : v.toInt < 8) : (((w.toUInt64 >>> ((8 * v).toInt64.toUInt64 &&& Int64.toUInt64 63)).toInt64).toInt32) &&& 255 = by8 w v := by
  unfold by8
  rcases i07 h0 h1 with h | h | h | h | h | h | h | h <;> subst h
  · exact by8c w 0 _ _ (by omega) (by decide) (by decide)
  · exact by8c w 8 _ _ (by omega) (by decide) (by decide)
  · exact by8c w 16 _ _ (by omega) (by decide) (by decide)
  · exact by8c w 24 _ _ (by omega) (by decide) (by decide)
  · exact by8c w 32 _ _ (by omega) (by decide) (by decide)
  · exact by8c w 40 _ _ (by omega) (by decide) (by decide)
  · exact by8c w 48 _ _ (by omega) (by decide) (by decide)
  · exact by8c w 56 _ _ (by omega) (by decide) (by decide)
theorem by8_long {w : Int64} {v : Int32} : ((w >>> ((8 * v).toInt64 &&& 63)) &&& 255).toInt = (by8 w v).toInt := by
  unfold by8
  generalize w >>> ((8 * v).toInt64 &&& 63) = y
  have h := byt64 y.toBitVec
  have e1 : (y &&& 255).toInt = (((y.toBitVec &&& BitVec.ofNat 64 255).toNat : Nat) : Int) := by
    show (y.toBitVec &&& BitVec.ofNat 64 255).toInt = _
    rw [BitVec.toInt_eq_toNat_of_lt (by omega)]
  have e2 : ((y &&& 255).toInt32).toInt = (((y.toBitVec &&& BitVec.ofNat 64 255).toNat : Nat) : Int) := by
    show ((y.toBitVec &&& BitVec.ofNat 64 255).signExtend 32).toInt = _
    rw [BitVec.signExtend_eq_setWidth_of_le _ (by decide)]
    have e3 : ((y.toBitVec &&& BitVec.ofNat 64 255).setWidth 32).toNat = (y.toBitVec &&& BitVec.ofNat 64 255).toNat := by
      rw [BitVec.toNat_setWidth]
      exact Nat.mod_eq_of_lt (by omega)
    rw [BitVec.toInt_eq_toNat_of_lt (by omega), e3]
  rw [e1, e2]
