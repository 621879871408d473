/-! Sheets of class and model. -/
theorem vaup_is {f : Nat → Int32} {k : Nat} {x : Int32} : va_up f k x k = x := by
  unfold va_up
  rw [if_pos rfl]
theorem vaup_no {f : Nat → Int32} {k j : Nat} {x : Int32} (h : ¬ j = k) : va_up f k x j = f j := by
  unfold va_up
  rw [if_neg h]
def LaR (lane size lanes sizes : Nat → Int32) : Prop := ∀ j : Nat, j < 4 → (lane j).toInt = (lanes j).toInt ∧ -1 ≤ (lanes j).toInt ∧ (0 ≤ (lanes j).toInt → (size j).toInt = (sizes j).toInt)
theorem LaR_at {l s L S : Nat → Int32} (h : LaR l s L S) (x : Int32) : 0 ≤ x.toInt ∧ x.toInt < 4 → (l x.toNatClampNeg).toInt = (L x.toNatClampNeg).toInt ∧ -1 ≤ (L x.toNatClampNeg).toInt ∧ (0 ≤ (L x.toNatClampNeg).toInt → (s x.toNatClampNeg).toInt = (S x.toNatClampNeg).toInt) := by
  intro hx
  exact h _ (by rw [i_cl]; omega)
theorem LaR_0 : LaR (fun _ => (-1)) (fun _ => 0) jLan (fun _ => 0) := by
  intro j hj
  match j, hj with
  | 0, _ => decide
  | 1, _ => decide
  | 2, _ => decide
  | 3, _ => decide
theorem sheet_same {l s l' s' L S L' S' : Nat → Int32} {x1 x2 x3 ra rb : Int32} (h : LaR l s L S)
    (hA : (¬ (0 ≤ x1.toInt ∧ x1.toInt < 4 ∧ 0 ≤ x2.toInt ∧ x2.toInt < 3 ∧ x3.toInt ≤ 16) ∧ ra.toInt = -1 ∧ l' = l ∧ s' = s) ∨ ((0 ≤ x1.toInt ∧ x1.toInt < 4 ∧ 0 ≤ x2.toInt ∧ x2.toInt < 3 ∧ x3.toInt ≤ 16) ∧ x3.toInt < 0 ∧ ra.toInt = -14 ∧ l' = l ∧ s' = s) ∨ ((0 ≤ x1.toInt ∧ x1.toInt < 4 ∧ 0 ≤ x2.toInt ∧ x2.toInt < 3 ∧ x3.toInt ≤ 16) ∧ 0 ≤ x3.toInt ∧ ra.toInt = x3.toInt ∧ l' = va_up l x1.toNatClampNeg x2 ∧ s' = va_up s x1.toNatClampNeg x3))
    (hB : (¬ (0 ≤ x1.toInt ∧ x1.toInt < 4 ∧ 0 ≤ x2.toInt ∧ x2.toInt < 3 ∧ x3.toInt ≤ 16) ∧ rb.toInt = -1 ∧ L' = L ∧ S' = S) ∨ ((0 ≤ x1.toInt ∧ x1.toInt < 4 ∧ 0 ≤ x2.toInt ∧ x2.toInt < 3 ∧ x3.toInt ≤ 16) ∧ x3.toInt < 0 ∧ rb.toInt = -14 ∧ L' = L ∧ S' = S) ∨ ((0 ≤ x1.toInt ∧ x1.toInt < 4 ∧ 0 ≤ x2.toInt ∧ x2.toInt < 3 ∧ x3.toInt ≤ 16) ∧ 0 ≤ x3.toInt ∧ rb.toInt = x3.toInt ∧ L' = upd L x1.toNatClampNeg x2 ∧ S' = upd S x1.toNatClampNeg x3)) : LaR l' s' L' S' := by
  rcases hA with ⟨a1, a2, a3, a4⟩ | ⟨a1, a0, a2, a3, a4⟩ | ⟨a1, a0, a2, a3, a4⟩ <;> rcases hB with ⟨b1, b2, b3, b4⟩ | ⟨b1, b0, b2, b3, b4⟩ | ⟨b1, b0, b2, b3, b4⟩
  · rw [a3, a4, b3, b4]
    exact h
  · exact absurd b1 a1
  · exact absurd b1 a1
  · exact absurd a1 b1
  · rw [a3, a4, b3, b4]
    exact h
  · omega
  · exact absurd a1 b1
  · omega
  · rw [a3, a4, b3, b4]
    intro j hj
    by_cases hk : j = x1.toNatClampNeg
    · rw [hk, vaup_is, vaup_is, upd_is, upd_is]
      exact ⟨rfl, by omega, fun _ => rfl⟩
    · rw [vaup_no hk, vaup_no hk, upd_no hk, upd_no hk]
      exact h j hj
theorem drop_same {l s l' s' L S L' : Nat → Int32} {x1 ra rb : Int32} (h : LaR l s L S)
    (hA : (¬ (0 ≤ x1.toInt ∧ x1.toInt < 4) ∧ ra.toInt = -1 ∧ l' = l ∧ s' = s) ∨ ((0 ≤ x1.toInt ∧ x1.toInt < 4) ∧ (l x1.toNatClampNeg).toInt = -1 ∧ ra.toInt = -11 ∧ l' = l ∧ s' = s) ∨ ((0 ≤ x1.toInt ∧ x1.toInt < 4) ∧ ¬ (l x1.toNatClampNeg).toInt = -1 ∧ ra.toInt = (s x1.toNatClampNeg).toInt ∧ l' = va_up l x1.toNatClampNeg (-1) ∧ s' = va_up s x1.toNatClampNeg 0))
    (hB : (¬ (0 ≤ x1.toInt ∧ x1.toInt < 4) ∧ rb.toInt = -1 ∧ L' = L) ∨ ((0 ≤ x1.toInt ∧ x1.toInt < 4) ∧ (L x1.toNatClampNeg).toInt < 0 ∧ rb.toInt = -11 ∧ L' = L) ∨ ((0 ≤ x1.toInt ∧ x1.toInt < 4) ∧ 0 ≤ (L x1.toNatClampNeg).toInt ∧ rb.toInt = (S x1.toNatClampNeg).toInt ∧ L' = upd L x1.toNatClampNeg (-1))) : ra.toInt = rb.toInt ∧ LaR l' s' L' S := by
  have hl := LaR_at h x1
  rcases hA with ⟨a1, a2, a3, a4⟩ | ⟨a1, a0, a2, a3, a4⟩ | ⟨a1, a0, a2, a3, a4⟩ <;> rcases hB with ⟨b1, b2, b3⟩ | ⟨b1, b0, b2, b3⟩ | ⟨b1, b0, b2, b3⟩
  · rw [a3, a4, b3]
    exact ⟨by omega, h⟩
  · exact absurd b1 a1
  · exact absurd b1 a1
  · exact absurd a1 b1
  · rw [a3, a4, b3]
    exact ⟨by omega, h⟩
  · have := hl a1
    omega
  · exact absurd a1 b1
  · have := hl a1
    omega
  · have hl1 := hl a1
    rw [a3, a4, b3]
    refine ⟨by have := hl1.2.2 (by omega); omega, ?_⟩
    intro j hj
    by_cases hk : j = x1.toNatClampNeg
    · rw [hk, vaup_is, vaup_is, upd_is]
      exact ⟨rfl, by decide, fun z => absurd z (by decide)⟩
    · rw [vaup_no hk, vaup_no hk, upd_no hk]
      exact h j hj
theorem item_same {l s L S : Nat → Int32} {x1 x2 x3 ra rb : Int32} (h : LaR l s L S) (hA : (¬ (0 ≤ x1.toInt ∧ x1.toInt < 4 ∧ 0 ≤ x2.toInt ∧ x2.toInt < 3) ∧ ra.toInt = -1) ∨ ((0 ≤ x1.toInt ∧ x1.toInt < 4 ∧ 0 ≤ x2.toInt ∧ x2.toInt < 3) ∧ (l x1.toNatClampNeg).toInt = -1 ∧ ra.toInt = -11) ∨ ((0 ≤ x1.toInt ∧ x1.toInt < 4 ∧ 0 ≤ x2.toInt ∧ x2.toInt < 3) ∧ ¬ (l x1.toNatClampNeg).toInt = -1 ∧ ¬ (l x1.toNatClampNeg).toInt = x2.toInt ∧ ra.toInt = -12) ∨ ((0 ≤ x1.toInt ∧ x1.toInt < 4 ∧ 0 ≤ x2.toInt ∧ x2.toInt < 3) ∧ ¬ (l x1.toNatClampNeg).toInt = -1 ∧ (l x1.toNatClampNeg).toInt = x2.toInt ∧ ¬ (0 ≤ x3.toInt ∧ 0 ≤ (1 : Int) ∧ x3.toInt + (1 : Int) ≤ (s x1.toNatClampNeg).toInt) ∧ ra.toInt = -13) ∨ ((0 ≤ x1.toInt ∧ x1.toInt < 4 ∧ 0 ≤ x2.toInt ∧ x2.toInt < 3) ∧ ¬ (l x1.toNatClampNeg).toInt = -1 ∧ (l x1.toNatClampNeg).toInt = x2.toInt ∧ 0 ≤ x3.toInt ∧ 0 ≤ (1 : Int) ∧ x3.toInt + (1 : Int) ≤ (s x1.toNatClampNeg).toInt ∧ ra.toInt = 1)) (hB : (¬ (0 ≤ x1.toInt ∧ x1.toInt < 4 ∧ 0 ≤ x2.toInt ∧ x2.toInt < 3) ∧ rb.toInt = -1) ∨ ((0 ≤ x1.toInt ∧ x1.toInt < 4 ∧ 0 ≤ x2.toInt ∧ x2.toInt < 3) ∧ (L x1.toNatClampNeg).toInt < 0 ∧ rb.toInt = -11) ∨ ((0 ≤ x1.toInt ∧ x1.toInt < 4 ∧ 0 ≤ x2.toInt ∧ x2.toInt < 3) ∧ 0 ≤ (L x1.toNatClampNeg).toInt ∧ ¬ (L x1.toNatClampNeg).toInt = x2.toInt ∧ rb.toInt = -12) ∨ ((0 ≤ x1.toInt ∧ x1.toInt < 4 ∧ 0 ≤ x2.toInt ∧ x2.toInt < 3) ∧ 0 ≤ (L x1.toNatClampNeg).toInt ∧ (L x1.toNatClampNeg).toInt = x2.toInt ∧ ¬ (0 ≤ x3.toInt ∧ 0 ≤ (1 : Int) ∧ x3.toInt + (1 : Int) ≤ (S x1.toNatClampNeg).toInt) ∧ rb.toInt = -13) ∨ ((0 ≤ x1.toInt ∧ x1.toInt < 4 ∧ 0 ≤ x2.toInt ∧ x2.toInt < 3) ∧ 0 ≤ (L x1.toNatClampNeg).toInt ∧ (L x1.toNatClampNeg).toInt = x2.toInt ∧ 0 ≤ x3.toInt ∧ 0 ≤ (1 : Int) ∧ x3.toInt + (1 : Int) ≤ (S x1.toNatClampNeg).toInt ∧ rb.toInt = 1)) : ra.toInt = rb.toInt := by
  have hl := LaR_at h x1
  rcases hA with a | a | a | a | a <;> rcases hB with b | b | b | b | b <;> omega
theorem copy_same {l s L S : Nat → Int32} {x1 x2 x3 x4 x5 ra rb : Int32} (h : LaR l s L S) (hA : (¬ (0 ≤ x1.toInt ∧ x1.toInt < 4 ∧ 0 ≤ x3.toInt ∧ x3.toInt < 4) ∧ ra.toInt = -1) ∨ ((0 ≤ x1.toInt ∧ x1.toInt < 4 ∧ 0 ≤ x3.toInt ∧ x3.toInt < 4) ∧ ((l x1.toNatClampNeg).toInt = -1 ∨ (l x3.toNatClampNeg).toInt = -1) ∧ ra.toInt = -11) ∨ ((0 ≤ x1.toInt ∧ x1.toInt < 4 ∧ 0 ≤ x3.toInt ∧ x3.toInt < 4) ∧ ¬ (l x1.toNatClampNeg).toInt = -1 ∧ ¬ (l x3.toNatClampNeg).toInt = -1 ∧ ¬ (l x1.toNatClampNeg).toInt = (l x3.toNatClampNeg).toInt ∧ ra.toInt = -12) ∨ ((0 ≤ x1.toInt ∧ x1.toInt < 4 ∧ 0 ≤ x3.toInt ∧ x3.toInt < 4) ∧ ¬ (l x1.toNatClampNeg).toInt = -1 ∧ ¬ (l x3.toNatClampNeg).toInt = -1 ∧ (l x1.toNatClampNeg).toInt = (l x3.toNatClampNeg).toInt ∧ ¬ (0 ≤ x2.toInt ∧ 0 ≤ x5.toInt ∧ x2.toInt + x5.toInt ≤ (s x1.toNatClampNeg).toInt ∧ 0 ≤ x4.toInt ∧ x4.toInt + x5.toInt ≤ (s x3.toNatClampNeg).toInt) ∧ ra.toInt = -13) ∨ ((0 ≤ x1.toInt ∧ x1.toInt < 4 ∧ 0 ≤ x3.toInt ∧ x3.toInt < 4) ∧ ¬ (l x1.toNatClampNeg).toInt = -1 ∧ ¬ (l x3.toNatClampNeg).toInt = -1 ∧ (l x1.toNatClampNeg).toInt = (l x3.toNatClampNeg).toInt ∧ 0 ≤ x2.toInt ∧ 0 ≤ x5.toInt ∧ x2.toInt + x5.toInt ≤ (s x1.toNatClampNeg).toInt ∧ 0 ≤ x4.toInt ∧ x4.toInt + x5.toInt ≤ (s x3.toNatClampNeg).toInt ∧ ra.toInt = x5.toInt)) (hB : (¬ (0 ≤ x1.toInt ∧ x1.toInt < 4 ∧ 0 ≤ x3.toInt ∧ x3.toInt < 4) ∧ rb.toInt = -1) ∨ ((0 ≤ x1.toInt ∧ x1.toInt < 4 ∧ 0 ≤ x3.toInt ∧ x3.toInt < 4) ∧ ((L x1.toNatClampNeg).toInt < 0 ∨ (L x3.toNatClampNeg).toInt < 0) ∧ rb.toInt = -11) ∨ ((0 ≤ x1.toInt ∧ x1.toInt < 4 ∧ 0 ≤ x3.toInt ∧ x3.toInt < 4) ∧ 0 ≤ (L x1.toNatClampNeg).toInt ∧ 0 ≤ (L x3.toNatClampNeg).toInt ∧ ¬ (L x1.toNatClampNeg).toInt = (L x3.toNatClampNeg).toInt ∧ rb.toInt = -12) ∨ ((0 ≤ x1.toInt ∧ x1.toInt < 4 ∧ 0 ≤ x3.toInt ∧ x3.toInt < 4) ∧ 0 ≤ (L x1.toNatClampNeg).toInt ∧ 0 ≤ (L x3.toNatClampNeg).toInt ∧ (L x1.toNatClampNeg).toInt = (L x3.toNatClampNeg).toInt ∧ ¬ (0 ≤ x2.toInt ∧ 0 ≤ x5.toInt ∧ x2.toInt + x5.toInt ≤ (S x1.toNatClampNeg).toInt ∧ 0 ≤ x4.toInt ∧ x4.toInt + x5.toInt ≤ (S x3.toNatClampNeg).toInt) ∧ rb.toInt = -13) ∨ ((0 ≤ x1.toInt ∧ x1.toInt < 4 ∧ 0 ≤ x3.toInt ∧ x3.toInt < 4) ∧ 0 ≤ (L x1.toNatClampNeg).toInt ∧ 0 ≤ (L x3.toNatClampNeg).toInt ∧ (L x1.toNatClampNeg).toInt = (L x3.toNatClampNeg).toInt ∧ 0 ≤ x2.toInt ∧ 0 ≤ x5.toInt ∧ x2.toInt + x5.toInt ≤ (S x1.toNatClampNeg).toInt ∧ 0 ≤ x4.toInt ∧ x4.toInt + x5.toInt ≤ (S x3.toNatClampNeg).toInt ∧ rb.toInt = x5.toInt)) : ra.toInt = rb.toInt := by
  have hl := LaR_at h x1
  have hl3 := LaR_at h x3
  rcases hA with a | a | a | a | a <;> rcases hB with b | b | b | b | b <;> omega
theorem sheet_ans {l s l' s' L S L' S' : Nat → Int32} {x1 x2 x3 ra rb : Int32} (hA : (¬ (0 ≤ x1.toInt ∧ x1.toInt < 4 ∧ 0 ≤ x2.toInt ∧ x2.toInt < 3 ∧ x3.toInt ≤ 16) ∧ ra.toInt = -1 ∧ l' = l ∧ s' = s) ∨ ((0 ≤ x1.toInt ∧ x1.toInt < 4 ∧ 0 ≤ x2.toInt ∧ x2.toInt < 3 ∧ x3.toInt ≤ 16) ∧ x3.toInt < 0 ∧ ra.toInt = -14 ∧ l' = l ∧ s' = s) ∨ ((0 ≤ x1.toInt ∧ x1.toInt < 4 ∧ 0 ≤ x2.toInt ∧ x2.toInt < 3 ∧ x3.toInt ≤ 16) ∧ 0 ≤ x3.toInt ∧ ra.toInt = x3.toInt ∧ l' = va_up l x1.toNatClampNeg x2 ∧ s' = va_up s x1.toNatClampNeg x3)) (hB : (¬ (0 ≤ x1.toInt ∧ x1.toInt < 4 ∧ 0 ≤ x2.toInt ∧ x2.toInt < 3 ∧ x3.toInt ≤ 16) ∧ rb.toInt = -1 ∧ L' = L ∧ S' = S) ∨ ((0 ≤ x1.toInt ∧ x1.toInt < 4 ∧ 0 ≤ x2.toInt ∧ x2.toInt < 3 ∧ x3.toInt ≤ 16) ∧ x3.toInt < 0 ∧ rb.toInt = -14 ∧ L' = L ∧ S' = S) ∨ ((0 ≤ x1.toInt ∧ x1.toInt < 4 ∧ 0 ≤ x2.toInt ∧ x2.toInt < 3 ∧ x3.toInt ≤ 16) ∧ 0 ≤ x3.toInt ∧ rb.toInt = x3.toInt ∧ L' = upd L x1.toNatClampNeg x2 ∧ S' = upd S x1.toNatClampNeg x3)) : ra.toInt = rb.toInt := by
  rcases hA with ⟨a1, a2, _⟩ | ⟨a1, a0, a2, _⟩ | ⟨a1, a0, a2, _⟩ <;> rcases hB with ⟨b1, b2, _⟩ | ⟨b1, b0, b2, _⟩ | ⟨b1, b0, b2, _⟩ <;> omega
