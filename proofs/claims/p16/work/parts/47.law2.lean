/-! Tapes and seas of both, at the law. -/
theorem TRng_0 {b : Nat → Int32} {len : Int32} (h : len.toInt = 0) : TRng b len.toInt := fun j hj => by omega
theorem TapR_rng {len taped : Int32} {b t : Nat → Int32} (h : TapR len taped b t) (g : TRng b len.toInt) : TRng t taped.toInt := by
  intro j hj
  have e := h.1
  rw [← h.2 j (by omega)]
  exact g j (by omega)
theorem sea_law {V : Prop} {F : Int} {len taped la lb ra rb : Int32} {b t cu cu' cv cv' : Nat → Int32} (hR : TapR len taped b t) (hG : TRng b len.toInt) (hA : (¬ V ∧ ra.toInt = -1 ∧ la.toInt = len.toInt ∧ cu' = cu) ∨ (V ∧ la.toInt = 0 ∧ SeaP b len.toInt cu cu' F ra)) (hB : (¬ V ∧ rb.toInt = -1 ∧ lb.toInt = taped.toInt ∧ cv' = cv) ∨ (V ∧ lb.toInt = 0 ∧ SeaP t taped.toInt cv cv' F rb)) (hF : V → 0 ≤ F) : ra.toInt = rb.toInt ∧ TapR la lb b t ∧ TRng b la.toInt ∧ (EqN 200 cu cv → EqN 200 cu' cv') := by
  obtain ⟨e, hb⟩ := hR
  rcases hA with ⟨a1, a2, a3, a4⟩ | ⟨a1, a2, a3⟩ <;> rcases hB with ⟨b1, b2, b3, b4⟩ | ⟨b1, b2, b3⟩
  · refine ⟨by omega, ⟨by omega, fun j hj => hb j (by omega)⟩, by rw [a3]; exact hG, fun z => by rw [a4, b4]; exact z⟩
  · exact absurd b1 a1
  · exact absurd a1 b1
  · rw [← e] at b3
    have h := sea_same hb (hF a1) a3 b3
    exact ⟨h.1, TapR_0 a2 b2, TRng_0 a2, h.2⟩
theorem cell_same {V Z O : Prop} {n k : Nat} {x ra rb : Int32} {cu cu' wa wa' cv cv' wb wb' : Nat → Int32} (e1 : EqN n cu cv) (e2 : EqN n wa wb) (hA : (¬ V ∧ ra.toInt = -1 ∧ cu' = cu ∧ wa' = wa) ∨ (V ∧ Z ∧ ra = cu k ∧ cu' = upd cu k x ∧ wa' = wa) ∨ (V ∧ O ∧ ra = wa k ∧ cu' = cu ∧ wa' = upd wa k x)) (hB : (¬ V ∧ rb.toInt = -1 ∧ cv' = cv ∧ wb' = wb) ∨ (V ∧ Z ∧ rb = cv k ∧ cv' = upd cv k x ∧ wb' = wb) ∨ (V ∧ O ∧ rb = wb k ∧ cv' = cv ∧ wb' = upd wb k x)) (hk : V → k < n) (hZO : Z → O → False) : ra.toInt = rb.toInt ∧ EqN n cu' cv' ∧ EqN n wa' wb' := by
  have hu : ∀ f g : Nat → Int32, EqN n f g → EqN n (upd f k x) (upd g k x) := by
    intro f g h j hj
    by_cases hjk : j = k
    · rw [hjk, upd_is, upd_is]
    · rw [upd_no hjk, upd_no hjk]
      exact h j hj
  rcases hA with ⟨a1, a2, a3, a4⟩ | ⟨a1, a0, a2, a3, a4⟩ | ⟨a1, a0, a2, a3, a4⟩ <;> rcases hB with ⟨b1, b2, b3, b4⟩ | ⟨b1, b0, b2, b3, b4⟩ | ⟨b1, b0, b2, b3, b4⟩
  · rw [a3, a4, b3, b4]
    exact ⟨by omega, e1, e2⟩
  · exact absurd b1 a1
  · exact absurd b1 a1
  · exact absurd a1 b1
  · rw [a3, a4, b3, b4, a2, b2, e1 k (hk a1)]
    exact ⟨rfl, hu _ _ e1, e2⟩
  · exact (hZO a0 b0).elim
  · exact absurd a1 b1
  · exact (hZO b0 a0).elim
  · rw [a3, a4, b3, b4, a2, b2, e2 k (hk a1)]
    exact ⟨rfl, e1, hu _ _ e2⟩
theorem CurOK_i : CurOK iCur := by
  intro j hj
  unfold iCur
  rw [if_pos hj]
  decide
theorem CurOK_img {f k k' : Nat → Int32} (h : k' = va_cpy f k 0 0 200) (s : CurOK f) : CurOK k' := by
  intro j hj
  rw [h, cpy_lt hj]
  exact s j hj
theorem CurOK_rest {f f' k : Nat → Int32} {a : Int32} (h0 : a.toInt = 0 → f' = f) (h1 : ¬ a.toInt = 0 → f' = va_cpy k f 0 0 200) (s : CurOK f) (t : CurOK k) : CurOK f' := by
  by_cases ha : a.toInt = 0
  · rw [h0 ha]
    exact s
  · exact CurOK_img (h1 ha) t
theorem CurOK_eq {f g : Nat → Int32} (e : EqN 200 f g) (s : CurOK f) : CurOK g := by
  intro j hj
  rw [← e j hj]
  exact s j hj
theorem CurOK_sea {V : Prop} {F : Int} {len la ra : Int32} {b cu cu' : Nat → Int32} (s : CurOK cu) (hA : (¬ V ∧ ra.toInt = -1 ∧ la.toInt = len.toInt ∧ cu' = cu) ∨ (V ∧ la.toInt = 0 ∧ SeaP b len.toInt cu cu' F ra)) (hF : V → 0 ≤ F) : CurOK cu' := by
  rcases hA with ⟨_, _, _, a4⟩ | ⟨a1, _, a3⟩
  · rw [a4]
    exact s
  · rcases a3 with ⟨k, k1, k2, k3, k4, k5⟩ | ⟨k2, k3, k4, k5⟩ | ⟨k2, k3, k4, k5, k6⟩
    · rw [k5]
      exact s
    · rw [k5]
      exact s
    · have hF0 := hF a1
      intro j hj
      by_cases hin : (j : Int) < F ∨ F + 10 ≤ (j : Int)
      · rw [k6 j hin]
        exact s j hj
      · have a := k5 (j - F.toNat) (by omega)
        have ej : F.toNat + (j - F.toNat) = j := by omega
        rw [ej] at a
        have hd := k2 (j - F.toNat) (by omega)
        have d1 := hd.2.2.1
        have d2 := hd.2.2.2
        unfold dg at a
        omega
theorem CurOK_cell {V Z O : Prop} {k : Nat} {x ra : Int32} {cu cu' wa wa' : Nat → Int32} (s : CurOK cu) (hA : (¬ V ∧ ra.toInt = -1 ∧ cu' = cu ∧ wa' = wa) ∨ (V ∧ Z ∧ ra = cu k ∧ cu' = upd cu k x ∧ wa' = wa) ∨ (V ∧ O ∧ ra = wa k ∧ cu' = cu ∧ wa' = upd wa k x)) (hx : V → Z → 0 ≤ x.toInt ∧ x.toInt ≤ 8) : CurOK cu' := by
  rcases hA with ⟨a1, a2, a3, a4⟩ | ⟨a1, a0, a2, a3, a4⟩ | ⟨a1, a0, a2, a3, a4⟩
  · rw [a3]
    exact s
  · rw [a3]
    intro j hj
    by_cases hjk : j = k
    · rw [hjk, upd_is]
      exact hx a1 a0
    · rw [upd_no hjk]
      exact s j hj
  · rw [a3]
    exact s
theorem drift_same {s g cu cv : Nat → Int32} {x1 x2 x3 ra rb : Int32} (e : EqN 200 cu cv) (e8 : EqN 8 s g) (hA : ((0 ≤ x1.toInt ∧ x1.toInt < 100 ∧ 0 ≤ x2.toInt ∧ x2.toInt ≤ 24 ∧ 0 ≤ x3.toInt ∧ x3.toInt ≤ 1) ∧ ra.toInt = drS cu (s 7).toInt x3.toInt x1.toInt x2.toInt.toNat) ∨ (¬ (0 ≤ x1.toInt ∧ x1.toInt < 100 ∧ 0 ≤ x2.toInt ∧ x2.toInt ≤ 24 ∧ 0 ≤ x3.toInt ∧ x3.toInt ≤ 1) ∧ ra.toInt = -1)) (hB : ((0 ≤ x1.toInt ∧ x1.toInt < 100 ∧ 0 ≤ x2.toInt ∧ x2.toInt ≤ 24 ∧ 0 ≤ x3.toInt ∧ x3.toInt ≤ 1) ∧ rb.toInt = drS cv (g 7).toInt x3.toInt x1.toInt x2.toInt.toNat) ∨ (¬ (0 ≤ x1.toInt ∧ x1.toInt < 100 ∧ 0 ≤ x2.toInt ∧ x2.toInt ≤ 24 ∧ 0 ≤ x3.toInt ∧ x3.toInt ≤ 1) ∧ rb.toInt = -1)) : ra.toInt = rb.toInt := by
  rcases hA with ⟨a1, a2⟩ | ⟨a1, a2⟩ <;> rcases hB with ⟨b1, b2⟩ | ⟨b1, b2⟩
  · rw [a2, b2, e8 7 (by omega)]
    exact drS_congr e _ _ (by omega) (by omega) _
  · exact absurd a1 b1
  · exact absurd b1 a1
  · omega
theorem idx_lt {x1 x2 : Int32} (h0 : 0 ≤ x1.toInt) (h1 : x1.toInt ≤ 1) (h2 : 0 ≤ x2.toInt) (h3 : x2.toInt < 100) : ((100 * x1) + x2).toNatClampNeg < 200 := by
  have f1 : (100 * x1).toInt = (100 : Int) * x1.toInt := i_mul2 rfl rfl (by omega) (by omega)
  have f2 : ((100 * x1) + x2).toInt = (100 * x1).toInt + x2.toInt := i_add2 rfl rfl (by omega) (by omega)
  rw [i_cl]
  omega
