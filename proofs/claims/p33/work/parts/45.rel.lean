/-- where an image is kept -/
def Kp (k : Int32) (P : Prop) : Prop := ¬ k.toInt = 0 → P
theorem ok_bd48 {A0 A1 A2 A3 A4 A5 A6 A7 A8 A9 A10 A11 A12 A13 A14 A15 A16 A17 A18 A19 A20 A21 A22 A23 A24 A25 A26 A27 A28 A29 A30 A31 A32 A33 A34 A35 A36 A37 A38 A39 A40 A41 A42 A43 A44 A45 A46 A47 D : Type} {x : Option (A0 × A1 × A2 × A3 × A4 × A5 × A6 × A7 × A8 × A9 × A10 × A11 × A12 × A13 × A14 × A15 × A16 × A17 × A18 × A19 × A20 × A21 × A22 × A23 × A24 × A25 × A26 × A27 × A28 × A29 × A30 × A31 × A32 × A33 × A34 × A35 × A36 × A37 × A38 × A39 × A40 × A41 × A42 × A43 × A44 × A45 × A46 × A47)} {k : A0 → A1 → A2 → A3 → A4 → A5 → A6 → A7 → A8 → A9 → A10 → A11 → A12 → A13 → A14 → A15 → A16 → A17 → A18 → A19 → A20 → A21 → A22 → A23 → A24 → A25 → A26 → A27 → A28 → A29 → A30 → A31 → A32 → A33 → A34 → A35 → A36 → A37 → A38 → A39 → A40 → A41 → A42 → A43 → A44 → A45 → A46 → A47 → Option D} {P : D → Prop} {Q : (A0 × A1 × A2 × A3 × A4 × A5 × A6 × A7 × A8 × A9 × A10 × A11 × A12 × A13 × A14 × A15 × A16 × A17 × A18 × A19 × A20 × A21 × A22 × A23 × A24 × A25 × A26 × A27 × A28 × A29 × A30 × A31 × A32 × A33 × A34 × A35 × A36 × A37 × A38 × A39 × A40 × A41 × A42 × A43 × A44 × A45 × A46 × A47) → Prop} (h : okP x Q) (hk : ∀ (a0 : A0) (a1 : A1) (a2 : A2) (a3 : A3) (a4 : A4) (a5 : A5) (a6 : A6) (a7 : A7) (a8 : A8) (a9 : A9) (a10 : A10) (a11 : A11) (a12 : A12) (a13 : A13) (a14 : A14) (a15 : A15) (a16 : A16) (a17 : A17) (a18 : A18) (a19 : A19) (a20 : A20) (a21 : A21) (a22 : A22) (a23 : A23) (a24 : A24) (a25 : A25) (a26 : A26) (a27 : A27) (a28 : A28) (a29 : A29) (a30 : A30) (a31 : A31) (a32 : A32) (a33 : A33) (a34 : A34) (a35 : A35) (a36 : A36) (a37 : A37) (a38 : A38) (a39 : A39) (a40 : A40) (a41 : A41) (a42 : A42) (a43 : A43) (a44 : A44) (a45 : A45) (a46 : A46) (a47 : A47), Q (a0, a1, a2, a3, a4, a5, a6, a7, a8, a9, a10, a11, a12, a13, a14, a15, a16, a17, a18, a19, a20, a21, a22, a23, a24, a25, a26, a27, a28, a29, a30, a31, a32, a33, a34, a35, a36, a37, a38, a39, a40, a41, a42, a43, a44, a45, a46, a47) → okP (k a0 a1 a2 a3 a4 a5 a6 a7 a8 a9 a10 a11 a12 a13 a14 a15 a16 a17 a18 a19 a20 a21 a22 a23 a24 a25 a26 a27 a28 a29 a30 a31 a32 a33 a34 a35 a36 a37 a38 a39 a40 a41 a42 a43 a44 a45 a46 a47) P) : okP (bd48 x k) P := ok_bind h (fun q hq => hk q.1 q.2.1 q.2.2.1 q.2.2.2.1 q.2.2.2.2.1 q.2.2.2.2.2.1 q.2.2.2.2.2.2.1 q.2.2.2.2.2.2.2.1 q.2.2.2.2.2.2.2.2.1 q.2.2.2.2.2.2.2.2.2.1 q.2.2.2.2.2.2.2.2.2.2.1 q.2.2.2.2.2.2.2.2.2.2.2.1 q.2.2.2.2.2.2.2.2.2.2.2.2.1 q.2.2.2.2.2.2.2.2.2.2.2.2.2.1 q.2.2.2.2.2.2.2.2.2.2.2.2.2.2.1 q.2.2.2.2.2.2.2.2.2.2.2.2.2.2.2.1 q.2.2.2.2.2.2.2.2.2.2.2.2.2.2.2.2.1 q.2.2.2.2.2.2.2.2.2.2.2.2.2.2.2.2.2.1 q.2.2.2.2.2.2.2.2.2.2.2.2.2.2.2.2.2.2.1 q.2.2.2.2.2.2.2.2.2.2.2.2.2.2.2.2.2.2.2.1 q.2.2.2.2.2.2.2.2.2.2.2.2.2.2.2.2.2.2.2.2.1 q.2.2.2.2.2.2.2.2.2.2.2.2.2.2.2.2.2.2.2.2.2.1 q.2.2.2.2.2.2.2.2.2.2.2.2.2.2.2.2.2.2.2.2.2.2.1 q.2.2.2.2.2.2.2.2.2.2.2.2.2.2.2.2.2.2.2.2.2.2.2.1 q.2.2.2.2.2.2.2.2.2.2.2.2.2.2.2.2.2.2.2.2.2.2.2.2.1 q.2.2.2.2.2.2.2.2.2.2.2.2.2.2.2.2.2.2.2.2.2.2.2.2.2.1 q.2.2.2.2.2.2.2.2.2.2.2.2.2.2.2.2.2.2.2.2.2.2.2.2.2.2.1 q.2.2.2.2.2.2.2.2.2.2.2.2.2.2.2.2.2.2.2.2.2.2.2.2.2.2.2.1 q.2.2.2.2.2.2.2.2.2.2.2.2.2.2.2.2.2.2.2.2.2.2.2.2.2.2.2.2.1 q.2.2.2.2.2.2.2.2.2.2.2.2.2.2.2.2.2.2.2.2.2.2.2.2.2.2.2.2.2.1 q.2.2.2.2.2.2.2.2.2.2.2.2.2.2.2.2.2.2.2.2.2.2.2.2.2.2.2.2.2.2.1 q.2.2.2.2.2.2.2.2.2.2.2.2.2.2.2.2.2.2.2.2.2.2.2.2.2.2.2.2.2.2.2.1 q.2.2.2.2.2.2.2.2.2.2.2.2.2.2.2.2.2.2.2.2.2.2.2.2.2.2.2.2.2.2.2.2.1 q.2.2.2.2.2.2.2.2.2.2.2.2.2.2.2.2.2.2.2.2.2.2.2.2.2.2.2.2.2.2.2.2.2.1 q.2.2.2.2.2.2.2.2.2.2.2.2.2.2.2.2.2.2.2.2.2.2.2.2.2.2.2.2.2.2.2.2.2.2.1 q.2.2.2.2.2.2.2.2.2.2.2.2.2.2.2.2.2.2.2.2.2.2.2.2.2.2.2.2.2.2.2.2.2.2.2.1 q.2.2.2.2.2.2.2.2.2.2.2.2.2.2.2.2.2.2.2.2.2.2.2.2.2.2.2.2.2.2.2.2.2.2.2.2.1 q.2.2.2.2.2.2.2.2.2.2.2.2.2.2.2.2.2.2.2.2.2.2.2.2.2.2.2.2.2.2.2.2.2.2.2.2.2.1 q.2.2.2.2.2.2.2.2.2.2.2.2.2.2.2.2.2.2.2.2.2.2.2.2.2.2.2.2.2.2.2.2.2.2.2.2.2.2.1 q.2.2.2.2.2.2.2.2.2.2.2.2.2.2.2.2.2.2.2.2.2.2.2.2.2.2.2.2.2.2.2.2.2.2.2.2.2.2.2.1 q.2.2.2.2.2.2.2.2.2.2.2.2.2.2.2.2.2.2.2.2.2.2.2.2.2.2.2.2.2.2.2.2.2.2.2.2.2.2.2.2.1 q.2.2.2.2.2.2.2.2.2.2.2.2.2.2.2.2.2.2.2.2.2.2.2.2.2.2.2.2.2.2.2.2.2.2.2.2.2.2.2.2.2.1 q.2.2.2.2.2.2.2.2.2.2.2.2.2.2.2.2.2.2.2.2.2.2.2.2.2.2.2.2.2.2.2.2.2.2.2.2.2.2.2.2.2.2.1 q.2.2.2.2.2.2.2.2.2.2.2.2.2.2.2.2.2.2.2.2.2.2.2.2.2.2.2.2.2.2.2.2.2.2.2.2.2.2.2.2.2.2.2.1 q.2.2.2.2.2.2.2.2.2.2.2.2.2.2.2.2.2.2.2.2.2.2.2.2.2.2.2.2.2.2.2.2.2.2.2.2.2.2.2.2.2.2.2.2.1 q.2.2.2.2.2.2.2.2.2.2.2.2.2.2.2.2.2.2.2.2.2.2.2.2.2.2.2.2.2.2.2.2.2.2.2.2.2.2.2.2.2.2.2.2.2.1 q.2.2.2.2.2.2.2.2.2.2.2.2.2.2.2.2.2.2.2.2.2.2.2.2.2.2.2.2.2.2.2.2.2.2.2.2.2.2.2.2.2.2.2.2.2.2.1 q.2.2.2.2.2.2.2.2.2.2.2.2.2.2.2.2.2.2.2.2.2.2.2.2.2.2.2.2.2.2.2.2.2.2.2.2.2.2.2.2.2.2.2.2.2.2.2 hq)
/-! Relations of class and model, and how images keep them. -/
theorem cpy_lt {f g : Nat → Int32} {n j : Nat} (h : j < n) : va_cpy f g 0 0 n j = f j := by
  unfold va_cpy
  rw [if_pos ⟨Nat.zero_le _, by omega⟩]
  congr 1
  omega
theorem EqN_rest {n off : Nat} {f f' k g g' im : Nat → Int32} {a b : Int32} (hab : a.toInt = b.toInt) (h0 : a.toInt = 0 → f' = f) (h1 : ¬ a.toInt = 0 → f' = va_cpy k f 0 0 n) (g0 : b.toInt = 0 → g' = g) (g1 : ¬ b.toInt = 0 → ∀ j : Nat, j < n → g' j = im (off + j)) (e : EqN n f g) (ek : ¬ b.toInt = 0 → EqO n off k im) : EqN n f' g' := by
  intro j hj
  by_cases hb : b.toInt = 0
  · rw [h0 (by omega), g0 hb]
    exact e j hj
  · rw [h1 (by omega), cpy_lt hj, g1 hb j hj]
    exact ek hb j hj
theorem EqO_img {n off : Nat} {f k k' g im' : Nat → Int32} (h : k' = va_cpy f k 0 0 n) (m : ∀ j : Nat, j < n → im' (off + j) = g j) (e : EqN n f g) : EqO n off k' im' := by
  intro j hj
  rw [h, cpy_lt hj, m j hj]
  exact e j hj
theorem SetOK_eq {f g : Nat → Int32} (h : ∀ j : Nat, j < 8 → g j = f (0 + j)) (s : SetOK f) : SetOK g := by
  have e : ∀ j : Nat, j < 8 → g j = f j := fun j hj => by rw [h j hj, Nat.zero_add]
  unfold SetOK at *
  rw [e 0 (by omega), e 1 (by omega), e 2 (by omega), e 3 (by omega), e 4 (by omega), e 5 (by omega), e 6 (by omega), e 7 (by omega)]
  exact s
theorem SetOK_img {f k k' : Nat → Int32} (h : k' = va_cpy f k 0 0 8) (s : SetOK f) : SetOK k' := by
  rw [h]
  exact SetOK_cpy s
theorem SetOK_imgM {im g : Nat → Int32} (m : ∀ j : Nat, j < 8 → im (0 + j) = g j) (s : SetOK g) : SetOK im := by
  have e : ∀ j : Nat, j < 8 → im j = g j := fun j hj => by
    have := m j hj
    rw [Nat.zero_add] at this
    exact this
  unfold SetOK at *
  rw [e 0 (by omega), e 1 (by omega), e 2 (by omega), e 3 (by omega), e 4 (by omega), e 5 (by omega), e 6 (by omega), e 7 (by omega)]
  exact s
theorem SetOK_restC {f f' k : Nat → Int32} {a : Int32} (h0 : a.toInt = 0 → f' = f) (h1 : ¬ a.toInt = 0 → f' = va_cpy k f 0 0 8) (s : SetOK f) (t : SetOK k) : SetOK f' := by
  by_cases ha : a.toInt = 0
  · rw [h0 ha]
    exact s
  · rw [h1 ha]
    exact SetOK_cpy t
theorem SetOK_restM {g g' im : Nat → Int32} {b : Int32} (g0 : b.toInt = 0 → g' = g) (g1 : ¬ b.toInt = 0 → ∀ j : Nat, j < 8 → g' j = im (0 + j)) (s : SetOK g) (t : ¬ b.toInt = 0 → SetOK im) : SetOK g' := by
  by_cases hb : b.toInt = 0
  · rw [g0 hb]
    exact s
  · exact SetOK_eq (g1 hb) (t hb)
theorem rest4 {a w x y : Int32} (h0 : a.toInt = 0 → w.toInt = x.toInt) (h1 : ¬ a.toInt = 0 → w.toInt = y.toInt) (a1 : 0 ≤ x.toInt) (a2 : x.toInt ≤ 4) (b1 : 0 ≤ y.toInt) (b2 : y.toInt ≤ 4) : 0 ≤ w.toInt ∧ w.toInt ≤ 4 := by
  by_cases ha : a.toInt = 0
  · have := h0 ha
    omega
  · have := h1 ha
    omega
theorem cnt_rest {a b x x' k y y' im : Int32} (hab : a.toInt = b.toInt) (h0 : a.toInt = 0 → x'.toInt = x.toInt) (h1 : ¬ a.toInt = 0 → x'.toInt = k.toInt) (g0 : b.toInt = 0 → y'.toInt = y.toInt) (g1 : ¬ b.toInt = 0 → y'.toInt = im.toInt) (e : x.toInt = y.toInt) (ek : ¬ b.toInt = 0 → k.toInt = im.toInt) : x'.toInt = y'.toInt := by
  by_cases hb : b.toInt = 0
  · rw [h0 (by omega), g0 hb, e]
  · rw [h1 (by omega), g1 hb, ek hb]
theorem cnt_ans {a b x y : Int32} (hab : a.toInt = b.toInt) (h0 : a.toInt = 0 → x.toInt = -4) (h1 : ¬ a.toInt = 0 → x.toInt = 1) (g0 : b.toInt = 0 → y.toInt = -4) (g1 : ¬ b.toInt = 0 → y.toInt = 1) : x.toInt = y.toInt := by
  by_cases hb : b.toInt = 0
  · rw [h0 (by omega), g0 hb]
  · rw [h1 (by omega), g1 hb]
theorem SetOK_i : SetOK iSet := by
  unfold SetOK
  decide
theorem SetOK_j : SetOK jSet := by
  unfold SetOK
  decide
theorem EqN_ij : EqN 8 iSet jSet := by
  unfold EqN
  decide
theorem upd_same {V : Prop} {n k : Nat} {x ra rb : Int32} {f g f' g' : Nat → Int32} (h : EqN n f g) (hA : (V ∧ ra = f k ∧ f' = upd f k x) ∨ (¬ V ∧ ra.toInt = -1 ∧ f' = f)) (hB : (V ∧ rb = g k ∧ g' = upd g k x) ∨ (¬ V ∧ rb.toInt = -1 ∧ g' = g)) (hk : V → k < n) : ra.toInt = rb.toInt ∧ EqN n f' g' := by
  rcases hA with ⟨a1, a2, a3⟩ | ⟨a1, a2, a3⟩
  · rcases hB with ⟨b1, b2, b3⟩ | ⟨b1, b2, b3⟩
    · refine ⟨by rw [a2, b2, h _ (hk a1)], ?_⟩
      intro j hj
      rw [a3, b3]
      by_cases hjk : j = k
      · rw [hjk, upd_is, upd_is]
      · rw [upd_no hjk, upd_no hjk]
        exact h j hj
    · exact absurd a1 b1
  · rcases hB with ⟨b1, b2, b3⟩ | ⟨b1, b2, b3⟩
    · exact absurd b1 a1
    · refine ⟨by rw [a2, b2], ?_⟩
      rw [a3, b3]
      exact h
theorem cnt_same {V : Prop} {a b ra rb a' b' : Int32} (h : a.toInt = b.toInt) (hA : (¬ V ∧ ra.toInt = -1 ∧ a'.toInt = a.toInt) ∨ (V ∧ 4 ≤ a.toInt ∧ ra.toInt = -3 ∧ a'.toInt = a.toInt) ∨ (V ∧ a.toInt < 4 ∧ ra.toInt = a.toInt ∧ a'.toInt = a.toInt + 1)) (hB : (¬ V ∧ rb.toInt = -1 ∧ b'.toInt = b.toInt) ∨ (V ∧ 4 ≤ b.toInt ∧ rb.toInt = -3 ∧ b'.toInt = b.toInt) ∨ (V ∧ b.toInt < 4 ∧ rb.toInt = b.toInt ∧ b'.toInt = b.toInt + 1)) : ra.toInt = rb.toInt ∧ a'.toInt = b'.toInt := by
  rcases hA with ⟨a1, a2, a3⟩ | ⟨a1, a0, a2, a3⟩ | ⟨a1, a0, a2, a3⟩ <;> rcases hB with ⟨b1, b2, b3⟩ | ⟨b1, b0, b2, b3⟩ | ⟨b1, b0, b2, b3⟩
  · omega
  · exact absurd b1 a1
  · exact absurd b1 a1
  · exact absurd a1 b1
  · omega
  · omega
  · exact absurd a1 b1
  · omega
  · omega
theorem set_same {x v ra rb : Int32} {f g f' g' : Nat → Int32} (h : EqN 8 f g) (hA : (SetV x.toInt v.toInt ∧ ra = f x.toNatClampNeg ∧ f' = upd f x.toNatClampNeg v) ∨ (¬ SetV x.toInt v.toInt ∧ ra.toInt = -1 ∧ f' = f)) (hB : (SetV x.toInt v.toInt ∧ rb = g x.toNatClampNeg ∧ g' = upd g x.toNatClampNeg v) ∨ (¬ SetV x.toInt v.toInt ∧ rb.toInt = -1 ∧ g' = g)) : ra.toInt = rb.toInt ∧ EqN 8 f' g' := by
  rcases hA with ⟨a1, a2, a3⟩ | ⟨a1, a2, a3⟩
  · rcases hB with ⟨b1, b2, b3⟩ | ⟨b1, b2, b3⟩
    · have hr := SetV_rng a1
      have hk : x.toNatClampNeg < 8 := by
        rw [i_cl]
        omega
      refine ⟨by rw [a2, b2, h _ hk], ?_⟩
      intro j hj
      rw [a3, b3]
      by_cases hjk : j = x.toNatClampNeg
      · rw [hjk, upd_is, upd_is]
      · rw [upd_no hjk, upd_no hjk]
        exact h j hj
    · exact absurd a1 b1
  · rcases hB with ⟨b1, b2, b3⟩ | ⟨b1, b2, b3⟩
    · exact absurd b1 a1
    · refine ⟨by rw [a2, b2], ?_⟩
      rw [a3, b3]
      exact h
theorem l_X7_image (o_pieces o_drags o_kept : Int32) (o_sets o_ringFar o_ringTone o_currents o_warmths o_depths o_pieceParts o_dragCell o_dragBy o_image : Nat → Int32) : okP (f_X7_image o_pieces o_drags o_kept o_sets o_ringFar o_ringTone o_currents o_warmths o_depths o_pieceParts o_dragCell o_dragBy o_image) (fun u => u.1.toInt = 1 ∧ u.2.1.toInt = 1 ∧ (u.2.2 554).toInt = o_pieces.toInt ∧ (u.2.2 555).toInt = o_drags.toInt ∧ (∀ j : Nat, j < 8 → u.2.2 (0 + j) = o_sets j) ∧ (∀ j : Nat, j < 7 → u.2.2 (8 + j) = o_ringFar j) ∧ (∀ j : Nat, j < 7 → u.2.2 (15 + j) = o_ringTone j) ∧ (∀ j : Nat, j < 200 → u.2.2 (22 + j) = o_currents j) ∧ (∀ j : Nat, j < 200 → u.2.2 (222 + j) = o_warmths j) ∧ (∀ j : Nat, j < 100 → u.2.2 (422 + j) = o_depths j) ∧ (∀ j : Nat, j < 20 → u.2.2 (522 + j) = o_pieceParts j) ∧ (∀ j : Nat, j < 6 → u.2.2 (542 + j) = o_dragCell j) ∧ (∀ j : Nat, j < 6 → u.2.2 (548 + j) = o_dragBy j)) := by
  refine ok_mono (s_X7_image o_pieces o_drags o_kept o_sets o_ringFar o_ringTone o_currents o_warmths o_depths o_pieceParts o_dragCell o_dragBy o_image) (fun u q => ?_)
  obtain ⟨q1, q2, e1, e2, e3, e4, e5, e6, e7, e8, e9, e10, e11⟩ := q
  exact ⟨q1, q2, congrArg Int32.toInt e10, congrArg Int32.toInt e11, e1, e2, e3, e4, e5, e6, e7, e8, e9⟩
theorem l_X7_restore (o_pieces o_drags o_kept : Int32) (o_sets o_ringFar o_ringTone o_currents o_warmths o_depths o_pieceParts o_dragCell o_dragBy o_image : Nat → Int32) : okP (f_X7_restore o_pieces o_drags o_kept o_sets o_ringFar o_ringTone o_currents o_warmths o_depths o_pieceParts o_dragCell o_dragBy o_image) (fun u => (o_kept.toInt = 0 → u.1.toInt = -4) ∧ (¬ o_kept.toInt = 0 → u.1.toInt = 1) ∧ (o_kept.toInt = 0 → u.2.1.toInt = o_pieces.toInt) ∧ (¬ o_kept.toInt = 0 → u.2.1.toInt = (o_image 554).toInt) ∧ (o_kept.toInt = 0 → u.2.2.1.toInt = o_drags.toInt) ∧ (¬ o_kept.toInt = 0 → u.2.2.1.toInt = (o_image 555).toInt) ∧ (o_kept.toInt = 0 → u.2.2.2.1 = o_sets) ∧ (¬ o_kept.toInt = 0 → ∀ j : Nat, j < 8 → u.2.2.2.1 j = o_image (0 + j)) ∧ (o_kept.toInt = 0 → u.2.2.2.2.1 = o_ringFar) ∧ (¬ o_kept.toInt = 0 → ∀ j : Nat, j < 7 → u.2.2.2.2.1 j = o_image (8 + j)) ∧ (o_kept.toInt = 0 → u.2.2.2.2.2.1 = o_ringTone) ∧ (¬ o_kept.toInt = 0 → ∀ j : Nat, j < 7 → u.2.2.2.2.2.1 j = o_image (15 + j)) ∧ (o_kept.toInt = 0 → u.2.2.2.2.2.2.1 = o_currents) ∧ (¬ o_kept.toInt = 0 → ∀ j : Nat, j < 200 → u.2.2.2.2.2.2.1 j = o_image (22 + j)) ∧ (o_kept.toInt = 0 → u.2.2.2.2.2.2.2.1 = o_warmths) ∧ (¬ o_kept.toInt = 0 → ∀ j : Nat, j < 200 → u.2.2.2.2.2.2.2.1 j = o_image (222 + j)) ∧ (o_kept.toInt = 0 → u.2.2.2.2.2.2.2.2.1 = o_depths) ∧ (¬ o_kept.toInt = 0 → ∀ j : Nat, j < 100 → u.2.2.2.2.2.2.2.2.1 j = o_image (422 + j)) ∧ (o_kept.toInt = 0 → u.2.2.2.2.2.2.2.2.2.1 = o_pieceParts) ∧ (¬ o_kept.toInt = 0 → ∀ j : Nat, j < 20 → u.2.2.2.2.2.2.2.2.2.1 j = o_image (522 + j)) ∧ (o_kept.toInt = 0 → u.2.2.2.2.2.2.2.2.2.2.1 = o_dragCell) ∧ (¬ o_kept.toInt = 0 → ∀ j : Nat, j < 6 → u.2.2.2.2.2.2.2.2.2.2.1 j = o_image (542 + j)) ∧ (o_kept.toInt = 0 → u.2.2.2.2.2.2.2.2.2.2.2 = o_dragBy) ∧ (¬ o_kept.toInt = 0 → ∀ j : Nat, j < 6 → u.2.2.2.2.2.2.2.2.2.2.2 j = o_image (548 + j))) := by
  refine ok_mono (s_X7_restore o_pieces o_drags o_kept o_sets o_ringFar o_ringTone o_currents o_warmths o_depths o_pieceParts o_dragCell o_dragBy o_image) (fun u q => ?_)
  rcases q with ⟨c, r, a, b, e0, e1, e2, e3, e4, e5, e6, e7, e8⟩ | ⟨c, r, a, b, e0, e1, e2, e3, e4, e5, e6, e7, e8⟩
  · exact ⟨fun _ => r, fun z => absurd c z, fun _ => congrArg Int32.toInt a, fun z => absurd c z, fun _ => congrArg Int32.toInt b, fun z => absurd c z, fun _ => e0, fun z => absurd c z, fun _ => e1, fun z => absurd c z, fun _ => e2, fun z => absurd c z, fun _ => e3, fun z => absurd c z, fun _ => e4, fun z => absurd c z, fun _ => e5, fun z => absurd c z, fun _ => e6, fun z => absurd c z, fun _ => e7, fun z => absurd c z, fun _ => e8, fun z => absurd c z⟩
  · exact ⟨fun z => absurd z c, fun _ => r, fun z => absurd z c, fun _ => congrArg Int32.toInt a, fun z => absurd z c, fun _ => congrArg Int32.toInt b, fun z => absurd z c, fun _ => e0, fun z => absurd z c, fun _ => e1, fun z => absurd z c, fun _ => e2, fun z => absurd z c, fun _ => e3, fun z => absurd z c, fun _ => e4, fun z => absurd z c, fun _ => e5, fun z => absurd z c, fun _ => e6, fun z => absurd z c, fun _ => e7, fun z => absurd z c, fun _ => e8⟩
theorem l_X6_image (o_hasImage : Int32) (told_pieceCount : Int32) (told_dragCount : Int32) (told_settings : Nat → Int32) (told_howFar : Nat → Int32) (told_tones : Nat → Int32) (told_currents : Nat → Int32) (told_warmths : Nat → Int32) (told_depths : Nat → Int32) (told_fars : Nat → Int32) (told_pieceCells : Nat → Int32) (told_pieceMonths : Nat → Int32) (told_pieceHighs : Nat → Int32) (told_pieceAges : Nat → Int32) (told_pieceNeeds : Nat → Int32) (told_dragCells : Nat → Int32) (told_dragEighths : Nat → Int32) (kept_pieceCount : Int32) (kept_dragCount : Int32) (kept_settings : Nat → Int32) (kept_howFar : Nat → Int32) (kept_tones : Nat → Int32) (kept_currents : Nat → Int32) (kept_warmths : Nat → Int32) (kept_depths : Nat → Int32) (kept_fars : Nat → Int32) (kept_pieceCells : Nat → Int32) (kept_pieceMonths : Nat → Int32) (kept_pieceHighs : Nat → Int32) (kept_pieceAges : Nat → Int32) (kept_pieceNeeds : Nat → Int32) (kept_dragCells : Nat → Int32) (kept_dragEighths : Nat → Int32) : okP (f_X6_image o_hasImage told_pieceCount told_dragCount told_settings told_howFar told_tones told_currents told_warmths told_depths told_fars told_pieceCells told_pieceMonths told_pieceHighs told_pieceAges told_pieceNeeds told_dragCells told_dragEighths kept_pieceCount kept_dragCount kept_settings kept_howFar kept_tones kept_currents kept_warmths kept_depths kept_fars kept_pieceCells kept_pieceMonths kept_pieceHighs kept_pieceAges kept_pieceNeeds kept_dragCells kept_dragEighths) (fun u => (u.1.toInt = 1) ∧ (u.2.1.toInt = 1) ∧ (u.2.2.1.toInt = told_pieceCount.toInt) ∧ (u.2.2.2.1.toInt = told_dragCount.toInt) ∧ (u.2.2.2.2.1 = va_cpy told_settings kept_settings 0 0 8) ∧ (u.2.2.2.2.2.1 = va_cpy told_howFar kept_howFar 0 0 7) ∧ (u.2.2.2.2.2.2.1 = va_cpy told_tones kept_tones 0 0 7) ∧ (u.2.2.2.2.2.2.2.1 = va_cpy told_currents kept_currents 0 0 200) ∧ (u.2.2.2.2.2.2.2.2.1 = va_cpy told_warmths kept_warmths 0 0 200) ∧ (u.2.2.2.2.2.2.2.2.2.1 = va_cpy told_depths kept_depths 0 0 100) ∧ (u.2.2.2.2.2.2.2.2.2.2.1 = va_cpy told_fars kept_fars 0 0 100) ∧ (u.2.2.2.2.2.2.2.2.2.2.2.1 = va_cpy told_pieceCells kept_pieceCells 0 0 4) ∧ (u.2.2.2.2.2.2.2.2.2.2.2.2.1 = va_cpy told_pieceMonths kept_pieceMonths 0 0 4) ∧ (u.2.2.2.2.2.2.2.2.2.2.2.2.2.1 = va_cpy told_pieceHighs kept_pieceHighs 0 0 4) ∧ (u.2.2.2.2.2.2.2.2.2.2.2.2.2.2.1 = va_cpy told_pieceAges kept_pieceAges 0 0 4) ∧ (u.2.2.2.2.2.2.2.2.2.2.2.2.2.2.2.1 = va_cpy told_pieceNeeds kept_pieceNeeds 0 0 4) ∧ (u.2.2.2.2.2.2.2.2.2.2.2.2.2.2.2.2.1 = va_cpy told_dragCells kept_dragCells 0 0 4) ∧ (u.2.2.2.2.2.2.2.2.2.2.2.2.2.2.2.2.2 = va_cpy told_dragEighths kept_dragEighths 0 0 4)) := by
  refine ok_mono (s_X6_image o_hasImage told_pieceCount told_dragCount told_settings told_howFar told_tones told_currents told_warmths told_depths told_fars told_pieceCells told_pieceMonths told_pieceHighs told_pieceAges told_pieceNeeds told_dragCells told_dragEighths kept_pieceCount kept_dragCount kept_settings kept_howFar kept_tones kept_currents kept_warmths kept_depths kept_fars kept_pieceCells kept_pieceMonths kept_pieceHighs kept_pieceAges kept_pieceNeeds kept_dragCells kept_dragEighths) (fun u q => ?_)
  obtain ⟨q0, q1, q2, q3, q4, q5, q6, q7, q8, q9, q10, q11, q12, q13, q14, q15, q16, q17⟩ := q
  exact ⟨q0, q1, congrArg Int32.toInt q2, congrArg Int32.toInt q3, q4, q5, q6, q7, q8, q9, q10, q11, q12, q13, q14, q15, q16, q17⟩
theorem l_X6_restore (o_hasImage : Int32) (o_walkIsOld : Int32) (o_endsAreOld : Int32) (told_pieceCount : Int32) (told_dragCount : Int32) (told_settings : Nat → Int32) (told_howFar : Nat → Int32) (told_tones : Nat → Int32) (told_currents : Nat → Int32) (told_warmths : Nat → Int32) (told_depths : Nat → Int32) (told_fars : Nat → Int32) (told_pieceCells : Nat → Int32) (told_pieceMonths : Nat → Int32) (told_pieceHighs : Nat → Int32) (told_pieceAges : Nat → Int32) (told_pieceNeeds : Nat → Int32) (told_dragCells : Nat → Int32) (told_dragEighths : Nat → Int32) (kept_pieceCount : Int32) (kept_dragCount : Int32) (kept_settings : Nat → Int32) (kept_howFar : Nat → Int32) (kept_tones : Nat → Int32) (kept_currents : Nat → Int32) (kept_warmths : Nat → Int32) (kept_depths : Nat → Int32) (kept_fars : Nat → Int32) (kept_pieceCells : Nat → Int32) (kept_pieceMonths : Nat → Int32) (kept_pieceHighs : Nat → Int32) (kept_pieceAges : Nat → Int32) (kept_pieceNeeds : Nat → Int32) (kept_dragCells : Nat → Int32) (kept_dragEighths : Nat → Int32) (seas_known : Nat → Int32) : okP (f_X6_restore o_hasImage o_walkIsOld o_endsAreOld told_pieceCount told_dragCount told_settings told_howFar told_tones told_currents told_warmths told_depths told_fars told_pieceCells told_pieceMonths told_pieceHighs told_pieceAges told_pieceNeeds told_dragCells told_dragEighths kept_pieceCount kept_dragCount kept_settings kept_howFar kept_tones kept_currents kept_warmths kept_depths kept_fars kept_pieceCells kept_pieceMonths kept_pieceHighs kept_pieceAges kept_pieceNeeds kept_dragCells kept_dragEighths seas_known) (fun u => (o_hasImage.toInt = 0 → u.1.toInt = -4) ∧ (¬ o_hasImage.toInt = 0 → u.1.toInt = 1) ∧ (o_hasImage.toInt = 0 → u.2.2.2.1.toInt = told_pieceCount.toInt) ∧ (¬ o_hasImage.toInt = 0 → u.2.2.2.1.toInt = kept_pieceCount.toInt) ∧ (o_hasImage.toInt = 0 → u.2.2.2.2.1.toInt = told_dragCount.toInt) ∧ (¬ o_hasImage.toInt = 0 → u.2.2.2.2.1.toInt = kept_dragCount.toInt) ∧ (o_hasImage.toInt = 0 → u.2.2.2.2.2.1 = told_settings) ∧ (¬ o_hasImage.toInt = 0 → u.2.2.2.2.2.1 = va_cpy kept_settings told_settings 0 0 8) ∧ (o_hasImage.toInt = 0 → u.2.2.2.2.2.2.1 = told_howFar) ∧ (¬ o_hasImage.toInt = 0 → u.2.2.2.2.2.2.1 = va_cpy kept_howFar told_howFar 0 0 7) ∧ (o_hasImage.toInt = 0 → u.2.2.2.2.2.2.2.1 = told_tones) ∧ (¬ o_hasImage.toInt = 0 → u.2.2.2.2.2.2.2.1 = va_cpy kept_tones told_tones 0 0 7) ∧ (o_hasImage.toInt = 0 → u.2.2.2.2.2.2.2.2.1 = told_currents) ∧ (¬ o_hasImage.toInt = 0 → u.2.2.2.2.2.2.2.2.1 = va_cpy kept_currents told_currents 0 0 200) ∧ (o_hasImage.toInt = 0 → u.2.2.2.2.2.2.2.2.2.1 = told_warmths) ∧ (¬ o_hasImage.toInt = 0 → u.2.2.2.2.2.2.2.2.2.1 = va_cpy kept_warmths told_warmths 0 0 200) ∧ (o_hasImage.toInt = 0 → u.2.2.2.2.2.2.2.2.2.2.1 = told_depths) ∧ (¬ o_hasImage.toInt = 0 → u.2.2.2.2.2.2.2.2.2.2.1 = va_cpy kept_depths told_depths 0 0 100) ∧ (o_hasImage.toInt = 0 → u.2.2.2.2.2.2.2.2.2.2.2.1 = told_fars) ∧ (¬ o_hasImage.toInt = 0 → u.2.2.2.2.2.2.2.2.2.2.2.1 = va_cpy kept_fars told_fars 0 0 100) ∧ (o_hasImage.toInt = 0 → u.2.2.2.2.2.2.2.2.2.2.2.2.1 = told_pieceCells) ∧ (¬ o_hasImage.toInt = 0 → u.2.2.2.2.2.2.2.2.2.2.2.2.1 = va_cpy kept_pieceCells told_pieceCells 0 0 4) ∧ (o_hasImage.toInt = 0 → u.2.2.2.2.2.2.2.2.2.2.2.2.2.1 = told_pieceMonths) ∧ (¬ o_hasImage.toInt = 0 → u.2.2.2.2.2.2.2.2.2.2.2.2.2.1 = va_cpy kept_pieceMonths told_pieceMonths 0 0 4) ∧ (o_hasImage.toInt = 0 → u.2.2.2.2.2.2.2.2.2.2.2.2.2.2.1 = told_pieceHighs) ∧ (¬ o_hasImage.toInt = 0 → u.2.2.2.2.2.2.2.2.2.2.2.2.2.2.1 = va_cpy kept_pieceHighs told_pieceHighs 0 0 4) ∧ (o_hasImage.toInt = 0 → u.2.2.2.2.2.2.2.2.2.2.2.2.2.2.2.1 = told_pieceAges) ∧ (¬ o_hasImage.toInt = 0 → u.2.2.2.2.2.2.2.2.2.2.2.2.2.2.2.1 = va_cpy kept_pieceAges told_pieceAges 0 0 4) ∧ (o_hasImage.toInt = 0 → u.2.2.2.2.2.2.2.2.2.2.2.2.2.2.2.2.1 = told_pieceNeeds) ∧ (¬ o_hasImage.toInt = 0 → u.2.2.2.2.2.2.2.2.2.2.2.2.2.2.2.2.1 = va_cpy kept_pieceNeeds told_pieceNeeds 0 0 4) ∧ (o_hasImage.toInt = 0 → u.2.2.2.2.2.2.2.2.2.2.2.2.2.2.2.2.2.1 = told_dragCells) ∧ (¬ o_hasImage.toInt = 0 → u.2.2.2.2.2.2.2.2.2.2.2.2.2.2.2.2.2.1 = va_cpy kept_dragCells told_dragCells 0 0 4) ∧ (o_hasImage.toInt = 0 → u.2.2.2.2.2.2.2.2.2.2.2.2.2.2.2.2.2.2.1 = told_dragEighths) ∧ (¬ o_hasImage.toInt = 0 → u.2.2.2.2.2.2.2.2.2.2.2.2.2.2.2.2.2.2.1 = va_cpy kept_dragEighths told_dragEighths 0 0 4)) := by
  refine ok_mono (s_X6_restore o_hasImage o_walkIsOld o_endsAreOld told_pieceCount told_dragCount told_settings told_howFar told_tones told_currents told_warmths told_depths told_fars told_pieceCells told_pieceMonths told_pieceHighs told_pieceAges told_pieceNeeds told_dragCells told_dragEighths kept_pieceCount kept_dragCount kept_settings kept_howFar kept_tones kept_currents kept_warmths kept_depths kept_fars kept_pieceCells kept_pieceMonths kept_pieceHighs kept_pieceAges kept_pieceNeeds kept_dragCells kept_dragEighths seas_known) (fun u q => ?_)
  rcases q with ⟨c, r, e0, e1, e2, e3, e4, e5, e6, e7, e8, e9, e10, e11, e12, e13, e14, e15⟩ | ⟨c, r, e0, e1, e2, e3, e4, e5, e6, e7, e8, e9, e10, e11, e12, e13, e14, e15⟩
  · exact ⟨fun _ => r, fun z => absurd c z, fun _ => congrArg Int32.toInt e0, fun z => absurd c z, fun _ => congrArg Int32.toInt e1, fun z => absurd c z, fun _ => e2, fun z => absurd c z, fun _ => e3, fun z => absurd c z, fun _ => e4, fun z => absurd c z, fun _ => e5, fun z => absurd c z, fun _ => e6, fun z => absurd c z, fun _ => e7, fun z => absurd c z, fun _ => e8, fun z => absurd c z, fun _ => e9, fun z => absurd c z, fun _ => e10, fun z => absurd c z, fun _ => e11, fun z => absurd c z, fun _ => e12, fun z => absurd c z, fun _ => e13, fun z => absurd c z, fun _ => e14, fun z => absurd c z, fun _ => e15, fun z => absurd c z⟩
  · exact ⟨fun z => absurd z c, fun _ => r, fun z => absurd z c, fun _ => congrArg Int32.toInt e0, fun z => absurd z c, fun _ => congrArg Int32.toInt e1, fun z => absurd z c, fun _ => e2, fun z => absurd z c, fun _ => e3, fun z => absurd z c, fun _ => e4, fun z => absurd z c, fun _ => e5, fun z => absurd z c, fun _ => e6, fun z => absurd z c, fun _ => e7, fun z => absurd z c, fun _ => e8, fun z => absurd z c, fun _ => e9, fun z => absurd z c, fun _ => e10, fun z => absurd z c, fun _ => e11, fun z => absurd z c, fun _ => e12, fun z => absurd z c, fun _ => e13, fun z => absurd z c, fun _ => e14, fun z => absurd z c, fun _ => e15⟩
theorem FarOK_img {s ks ks' f kf kf' : Nat → Int32} (h1 : ks' = va_cpy s ks 0 0 8) (h2 : kf' = va_cpy f kf 0 0 100) (h : FarOK s f) : FarOK ks' kf' := by
  intro k hk
  rw [h1, h2, cpy_lt hk, cpy_lt (f := s) (g := ks) (n := 8) (j := 0) (by omega)]
  exact h k hk
theorem FarOK_rest {s s' ks f f' kf : Nat → Int32} {a : Int32} (h0 : a.toInt = 0 → s' = s) (h1 : ¬ a.toInt = 0 → s' = va_cpy ks s 0 0 8) (g0 : a.toInt = 0 → f' = f) (g1 : ¬ a.toInt = 0 → f' = va_cpy kf f 0 0 100) (h : FarOK s f) (k : FarOK ks kf) : FarOK s' f' := by
  by_cases ha : a.toInt = 0
  · rw [h0 ha, g0 ha]
    exact h
  · exact FarOK_img (h1 ha) (g1 ha) k
theorem far_same {s g f : Nat → Int32} {x ra rb : Int32} (h : FarOK s f) (e : EqN 8 s g) (hA : ((0 ≤ x.toInt ∧ x.toInt < 100) ∧ ra = f x.toNatClampNeg) ∨ (¬ (0 ≤ x.toInt ∧ x.toInt < 100) ∧ ra.toInt = -1)) (hB : ((0 ≤ x.toInt ∧ x.toInt < 100) ∧ rb = nI (rt (sqd (g 0).toInt.toNat x.toNatClampNeg))) ∨ (¬ (0 ≤ x.toInt ∧ x.toInt < 100) ∧ rb.toInt = -1)) : ra.toInt = rb.toInt := by
  rcases hA with ⟨a1, a2⟩ | ⟨a1, a2⟩ <;> rcases hB with ⟨b1, b2⟩ | ⟨b1, b2⟩
  · rw [a2, b2, h x.toNatClampNeg (by rw [i_cl]; omega), e 0 (by omega)]
  · exact absurd a1 b1
  · exact absurd b1 a1
  · rw [a2, b2]
theorem FarOK_i : FarOK iSet iFars := by
  intro k hk
  unfold iFars
  rw [if_pos ⟨Nat.zero_le _, hk⟩]
  rfl
