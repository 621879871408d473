/-! Images of the model: what is saved and given back. -/
theorem s_X7_saves_L2 (n1 n2 a : Nat) (x : Int32) (f g : Nat → Int32) (hn : n2 < 1000) (hx : x.toInt = (a : Int)) (ha : a + n1 ≤ n2) : ∀ (n i : Nat) (v : Int32) (q : Nat → Int32), v.toInt = (i : Int) → i ≤ n1 → n1 - i < n → (∀ j : Nat, j < i → q (a + j) = f j) → (∀ j : Nat, (j < a ∨ a + i ≤ j) → q j = g j) → okP (f_X7_saves_L2 n1 n2 n x v f q) (fun u => u.1.toInt = ((a + n1 : Nat) : Int) ∧ (∀ j : Nat, j < n1 → u.2 (a + j) = f j) ∧ (∀ j : Nat, (j < a ∨ a + n1 ≤ j) → u.2 j = g j)) := by
  have hN : (Int32.ofNat n1).toInt = (n1 : Int) := Int32.toInt_ofNat_of_lt (by omega)
  intro n
  induction n with
  | zero =>
    intro i v q h1 h2 h3
    exact absurd h3 (Nat.not_lt_zero _)
  | succ n ih =>
    intro i v q h1 h2 h3 h4 h5
    show okP (f_X7_saves_L2b n1 n2 (f_X7_saves_L2 n1 n2 n) x v f q) _
    unfold f_X7_saves_L2b
    refine ok_ite (fun c => ?_) (fun c => ?_)
    · have c1 : (Int32.ofNat n1).toInt ≤ v.toInt := i_le.mp c
      have e : i = n1 := by omega
      subst e
      have f1 : (x + Int32.ofNat i).toInt = x.toInt + (Int32.ofNat i).toInt := i_add2 rfl rfl (by omega) (by omega)
      exact ok_some ⟨by show (x + Int32.ofNat i).toInt = _; omega, h4, h5⟩
    · have c1 : ¬ (Int32.ofNat n1).toInt ≤ v.toInt := fun z => c (i_le.mpr z)
      have f1 : (x + v).toInt = x.toInt + v.toInt := i_add2 rfl rfl (by omega) (by omega)
      have f2 : (v + 1).toInt = v.toInt + (1 : Int) := i_add2 rfl rfl (by omega) (by omega)
      refine ok_chk (ix (by omega) (by omega)) ?_
      refine ok_nmx (fun y hy => ?_)
      refine ok_chk (ix (by omega) (by omega)) ?_
      refine ok_nmi (fun z hz kz => ?_)
      have e1 : v.toNatClampNeg = i := by rw [i_cl]; omega
      have e2 : (x + v).toNatClampNeg = a + i := by rw [i_cl]; omega
      rw [e2]
      rw [e1] at hy
      refine ih (i + 1) z _ (by omega) (by omega) (by omega) (fun j hj => ?_) (fun j hj => ?_)
      · by_cases hji : j = i
        · rw [hji, upd_is]
          exact hy
        · rw [upd_no (by omega)]
          exact h4 j (by omega)
      · rw [upd_no (by omega)]
        exact h5 j (by omega)
theorem s_X7_saves (n1 n2 a : Nat) (x : Int32) (f g : Nat → Int32) (hn : n2 < 1000) (hx : x.toInt = (a : Int)) (ha : a + n1 ≤ n2) : okP (f_X7_saves n1 n2 x f g) (fun u => u.1.toInt = ((a + n1 : Nat) : Int) ∧ (∀ j : Nat, j < n1 → u.2 (a + j) = f j) ∧ (∀ j : Nat, (j < a ∨ a + n1 ≤ j) → u.2 j = g j)) := by
  unfold f_X7_saves
  exact s_X7_saves_L2 n1 n2 a x f g hn hx ha FU 0 0 g rfl (by omega) (FU_gt (by omega)) (fun j hj => by omega) (fun j _ => rfl)
theorem s_X7_gives_L2 (n1 n3 a : Nat) (x : Int32) (f : Nat → Int32) (hn : n1 < 1000) (hx : x.toInt = (a : Int)) (ha : a + n3 ≤ n1) : ∀ (n i : Nat) (v : Int32) (q : Nat → Int32), v.toInt = (i : Int) → i ≤ n3 → n3 - i < n → (∀ j : Nat, j < i → q j = f (a + j)) → okP (f_X7_gives_L2 n1 n3 n x v f q) (fun u => u.1.toInt = ((a + n3 : Nat) : Int) ∧ (∀ j : Nat, j < n3 → u.2 j = f (a + j))) := by
  have hN : (Int32.ofNat n3).toInt = (n3 : Int) := Int32.toInt_ofNat_of_lt (by omega)
  intro n
  induction n with
  | zero =>
    intro i v q h1 h2 h3
    exact absurd h3 (Nat.not_lt_zero _)
  | succ n ih =>
    intro i v q h1 h2 h3 h4
    show okP (f_X7_gives_L2b n1 n3 (f_X7_gives_L2 n1 n3 n) x v f q) _
    unfold f_X7_gives_L2b
    refine ok_ite (fun c => ?_) (fun c => ?_)
    · have c1 : (Int32.ofNat n3).toInt ≤ v.toInt := i_le.mp c
      have e : i = n3 := by omega
      subst e
      have f1 : (x + Int32.ofNat i).toInt = x.toInt + (Int32.ofNat i).toInt := i_add2 rfl rfl (by omega) (by omega)
      exact ok_some ⟨by show (x + Int32.ofNat i).toInt = _; omega, h4⟩
    · have c1 : ¬ (Int32.ofNat n3).toInt ≤ v.toInt := fun z => c (i_le.mpr z)
      have f1 : (x + v).toInt = x.toInt + v.toInt := i_add2 rfl rfl (by omega) (by omega)
      have f2 : (v + 1).toInt = v.toInt + (1 : Int) := i_add2 rfl rfl (by omega) (by omega)
      refine ok_chk (ix (by omega) (by omega)) ?_
      refine ok_nmx (fun y hy => ?_)
      refine ok_chk (ix (by omega) (by omega)) ?_
      refine ok_nmi (fun z hz kz => ?_)
      have e1 : v.toNatClampNeg = i := by rw [i_cl]; omega
      have e2 : (x + v).toNatClampNeg = a + i := by rw [i_cl]; omega
      rw [e1]
      rw [e2] at hy
      refine ih (i + 1) z _ (by omega) (by omega) (by omega) (fun j hj => ?_)
      by_cases hji : j = i
      · rw [hji, upd_is]
        exact hy
      · rw [upd_no hji]
        exact h4 j (by omega)
theorem s_X7_gives (n1 n3 a : Nat) (x : Int32) (f g : Nat → Int32) (hn : n1 < 1000) (hx : x.toInt = (a : Int)) (ha : a + n3 ≤ n1) : okP (f_X7_gives n1 n3 x f g) (fun u => u.1.toInt = ((a + n3 : Nat) : Int) ∧ (∀ j : Nat, j < n3 → u.2 j = f (a + j))) := by
  unfold f_X7_gives
  exact s_X7_gives_L2 n1 n3 a x f hn hx ha FU 0 0 g rfl (by omega) (FU_gt (by omega)) (fun j hj => by omega)
def ImgOf (im : Nat → Int32) (pieces drags : Int32) (sets rF rT cu wa de pp dc db : Nat → Int32) : Prop := (∀ j : Nat, j < 8 → im (0 + j) = sets j) ∧ (∀ j : Nat, j < 7 → im (8 + j) = rF j) ∧ (∀ j : Nat, j < 7 → im (15 + j) = rT j) ∧ (∀ j : Nat, j < 200 → im (22 + j) = cu j) ∧ (∀ j : Nat, j < 200 → im (222 + j) = wa j) ∧ (∀ j : Nat, j < 100 → im (422 + j) = de j) ∧ (∀ j : Nat, j < 20 → im (522 + j) = pp j) ∧ (∀ j : Nat, j < 6 → im (542 + j) = dc j) ∧ (∀ j : Nat, j < 6 → im (548 + j) = db j) ∧ im 554 = pieces ∧ im 555 = drags
theorem s_X7_image (o_pieces o_drags o_kept : Int32) (o_sets o_ringFar o_ringTone o_currents o_warmths o_depths o_pieceParts o_dragCell o_dragBy o_image : Nat → Int32) : okP (f_X7_image o_pieces o_drags o_kept o_sets o_ringFar o_ringTone o_currents o_warmths o_depths o_pieceParts o_dragCell o_dragBy o_image) (fun u => u.1.toInt = 1 ∧ u.2.1.toInt = 1 ∧ ImgOf u.2.2 o_pieces o_drags o_sets o_ringFar o_ringTone o_currents o_warmths o_depths o_pieceParts o_dragCell o_dragBy) := by
  unfold f_X7_image
  refine ok_bd2 (s_X7_saves 8 570 0 0 o_sets o_image (by omega) rfl (by omega)) (fun r0 w0 q0 => ?_)
  obtain ⟨qa0, qb0, qc0⟩ : r0.toInt = ((0 + 8 : Nat) : Int) ∧ (∀ j : Nat, j < 8 → w0 (0 + j) = o_sets j) ∧ (∀ j : Nat, (j < 0 ∨ 0 + 8 ≤ j) → w0 j = o_image j) := q0
  refine ok_bd2 (s_X7_saves 7 570 8 r0 o_ringFar w0 (by omega) qa0 (by omega)) (fun r1 w1 q1 => ?_)
  obtain ⟨qa1, qb1, qc1⟩ : r1.toInt = ((8 + 7 : Nat) : Int) ∧ (∀ j : Nat, j < 7 → w1 (8 + j) = o_ringFar j) ∧ (∀ j : Nat, (j < 8 ∨ 8 + 7 ≤ j) → w1 j = w0 j) := q1
  refine ok_bd2 (s_X7_saves 7 570 15 r1 o_ringTone w1 (by omega) qa1 (by omega)) (fun r2 w2 q2 => ?_)
  obtain ⟨qa2, qb2, qc2⟩ : r2.toInt = ((15 + 7 : Nat) : Int) ∧ (∀ j : Nat, j < 7 → w2 (15 + j) = o_ringTone j) ∧ (∀ j : Nat, (j < 15 ∨ 15 + 7 ≤ j) → w2 j = w1 j) := q2
  refine ok_bd2 (s_X7_saves 200 570 22 r2 o_currents w2 (by omega) qa2 (by omega)) (fun r3 w3 q3 => ?_)
  obtain ⟨qa3, qb3, qc3⟩ : r3.toInt = ((22 + 200 : Nat) : Int) ∧ (∀ j : Nat, j < 200 → w3 (22 + j) = o_currents j) ∧ (∀ j : Nat, (j < 22 ∨ 22 + 200 ≤ j) → w3 j = w2 j) := q3
  refine ok_bd2 (s_X7_saves 200 570 222 r3 o_warmths w3 (by omega) qa3 (by omega)) (fun r4 w4 q4 => ?_)
  obtain ⟨qa4, qb4, qc4⟩ : r4.toInt = ((222 + 200 : Nat) : Int) ∧ (∀ j : Nat, j < 200 → w4 (222 + j) = o_warmths j) ∧ (∀ j : Nat, (j < 222 ∨ 222 + 200 ≤ j) → w4 j = w3 j) := q4
  refine ok_bd2 (s_X7_saves 100 570 422 r4 o_depths w4 (by omega) qa4 (by omega)) (fun r5 w5 q5 => ?_)
  obtain ⟨qa5, qb5, qc5⟩ : r5.toInt = ((422 + 100 : Nat) : Int) ∧ (∀ j : Nat, j < 100 → w5 (422 + j) = o_depths j) ∧ (∀ j : Nat, (j < 422 ∨ 422 + 100 ≤ j) → w5 j = w4 j) := q5
  refine ok_bd2 (s_X7_saves 20 570 522 r5 o_pieceParts w5 (by omega) qa5 (by omega)) (fun r6 w6 q6 => ?_)
  obtain ⟨qa6, qb6, qc6⟩ : r6.toInt = ((522 + 20 : Nat) : Int) ∧ (∀ j : Nat, j < 20 → w6 (522 + j) = o_pieceParts j) ∧ (∀ j : Nat, (j < 522 ∨ 522 + 20 ≤ j) → w6 j = w5 j) := q6
  refine ok_bd2 (s_X7_saves 6 570 542 r6 o_dragCell w6 (by omega) qa6 (by omega)) (fun r7 w7 q7 => ?_)
  obtain ⟨qa7, qb7, qc7⟩ : r7.toInt = ((542 + 6 : Nat) : Int) ∧ (∀ j : Nat, j < 6 → w7 (542 + j) = o_dragCell j) ∧ (∀ j : Nat, (j < 542 ∨ 542 + 6 ≤ j) → w7 j = w6 j) := q7
  refine ok_bd2 (s_X7_saves 6 570 548 r7 o_dragBy w7 (by omega) qa7 (by omega)) (fun r8 w8 q8 => ?_)
  obtain ⟨qa8, qb8, qc8⟩ : r8.toInt = ((548 + 6 : Nat) : Int) ∧ (∀ j : Nat, j < 6 → w8 (548 + j) = o_dragBy j) ∧ (∀ j : Nat, (j < 548 ∨ 548 + 6 ≤ j) → w8 j = w7 j) := q8
  have f1 : (r8 + 1).toInt = r8.toInt + (1 : Int) := i_add2 rfl rfl (by omega) (by omega)
  refine ok_chk (ix (by omega) (by omega)) ?_
  refine ok_chk (ix (by omega) (by omega)) ?_
  have e1 : r8.toNatClampNeg = 554 := by rw [i_cl]; omega
  have e2 : (r8 + 1).toNatClampNeg = 555 := by rw [i_cl]; omega
  rw [e1, e2]
  refine ok_some ⟨rfl, rfl, ?_, ?_, ?_, ?_, ?_, ?_, ?_, ?_, ?_, ?_, ?_⟩
  · intro j hj
    show upd (upd w8 554 o_pieces) 555 o_drags (0 + j) = _
    rw [upd_no (by omega), upd_no (by omega), qc8 _ (Or.inl (by omega)), qc7 _ (Or.inl (by omega)), qc6 _ (Or.inl (by omega)), qc5 _ (Or.inl (by omega)), qc4 _ (Or.inl (by omega)), qc3 _ (Or.inl (by omega)), qc2 _ (Or.inl (by omega)), qc1 _ (Or.inl (by omega))]
    exact qb0 j hj
  · intro j hj
    show upd (upd w8 554 o_pieces) 555 o_drags (8 + j) = _
    rw [upd_no (by omega), upd_no (by omega), qc8 _ (Or.inl (by omega)), qc7 _ (Or.inl (by omega)), qc6 _ (Or.inl (by omega)), qc5 _ (Or.inl (by omega)), qc4 _ (Or.inl (by omega)), qc3 _ (Or.inl (by omega)), qc2 _ (Or.inl (by omega))]
    exact qb1 j hj
  · intro j hj
    show upd (upd w8 554 o_pieces) 555 o_drags (15 + j) = _
    rw [upd_no (by omega), upd_no (by omega), qc8 _ (Or.inl (by omega)), qc7 _ (Or.inl (by omega)), qc6 _ (Or.inl (by omega)), qc5 _ (Or.inl (by omega)), qc4 _ (Or.inl (by omega)), qc3 _ (Or.inl (by omega))]
    exact qb2 j hj
  · intro j hj
    show upd (upd w8 554 o_pieces) 555 o_drags (22 + j) = _
    rw [upd_no (by omega), upd_no (by omega), qc8 _ (Or.inl (by omega)), qc7 _ (Or.inl (by omega)), qc6 _ (Or.inl (by omega)), qc5 _ (Or.inl (by omega)), qc4 _ (Or.inl (by omega))]
    exact qb3 j hj
  · intro j hj
    show upd (upd w8 554 o_pieces) 555 o_drags (222 + j) = _
    rw [upd_no (by omega), upd_no (by omega), qc8 _ (Or.inl (by omega)), qc7 _ (Or.inl (by omega)), qc6 _ (Or.inl (by omega)), qc5 _ (Or.inl (by omega))]
    exact qb4 j hj
  · intro j hj
    show upd (upd w8 554 o_pieces) 555 o_drags (422 + j) = _
    rw [upd_no (by omega), upd_no (by omega), qc8 _ (Or.inl (by omega)), qc7 _ (Or.inl (by omega)), qc6 _ (Or.inl (by omega))]
    exact qb5 j hj
  · intro j hj
    show upd (upd w8 554 o_pieces) 555 o_drags (522 + j) = _
    rw [upd_no (by omega), upd_no (by omega), qc8 _ (Or.inl (by omega)), qc7 _ (Or.inl (by omega))]
    exact qb6 j hj
  · intro j hj
    show upd (upd w8 554 o_pieces) 555 o_drags (542 + j) = _
    rw [upd_no (by omega), upd_no (by omega), qc8 _ (Or.inl (by omega))]
    exact qb7 j hj
  · intro j hj
    show upd (upd w8 554 o_pieces) 555 o_drags (548 + j) = _
    rw [upd_no (by omega), upd_no (by omega)]
    exact qb8 j hj
  · show upd (upd w8 554 o_pieces) 555 o_drags 554 = _
    rw [upd_no (by omega), upd_is]
  · show upd (upd w8 554 o_pieces) 555 o_drags 555 = _
    rw [upd_is]
theorem s_X7_restore (o_pieces o_drags o_kept : Int32) (o_sets o_ringFar o_ringTone o_currents o_warmths o_depths o_pieceParts o_dragCell o_dragBy o_image : Nat → Int32) : okP (f_X7_restore o_pieces o_drags o_kept o_sets o_ringFar o_ringTone o_currents o_warmths o_depths o_pieceParts o_dragCell o_dragBy o_image) (fun u => (o_kept.toInt = 0 ∧ u.1.toInt = -4 ∧ u.2.1 = o_pieces ∧ u.2.2.1 = o_drags ∧ u.2.2.2.1 = o_sets ∧ u.2.2.2.2.1 = o_ringFar ∧ u.2.2.2.2.2.1 = o_ringTone ∧ u.2.2.2.2.2.2.1 = o_currents ∧ u.2.2.2.2.2.2.2.1 = o_warmths ∧ u.2.2.2.2.2.2.2.2.1 = o_depths ∧ u.2.2.2.2.2.2.2.2.2.1 = o_pieceParts ∧ u.2.2.2.2.2.2.2.2.2.2.1 = o_dragCell ∧ u.2.2.2.2.2.2.2.2.2.2.2 = o_dragBy) ∨ (¬ o_kept.toInt = 0 ∧ u.1.toInt = 1 ∧ u.2.1 = o_image 554 ∧ u.2.2.1 = o_image 555 ∧ (∀ j : Nat, j < 8 → u.2.2.2.1 j = o_image (0 + j)) ∧ (∀ j : Nat, j < 7 → u.2.2.2.2.1 j = o_image (8 + j)) ∧ (∀ j : Nat, j < 7 → u.2.2.2.2.2.1 j = o_image (15 + j)) ∧ (∀ j : Nat, j < 200 → u.2.2.2.2.2.2.1 j = o_image (22 + j)) ∧ (∀ j : Nat, j < 200 → u.2.2.2.2.2.2.2.1 j = o_image (222 + j)) ∧ (∀ j : Nat, j < 100 → u.2.2.2.2.2.2.2.2.1 j = o_image (422 + j)) ∧ (∀ j : Nat, j < 20 → u.2.2.2.2.2.2.2.2.2.1 j = o_image (522 + j)) ∧ (∀ j : Nat, j < 6 → u.2.2.2.2.2.2.2.2.2.2.1 j = o_image (542 + j)) ∧ (∀ j : Nat, j < 6 → u.2.2.2.2.2.2.2.2.2.2.2 j = o_image (548 + j)))) := by
  unfold f_X7_restore
  refine ok_ite (fun c => ?_) (fun c => ?_)
  · have c1 : o_kept.toInt = (0 : Int) := i_eq.mp c
    exact ok_some (Or.inl ⟨c1, rfl, rfl, rfl, rfl, rfl, rfl, rfl, rfl, rfl, rfl, rfl, rfl⟩)
  · have c1 : ¬ o_kept.toInt = (0 : Int) := fun z => c (i_eq.mpr z)
    refine ok_bd2 (s_X7_gives 570 8 0 0 o_image o_sets (by omega) rfl (by omega)) (fun r0 w0 q0 => ?_)
    obtain ⟨qa0, qb0⟩ : r0.toInt = ((0 + 8 : Nat) : Int) ∧ (∀ j : Nat, j < 8 → w0 j = o_image (0 + j)) := q0
    refine ok_bd2 (s_X7_gives 570 7 8 r0 o_image o_ringFar (by omega) qa0 (by omega)) (fun r1 w1 q1 => ?_)
    obtain ⟨qa1, qb1⟩ : r1.toInt = ((8 + 7 : Nat) : Int) ∧ (∀ j : Nat, j < 7 → w1 j = o_image (8 + j)) := q1
    refine ok_bd2 (s_X7_gives 570 7 15 r1 o_image o_ringTone (by omega) qa1 (by omega)) (fun r2 w2 q2 => ?_)
    obtain ⟨qa2, qb2⟩ : r2.toInt = ((15 + 7 : Nat) : Int) ∧ (∀ j : Nat, j < 7 → w2 j = o_image (15 + j)) := q2
    refine ok_bd2 (s_X7_gives 570 200 22 r2 o_image o_currents (by omega) qa2 (by omega)) (fun r3 w3 q3 => ?_)
    obtain ⟨qa3, qb3⟩ : r3.toInt = ((22 + 200 : Nat) : Int) ∧ (∀ j : Nat, j < 200 → w3 j = o_image (22 + j)) := q3
    refine ok_bd2 (s_X7_gives 570 200 222 r3 o_image o_warmths (by omega) qa3 (by omega)) (fun r4 w4 q4 => ?_)
    obtain ⟨qa4, qb4⟩ : r4.toInt = ((222 + 200 : Nat) : Int) ∧ (∀ j : Nat, j < 200 → w4 j = o_image (222 + j)) := q4
    refine ok_bd2 (s_X7_gives 570 100 422 r4 o_image o_depths (by omega) qa4 (by omega)) (fun r5 w5 q5 => ?_)
    obtain ⟨qa5, qb5⟩ : r5.toInt = ((422 + 100 : Nat) : Int) ∧ (∀ j : Nat, j < 100 → w5 j = o_image (422 + j)) := q5
    refine ok_bd2 (s_X7_gives 570 20 522 r5 o_image o_pieceParts (by omega) qa5 (by omega)) (fun r6 w6 q6 => ?_)
    obtain ⟨qa6, qb6⟩ : r6.toInt = ((522 + 20 : Nat) : Int) ∧ (∀ j : Nat, j < 20 → w6 j = o_image (522 + j)) := q6
    refine ok_bd2 (s_X7_gives 570 6 542 r6 o_image o_dragCell (by omega) qa6 (by omega)) (fun r7 w7 q7 => ?_)
    obtain ⟨qa7, qb7⟩ : r7.toInt = ((542 + 6 : Nat) : Int) ∧ (∀ j : Nat, j < 6 → w7 j = o_image (542 + j)) := q7
    refine ok_bd2 (s_X7_gives 570 6 548 r7 o_image o_dragBy (by omega) qa7 (by omega)) (fun r8 w8 q8 => ?_)
    obtain ⟨qa8, qb8⟩ : r8.toInt = ((548 + 6 : Nat) : Int) ∧ (∀ j : Nat, j < 6 → w8 j = o_image (548 + j)) := q8
    have f1 : (r8 + 1).toInt = r8.toInt + (1 : Int) := i_add2 rfl rfl (by omega) (by omega)
    have e1 : r8.toNatClampNeg = 554 := by rw [i_cl]; omega
    have e2 : (r8 + 1).toNatClampNeg = 555 := by rw [i_cl]; omega
    refine ok_chk (ix (by omega) (by omega)) ?_
    refine ok_nmx (fun x hx => ?_)
    refine ok_chk (ix (by omega) (by omega)) ?_
    refine ok_nmx (fun y hy => ?_)
    rw [e1] at hx
    rw [e2] at hy
    exact ok_some (Or.inr ⟨c1, rfl, hx, hy, qb0, qb1, qb2, qb3, qb4, qb5, qb6, qb7, qb8⟩)
