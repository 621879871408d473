/-! What is typed, exactly, in class and model. -/
def AllB (w : Int64) (n : Int) : Prop := ∀ i : Int32, 0 ≤ i.toInt → i.toInt < n → 32 ≤ (by8 w i).toInt ∧ (by8 w i).toInt ≤ 126
def TapC (w : Int64) (E lo hi : Int) (b : Nat → Int32) : Prop := ∀ j : Nat, lo ≤ (j : Int) → (j : Int) < hi → ∀ i : Int32, i.toInt = E - 1 - (j : Int) → b j = by8 w i
def TyP (w : Int64) (n len : Int32) (b : Nat → Int32) (r len' : Int32) (b' : Nat → Int32) : Prop := (¬ (1 ≤ n.toInt ∧ n.toInt ≤ 8 ∧ AllB w n.toInt) ∧ r.toInt = -1 ∧ len'.toInt = len.toInt ∧ b' = b) ∨ ((1 ≤ n.toInt ∧ n.toInt ≤ 8 ∧ AllB w n.toInt) ∧ 60 < len.toInt + n.toInt ∧ r.toInt = -3 ∧ len'.toInt = len.toInt ∧ b' = b) ∨ ((1 ≤ n.toInt ∧ n.toInt ≤ 8 ∧ AllB w n.toInt) ∧ len.toInt + n.toInt ≤ 60 ∧ r.toInt = len.toInt + n.toInt ∧ len'.toInt = len.toInt + n.toInt ∧ TapC w (len.toInt + n.toInt) len.toInt (len.toInt + n.toInt) b' ∧ (∀ j : Nat, (j : Int) < len.toInt → b' j = b j))
theorem e_byteOf {w : Int64} {v : Int32} (h0 : 0 ≤ v.toInt) (h1 : v.toInt < 8) : okP (f_X3_byteOf w v) (fun r => r = by8 w v) := by
  unfold f_X3_byteOf
  exact ok_some (by8_class h0 h1)
theorem tap_step {w : Int64} {E l0 : Int} {v len x : Int32} {b : Nat → Int32} (h0 : 0 ≤ len.toInt) (hE : len.toInt + v.toInt + 1 = E) (hx : x.toInt = len.toInt + 1) (h : TapC w E l0 len.toInt b) : TapC w E l0 x.toInt (upd b len.toNatClampNeg (by8 w v)) := by
  intro j h1 h2 i hi
  by_cases hj : j = len.toNatClampNeg
  · have hv : i = v := i_eq.mpr (by rw [hj, i_cl] at hi; omega)
    rw [hj, upd_is, hv]
  · rw [upd_no hj]
    have hl : ¬ (j : Int) = len.toInt := fun z => hj (by rw [i_cl]; omega)
    exact h j h1 (by omega) i hi
theorem e_X3_add_L71 (w : Int64) (E l0 : Int) (b0 : Nat → Int32) (hE : E ≤ 60) (hl0 : 0 ≤ l0) : ∀ (n : Nat) (v len : Int32) (b : Nat → Int32), (v.toInt + 1).toNat < n → -1 ≤ v.toInt → v.toInt ≤ 7 → l0 ≤ len.toInt → len.toInt + v.toInt + 1 = E → TapC w E l0 len.toInt b → (∀ j : Nat, (j : Int) < l0 → b j = b0 j) → okP (f_X3_add_L71 n w v len b) (fun u => u.1.toInt = E ∧ u.2.1.toInt = E ∧ TapC w E l0 E u.2.2 ∧ (∀ j : Nat, (j : Int) < l0 → u.2.2 j = b0 j)) := by
  intro n
  induction n with
  | zero =>
    intro v len b hm
    exact absurd hm (Nat.not_lt_zero _)
  | succ n ih =>
    intro v len b hm h1 h2 h3 h4 h5 h6
    show okP (f_X3_add_L71b (f_X3_add_L71 n) w v len b) _
    unfold f_X3_add_L71b
    refine ok_ite (fun c => ?_) (fun c => ?_)
    · have d : v.toInt < (0 : Int) := i_lt.mp c
      have e : len.toInt = E := by omega
      rw [e] at h5
      exact ok_some ⟨e, e, h5, h6⟩
    · have d : ¬ v.toInt < (0 : Int) := fun z => c (i_lt.mpr z)
      refine ok_bd1 (e_byteOf (by omega) (by omega)) (fun y hy => ?_)
      replace hy : y = by8 w v := hy
      have f1 : (len + 1).toInt = len.toInt + (1 : Int) := i_add2 rfl rfl (by omega) (by omega)
      have f2 : (v + (-1)).toInt = v.toInt + (-1 : Int) := i_add2 rfl rfl (by omega) (by omega)
      refine ok_chk (ix (by omega) (by omega)) ?_
      refine ok_nmi (fun x hx kx => ?_)
      refine ok_nmi (fun z hz kz => ?_)
      rw [hy]
      refine ih z x _ (by omega) (by omega) (by omega) (by omega) (by omega) (tap_step (by omega) h4 (by omega) h5) (fun j hj => ?_)
      rw [upd_no (by rw [i_cl]; omega)]
      exact h6 j hj
theorem e_X3_add_L16 (w : Int64) (nn len : Int32) (b : Nat → Int32) (hl0 : 0 ≤ len.toInt) (hl1 : len.toInt ≤ 60) (hn1 : 1 ≤ nn.toInt) (hn2 : nn.toInt ≤ 8) : ∀ (n : Nat) (v : Int32), (8 - v.toInt).toNat < n → 0 ≤ v.toInt → v.toInt ≤ nn.toInt → (∀ i : Int32, 0 ≤ i.toInt → i.toInt < v.toInt → 32 ≤ (by8 w i).toInt ∧ (by8 w i).toInt ≤ 126) → okP (f_X3_add_L16 n w nn v len b) (fun u => TyP w nn len b u.1 u.2.1 u.2.2) := by
  intro n
  induction n with
  | zero =>
    intro v hm
    exact absurd hm (Nat.not_lt_zero _)
  | succ n ih =>
    intro v hm h1 h2 h3
    show okP (f_X3_add_L16b (f_X3_add_L16 n) w nn v len b) _
    unfold f_X3_add_L16b
    refine ok_ite (fun c => ?_) (fun c => ?_)
    · have d : nn.toInt ≤ v.toInt := i_le.mp c
      have hv : v.toInt = nn.toInt := by omega
      have hA : AllB w nn.toInt := fun i i1 i2 => h3 i i1 (by omega)
      have f1 : (len + nn).toInt = len.toInt + nn.toInt := i_add2 rfl rfl (by omega) (by omega)
      refine ok_ite (fun c2 => ?_) (fun c2 => ?_)
      · have d2 : (len + nn).toInt ≤ (60 : Int) := i_le.mp c2
        have f2 : (nn - 1).toInt = nn.toInt - (1 : Int) := i_sub2 rfl rfl (by omega) (by omega)
        refine ok_nmi (fun x hx kx => ?_)
        refine ok_mono (e_X3_add_L71 w (len.toInt + nn.toInt) len.toInt b (by omega) hl0 FU x len b (FU_gt (by omega)) (by omega) (by omega) (by omega) (by omega) (fun j j1 j2 => by omega) (fun j _ => rfl)) (fun u q => ?_)
        obtain ⟨q1, q2, q3, q4⟩ := q
        exact Or.inr (Or.inr ⟨⟨hn1, hn2, hA⟩, by omega, q1, q2, q3, q4⟩)
      · have d2 : ¬ (len + nn).toInt ≤ (60 : Int) := fun z => c2 (i_le.mpr z)
        exact ok_some (Or.inr (Or.inl ⟨⟨hn1, hn2, hA⟩, by omega, rfl, rfl, rfl⟩))
    · have d : ¬ nn.toInt ≤ v.toInt := fun z => c (i_le.mpr z)
      have f1 : (v + 1).toInt = v.toInt + (1 : Int) := i_add2 rfl rfl (by omega) (by omega)
      have hno : ¬ (32 ≤ (by8 w v).toInt ∧ (by8 w v).toInt ≤ 126) → ¬ (1 ≤ nn.toInt ∧ nn.toInt ≤ 8 ∧ AllB w nn.toInt) := fun z q => z (q.2.2 v h1 (by omega))
      have hgo : 32 ≤ (by8 w v).toInt → (by8 w v).toInt ≤ 126 → ∀ x : Int32, x.toInt = v.toInt + 1 → ∀ i : Int32, 0 ≤ i.toInt → i.toInt < x.toInt → 32 ≤ (by8 w i).toInt ∧ (by8 w i).toInt ≤ 126 := by
        intro z1 z2 x hx i i1 i2
        by_cases hi : i.toInt = v.toInt
        · rw [i_eq.mpr hi]
          exact ⟨z1, z2⟩
        · exact h3 i i1 (by omega)
      refine ok_bd1 (e_byteOf h1 (by omega)) (fun y hy => ?_)
      replace hy : y = by8 w v := hy
      refine ok_ite (fun c2 => ?_) (fun c2 => ?_)
      · have d2 : y.toInt < (32 : Int) := i_lt.mp c2
        rw [hy] at d2
        exact ok_some (Or.inl ⟨hno (fun z => by omega), rfl, rfl, rfl⟩)
      · have d2 : ¬ y.toInt < (32 : Int) := fun z => c2 (i_lt.mpr z)
        refine ok_bd1 (e_byteOf h1 (by omega)) (fun y2 hy2 => ?_)
        replace hy2 : y2 = by8 w v := hy2
        refine ok_ite (fun c3 => ?_) (fun c3 => ?_)
        · have d3 : y2.toInt ≤ (126 : Int) := i_le.mp c3
          rw [hy] at d2
          rw [hy2] at d3
          refine ok_nmi (fun x hx kx => ?_)
          exact ih x (by omega) (by omega) (by omega) (hgo (by omega) d3 x (by omega))
        · have d3 : ¬ y2.toInt ≤ (126 : Int) := fun z => c3 (i_le.mpr z)
          rw [hy2] at d3
          exact ok_some (Or.inl ⟨hno (fun z => by omega), rfl, rfl, rfl⟩)
theorem TyP_len {w : Int64} {n len r len' : Int32} {b b' : Nat → Int32} (h0 : 0 ≤ len.toInt) (h1 : len.toInt ≤ 60) (h : TyP w n len b r len' b') : 0 ≤ len'.toInt ∧ len'.toInt ≤ 60 := by
  rcases h with ⟨_, _, h, _⟩ | ⟨_, _, _, h, _⟩ | ⟨q, _, _, h, _⟩
  · omega
  · omega
  · omega
theorem e_X3_add (x1 : Int64) (x2 : Int32) (o_length : Int32) (o_bytes : Nat → Int32) (h0 : 0 ≤ (o_length).toInt) (h1 : (o_length).toInt ≤ 60) : okP (f_X3_add x1 x2 o_length o_bytes) (fun u => TyP x1 x2 o_length o_bytes u.1 u.2.1 u.2.2) := by
  unfold f_X3_add
  refine ok_ite (fun c => ?_) (fun c => ?_)
  · have d : x2.toInt < (1 : Int) := i_lt.mp c
    exact ok_some (Or.inl ⟨fun q => by omega, rfl, rfl, rfl⟩)
  · have d : ¬ x2.toInt < (1 : Int) := fun z => c (i_lt.mpr z)
    refine ok_ite (fun c2 => ?_) (fun c2 => ?_)
    · have d2 : x2.toInt ≤ (8 : Int) := i_le.mp c2
      exact e_X3_add_L16 x1 x2 o_length o_bytes h0 h1 (by omega) d2 FU 0 (FU_gt (show (8 - (0 : Int)).toNat < 1000000000000 by omega)) (show 0 ≤ (0 : Int) by omega) (show (0 : Int) ≤ x2.toInt by omega) (fun i i1 i2 => absurd i2 (show ¬ i.toInt < (0 : Int) by omega))
    · have d2 : ¬ x2.toInt ≤ (8 : Int) := fun z => c2 (i_le.mpr z)
      exact ok_some (Or.inl ⟨fun q => by omega, rfl, rfl, rfl⟩)
theorem e_X7_type_L73 (w : Int64) (E l0 : Int) (b0 : Nat → Int32) (hE : E ≤ 60) (hl0 : 0 ≤ l0) : ∀ (n : Nat) (v len : Int32) (b : Nat → Int32), (v.toInt + 1).toNat < n → -1 ≤ v.toInt → v.toInt ≤ 7 → l0 ≤ len.toInt → len.toInt + v.toInt + 1 = E → TapC w E l0 len.toInt b → (∀ j : Nat, (j : Int) < l0 → b j = b0 j) → okP (f_X7_type_L73 n w v len b) (fun u => u.1.toInt = E ∧ u.2.1.toInt = E ∧ TapC w E l0 E u.2.2 ∧ (∀ j : Nat, (j : Int) < l0 → u.2.2 j = b0 j)) := by
  intro n
  induction n with
  | zero =>
    intro v len b hm
    exact absurd hm (Nat.not_lt_zero _)
  | succ n ih =>
    intro v len b hm h1 h2 h3 h4 h5 h6
    show okP (f_X7_type_L73b (f_X7_type_L73 n) w v len b) _
    unfold f_X7_type_L73b
    refine ok_ite (fun c => ?_) (fun c => ?_)
    · have d : v.toInt < (0 : Int) := i_lt.mp c
      have e : len.toInt = E := by omega
      rw [e] at h5
      exact ok_some ⟨e, e, h5, h6⟩
    · have d : ¬ v.toInt < (0 : Int) := fun z => c (i_lt.mpr z)
      refine ok_nmx (fun y hy => ?_)
      replace hy : y = by8 w v := hy
      have f1 : (len + 1).toInt = len.toInt + (1 : Int) := i_add2 rfl rfl (by omega) (by omega)
      have f2 : (v + (-1)).toInt = v.toInt + (-1 : Int) := i_add2 rfl rfl (by omega) (by omega)
      refine ok_chk (ix (by omega) (by omega)) ?_
      refine ok_nmi (fun x hx kx => ?_)
      refine ok_nmi (fun z hz kz => ?_)
      rw [hy]
      refine ih z x _ (by omega) (by omega) (by omega) (by omega) (by omega) (tap_step (by omega) h4 (by omega) h5) (fun j hj => ?_)
      rw [upd_no (by rw [i_cl]; omega)]
      exact h6 j hj
theorem e_X7_type_L17 (w : Int64) (nn len : Int32) (b : Nat → Int32) (hl0 : 0 ≤ len.toInt) (hl1 : len.toInt ≤ 60) (hn1 : 1 ≤ nn.toInt) (hn2 : nn.toInt ≤ 8) : ∀ (n : Nat) (v : Int32), (8 - v.toInt).toNat < n → 0 ≤ v.toInt → v.toInt ≤ nn.toInt → (∀ i : Int32, 0 ≤ i.toInt → i.toInt < v.toInt → 32 ≤ (by8 w i).toInt ∧ (by8 w i).toInt ≤ 126) → okP (f_X7_type_L17 n w nn v len b) (fun u => TyP w nn len b u.1 u.2.1 u.2.2) := by
  intro n
  induction n with
  | zero =>
    intro v hm
    exact absurd hm (Nat.not_lt_zero _)
  | succ n ih =>
    intro v hm h1 h2 h3
    show okP (f_X7_type_L17b (f_X7_type_L17 n) w nn v len b) _
    unfold f_X7_type_L17b
    refine ok_ite (fun c => ?_) (fun c => ?_)
    · have d : nn.toInt ≤ v.toInt := i_le.mp c
      have hv : v.toInt = nn.toInt := by omega
      have hA : AllB w nn.toInt := fun i i1 i2 => h3 i i1 (by omega)
      have f1 : (len + nn).toInt = len.toInt + nn.toInt := i_add2 rfl rfl (by omega) (by omega)
      refine ok_ite (fun c2 => ?_) (fun c2 => ?_)
      · have d2 : (len + nn).toInt ≤ (60 : Int) := i_le.mp c2
        have f2 : (nn - 1).toInt = nn.toInt - (1 : Int) := i_sub2 rfl rfl (by omega) (by omega)
        refine ok_nmi (fun x hx kx => ?_)
        refine ok_mono (e_X7_type_L73 w (len.toInt + nn.toInt) len.toInt b (by omega) hl0 FU x len b (FU_gt (by omega)) (by omega) (by omega) (by omega) (by omega) (fun j j1 j2 => by omega) (fun j _ => rfl)) (fun u q => ?_)
        obtain ⟨q1, q2, q3, q4⟩ := q
        exact Or.inr (Or.inr ⟨⟨hn1, hn2, hA⟩, by omega, q1, q2, q3, q4⟩)
      · have d2 : ¬ (len + nn).toInt ≤ (60 : Int) := fun z => c2 (i_le.mpr z)
        exact ok_some (Or.inr (Or.inl ⟨⟨hn1, hn2, hA⟩, by omega, rfl, rfl, rfl⟩))
    · have d : ¬ nn.toInt ≤ v.toInt := fun z => c (i_le.mpr z)
      have f1 : (v + 1).toInt = v.toInt + (1 : Int) := i_add2 rfl rfl (by omega) (by omega)
      have hno : ¬ (32 ≤ (by8 w v).toInt ∧ (by8 w v).toInt ≤ 126) → ¬ (1 ≤ nn.toInt ∧ nn.toInt ≤ 8 ∧ AllB w nn.toInt) := fun z q => z (q.2.2 v h1 (by omega))
      have hgo : 32 ≤ (by8 w v).toInt → (by8 w v).toInt ≤ 126 → ∀ x : Int32, x.toInt = v.toInt + 1 → ∀ i : Int32, 0 ≤ i.toInt → i.toInt < x.toInt → 32 ≤ (by8 w i).toInt ∧ (by8 w i).toInt ≤ 126 := by
        intro z1 z2 x hx i i1 i2
        by_cases hi : i.toInt = v.toInt
        · rw [i_eq.mpr hi]
          exact ⟨z1, z2⟩
        · exact h3 i i1 (by omega)
      refine ok_bd1 (s_X7_in _ 32 126) (fun y hy => ?_)
      replace hy : (y.toInt = 1 ∧ (32 : Int) ≤ ((w >>> ((8 * v).toInt64 &&& 63)) &&& 255).toInt ∧ ((w >>> ((8 * v).toInt64 &&& 63)) &&& 255).toInt ≤ (126 : Int)) ∨ (y.toInt = 0 ∧ (((w >>> ((8 * v).toInt64 &&& 63)) &&& 255).toInt < (32 : Int) ∨ (126 : Int) < ((w >>> ((8 * v).toInt64 &&& 63)) &&& 255).toInt)) := hy
      rw [by8_long] at hy
      refine ok_ite (fun c2 => ?_) (fun c2 => ?_)
      · have d2 : y.toInt = (0 : Int) := i_eq.mp c2
        exact ok_some (Or.inl ⟨hno (fun z => by omega), rfl, rfl, rfl⟩)
      · have d2 : ¬ y.toInt = (0 : Int) := fun z => c2 (i_eq.mpr z)
        refine ok_nmi (fun x hx kx => ?_)
        exact ih x (by omega) (by omega) (by omega) (hgo (by omega) (by omega) x (by omega))
theorem e_X7_type (x1 : Int64) (x2 : Int32) (o_taped : Int32) (o_tape : Nat → Int32) (h0 : 0 ≤ (o_taped).toInt) (h1 : (o_taped).toInt ≤ 60) : okP (f_X7_type x1 x2 o_taped o_tape) (fun u => TyP x1 x2 o_taped o_tape u.1 u.2.1 u.2.2) := by
  unfold f_X7_type
  refine ok_bd1 (s_X7_in _ 1 8) (fun y hy => ?_)
  replace hy : (y.toInt = 1 ∧ (1 : Int) ≤ x2.toInt64.toInt ∧ x2.toInt64.toInt ≤ (8 : Int)) ∨ (y.toInt = 0 ∧ (x2.toInt64.toInt < (1 : Int) ∨ (8 : Int) < x2.toInt64.toInt)) := hy
  rw [j_i2l] at hy
  refine ok_ite (fun c => ?_) (fun c => ?_)
  · have d : y.toInt = (0 : Int) := i_eq.mp c
    exact ok_some (Or.inl ⟨fun q => by omega, rfl, rfl, rfl⟩)
  · have d : ¬ y.toInt = (0 : Int) := fun z => c (i_eq.mpr z)
    exact e_X7_type_L17 x1 x2 o_taped o_tape h0 h1 (by omega) (by omega) FU 0 (FU_gt (show (8 - (0 : Int)).toNat < 1000000000000 by omega)) (show 0 ≤ (0 : Int) by omega) (show (0 : Int) ≤ x2.toInt by omega) (fun i i1 i2 => absurd i2 (show ¬ i.toInt < (0 : Int) by omega))
theorem l_X6_type (x1 : Int64) (x2 : Int32) (tape_length : Int32) (tape_bytes : Nat → Int32) (h0 : 0 ≤ (tape_length).toInt) (h1 : (tape_length).toInt ≤ 60) : okP (f_X6_type x1 x2 tape_length tape_bytes) (fun u => 0 ≤ u.2.1.toInt ∧ u.2.1.toInt ≤ 60 ∧ TyP x1 x2 tape_length tape_bytes u.1 u.2.1 u.2.2) := by
  unfold f_X6_type
  refine ok_bd3 (e_X3_add x1 x2 tape_length tape_bytes h0 h1) (fun r l b q => ?_)
  have q1 := TyP_len h0 h1 q
  exact ok_some ⟨q1.1, q1.2, q⟩
theorem l_X7_type (x1 : Int64) (x2 : Int32) (o_taped : Int32) (o_tape : Nat → Int32) (h0 : 0 ≤ (o_taped).toInt) (h1 : (o_taped).toInt ≤ 60) : okP (f_X7_type x1 x2 o_taped o_tape) (fun u => 0 ≤ u.2.1.toInt ∧ u.2.1.toInt ≤ 60 ∧ TyP x1 x2 o_taped o_tape u.1 u.2.1 u.2.2) := by
  refine ok_mono (e_X7_type x1 x2 o_taped o_tape h0 h1) (fun u q => ?_)
  have q1 := TyP_len h0 h1 q
  exact ⟨q1.1, q1.2, q⟩
/-- the tapes of both, as far as they are written -/
def TapR (len taped : Int32) (b t : Nat → Int32) : Prop := len.toInt = taped.toInt ∧ ∀ j : Nat, (j : Int) < len.toInt → b j = t j
theorem type_same {w : Int64} {n len taped ra la rb lb : Int32} {b t b' t' : Nat → Int32} (h : TapR len taped b t) (h0 : 0 ≤ len.toInt) (hA : TyP w n len b ra la b') (hB : TyP w n taped t rb lb t') : ra.toInt = rb.toInt ∧ TapR la lb b' t' := by
  obtain ⟨e, hb⟩ := h
  rcases hA with ⟨a1, a2, a3, a4⟩ | ⟨a1, a0, a2, a3, a4⟩ | ⟨a1, a0, a2, a3, a4, a5⟩ <;> rcases hB with ⟨b1, b2, b3, b4⟩ | ⟨b1, b0, b2, b3, b4⟩ | ⟨b1, b0, b2, b3, b4, b5⟩
  · rw [a4, b4]
    exact ⟨by omega, by omega, fun j hj => hb j (by omega)⟩
  · exact absurd b1 a1
  · exact absurd b1 a1
  · exact absurd a1 b1
  · rw [a4, b4]
    exact ⟨by omega, by omega, fun j hj => hb j (by omega)⟩
  · omega
  · exact absurd a1 b1
  · omega
  · refine ⟨by omega, by omega, fun j hj => ?_⟩
    by_cases hl : (j : Int) < len.toInt
    · rw [a5 j hl, b5 j (by omega)]
      exact hb j hl
    · obtain ⟨i, hi⟩ : ∃ i : Int32, i.toInt = len.toInt + n.toInt - 1 - (j : Int) := ⟨nI (len.toInt + n.toInt - 1 - (j : Int)).toNat, by rw [nI_toInt (by omega)]; omega⟩
      rw [a4 j (by omega) (by omega) i hi, b4 j (by omega) (by omega) i (by omega)]
theorem type_len {w : Int64} {n len taped ra la rb lb : Int32} {b t b' t' : Nat → Int32} (e : len.toInt = taped.toInt) (hA : TyP w n len b ra la b') (hB : TyP w n taped t rb lb t') : ra.toInt = rb.toInt ∧ la.toInt = lb.toInt := by
  rcases hA with ⟨a1, a2, a3, a4⟩ | ⟨a1, a0, a2, a3, a4⟩ | ⟨a1, a0, a2, a3, a4, a5⟩ <;> rcases hB with ⟨b1, b2, b3, b4⟩ | ⟨b1, b0, b2, b3, b4⟩ | ⟨b1, b0, b2, b3, b4, b5⟩
  · omega
  · exact absurd b1 a1
  · exact absurd b1 a1
  · exact absurd a1 b1
  · omega
  · omega
  · exact absurd a1 b1
  · omega
  · omega
theorem TyP_rng {w : Int64} {n len r len' : Int32} {b b' : Nat → Int32} (h0 : 0 ≤ len.toInt) (h1 : len.toInt ≤ 60) (hT : TRng b len.toInt) (h : TyP w n len b r len' b') : TRng b' len'.toInt := by
  rcases h with ⟨a1, a2, a3, a4⟩ | ⟨a1, a0, a2, a3, a4⟩ | ⟨a1, a0, a2, a3, a4, a5⟩
  · rw [a4, a3]
    exact hT
  · rw [a4, a3]
    exact hT
  · intro j hj
    by_cases hl : (j : Int) < len.toInt
    · rw [a5 j hl]
      exact hT j hl
    · obtain ⟨i, hi⟩ : ∃ i : Int32, i.toInt = len.toInt + n.toInt - 1 - (j : Int) := ⟨nI (len.toInt + n.toInt - 1 - (j : Int)).toNat, by rw [nI_toInt (by omega)]; omega⟩
      rw [a4 j (by omega) (by omega) i hi]
      exact a1.2.2 i (by omega) (by omega)
theorem vlen {V : Prop} {a b a' b' : Int32} (h : a.toInt = b.toInt) (hA : (¬ V ∧ a'.toInt = a.toInt) ∨ (V ∧ a'.toInt = 0)) (hB : (¬ V ∧ b'.toInt = b.toInt) ∨ (V ∧ b'.toInt = 0)) : a'.toInt = b'.toInt := by
  rcases hA with ⟨a1, a2⟩ | ⟨a1, a2⟩ <;> rcases hB with ⟨b1, b2⟩ | ⟨b1, b2⟩
  · omega
  · exact absurd b1 a1
  · exact absurd a1 b1
  · omega
theorem TapR_0 {len taped : Int32} {b t : Nat → Int32} (h1 : len.toInt = 0) (h2 : taped.toInt = 0) : TapR len taped b t := ⟨by omega, fun j hj => by omega⟩
