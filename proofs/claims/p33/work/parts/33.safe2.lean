set_option maxRecDepth 100000 in
set_option maxHeartbeats 4000000 in
theorem s_X1_inSeason (x1 : Int32) (x2 : Int32) (h0 : 0 ≤ x1.toInt) (h1 : 0 ≤ (x2).toInt) (h2 : (x2).toInt ≤ 99) : okP (f_X1_inSeason x1 x2) (fun u => (u.toInt = 100 * (x1.toInt % 2) + x2.toInt)) := by
  unfold f_X1_inSeason
  first | (have f_1 : (x1 - x1 / 2 * 2).toInt = x1.toInt % (2 : Int) := i_rem2 rfl rfl (by omega) (by omega)) | skip
  first | (have f_2 : (100 * (x1 - x1 / 2 * 2)).toInt = (100 : Int) * (x1 - x1 / 2 * 2).toInt := i_mul2 rfl rfl (by omega) (by omega)) | skip
  first | (have f_3 : ((100 * (x1 - x1 / 2 * 2)) + x2).toInt = (100 * (x1 - x1 / 2 * 2)).toInt + x2.toInt := i_add2 rfl rfl (by omega) (by omega)) | skip
  exact ok_some (show (((100 * (x1 - x1 / 2 * 2)) + x2).toInt = 100 * (x1.toInt % 2) + x2.toInt) from by omega)
set_option maxRecDepth 100000 in
set_option maxHeartbeats 4000000 in
theorem s_X1_isBeside (x1 : Int32) (x2 : Int32) : okP (f_X1_isBeside x1 x2) (fun u => (u.toInt = 0 ∨ u.toInt = 1)) := by
  unfold f_X1_isBeside
  first | (have f_1 : (x1 / 10).toInt = x1.toInt / (10 : Int) := i_div2 rfl rfl (by omega) (by omega)) | skip
  first | (have f_2 : (x2 / 10).toInt = x2.toInt / (10 : Int) := i_div2 rfl rfl (by omega) (by omega)) | skip
  first | (have f_3 : ((x1 / 10) - (x2 / 10)).toInt = (x1 / 10).toInt - (x2 / 10).toInt := i_sub2 rfl rfl (by omega) (by omega)) | skip
  refine ok_nmi (fun x_4 hx_4 kx_4 => ?_)
  first | (have f_5 : (x1 - x1 / 10 * 10).toInt = x1.toInt % (10 : Int) := i_rem2 rfl rfl (by omega) (by omega)) | skip
  first | (have f_6 : (x2 - x2 / 10 * 10).toInt = x2.toInt % (10 : Int) := i_rem2 rfl rfl (by omega) (by omega)) | skip
  first | (have f_7 : ((x1 - x1 / 10 * 10) - (x2 - x2 / 10 * 10)).toInt = (x1 - x1 / 10 * 10).toInt - (x2 - x2 / 10 * 10).toInt := i_sub2 rfl rfl (by omega) (by omega)) | skip
  refine ok_nmi (fun x_8 hx_8 kx_8 => ?_)
  refine ok_ite (fun c_9 => ?_) (fun c_9 => ?_)
  · skip
    have c_9 : (if x_4 < x_8 then x_8 else x_4).toInt = (1 : Int) := i_eq.mp c_9
    exact ok_some (show ((1 : Int) = 0 ∨ (1 : Int) = 1) from by omega)
  · skip
    have c_9 : ¬ (if x_4 < x_8 then x_8 else x_4).toInt = (1 : Int) := fun z => c_9 (i_eq.mpr z)
    exact ok_some (show ((0 : Int) = 0 ∨ (0 : Int) = 1) from by omega)
set_option maxRecDepth 100000 in
set_option maxHeartbeats 4000000 in
theorem s_X1_monthOn (x1 : Int32) (x2 : Int32) (x3 : Int32) (told_settings : Nat → Int32) (told_currents : Nat → Int32) (h0 : 0 ≤ (x1).toInt) (h1 : (x1).toInt ≤ 99) (h2 : 0 ≤ x2.toInt) : okP (f_X1_monthOn x1 x2 x3 told_settings told_currents) (fun u => (0 ≤ u.toInt) ∧ (u.toInt ≤ 99)) := by
  unfold f_X1_monthOn
  refine ok_bd1 (s_X1_inSeason x2 x1 (show 0 ≤ x2.toInt by omega) (show 0 ≤ (x1).toInt by omega) (show (x1).toInt ≤ 99 by omega)) (fun r_1 q_2 => ?_)
  replace q_2 : r_1.toInt = 100 * (x2.toInt % 2) + x1.toInt := q_2
  have ix_3 : ¬ (r_1 < 0 ∨ 200 ≤ r_1.toNatClampNeg) := ix (show 0 ≤ r_1.toInt by omega) (show r_1.toInt < (200 : Nat) by omega)
  refine ok_chk ix_3 ?_
  refine ok_bd1 (s_X6_ahead x1 (told_currents r_1.toNatClampNeg) 1) (fun r_4 q_5 => ?_)
  replace q_5 : r_4.toInt = -1 ∨ (0 ≤ r_4.toInt ∧ r_4.toInt < 100) := q_5
  refine ok_ite (fun c_6 => ?_) (fun c_6 => ?_)
  · skip
    have c_6 : r_4.toInt = (-1 : Int) := i_eq.mp c_6
    unfold f_X1_monthOn_B32
    refine ok_ite (fun c_7 => ?_) (fun c_7 => ?_)
    · skip
      have c_7 : x3.toInt = (1 : Int) := i_eq.mp c_7
      refine ok_bd1 (s_X6_ahead x1 (told_settings 7) 1) (fun r_8 q_9 => ?_)
      replace q_9 : r_8.toInt = -1 ∨ (0 ≤ r_8.toInt ∧ r_8.toInt < 100) := q_9
      unfold f_X1_monthOn_B59
      refine ok_ite (fun c_10 => ?_) (fun c_10 => ?_)
      · skip
        have c_10 : r_8.toInt = (-1 : Int) := i_eq.mp c_10
        exact ok_some (show (0 ≤ x1.toInt) ∧ (x1.toInt ≤ 99) from ⟨by omega, by omega⟩)
      · skip
        have c_10 : ¬ r_8.toInt = (-1 : Int) := fun z => c_10 (i_eq.mpr z)
        exact ok_some (show (0 ≤ r_8.toInt) ∧ (r_8.toInt ≤ 99) from ⟨by omega, by omega⟩)
    · skip
      have c_7 : ¬ x3.toInt = (1 : Int) := fun z => c_7 (i_eq.mpr z)
      unfold f_X1_monthOn_B59
      refine ok_ite (fun c_11 => ?_) (fun c_11 => ?_)
      · skip
        exact ok_some (show (0 ≤ x1.toInt) ∧ (x1.toInt ≤ 99) from ⟨by omega, by omega⟩)
      · skip
        exact absurd c_11 (by decide)
  · skip
    have c_6 : ¬ r_4.toInt = (-1 : Int) := fun z => c_6 (i_eq.mpr z)
    unfold f_X1_monthOn_B32
    refine ok_ite (fun c_12 => ?_) (fun c_12 => ?_)
    · skip
      have c_12 : x3.toInt = (1 : Int) := i_eq.mp c_12
      refine ok_bd1 (s_X6_ahead r_4 (told_settings 7) 1) (fun r_13 q_14 => ?_)
      replace q_14 : r_13.toInt = -1 ∨ (0 ≤ r_13.toInt ∧ r_13.toInt < 100) := q_14
      unfold f_X1_monthOn_B59
      refine ok_ite (fun c_15 => ?_) (fun c_15 => ?_)
      · skip
        have c_15 : r_13.toInt = (-1 : Int) := i_eq.mp c_15
        exact ok_some (show (0 ≤ r_4.toInt) ∧ (r_4.toInt ≤ 99) from ⟨by omega, by omega⟩)
      · skip
        have c_15 : ¬ r_13.toInt = (-1 : Int) := fun z => c_15 (i_eq.mpr z)
        exact ok_some (show (0 ≤ r_13.toInt) ∧ (r_13.toInt ≤ 99) from ⟨by omega, by omega⟩)
    · skip
      have c_12 : ¬ x3.toInt = (1 : Int) := fun z => c_12 (i_eq.mpr z)
      unfold f_X1_monthOn_B59
      refine ok_ite (fun c_16 => ?_) (fun c_16 => ?_)
      · skip
        exact ok_some (show (0 ≤ r_4.toInt) ∧ (r_4.toInt ≤ 99) from ⟨by omega, by omega⟩)
      · skip
        exact absurd c_16 (by decide)
set_option maxRecDepth 100000 in
set_option maxHeartbeats 4000000 in
theorem s_X1_behind (x1 : Int32) (x2 : Int32) (x3 : Int32) (told_settings : Nat → Int32) (told_currents : Nat → Int32) (h0 : 0 ≤ (x1).toInt) (h1 : (x1).toInt ≤ 99) : okP (f_X1_behind x1 x2 x3 told_settings told_currents) (fun u => (0 ≤ u.toInt) ∧ (u.toInt ≤ 99)) := by
  have b2 := i_hi x2
  have a2 := i_lo x2
  have l6 : ∀ (n : Nat) (v2 : Int32) (v3 : Int32) (v4 : Int32) (v5 : Int32), (v2.toInt - v5.toInt).toNat < n → (v2.toInt = x2.toInt) → (0 ≤ (v4).toInt) → ((v4).toInt ≤ 99) → (0 ≤ v5.toInt) → okP (f_X1_behind_L6 n v2 v3 v4 v5 told_settings told_currents) (fun u => (0 ≤ u.toInt) ∧ (u.toInt ≤ 99)) := by
    intro n
    induction n with
    | zero =>
      intro v2 v3 v4 v5 hm
      exact absurd hm (Nat.not_lt_zero _)
    | succ n6 ih6 =>
      intro v2 v3 v4 v5 hm6 g6_0 g6_1 g6_2 g6_3
      show okP (f_X1_behind_L6b (f_X1_behind_L6 n6) v2 v3 v4 v5 told_settings told_currents) (fun u => (0 ≤ u.toInt) ∧ (u.toInt ≤ 99))
      unfold f_X1_behind_L6b
      have hiv_v2 := i_hi v2
      refine ok_ite (fun c_1 => ?_) (fun c_1 => ?_)
      · skip
        have c_1 : v2.toInt ≤ v5.toInt := i_le.mp c_1
        exact ok_some (show (0 ≤ v4.toInt) ∧ (v4.toInt ≤ 99) from ⟨by omega, by omega⟩)
      · skip
        have c_1 : ¬ v2.toInt ≤ v5.toInt := fun z => c_1 (i_le.mpr z)
        refine ok_bd1 (s_X1_monthOn v4 v5 v3 told_settings told_currents (show 0 ≤ (v4).toInt by omega) (show (v4).toInt ≤ 99 by omega) (show 0 ≤ v5.toInt by omega)) (fun r_2 q_3 => ?_)
        obtain ⟨q_3_0, q_3_1⟩ : (0 ≤ r_2.toInt) ∧ (r_2.toInt ≤ 99) := q_3
        first | (have f_4 : (v5 + 1).toInt = v5.toInt + (1 : Int) := i_add2 rfl rfl (by omega) (by omega)) | skip
        refine ok_nmi (fun x_5 hx_5 kx_5 => ?_)
        exact ih6 v2 v3 r_2 x_5 (show (v2.toInt - x_5.toInt).toNat < n6 by omega) (show v2.toInt = x2.toInt by omega) (show 0 ≤ (r_2).toInt by omega) (show (r_2).toInt ≤ 99 by omega) (show 0 ≤ x_5.toInt by omega)
  unfold f_X1_behind
  exact l6 FU x2 x3 x1 0 (FU_gt (show (x2.toInt - (0 : Int)).toNat < 1000000000000 by omega)) (show x2.toInt = x2.toInt by omega) (show 0 ≤ (x1).toInt by omega) (show (x1).toInt ≤ 99 by omega) (show 0 ≤ (0 : Int) by omega)
set_option maxRecDepth 100000 in
set_option maxHeartbeats 4000000 in
theorem s_X1_reckon (x1 : Int32) (x2 : Int32) (told_settings : Nat → Int32) (told_currents : Nat → Int32) (told_warmths : Nat → Int32) (told_pieceCells : Nat → Int32) (told_pieceMonths : Nat → Int32) (told_pieceHighs : Nat → Int32) (told_pieceAges : Nat → Int32) (told_pieceNeeds : Nat → Int32) (h0 : 0 ≤ (x1).toInt) (h1 : (x1).toInt ≤ 3) (h2 : 0 ≤ (x2).toInt) (h3 : (x2).toInt ≤ 99) : okP (f_X1_reckon x1 x2 told_settings told_currents told_warmths told_pieceCells told_pieceMonths told_pieceHighs told_pieceAges told_pieceNeeds) (fun u => True) := by
  have l29 : ∀ (n : Nat) (v1 : Int32) (v3 : Int32) (v4 : Int32) (v5 : Int32) (v6 : Int32), (v3.toInt - v6.toInt).toNat < n → (0 ≤ (v1).toInt) → ((v1).toInt ≤ 3) → (0 ≤ (v5).toInt) → ((v5).toInt ≤ 99) → (0 ≤ v6.toInt) → (v3.toInt < 2147483648) → okP (f_X1_reckon_L29 n v1 v3 v4 v5 v6 told_settings told_currents told_warmths told_pieceCells told_pieceMonths told_pieceHighs told_pieceAges told_pieceNeeds) (fun u => True) := by
    intro n
    induction n with
    | zero =>
      intro v1 v3 v4 v5 v6 hm
      exact absurd hm (Nat.not_lt_zero _)
    | succ n29 ih29 =>
      intro v1 v3 v4 v5 v6 hm29 g29_0 g29_1 g29_2 g29_3 g29_4 g29_5
      show okP (f_X1_reckon_L29b (f_X1_reckon_L29 n29) v1 v3 v4 v5 v6 told_settings told_currents told_warmths told_pieceCells told_pieceMonths told_pieceHighs told_pieceAges told_pieceNeeds) (fun u => True)
      unfold f_X1_reckon_L29b
      have hiv_v3 := i_hi v3
      refine ok_ite (fun c_1 => ?_) (fun c_1 => ?_)
      · skip
        have c_1 : v3.toInt ≤ v6.toInt := i_le.mp c_1
        have ix_2 : ¬ (v1 < 0 ∨ 4 ≤ v1.toNatClampNeg) := ix (show 0 ≤ v1.toInt by omega) (show v1.toInt < (4 : Nat) by omega)
        refine ok_chk ix_2 ?_
        refine ok_nmi (fun x_3 hx_3 kx_3 => ?_)
        refine ok_ite (fun c_4 => ?_) (fun c_4 => ?_)
        · skip
          have c_4 : v5.toInt = x_3.toInt := i_eq.mp c_4
          exact ok_some trivial
        · skip
          have c_4 : ¬ v5.toInt = x_3.toInt := fun z => c_4 (i_eq.mpr z)
          refine ok_bd1 (s_X1_isBeside v5 x_3) (fun r_5 q_6 => ?_)
          replace q_6 : r_5.toInt = 0 ∨ r_5.toInt = 1 := q_6
          refine ok_ite (fun c_7 => ?_) (fun c_7 => ?_)
          · skip
            have c_7 : r_5.toInt = (0 : Int) := i_eq.mp c_7
            exact ok_some trivial
          · skip
            have c_7 : ¬ r_5.toInt = (0 : Int) := fun z => c_7 (i_eq.mpr z)
            exact ok_some trivial
      · skip
        have c_1 : ¬ v3.toInt ≤ v6.toInt := fun z => c_1 (i_le.mpr z)
        refine ok_ite (fun c_8 => ?_) (fun c_8 => ?_)
        · skip
          have c_8 : v6.toInt < v4.toInt := i_lt.mp c_8
          unfold f_X1_reckon_B71
          have ix_9 : ¬ (v1 < 0 ∨ 4 ≤ v1.toNatClampNeg) := ix (show 0 ≤ v1.toInt by omega) (show v1.toInt < (4 : Nat) by omega)
          refine ok_chk ix_9 ?_
          refine ok_bd1 (s_X1_monthOn v5 v6 (told_pieceHighs v1.toNatClampNeg) told_settings told_currents (show 0 ≤ (v5).toInt by omega) (show (v5).toInt ≤ 99 by omega) (show 0 ≤ v6.toInt by omega)) (fun r_10 q_11 => ?_)
          obtain ⟨q_11_0, q_11_1⟩ : (0 ≤ r_10.toInt) ∧ (r_10.toInt ≤ 99) := q_11
          first | (have f_12 : (v6 + 1).toInt = v6.toInt + (1 : Int) := i_add2 rfl rfl (by omega) (by omega)) | skip
          refine ok_nmi (fun x_13 hx_13 kx_13 => ?_)
          exact ih29 v1 v3 v4 r_10 x_13 (show (v3.toInt - x_13.toInt).toNat < n29 by omega) (show 0 ≤ (v1).toInt by omega) (show (v1).toInt ≤ 3 by omega) (show 0 ≤ (r_10).toInt by omega) (show (r_10).toInt ≤ 99 by omega) (show 0 ≤ x_13.toInt by omega) (show v3.toInt < 2147483648 by omega)
        · skip
          have c_8 : ¬ v6.toInt < v4.toInt := fun z => c_8 (i_lt.mpr z)
          refine ok_bd1 (s_X1_inSeason v6 v5 (show 0 ≤ v6.toInt by omega) (show 0 ≤ (v5).toInt by omega) (show (v5).toInt ≤ 99 by omega)) (fun r_14 q_15 => ?_)
          replace q_15 : r_14.toInt = 100 * (v6.toInt % 2) + v5.toInt := q_15
          have ix_16 : ¬ (r_14 < 0 ∨ 200 ≤ r_14.toNatClampNeg) := ix (show 0 ≤ r_14.toInt by omega) (show r_14.toInt < (200 : Nat) by omega)
          refine ok_chk ix_16 ?_
          have ix_17 : ¬ (v1 < 0 ∨ 4 ≤ v1.toNatClampNeg) := ix (show 0 ≤ v1.toInt by omega) (show v1.toInt < (4 : Nat) by omega)
          refine ok_chk ix_17 ?_
          refine ok_ite (fun c_18 => ?_) (fun c_18 => ?_)
          · skip
            have c_18 : (told_pieceNeeds v1.toNatClampNeg).toInt ≤ (told_warmths r_14.toNatClampNeg).toInt := i_le.mp c_18
            unfold f_X1_reckon_B71
            refine ok_chk ix_17 ?_
            refine ok_bd1 (s_X1_monthOn v5 v6 (told_pieceHighs v1.toNatClampNeg) told_settings told_currents (show 0 ≤ (v5).toInt by omega) (show (v5).toInt ≤ 99 by omega) (show 0 ≤ v6.toInt by omega)) (fun r_19 q_20 => ?_)
            obtain ⟨q_20_0, q_20_1⟩ : (0 ≤ r_19.toInt) ∧ (r_19.toInt ≤ 99) := q_20
            first | (have f_21 : (v6 + 1).toInt = v6.toInt + (1 : Int) := i_add2 rfl rfl (by omega) (by omega)) | skip
            refine ok_nmi (fun x_22 hx_22 kx_22 => ?_)
            exact ih29 v1 v3 v4 r_19 x_22 (show (v3.toInt - x_22.toInt).toNat < n29 by omega) (show 0 ≤ (v1).toInt by omega) (show (v1).toInt ≤ 3 by omega) (show 0 ≤ (r_19).toInt by omega) (show (r_19).toInt ≤ 99 by omega) (show 0 ≤ x_22.toInt by omega) (show v3.toInt < 2147483648 by omega)
          · skip
            have c_18 : ¬ (told_pieceNeeds v1.toNatClampNeg).toInt ≤ (told_warmths r_14.toNatClampNeg).toInt := fun z => c_18 (i_le.mpr z)
            exact ok_some trivial
  unfold f_X1_reckon
  have ix_23 : ¬ (x1 < 0 ∨ 4 ≤ x1.toNatClampNeg) := ix (show 0 ≤ x1.toInt by omega) (show x1.toInt < (4 : Nat) by omega)
  refine ok_chk ix_23 ?_
  refine ok_nmi (fun x_24 hx_24 kx_24 => ?_)
  refine ok_chk ix_23 ?_
  first | (have f_25 : (x_24 - (told_pieceAges x1.toNatClampNeg)).toInt = x_24.toInt - (told_pieceAges x1.toNatClampNeg).toInt := i_sub2 rfl rfl (by omega) (by omega)) | skip
  refine ok_nmi (fun x_26 hx_26 kx_26 => ?_)
  have hiv := i_hi x_24
  exact l29 FU x1 x_24 x_26 x2 0 (FU_gt (show (x_24.toInt - (0 : Int)).toNat < 1000000000000 by omega)) (show 0 ≤ (x1).toInt by omega) (show (x1).toInt ≤ 3 by omega) (show 0 ≤ (x2).toInt by omega) (show (x2).toInt ≤ 99 by omega) (show 0 ≤ (0 : Int) by omega) (show x_24.toInt < 2147483648 by omega)
set_option maxRecDepth 100000 in
set_option maxHeartbeats 4000000 in
theorem s_X1_fit (x1 : Int32) (x2 : Int32) (o_known : Nat → Int32) (told_settings : Nat → Int32) (told_currents : Nat → Int32) (told_warmths : Nat → Int32) (told_pieceCells : Nat → Int32) (told_pieceMonths : Nat → Int32) (told_pieceHighs : Nat → Int32) (told_pieceAges : Nat → Int32) (told_pieceNeeds : Nat → Int32) (h0 : 0 ≤ (x1).toInt) (h1 : (x1).toInt ≤ 3) (h2 : 0 ≤ (x2).toInt) (h3 : (x2).toInt ≤ 99) : okP (f_X1_fit x1 x2 o_known told_settings told_currents told_warmths told_pieceCells told_pieceMonths told_pieceHighs told_pieceAges told_pieceNeeds) (fun u => True) := by
  unfold f_X1_fit
  first | (have f_1 : (100 * x1).toInt = (100 : Int) * x1.toInt := i_mul2 rfl rfl (by omega) (by omega)) | skip
  first | (have f_2 : ((100 * x1) + x2).toInt = (100 * x1).toInt + x2.toInt := i_add2 rfl rfl (by omega) (by omega)) | skip
  refine ok_nmi (fun x_3 hx_3 kx_3 => ?_)
  have ix_4 : ¬ (x_3 < 0 ∨ 400 ≤ x_3.toNatClampNeg) := ix (show 0 ≤ x_3.toInt by omega) (show x_3.toInt < (400 : Nat) by omega)
  refine ok_chk ix_4 ?_
  refine ok_ite (fun c_5 => ?_) (fun c_5 => ?_)
  · skip
    have c_5 : (o_known x_3.toNatClampNeg).toInt = (-1 : Int) := i_eq.mp c_5
    refine ok_bd1 (s_X1_reckon x1 x2 told_settings told_currents told_warmths told_pieceCells told_pieceMonths told_pieceHighs told_pieceAges told_pieceNeeds (show 0 ≤ (x1).toInt by omega) (show (x1).toInt ≤ 3 by omega) (show 0 ≤ (x2).toInt by omega) (show (x2).toInt ≤ 99 by omega)) (fun r_6 q_7 => ?_)
    refine ok_chk ix_4 ?_
    unfold f_X1_fit_B29
    refine ok_chk ix_4 ?_
    have up_8 : ((upd o_known x_3.toNatClampNeg r_6) x_3.toNatClampNeg).toInt = r_6.toInt := congrArg Int32.toInt upd_is
    exact ok_some trivial
  · skip
    have c_5 : ¬ (o_known x_3.toNatClampNeg).toInt = (-1 : Int) := fun z => c_5 (i_eq.mpr z)
    unfold f_X1_fit_B29
    refine ok_chk ix_4 ?_
    exact ok_some trivial
set_option maxRecDepth 100000 in
set_option maxHeartbeats 4000000 in
theorem s_X0_weigh (n_p1 : Nat) (x2 : Int32) (o_total : Int64) (o_sums : Nat → Int64) (told_pieceCount : Int32) (told_dragCount : Int32) (told_settings : Nat → Int32) (told_currents : Nat → Int32) (told_warmths : Nat → Int32) (told_pieceCells : Nat → Int32) (told_pieceMonths : Nat → Int32) (told_pieceHighs : Nat → Int32) (told_pieceAges : Nat → Int32) (told_pieceNeeds : Nat → Int32) (told_dragCells : Nat → Int32) (told_dragEighths : Nat → Int32) (seas_known : Nat → Int32) (p1_arr : Nat → Int64) (h0 : n_p1 = 100) (h1 : 0 ≤ (told_pieceCount).toInt) (h2 : (told_pieceCount).toInt ≤ 4) : okP (f_X0_weigh n_p1 x2 o_total o_sums told_pieceCount told_dragCount told_settings told_currents told_warmths told_pieceCells told_pieceMonths told_pieceHighs told_pieceAges told_pieceNeeds told_dragCells told_dragEighths seas_known p1_arr) (fun u => True) := by
  have hN : (Int32.ofNat n_p1).toInt = 100 := by rw [h0]; rfl
  have l7 : ∀ (n : Nat) (v2 : Int32) (v3 : Int32) (o_total : Int64) (o_sums : Nat → Int64) (seas_known : Nat → Int32), (100 - v3.toInt).toNat < n → (0 ≤ v3.toInt) → (v3.toInt ≤ 100) → okP (f_X0_weigh_L7 n_p1 n v2 v3 o_total o_sums told_pieceCount told_dragCount told_settings told_currents told_warmths told_pieceCells told_pieceMonths told_pieceHighs told_pieceAges told_pieceNeeds told_dragCells told_dragEighths seas_known p1_arr) (fun u => True) := by
    intro n
    induction n with
    | zero =>
      intro v2 v3 o_total o_sums seas_known hm
      exact absurd hm (Nat.not_lt_zero _)
    | succ n7 ih7 =>
      have l53 : ∀ (n : Nat) (v2 : Int32) (v3 : Int32) (v4 : Int64) (v6 : Int32) (o_total : Int64) (o_sums : Nat → Int64) (seas_known : Nat → Int32), (4 - v6.toInt).toNat < n → (0 ≤ (v3).toInt) → ((v3).toInt ≤ 99) → (0 ≤ (v6).toInt) → ((v6).toInt ≤ 4) → ((100 - v3.toInt).toNat < n7 + 1) → okP (f_X0_weigh_L53 n_p1 (f_X0_weigh_L7 n_p1 n7) n v2 v3 v4 v6 o_total o_sums told_pieceCount told_dragCount told_settings told_currents told_warmths told_pieceCells told_pieceMonths told_pieceHighs told_pieceAges told_pieceNeeds told_dragCells told_dragEighths seas_known p1_arr) (fun u => True) := by
        intro n
        induction n with
        | zero =>
          intro v2 v3 v4 v6 o_total o_sums seas_known hm
          exact absurd hm (Nat.not_lt_zero _)
        | succ n53 ih53 =>
          intro v2 v3 v4 v6 o_total o_sums seas_known hm53 g53_0 g53_1 g53_2 g53_3 g53_4
          show okP (f_X0_weigh_L53b n_p1 (f_X0_weigh_L7 n_p1 n7) (f_X0_weigh_L53 n_p1 (f_X0_weigh_L7 n_p1 n7) n53) v2 v3 v4 v6 o_total o_sums told_pieceCount told_dragCount told_settings told_currents told_warmths told_pieceCells told_pieceMonths told_pieceHighs told_pieceAges told_pieceNeeds told_dragCells told_dragEighths seas_known p1_arr) (fun u => True)
          unfold f_X0_weigh_L53b
          refine ok_ite (fun c_1 => ?_) (fun c_1 => ?_)
          · skip
            have c_1 : told_pieceCount.toInt ≤ v6.toInt := i_le.mp c_1
            unfold f_X0_weigh_B107
            have ix_2 : ¬ (v3 < 0 ∨ 100 ≤ v3.toNatClampNeg) := ix (show 0 ≤ v3.toInt by omega) (show v3.toInt < (100 : Nat) by omega)
            refine ok_chk ix_2 ?_
            first | (have f_3 : (o_total + v4).toInt = o_total.toInt + v4.toInt := j_add2 rfl rfl (by omega) (by omega)) | skip
            refine ok_nmj (fun x_4 hx_4 kx_4 => ?_)
            first | (have f_5 : (v3 + 1).toInt = v3.toInt + (1 : Int) := i_add2 rfl rfl (by omega) (by omega)) | skip
            refine ok_nmi (fun x_6 hx_6 kx_6 => ?_)
            exact ih7 v2 x_6 x_4 (vp_updL o_sums v3.toNatClampNeg v4) seas_known (show (100 - x_6.toInt).toNat < n7 by omega) (show 0 ≤ x_6.toInt by omega) (show x_6.toInt ≤ 100 by omega)
          · skip
            have c_1 : ¬ told_pieceCount.toInt ≤ v6.toInt := fun z => c_1 (i_le.mpr z)
            refine ok_ite (fun c_7 => ?_) (fun c_7 => ?_)
            · skip
              have c_7 : v4.toInt = (0 : Int) := j_eq.mp ((lg_cmp_eq _ _).mp c_7)
              unfold f_X0_weigh_B107
              have ix_8 : ¬ (v3 < 0 ∨ 100 ≤ v3.toNatClampNeg) := ix (show 0 ≤ v3.toInt by omega) (show v3.toInt < (100 : Nat) by omega)
              refine ok_chk ix_8 ?_
              first | (have f_9 : (o_total + v4).toInt = o_total.toInt + v4.toInt := j_add2 rfl rfl (by omega) (by omega)) | skip
              refine ok_nmj (fun x_10 hx_10 kx_10 => ?_)
              first | (have f_11 : (v3 + 1).toInt = v3.toInt + (1 : Int) := i_add2 rfl rfl (by omega) (by omega)) | skip
              refine ok_nmi (fun x_12 hx_12 kx_12 => ?_)
              exact ih7 v2 x_12 x_10 (vp_updL o_sums v3.toNatClampNeg v4) seas_known (show (100 - x_12.toInt).toNat < n7 by omega) (show 0 ≤ x_12.toInt by omega) (show x_12.toInt ≤ 100 by omega)
            · skip
              have c_7 : ¬ v4.toInt = (0 : Int) := fun z => c_7 ((lg_cmp_eq _ _).mpr (j_eq.mpr z))
              first | (have f_13 : (v2 - 8).toInt = v2.toInt - (8 : Int) := i_sub2 rfl rfl (by omega) (by omega)) | skip
              refine ok_ite (fun c_14 => ?_) (fun c_14 => ?_)
              · skip
                have c_14 : v6.toInt = (v2 - 8).toInt := i_eq.mp c_14
                unfold f_X0_weigh_B98
                first | (have f_15 : (v4 * 1).toInt = v4.toInt * (1 : Int) := j_mul2 rfl rfl (by omega) (by omega)) | skip
                refine ok_nmj (fun x_16 hx_16 kx_16 => ?_)
                first | (have f_17 : (v6 + 1).toInt = v6.toInt + (1 : Int) := i_add2 rfl rfl (by omega) (by omega)) | skip
                refine ok_nmi (fun x_18 hx_18 kx_18 => ?_)
                exact ih53 v2 v3 x_16 x_18 o_total o_sums seas_known (show (4 - x_18.toInt).toNat < n53 by omega) (show 0 ≤ (v3).toInt by omega) (show (v3).toInt ≤ 99 by omega) (show 0 ≤ (x_18).toInt by omega) (show (x_18).toInt ≤ 4 by omega) (show (100 - v3.toInt).toNat < n7 + 1 by omega)
              · skip
                have c_14 : ¬ v6.toInt = (v2 - 8).toInt := fun z => c_14 (i_eq.mpr z)
                refine ok_bd2 (s_X1_fit v6 v3 seas_known told_settings told_currents told_warmths told_pieceCells told_pieceMonths told_pieceHighs told_pieceAges told_pieceNeeds (show 0 ≤ (v6).toInt by omega) (show (v6).toInt ≤ 3 by omega) (show 0 ≤ (v3).toInt by omega) (show (v3).toInt ≤ 99 by omega)) (fun r_19 w_20 q_21 => ?_)
                first | (have f_22 : (r_19.toInt64).toInt = r_19.toInt := j_i2l _) | skip
                unfold f_X0_weigh_B98
                refine ok_nmj (fun x_23 hx_23 kx_23 => ?_)
                first | (have f_24 : (v6 + 1).toInt = v6.toInt + (1 : Int) := i_add2 rfl rfl (by omega) (by omega)) | skip
                refine ok_nmi (fun x_25 hx_25 kx_25 => ?_)
                exact ih53 v2 v3 x_23 x_25 o_total o_sums w_20 (show (4 - x_25.toInt).toNat < n53 by omega) (show 0 ≤ (v3).toInt by omega) (show (v3).toInt ≤ 99 by omega) (show 0 ≤ (x_25).toInt by omega) (show (x_25).toInt ≤ 4 by omega) (show (100 - v3.toInt).toNat < n7 + 1 by omega)
      intro v2 v3 o_total o_sums seas_known hm7 g7_0 g7_1
      show okP (f_X0_weigh_L7b n_p1 (f_X0_weigh_L7 n_p1 n7) v2 v3 o_total o_sums told_pieceCount told_dragCount told_settings told_currents told_warmths told_pieceCells told_pieceMonths told_pieceHighs told_pieceAges told_pieceNeeds told_dragCells told_dragEighths seas_known p1_arr) (fun u => True)
      unfold f_X0_weigh_L7b
      refine ok_ite (fun c_26 => ?_) (fun c_26 => ?_)
      · skip
        have c_26 : (100 : Int) ≤ v3.toInt := i_le.mp c_26
        exact ok_some trivial
      · skip
        have c_26 : ¬ (100 : Int) ≤ v3.toInt := fun z => c_26 (i_le.mpr z)
        refine ok_ite (fun c_27 => ?_) (fun c_27 => ?_)
        · skip
          have c_27 : (Int32.ofNat n_p1).toInt ≤ v3.toInt := i_le.mp c_27
          exact ok_some trivial
        · skip
          have c_27 : ¬ (Int32.ofNat n_p1).toInt ≤ v3.toInt := fun z => c_27 (i_le.mpr z)
          have ix_28 : ¬ (v3 < 0 ∨ n_p1 ≤ v3.toNatClampNeg) := ix (show 0 ≤ v3.toInt by omega) (show v3.toInt < (n_p1 : Nat) by omega)
          refine ok_chk ix_28 ?_
          refine ok_nmj (fun x_29 hx_29 kx_29 => ?_)
          refine ok_ite (fun c_30 => ?_) (fun c_30 => ?_)
          · skip
            have c_30 : x_29.toInt = (0 : Int) := j_eq.mp ((lg_cmp_eq _ _).mp c_30)
            unfold f_X0_weigh_B50
            exact l53 FU v2 v3 x_29 0 o_total o_sums seas_known (FU_gt (show (4 - (0 : Int)).toNat < 1000000000000 by omega)) (show 0 ≤ (v3).toInt by omega) (show (v3).toInt ≤ 99 by omega) (show 0 ≤ (0 : Int) by omega) (show (0 : Int) ≤ 4 by omega) (show (100 - v3.toInt).toNat < n7 + 1 by omega)
          · skip
            have c_30 : ¬ x_29.toInt = (0 : Int) := fun z => c_30 ((lg_cmp_eq _ _).mpr (j_eq.mpr z))
            refine ok_ite (fun c_31 => ?_) (fun c_31 => ?_)
            · skip
              have c_31 : v2.toInt = (12 : Int) := i_eq.mp c_31
              unfold f_X0_weigh_B50
              exact l53 FU v2 v3 x_29 0 o_total o_sums seas_known (FU_gt (show (4 - (0 : Int)).toNat < 1000000000000 by omega)) (show 0 ≤ (v3).toInt by omega) (show (v3).toInt ≤ 99 by omega) (show 0 ≤ (0 : Int) by omega) (show (0 : Int) ≤ 4 by omega) (show (100 - v3.toInt).toNat < n7 + 1 by omega)
            · skip
              have c_31 : ¬ v2.toInt = (12 : Int) := fun z => c_31 (i_eq.mpr z)
              refine ok_bd1 (s_X4_missed v3 told_dragCount told_dragCells told_dragEighths) (fun r_32 q_33 => ?_)
              refine ok_nmj (fun x_34 hx_34 kx_34 => ?_)
              unfold f_X0_weigh_B50
              exact l53 FU v2 v3 x_34 0 o_total o_sums seas_known (FU_gt (show (4 - (0 : Int)).toNat < 1000000000000 by omega)) (show 0 ≤ (v3).toInt by omega) (show (v3).toInt ≤ 99 by omega) (show 0 ≤ (0 : Int) by omega) (show (0 : Int) ≤ 4 by omega) (show (100 - v3.toInt).toNat < n7 + 1 by omega)
  unfold f_X0_weigh
  exact l7 FU x2 0 0 o_sums seas_known (FU_gt (show (100 - (0 : Int)).toNat < 1000000000000 by omega)) (show 0 ≤ (0 : Int) by omega) (show (0 : Int) ≤ 100 by omega)
set_option maxRecDepth 100000 in
set_option maxHeartbeats 4000000 in
theorem s_X0_thousandths (x1 : Int32) (o_total : Int64) (o_sums : Nat → Int64) (h0 : 0 ≤ (x1).toInt) (h1 : (x1).toInt ≤ 99) : okP (f_X0_thousandths x1 o_total o_sums) (fun u => True) := by
  unfold f_X0_thousandths
  refine ok_ite (fun c_1 => ?_) (fun c_1 => ?_)
  · skip
    have c_1 : o_total.toInt = (0 : Int) := j_eq.mp ((lg_cmp_eq _ _).mp c_1)
    exact ok_some trivial
  · skip
    have c_1 : ¬ o_total.toInt = (0 : Int) := fun z => c_1 ((lg_cmp_eq _ _).mpr (j_eq.mpr z))
    have ix_2 : ¬ (x1 < 0 ∨ 100 ≤ x1.toNatClampNeg) := ix (show 0 ≤ x1.toInt by omega) (show x1.toInt < (100 : Nat) by omega)
    refine ok_chk ix_2 ?_
    first | (have f_3 : (1000 * (o_sums x1.toNatClampNeg)).toInt = (1000 : Int) * (o_sums x1.toNatClampNeg).toInt := j_mul2 rfl rfl (by omega) (by omega)) | skip
    refine ok_chk (nzj (show ¬ o_total.toInt = 0 by omega)) ?_
    exact ok_some trivial
set_option maxRecDepth 100000 in
set_option maxHeartbeats 4000000 in
theorem s_X0_apart (o_total : Int64) (o_sums : Nat → Int64) (p1_total : Int64) (p1_sums : Nat → Int64) : okP (f_X0_apart o_total o_sums p1_total p1_sums) (fun u => True) := by
  have l42 : ∀ (n : Nat) (v2 : Int32) (v3 : Int32), (100 - v3.toInt).toNat < n → (0 ≤ v3.toInt) → (v3.toInt ≤ 100) → okP (f_X0_apart_L42 n v2 v3 o_total o_sums p1_total p1_sums) (fun u => True) := by
    intro n
    induction n with
    | zero =>
      intro v2 v3 hm
      exact absurd hm (Nat.not_lt_zero _)
    | succ n42 ih42 =>
      intro v2 v3 hm42 g42_0 g42_1
      show okP (f_X0_apart_L42b (f_X0_apart_L42 n42) v2 v3 o_total o_sums p1_total p1_sums) (fun u => True)
      unfold f_X0_apart_L42b
      refine ok_ite (fun c_1 => ?_) (fun c_1 => ?_)
      · skip
        have c_1 : (100 : Int) ≤ v3.toInt := i_le.mp c_1
        exact ok_some trivial
      · skip
        have c_1 : ¬ (100 : Int) ≤ v3.toInt := fun z => c_1 (i_le.mpr z)
        refine ok_bd1 (s_X0_thousandths v3 o_total o_sums (show 0 ≤ (v3).toInt by omega) (show (v3).toInt ≤ 99 by omega)) (fun r_2 q_3 => ?_)
        refine ok_bd1 (s_X0_thousandths v3 p1_total p1_sums (show 0 ≤ (v3).toInt by omega) (show (v3).toInt ≤ 99 by omega)) (fun r_4 q_5 => ?_)
        first | (have f_6 : (r_2 - r_4).toInt = r_2.toInt - r_4.toInt := i_sub2 rfl rfl (by omega) (by omega)) | skip
        first | (have f_7 : (v2 + (if 0 ≤ (r_2 - r_4) then (r_2 - r_4) else 0 - (r_2 - r_4))).toInt = v2.toInt + (if 0 ≤ (r_2 - r_4) then (r_2 - r_4) else 0 - (r_2 - r_4)).toInt := i_add2 rfl rfl (by omega) (by omega)) | skip
        refine ok_nmi (fun x_8 hx_8 kx_8 => ?_)
        first | (have f_9 : (v3 + 1).toInt = v3.toInt + (1 : Int) := i_add2 rfl rfl (by omega) (by omega)) | skip
        refine ok_nmi (fun x_10 hx_10 kx_10 => ?_)
        exact ih42 x_8 x_10 (show (100 - x_10.toInt).toNat < n42 by omega) (show 0 ≤ x_10.toInt by omega) (show x_10.toInt ≤ 100 by omega)
  unfold f_X0_apart
  refine ok_ite (fun c_11 => ?_) (fun c_11 => ?_)
  · skip
    have c_11 : o_total.toInt = (0 : Int) := j_eq.mp ((lg_cmp_eq _ _).mp c_11)
    unfold f_X0_apart_B18
    refine ok_ite (fun c_12 => ?_) (fun c_12 => ?_)
    · skip
      have c_12 : o_total.toInt = p1_total.toInt := j_eq.mp ((lg_cmp_eq _ _).mp c_12)
      exact ok_some trivial
    · skip
      have c_12 : ¬ o_total.toInt = p1_total.toInt := fun z => c_12 ((lg_cmp_eq _ _).mpr (j_eq.mpr z))
      exact ok_some trivial
  · skip
    have c_11 : ¬ o_total.toInt = (0 : Int) := fun z => c_11 ((lg_cmp_eq _ _).mpr (j_eq.mpr z))
    refine ok_ite (fun c_13 => ?_) (fun c_13 => ?_)
    · skip
      have c_13 : p1_total.toInt = (0 : Int) := j_eq.mp ((lg_cmp_eq _ _).mp c_13)
      unfold f_X0_apart_B18
      refine ok_ite (fun c_14 => ?_) (fun c_14 => ?_)
      · skip
        have c_14 : o_total.toInt = p1_total.toInt := j_eq.mp ((lg_cmp_eq _ _).mp c_14)
        exact ok_some trivial
      · skip
        have c_14 : ¬ o_total.toInt = p1_total.toInt := fun z => c_14 ((lg_cmp_eq _ _).mpr (j_eq.mpr z))
        exact ok_some trivial
    · skip
      have c_13 : ¬ p1_total.toInt = (0 : Int) := fun z => c_13 ((lg_cmp_eq _ _).mpr (j_eq.mpr z))
      exact l42 FU 0 0 (FU_gt (show (100 - (0 : Int)).toNat < 1000000000000 by omega)) (show 0 ≤ (0 : Int) by omega) (show (0 : Int) ≤ 100 by omega)
set_option maxRecDepth 100000 in
set_option maxHeartbeats 4000000 in
theorem s_X5_begin (o_last : Int32) (o_turnsLet : Int32) (o_slowsLet : Int32) (o_fuel : Int32) (o_glide : Int32) (o_howFar : Nat → Int32) (o_tones : Nat → Int32) (o_only : Nat → Int32) (o_fars : Nat → Int32) (o_cellAt : Nat → Int32) (p1_settings : Nat → Int32) (p1_howFar : Nat → Int32) (p1_tones : Nat → Int32) (p1_fars : Nat → Int32) : okP (f_X5_begin o_last o_turnsLet o_slowsLet o_fuel o_glide o_howFar o_tones o_only o_fars o_cellAt p1_settings p1_howFar p1_tones p1_fars) (fun u => (u.2.2.2.2.1.toInt = (p1_settings 6).toInt) ∧ (u.1.toInt = (p1_settings 2).toInt) ∧ ((u.2.2.2.2.2.2.2.2.2 0).toInt = (p1_settings 1).toInt)) := by
  have l47 : ∀ (n : Nat) (v2 : Int32) (o_last : Int32) (o_turnsLet : Int32) (o_slowsLet : Int32) (o_fuel : Int32) (o_glide : Int32) (o_howFar : Nat → Int32) (o_tones : Nat → Int32) (o_only : Nat → Int32) (o_fars : Nat → Int32) (o_cellAt : Nat → Int32), (7 - v2.toInt).toNat < n → (0 ≤ v2.toInt) → (v2.toInt ≤ 7) → okP (f_X5_begin_L47 n v2 o_last o_turnsLet o_slowsLet o_fuel o_glide o_howFar o_tones o_only o_fars o_cellAt p1_settings p1_howFar p1_tones p1_fars) (fun u => (u.2.2.2.2.1.toInt = (p1_settings 6).toInt) ∧ (u.1.toInt = (p1_settings 2).toInt) ∧ ((u.2.2.2.2.2.2.2.2.2 0).toInt = (p1_settings 1).toInt)) := by
    intro n
    induction n with
    | zero =>
      intro v2 o_last o_turnsLet o_slowsLet o_fuel o_glide o_howFar o_tones o_only o_fars o_cellAt hm
      exact absurd hm (Nat.not_lt_zero _)
    | succ n47 ih47 =>
      intro v2 o_last o_turnsLet o_slowsLet o_fuel o_glide o_howFar o_tones o_only o_fars o_cellAt hm47 g47_0 g47_1
      show okP (f_X5_begin_L47b (f_X5_begin_L47 n47) v2 o_last o_turnsLet o_slowsLet o_fuel o_glide o_howFar o_tones o_only o_fars o_cellAt p1_settings p1_howFar p1_tones p1_fars) (fun u => (u.2.2.2.2.1.toInt = (p1_settings 6).toInt) ∧ (u.1.toInt = (p1_settings 2).toInt) ∧ ((u.2.2.2.2.2.2.2.2.2 0).toInt = (p1_settings 1).toInt))
      unfold f_X5_begin_L47b
      refine ok_ite (fun c_1 => ?_) (fun c_1 => ?_)
      · skip
        have c_1 : (6 : Int) < v2.toInt := i_lt.mp c_1
        refine ok_nmi (fun x_2 hx_2 kx_2 => ?_)
        refine ok_nmi (fun x_3 hx_3 kx_3 => ?_)
        refine ok_nmi (fun x_4 hx_4 kx_4 => ?_)
        refine ok_ite (fun c_5 => ?_) (fun c_5 => ?_)
        · skip
          have c_5 : (p1_settings 4).toInt = (1 : Int) := i_eq.mp c_5
          unfold f_X5_begin_B114
          refine ok_chk (b01 (show (1 : Int) = 0 ∨ (1 : Int) = 1 by omega)) ?_
          refine ok_nmi (fun x_6 hx_6 kx_6 => ?_)
          refine ok_nmi (fun x_7 hx_7 kx_7 => ?_)
          exact ok_some (show (x_7.toInt = (p1_settings 6).toInt) ∧ (x_3.toInt = (p1_settings 2).toInt) ∧ (((upd o_cellAt 0 x_2) 0).toInt = (p1_settings 1).toInt) from ⟨by first | omega | (rw [upd_is]; omega), by first | omega | (rw [upd_is]; omega), by first | with_reducible assumption | with_reducible rfl | (rw [upd_is]; omega) | omega⟩)
        · skip
          have c_5 : ¬ (p1_settings 4).toInt = (1 : Int) := fun z => c_5 (i_eq.mpr z)
          unfold f_X5_begin_B114
          refine ok_chk (b01 (show (0 : Int) = 0 ∨ (0 : Int) = 1 by omega)) ?_
          refine ok_nmi (fun x_8 hx_8 kx_8 => ?_)
          refine ok_nmi (fun x_9 hx_9 kx_9 => ?_)
          exact ok_some (show (x_9.toInt = (p1_settings 6).toInt) ∧ (x_3.toInt = (p1_settings 2).toInt) ∧ (((upd o_cellAt 0 x_2) 0).toInt = (p1_settings 1).toInt) from ⟨by first | omega | (rw [upd_is]; omega), by first | omega | (rw [upd_is]; omega), by first | with_reducible assumption | with_reducible rfl | (rw [upd_is]; omega) | omega⟩)
      · skip
        have c_1 : ¬ (6 : Int) < v2.toInt := fun z => c_1 (i_lt.mpr z)
        have ix_10 : ¬ (v2 < 0 ∨ 7 ≤ v2.toNatClampNeg) := ix (show 0 ≤ v2.toInt by omega) (show v2.toInt < (7 : Nat) by omega)
        refine ok_chk ix_10 ?_
        first | (have f_11 : (v2 + 1).toInt = v2.toInt + (1 : Int) := i_add2 rfl rfl (by omega) (by omega)) | skip
        refine ok_nmi (fun x_12 hx_12 kx_12 => ?_)
        exact ih47 x_12 o_last o_turnsLet o_slowsLet o_fuel o_glide o_howFar o_tones (upd o_only v2.toNatClampNeg (-1)) o_fars o_cellAt (show (7 - x_12.toInt).toNat < n47 by omega) (show 0 ≤ x_12.toInt by first | omega | (rw [upd_is]; omega)) (show x_12.toInt ≤ 7 by first | omega | (rw [upd_is]; omega))
  unfold f_X5_begin
  exact l47 FU 0 o_last o_turnsLet o_slowsLet o_fuel o_glide (va_cpy p1_howFar o_howFar 0 0 7) (va_cpy p1_tones o_tones 0 0 7) o_only (va_cpy p1_fars o_fars 0 0 100) o_cellAt (FU_gt (show (7 - (0 : Int)).toNat < 1000000000000 by omega)) (show 0 ≤ (0 : Int) by first | omega | (rw [upd_is]; omega)) (show (0 : Int) ≤ 7 by first | omega | (rw [upd_is]; omega))
set_option maxRecDepth 100000 in
set_option maxHeartbeats 4000000 in
theorem s_X5_leaveOutRings (o_howFar : Nat → Int32) (o_tones : Nat → Int32) : okP (f_X5_leaveOutRings o_howFar o_tones) (fun u => True) := by
  have l2 : ∀ (n : Nat) (v1 : Int32) (o_howFar : Nat → Int32) (o_tones : Nat → Int32), (7 - v1.toInt).toNat < n → (0 ≤ v1.toInt) → (v1.toInt ≤ 7) → okP (f_X5_leaveOutRings_L2 n v1 o_howFar o_tones) (fun u => True) := by
    intro n
    induction n with
    | zero =>
      intro v1 o_howFar o_tones hm
      exact absurd hm (Nat.not_lt_zero _)
    | succ n2 ih2 =>
      intro v1 o_howFar o_tones hm2 g2_0 g2_1
      show okP (f_X5_leaveOutRings_L2b (f_X5_leaveOutRings_L2 n2) v1 o_howFar o_tones) (fun u => True)
      unfold f_X5_leaveOutRings_L2b
      refine ok_ite (fun c_1 => ?_) (fun c_1 => ?_)
      · skip
        have c_1 : (6 : Int) < v1.toInt := i_lt.mp c_1
        exact ok_some trivial
      · skip
        have c_1 : ¬ (6 : Int) < v1.toInt := fun z => c_1 (i_lt.mpr z)
        have ix_2 : ¬ (v1 < 0 ∨ 7 ≤ v1.toNatClampNeg) := ix (show 0 ≤ v1.toInt by omega) (show v1.toInt < (7 : Nat) by omega)
        refine ok_chk ix_2 ?_
        refine ok_chk ix_2 ?_
        first | (have f_3 : (v1 + 1).toInt = v1.toInt + (1 : Int) := i_add2 rfl rfl (by omega) (by omega)) | skip
        refine ok_nmi (fun x_4 hx_4 kx_4 => ?_)
        exact ih2 x_4 (upd o_howFar v1.toNatClampNeg (-1)) (upd o_tones v1.toNatClampNeg 0) (show (7 - x_4.toInt).toNat < n2 by omega) (show 0 ≤ x_4.toInt by omega) (show x_4.toInt ≤ 7 by omega)
  unfold f_X5_leaveOutRings
  exact l2 FU 0 o_howFar o_tones (FU_gt (show (7 - (0 : Int)).toNat < 1000000000000 by omega)) (show 0 ≤ (0 : Int) by omega) (show (0 : Int) ≤ 7 by omega)
set_option maxRecDepth 100000 in
set_option maxHeartbeats 4000000 in
theorem s_X5_keepTo (x2 : Int32) (o_last : Int32) (o_only : Nat → Int32) (p1_size : Int32) (p1_items : Nat → Int32) (h0 : 0 ≤ (p1_size).toInt) (h1 : (p1_size).toInt ≤ 16) : okP (f_X5_keepTo x2 o_last o_only p1_size p1_items) (fun u => True) := by
  have l2 : ∀ (n : Nat) (v2 : Int32) (v3 : Int32) (o_only : Nat → Int32), (7 - v3.toInt).toNat < n → (0 ≤ v3.toInt) → (v3.toInt ≤ 7) → okP (f_X5_keepTo_L2 n v2 v3 o_last o_only p1_size p1_items) (fun u => True) := by
    intro n
    induction n with
    | zero =>
      intro v2 v3 o_only hm
      exact absurd hm (Nat.not_lt_zero _)
    | succ n2 ih2 =>
      intro v2 v3 o_only hm2 g2_0 g2_1
      show okP (f_X5_keepTo_L2b (f_X5_keepTo_L2 n2) v2 v3 o_last o_only p1_size p1_items) (fun u => True)
      unfold f_X5_keepTo_L2b
      refine ok_ite (fun c_1 => ?_) (fun c_1 => ?_)
      · skip
        have c_1 : o_last.toInt < v3.toInt := i_lt.mp c_1
        exact ok_some trivial
      · skip
        have c_1 : ¬ o_last.toInt < v3.toInt := fun z => c_1 (i_lt.mpr z)
        refine ok_ite (fun c_2 => ?_) (fun c_2 => ?_)
        · skip
          have c_2 : (6 : Int) < v3.toInt := i_lt.mp c_2
          exact ok_some trivial
        · skip
          have c_2 : ¬ (6 : Int) < v3.toInt := fun z => c_2 (i_lt.mpr z)
          first | (have f_3 : (v2 + v3).toInt = v2.toInt + v3.toInt := i_add2 rfl rfl (by omega) (by omega)) | skip
          refine ok_bd1 (s_X2_at (v2 + v3) p1_size p1_items (show 0 ≤ (p1_size).toInt by omega) (show (p1_size).toInt ≤ 16 by omega)) (fun r_4 q_5 => ?_)
          refine ok_bd1 (s_X6_isCell r_4) (fun r_6 q_7 => ?_)
          replace q_7 : (r_6.toInt = 1 ∧ 0 ≤ r_4.toInt ∧ r_4.toInt < 100) ∨ (r_6.toInt = 0 ∧ (r_4.toInt < 0 ∨ 100 ≤ r_4.toInt)) := q_7
          refine ok_ite (fun c_8 => ?_) (fun c_8 => ?_)
          · skip
            have c_8 : r_6.toInt = (0 : Int) := i_eq.mp c_8
            replace q_7 : (r_4.toInt < 0 ∨ 100 ≤ r_4.toInt) := by omega
            unfold f_X5_keepTo_B45
            have ix_9 : ¬ (v3 < 0 ∨ 7 ≤ v3.toNatClampNeg) := ix (show 0 ≤ v3.toInt by omega) (show v3.toInt < (7 : Nat) by omega)
            refine ok_chk ix_9 ?_
            first | (have f_10 : (v3 + 1).toInt = v3.toInt + (1 : Int) := i_add2 rfl rfl (by omega) (by omega)) | skip
            refine ok_nmi (fun x_11 hx_11 kx_11 => ?_)
            exact ih2 v2 x_11 (upd o_only v3.toNatClampNeg 100) (show (7 - x_11.toInt).toNat < n2 by omega) (show 0 ≤ x_11.toInt by omega) (show x_11.toInt ≤ 7 by omega)
          · skip
            have c_8 : ¬ r_6.toInt = (0 : Int) := fun z => c_8 (i_eq.mpr z)
            replace q_7 : 0 ≤ r_4.toInt ∧ r_4.toInt < 100 := by omega
            unfold f_X5_keepTo_B45
            have ix_12 : ¬ (v3 < 0 ∨ 7 ≤ v3.toNatClampNeg) := ix (show 0 ≤ v3.toInt by omega) (show v3.toInt < (7 : Nat) by omega)
            refine ok_chk ix_12 ?_
            first | (have f_13 : (v3 + 1).toInt = v3.toInt + (1 : Int) := i_add2 rfl rfl (by omega) (by omega)) | skip
            refine ok_nmi (fun x_14 hx_14 kx_14 => ?_)
            exact ih2 v2 x_14 (upd o_only v3.toNatClampNeg r_4) (show (7 - x_14.toInt).toNat < n2 by omega) (show 0 ≤ x_14.toInt by omega) (show x_14.toInt ≤ 7 by omega)
  unfold f_X5_keepTo
  exact l2 FU x2 0 o_only (FU_gt (show (7 - (0 : Int)).toNat < 1000000000000 by omega)) (show 0 ≤ (0 : Int) by omega) (show (0 : Int) ≤ 7 by omega)
set_option maxRecDepth 100000 in
set_option maxHeartbeats 4000000 in
theorem s_X5_takeRingsOf (x2 : Int32) (o_last : Int32) (o_howFar : Nat → Int32) (o_tones : Nat → Int32) (o_fars : Nat → Int32) (p1_size : Int32) (p1_items : Nat → Int32) (h0 : 0 ≤ (p1_size).toInt) (h1 : (p1_size).toInt ≤ 16) : okP (f_X5_takeRingsOf x2 o_last o_howFar o_tones o_fars p1_size p1_items) (fun u => True) := by
  have l6 : ∀ (n : Nat) (v2 : Int32) (v3 : Int32) (o_howFar : Nat → Int32) (o_tones : Nat → Int32), (7 - v3.toInt).toNat < n → (1 ≤ v3.toInt) → (v3.toInt ≤ 7) → okP (f_X5_takeRingsOf_L6 n v2 v3 o_last o_howFar o_tones o_fars p1_size p1_items) (fun u => True) := by
    intro n
    induction n with
    | zero =>
      intro v2 v3 o_howFar o_tones hm
      exact absurd hm (Nat.not_lt_zero _)
    | succ n6 ih6 =>
      intro v2 v3 o_howFar o_tones hm6 g6_0 g6_1
      show okP (f_X5_takeRingsOf_L6b (f_X5_takeRingsOf_L6 n6) v2 v3 o_last o_howFar o_tones o_fars p1_size p1_items) (fun u => True)
      unfold f_X5_takeRingsOf_L6b
      refine ok_ite (fun c_1 => ?_) (fun c_1 => ?_)
      · skip
        have c_1 : o_last.toInt < v3.toInt := i_lt.mp c_1
        exact ok_some trivial
      · skip
        have c_1 : ¬ o_last.toInt < v3.toInt := fun z => c_1 (i_lt.mpr z)
        refine ok_ite (fun c_2 => ?_) (fun c_2 => ?_)
        · skip
          have c_2 : (6 : Int) < v3.toInt := i_lt.mp c_2
          exact ok_some trivial
        · skip
          have c_2 : ¬ (6 : Int) < v3.toInt := fun z => c_2 (i_lt.mpr z)
          first | (have f_3 : (v2 + v3).toInt = v2.toInt + v3.toInt := i_add2 rfl rfl (by omega) (by omega)) | skip
          refine ok_bd1 (s_X2_at (v2 + v3) p1_size p1_items (show 0 ≤ (p1_size).toInt by omega) (show (p1_size).toInt ≤ 16 by omega)) (fun r_4 q_5 => ?_)
          refine ok_bd1 (s_X6_isCell r_4) (fun r_6 q_7 => ?_)
          replace q_7 : (r_6.toInt = 1 ∧ 0 ≤ r_4.toInt ∧ r_4.toInt < 100) ∨ (r_6.toInt = 0 ∧ (r_4.toInt < 0 ∨ 100 ≤ r_4.toInt)) := q_7
          refine ok_ite (fun c_8 => ?_) (fun c_8 => ?_)
          · skip
            have c_8 : r_6.toInt = (0 : Int) := i_eq.mp c_8
            replace q_7 : (r_4.toInt < 0 ∨ 100 ≤ r_4.toInt) := by omega
            unfold f_X5_takeRingsOf_B53
            have ix_9 : ¬ (v3 < 0 ∨ 7 ≤ v3.toNatClampNeg) := ix (show 0 ≤ v3.toInt by omega) (show v3.toInt < (7 : Nat) by omega)
            refine ok_chk ix_9 ?_
            first | (have f_10 : (v3 + 1).toInt = v3.toInt + (1 : Int) := i_add2 rfl rfl (by omega) (by omega)) | skip
            refine ok_nmi (fun x_11 hx_11 kx_11 => ?_)
            exact ih6 v2 x_11 (upd o_howFar v3.toNatClampNeg (-1)) o_tones (show (7 - x_11.toInt).toNat < n6 by omega) (show 1 ≤ x_11.toInt by omega) (show x_11.toInt ≤ 7 by omega)
          · skip
            have c_8 : ¬ r_6.toInt = (0 : Int) := fun z => c_8 (i_eq.mpr z)
            replace q_7 : 0 ≤ r_4.toInt ∧ r_4.toInt < 100 := by omega
            have ix_12 : ¬ (r_4 < 0 ∨ 100 ≤ r_4.toNatClampNeg) := ix (show 0 ≤ r_4.toInt by omega) (show r_4.toInt < (100 : Nat) by omega)
            refine ok_chk ix_12 ?_
            unfold f_X5_takeRingsOf_B53
            have ix_13 : ¬ (v3 < 0 ∨ 7 ≤ v3.toNatClampNeg) := ix (show 0 ≤ v3.toInt by omega) (show v3.toInt < (7 : Nat) by omega)
            refine ok_chk ix_13 ?_
            first | (have f_14 : (v3 + 1).toInt = v3.toInt + (1 : Int) := i_add2 rfl rfl (by omega) (by omega)) | skip
            refine ok_nmi (fun x_15 hx_15 kx_15 => ?_)
            exact ih6 v2 x_15 (upd o_howFar v3.toNatClampNeg (o_fars r_4.toNatClampNeg)) o_tones (show (7 - x_15.toInt).toNat < n6 by omega) (show 1 ≤ x_15.toInt by omega) (show x_15.toInt ≤ 7 by omega)
  unfold f_X5_takeRingsOf
  refine ok_bd2 (s_X5_leaveOutRings o_howFar o_tones) (fun w_16 w_17 q_18 => ?_)
  exact l6 FU x2 1 w_16 w_17 (FU_gt (show (7 - (1 : Int)).toNat < 1000000000000 by omega)) (show 1 ≤ (1 : Int) by omega) (show (1 : Int) ≤ 7 by omega)
set_option maxRecDepth 100000 in
set_option maxHeartbeats 4000000 in
theorem s_X5_leaveOut (x1 : Int32) (o_last : Int32) (o_fuel : Int32) (o_howFar : Nat → Int32) (o_tones : Nat → Int32) : okP (f_X5_leaveOut x1 o_last o_fuel o_howFar o_tones) (fun u => (u.1.toInt = 0 ∨ u.1.toInt = 1)) := by
  have l38 : ∀ (n : Nat) (v1 : Int32) (v2 : Int32) (v3 : Int32) (o_fuel : Int32) (o_howFar : Nat → Int32) (o_tones : Nat → Int32), (7 - v3.toInt).toNat < n → (1 ≤ v3.toInt) → (v3.toInt ≤ 7) → (v2.toInt = 0 ∨ v2.toInt = 1) → okP (f_X5_leaveOut_L38 n v1 v2 v3 o_last o_fuel o_howFar o_tones) (fun u => (u.1.toInt = 0 ∨ u.1.toInt = 1)) := by
    intro n
    induction n with
    | zero =>
      intro v1 v2 v3 o_fuel o_howFar o_tones hm
      exact absurd hm (Nat.not_lt_zero _)
    | succ n38 ih38 =>
      intro v1 v2 v3 o_fuel o_howFar o_tones hm38 g38_0 g38_1 g38_2
      show okP (f_X5_leaveOut_L38b (f_X5_leaveOut_L38 n38) v1 v2 v3 o_last o_fuel o_howFar o_tones) (fun u => (u.1.toInt = 0 ∨ u.1.toInt = 1))
      unfold f_X5_leaveOut_L38b
      refine ok_ite (fun c_1 => ?_) (fun c_1 => ?_)
      · skip
        have c_1 : (6 : Int) < v3.toInt := i_lt.mp c_1
        refine ok_chk (b01 (show v2.toInt = 0 ∨ v2.toInt = 1 by omega)) ?_
        exact ok_some (show (v2.toInt = 0 ∨ v2.toInt = 1) from by omega)
      · skip
        have c_1 : ¬ (6 : Int) < v3.toInt := fun z => c_1 (i_lt.mpr z)
        first | (have f_2 : (v3 - 1).toInt = v3.toInt - (1 : Int) := i_sub2 rfl rfl (by omega) (by omega)) | skip
        refine ok_ite (fun c_3 => ?_) (fun c_3 => ?_)
        · skip
          have c_3 : v1.toInt = (v3 - 1).toInt := i_eq.mp c_3
          unfold f_X5_leaveOut_B56
          refine ok_ite (fun c_4 => ?_) (fun c_4 => ?_)
          · skip
            exact absurd c_4 (by decide)
          · skip
            unfold f_X5_leaveOut_B69
            refine ok_ite (fun c_5 => ?_) (fun c_5 => ?_)
            · skip
              have c_5 : o_last.toInt < v3.toInt := i_lt.mp c_5
              unfold f_X5_leaveOut_B106
              unfold f_X5_leaveOut_B107
              first | (have o_6 : (v2 ||| 0).toInt = 0 ∨ (v2 ||| 0).toInt = 1 := or01 (show v2.toInt = 0 ∨ v2.toInt = 1 by omega) (show (0 : Int) = 0 ∨ (0 : Int) = 1 by omega)) | skip
              refine ok_nmi (fun x_7 hx_7 kx_7 => ?_)
              have ix_8 : ¬ (v3 < 0 ∨ 7 ≤ v3.toNatClampNeg) := ix (show 0 ≤ v3.toInt by omega) (show v3.toInt < (7 : Nat) by omega)
              refine ok_chk ix_8 ?_
              unfold f_X5_leaveOut_B116
              refine ok_ite (fun c_9 => ?_) (fun c_9 => ?_)
              · skip
                exact absurd c_9 (by decide)
              · skip
                refine ok_chk ix_8 ?_
                unfold f_X5_leaveOut_B128
                first | (have f_10 : (v3 + 1).toInt = v3.toInt + (1 : Int) := i_add2 rfl rfl (by omega) (by omega)) | skip
                refine ok_nmi (fun x_11 hx_11 kx_11 => ?_)
                exact ih38 v1 x_7 x_11 o_fuel (upd o_howFar v3.toNatClampNeg (-1)) (upd o_tones v3.toNatClampNeg 0) (show (7 - x_11.toInt).toNat < n38 by omega) (show 1 ≤ x_11.toInt by omega) (show x_11.toInt ≤ 7 by omega) (show x_7.toInt = 0 ∨ x_7.toInt = 1 by omega)
            · skip
              have c_5 : ¬ o_last.toInt < v3.toInt := fun z => c_5 (i_lt.mpr z)
              have ix_12 : ¬ (v3 < 0 ∨ 7 ≤ v3.toNatClampNeg) := ix (show 0 ≤ v3.toInt by omega) (show v3.toInt < (7 : Nat) by omega)
              refine ok_chk ix_12 ?_
              refine ok_ite (fun c_13 => ?_) (fun c_13 => ?_)
              · skip
                have c_13 : (o_tones v3.toNatClampNeg).toInt = (0 : Int) := i_eq.mp c_13
                refine ok_ite (fun c_14 => ?_) (fun c_14 => ?_)
                · skip
                  exact absurd c_14 (by decide)
                · skip
                  refine ok_chk ix_12 ?_
                  refine ok_ite (fun c_15 => ?_) (fun c_15 => ?_)
                  · skip
                    have c_15 : (o_howFar v3.toNatClampNeg).toInt = (-1 : Int) := i_eq.mp c_15
                    unfold f_X5_leaveOut_B106
                    unfold f_X5_leaveOut_B107
                    first | (have o_16 : (v2 ||| 0).toInt = 0 ∨ (v2 ||| 0).toInt = 1 := or01 (show v2.toInt = 0 ∨ v2.toInt = 1 by omega) (show (0 : Int) = 0 ∨ (0 : Int) = 1 by omega)) | skip
                    refine ok_nmi (fun x_17 hx_17 kx_17 => ?_)
                    refine ok_chk ix_12 ?_
                    unfold f_X5_leaveOut_B116
                    refine ok_ite (fun c_18 => ?_) (fun c_18 => ?_)
                    · skip
                      exact absurd c_18 (by decide)
                    · skip
                      refine ok_chk ix_12 ?_
                      unfold f_X5_leaveOut_B128
                      first | (have f_19 : (v3 + 1).toInt = v3.toInt + (1 : Int) := i_add2 rfl rfl (by omega) (by omega)) | skip
                      refine ok_nmi (fun x_20 hx_20 kx_20 => ?_)
                      exact ih38 v1 x_17 x_20 o_fuel (upd o_howFar v3.toNatClampNeg (-1)) (upd o_tones v3.toNatClampNeg 0) (show (7 - x_20.toInt).toNat < n38 by omega) (show 1 ≤ x_20.toInt by omega) (show x_20.toInt ≤ 7 by omega) (show x_17.toInt = 0 ∨ x_17.toInt = 1 by omega)
                  · skip
                    have c_15 : ¬ (o_howFar v3.toNatClampNeg).toInt = (-1 : Int) := fun z => c_15 (i_eq.mpr z)
                    unfold f_X5_leaveOut_B102
                    unfold f_X5_leaveOut_B107
                    first | (have o_21 : (v2 ||| 1).toInt = 0 ∨ (v2 ||| 1).toInt = 1 := or01 (show v2.toInt = 0 ∨ v2.toInt = 1 by omega) (show (1 : Int) = 0 ∨ (1 : Int) = 1 by omega)) | skip
                    refine ok_nmi (fun x_22 hx_22 kx_22 => ?_)
                    refine ok_chk ix_12 ?_
                    unfold f_X5_leaveOut_B116
                    refine ok_ite (fun c_23 => ?_) (fun c_23 => ?_)
                    · skip
                      exact absurd c_23 (by decide)
                    · skip
                      refine ok_chk ix_12 ?_
                      unfold f_X5_leaveOut_B128
                      first | (have f_24 : (v3 + 1).toInt = v3.toInt + (1 : Int) := i_add2 rfl rfl (by omega) (by omega)) | skip
                      refine ok_nmi (fun x_25 hx_25 kx_25 => ?_)
                      exact ih38 v1 x_22 x_25 o_fuel (upd o_howFar v3.toNatClampNeg (-1)) (upd o_tones v3.toNatClampNeg 0) (show (7 - x_25.toInt).toNat < n38 by omega) (show 1 ≤ x_25.toInt by omega) (show x_25.toInt ≤ 7 by omega) (show x_22.toInt = 0 ∨ x_22.toInt = 1 by omega)
              · skip
                have c_13 : ¬ (o_tones v3.toNatClampNeg).toInt = (0 : Int) := fun z => c_13 (i_eq.mpr z)
                unfold f_X5_leaveOut_B102
                unfold f_X5_leaveOut_B107
                first | (have o_26 : (v2 ||| 1).toInt = 0 ∨ (v2 ||| 1).toInt = 1 := or01 (show v2.toInt = 0 ∨ v2.toInt = 1 by omega) (show (1 : Int) = 0 ∨ (1 : Int) = 1 by omega)) | skip
                refine ok_nmi (fun x_27 hx_27 kx_27 => ?_)
                refine ok_chk ix_12 ?_
                unfold f_X5_leaveOut_B116
                refine ok_ite (fun c_28 => ?_) (fun c_28 => ?_)
                · skip
                  exact absurd c_28 (by decide)
                · skip
                  refine ok_chk ix_12 ?_
                  unfold f_X5_leaveOut_B128
                  first | (have f_29 : (v3 + 1).toInt = v3.toInt + (1 : Int) := i_add2 rfl rfl (by omega) (by omega)) | skip
                  refine ok_nmi (fun x_30 hx_30 kx_30 => ?_)
                  exact ih38 v1 x_27 x_30 o_fuel (upd o_howFar v3.toNatClampNeg (-1)) (upd o_tones v3.toNatClampNeg 0) (show (7 - x_30.toInt).toNat < n38 by omega) (show 1 ≤ x_30.toInt by omega) (show x_30.toInt ≤ 7 by omega) (show x_27.toInt = 0 ∨ x_27.toInt = 1 by omega)
        · skip
          have c_3 : ¬ v1.toInt = (v3 - 1).toInt := fun z => c_3 (i_eq.mpr z)
          unfold f_X5_leaveOut_B56
          refine ok_ite (fun c_31 => ?_) (fun c_31 => ?_)
          · skip
            refine ok_ite (fun c_32 => ?_) (fun c_32 => ?_)
            · skip
              have c_32 : v1.toInt = (6 : Int) := i_eq.mp c_32
              unfold f_X5_leaveOut_B69
              refine ok_ite (fun c_33 => ?_) (fun c_33 => ?_)
              · skip
                have c_33 : o_last.toInt < v3.toInt := i_lt.mp c_33
                unfold f_X5_leaveOut_B106
                unfold f_X5_leaveOut_B107
                first | (have o_34 : (v2 ||| 0).toInt = 0 ∨ (v2 ||| 0).toInt = 1 := or01 (show v2.toInt = 0 ∨ v2.toInt = 1 by omega) (show (0 : Int) = 0 ∨ (0 : Int) = 1 by omega)) | skip
                refine ok_nmi (fun x_35 hx_35 kx_35 => ?_)
                have ix_36 : ¬ (v3 < 0 ∨ 7 ≤ v3.toNatClampNeg) := ix (show 0 ≤ v3.toInt by omega) (show v3.toInt < (7 : Nat) by omega)
                refine ok_chk ix_36 ?_
                unfold f_X5_leaveOut_B116
                refine ok_ite (fun c_37 => ?_) (fun c_37 => ?_)
                · skip
                  unfold f_X5_leaveOut_B128
                  first | (have f_38 : (v3 + 1).toInt = v3.toInt + (1 : Int) := i_add2 rfl rfl (by omega) (by omega)) | skip
                  refine ok_nmi (fun x_39 hx_39 kx_39 => ?_)
                  exact ih38 v1 x_35 x_39 o_fuel o_howFar (upd o_tones v3.toNatClampNeg 0) (show (7 - x_39.toInt).toNat < n38 by omega) (show 1 ≤ x_39.toInt by omega) (show x_39.toInt ≤ 7 by omega) (show x_35.toInt = 0 ∨ x_35.toInt = 1 by omega)
                · skip
                  exact absurd c_37 (by decide)
              · skip
                have c_33 : ¬ o_last.toInt < v3.toInt := fun z => c_33 (i_lt.mpr z)
                have ix_40 : ¬ (v3 < 0 ∨ 7 ≤ v3.toNatClampNeg) := ix (show 0 ≤ v3.toInt by omega) (show v3.toInt < (7 : Nat) by omega)
                refine ok_chk ix_40 ?_
                refine ok_ite (fun c_41 => ?_) (fun c_41 => ?_)
                · skip
                  have c_41 : (o_tones v3.toNatClampNeg).toInt = (0 : Int) := i_eq.mp c_41
                  refine ok_ite (fun c_42 => ?_) (fun c_42 => ?_)
                  · skip
                    unfold f_X5_leaveOut_B106
                    unfold f_X5_leaveOut_B107
                    first | (have o_43 : (v2 ||| 0).toInt = 0 ∨ (v2 ||| 0).toInt = 1 := or01 (show v2.toInt = 0 ∨ v2.toInt = 1 by omega) (show (0 : Int) = 0 ∨ (0 : Int) = 1 by omega)) | skip
                    refine ok_nmi (fun x_44 hx_44 kx_44 => ?_)
                    refine ok_chk ix_40 ?_
                    unfold f_X5_leaveOut_B116
                    refine ok_ite (fun c_45 => ?_) (fun c_45 => ?_)
                    · skip
                      unfold f_X5_leaveOut_B128
                      first | (have f_46 : (v3 + 1).toInt = v3.toInt + (1 : Int) := i_add2 rfl rfl (by omega) (by omega)) | skip
                      refine ok_nmi (fun x_47 hx_47 kx_47 => ?_)
                      exact ih38 v1 x_44 x_47 o_fuel o_howFar (upd o_tones v3.toNatClampNeg 0) (show (7 - x_47.toInt).toNat < n38 by omega) (show 1 ≤ x_47.toInt by omega) (show x_47.toInt ≤ 7 by omega) (show x_44.toInt = 0 ∨ x_44.toInt = 1 by omega)
                    · skip
                      exact absurd c_45 (by decide)
                  · skip
                    exact absurd c_42 (by decide)
                · skip
                  have c_41 : ¬ (o_tones v3.toNatClampNeg).toInt = (0 : Int) := fun z => c_41 (i_eq.mpr z)
                  unfold f_X5_leaveOut_B102
                  unfold f_X5_leaveOut_B107
                  first | (have o_48 : (v2 ||| 1).toInt = 0 ∨ (v2 ||| 1).toInt = 1 := or01 (show v2.toInt = 0 ∨ v2.toInt = 1 by omega) (show (1 : Int) = 0 ∨ (1 : Int) = 1 by omega)) | skip
                  refine ok_nmi (fun x_49 hx_49 kx_49 => ?_)
                  refine ok_chk ix_40 ?_
                  unfold f_X5_leaveOut_B116
                  refine ok_ite (fun c_50 => ?_) (fun c_50 => ?_)
                  · skip
                    unfold f_X5_leaveOut_B128
                    first | (have f_51 : (v3 + 1).toInt = v3.toInt + (1 : Int) := i_add2 rfl rfl (by omega) (by omega)) | skip
                    refine ok_nmi (fun x_52 hx_52 kx_52 => ?_)
                    exact ih38 v1 x_49 x_52 o_fuel o_howFar (upd o_tones v3.toNatClampNeg 0) (show (7 - x_52.toInt).toNat < n38 by omega) (show 1 ≤ x_52.toInt by omega) (show x_52.toInt ≤ 7 by omega) (show x_49.toInt = 0 ∨ x_49.toInt = 1 by omega)
                  · skip
                    exact absurd c_50 (by decide)
            · skip
              have c_32 : ¬ v1.toInt = (6 : Int) := fun z => c_32 (i_eq.mpr z)
              unfold f_X5_leaveOut_B116
              refine ok_ite (fun c_53 => ?_) (fun c_53 => ?_)
              · skip
                unfold f_X5_leaveOut_B128
                first | (have f_54 : (v3 + 1).toInt = v3.toInt + (1 : Int) := i_add2 rfl rfl (by omega) (by omega)) | skip
                refine ok_nmi (fun x_55 hx_55 kx_55 => ?_)
                exact ih38 v1 v2 x_55 o_fuel o_howFar o_tones (show (7 - x_55.toInt).toNat < n38 by omega) (show 1 ≤ x_55.toInt by omega) (show x_55.toInt ≤ 7 by omega) (show v2.toInt = 0 ∨ v2.toInt = 1 by omega)
              · skip
                exact absurd c_53 (by decide)
          · skip
            exact absurd c_31 (by decide)
  unfold f_X5_leaveOut
  refine ok_ite (fun c_56 => ?_) (fun c_56 => ?_)
  · skip
    have c_56 : x1.toInt = (7 : Int) := i_eq.mp c_56
    first | (have f_57 : (9 * o_last).toInt = (9 : Int) * o_last.toInt := i_mul2 rfl rfl (by omega) (by omega)) | skip
    refine ok_ite (fun c_58 => ?_) (fun c_58 => ?_)
    · skip
      have c_58 : (9 * o_last).toInt ≤ o_fuel.toInt := i_le.mp c_58
      unfold f_X5_leaveOut_B25
      refine ok_chk (b01 (show (0 : Int) = 0 ∨ (0 : Int) = 1 by omega)) ?_
      exact ok_some (show ((0 : Int) = 0 ∨ (0 : Int) = 1) from by omega)
    · skip
      have c_58 : ¬ (9 * o_last).toInt ≤ o_fuel.toInt := fun z => c_58 (i_le.mpr z)
      unfold f_X5_leaveOut_B25
      refine ok_chk (b01 (show (1 : Int) = 0 ∨ (1 : Int) = 1 by omega)) ?_
      exact ok_some (show ((1 : Int) = 0 ∨ (1 : Int) = 1) from by omega)
  · skip
    have c_56 : ¬ x1.toInt = (7 : Int) := fun z => c_56 (i_eq.mpr z)
    exact l38 FU x1 0 1 o_fuel o_howFar o_tones (FU_gt (show (7 - (1 : Int)).toNat < 1000000000000 by omega)) (show 1 ≤ (1 : Int) by omega) (show (1 : Int) ≤ 7 by omega) (show (0 : Int) = 0 ∨ (0 : Int) = 1 by omega)
set_option maxRecDepth 100000 in
set_option maxHeartbeats 4000000 in
theorem s_X5_isLet (x1 : Int32) (x2 : Int32) (o_only : Nat → Int32) (h0 : 0 ≤ (x1).toInt) (h1 : (x1).toInt ≤ 6) : okP (f_X5_isLet x1 x2 o_only) (fun u => (u.toInt = 0 ∨ u.toInt = 1)) := by
  unfold f_X5_isLet
  have ix_1 : ¬ (x1 < 0 ∨ 7 ≤ x1.toNatClampNeg) := ix (show 0 ≤ x1.toInt by omega) (show x1.toInt < (7 : Nat) by omega)
  refine ok_chk ix_1 ?_
  refine ok_ite (fun c_2 => ?_) (fun c_2 => ?_)
  · skip
    have c_2 : (o_only x1.toNatClampNeg).toInt = (-1 : Int) := i_eq.mp c_2
    exact ok_some (show ((1 : Int) = 0 ∨ (1 : Int) = 1) from by omega)
  · skip
    have c_2 : ¬ (o_only x1.toNatClampNeg).toInt = (-1 : Int) := fun z => c_2 (i_eq.mpr z)
    refine ok_chk ix_1 ?_
    refine ok_ite (fun c_3 => ?_) (fun c_3 => ?_)
    · skip
      have c_3 : (o_only x1.toNatClampNeg).toInt = x2.toInt := i_eq.mp c_3
      exact ok_some (show ((1 : Int) = 0 ∨ (1 : Int) = 1) from by omega)
    · skip
      have c_3 : ¬ (o_only x1.toNatClampNeg).toInt = x2.toInt := fun z => c_3 (i_eq.mpr z)
      exact ok_some (show ((0 : Int) = 0 ∨ (0 : Int) = 1) from by omega)
set_option maxRecDepth 100000 in
set_option maxHeartbeats 4000000 in
theorem s_X5_isFound (o_toPass : Int32) : okP (f_X5_isFound o_toPass) (fun u => (u.toInt = 0 ∨ u.toInt = 1)) := by
  unfold f_X5_isFound
  refine ok_ite (fun c_1 => ?_) (fun c_1 => ?_)
  · skip
    have c_1 : o_toPass.toInt = (-2 : Int) := i_eq.mp c_1
    exact ok_some (show ((1 : Int) = 0 ∨ (1 : Int) = 1) from by omega)
  · skip
    have c_1 : ¬ o_toPass.toInt = (-2 : Int) := fun z => c_1 (i_eq.mpr z)
    exact ok_some (show ((0 : Int) = 0 ∨ (0 : Int) = 1) from by omega)
set_option maxRecDepth 100000 in
set_option maxHeartbeats 4000000 in
theorem s_X5_ringGives (x1 : Int32) (x2 : Int32) (x3 : Int32) (o_howFar : Nat → Int32) (o_tones : Nat → Int32) (h0 : 0 ≤ (x1).toInt) (h1 : (x1).toInt ≤ 6) : okP (f_X5_ringGives x1 x2 x3 o_howFar o_tones) (fun u => True) := by
  unfold f_X5_ringGives
  have ix_1 : ¬ (x1 < 0 ∨ 7 ≤ x1.toNatClampNeg) := ix (show 0 ≤ x1.toInt by omega) (show x1.toInt < (7 : Nat) by omega)
  refine ok_chk ix_1 ?_
  refine ok_nmi (fun x_2 hx_2 kx_2 => ?_)
  refine ok_ite (fun c_3 => ?_) (fun c_3 => ?_)
  · skip
    have c_3 : x_2.toInt = (1 : Int) := i_eq.mp c_3
    refine ok_ite (fun c_4 => ?_) (fun c_4 => ?_)
    · skip
      have c_4 : x2.toInt ≤ x3.toInt := i_le.mp c_4
      exact ok_some trivial
    · skip
      have c_4 : ¬ x2.toInt ≤ x3.toInt := fun z => c_4 (i_le.mpr z)
      unfold f_X5_ringGives_B19
      refine ok_ite (fun c_5 => ?_) (fun c_5 => ?_)
      · skip
        have c_5 : x_2.toInt = (2 : Int) := i_eq.mp c_5
        refine ok_ite (fun c_6 => ?_) (fun c_6 => ?_)
        · skip
          have c_6 : x2.toInt < x3.toInt := i_lt.mp c_6
          unfold f_X5_ringGives_B32
          refine ok_chk ix_1 ?_
          refine ok_ite (fun c_7 => ?_) (fun c_7 => ?_)
          · skip
            have c_7 : (o_howFar x1.toNatClampNeg).toInt = (-1 : Int) := i_eq.mp c_7
            exact ok_some trivial
          · skip
            have c_7 : ¬ (o_howFar x1.toNatClampNeg).toInt = (-1 : Int) := fun z => c_7 (i_eq.mpr z)
            refine ok_chk ix_1 ?_
            first | (have f_8 : (x3 - (o_howFar x1.toNatClampNeg)).toInt = x3.toInt - (o_howFar x1.toNatClampNeg).toInt := i_sub2 rfl rfl (by omega) (by omega)) | skip
            refine ok_nmi (fun x_9 hx_9 kx_9 => ?_)
            refine ok_ite (fun c_10 => ?_) (fun c_10 => ?_)
            · skip
              have c_10 : x_9.toInt = (0 : Int) := i_eq.mp c_10
              exact ok_some trivial
            · skip
              have c_10 : ¬ x_9.toInt = (0 : Int) := fun z => c_10 (i_eq.mpr z)
              refine ok_ite (fun c_11 => ?_) (fun c_11 => ?_)
              · skip
                have c_11 : x_9.toInt = (1 : Int) := i_eq.mp c_11
                exact ok_some trivial
              · skip
                have c_11 : ¬ x_9.toInt = (1 : Int) := fun z => c_11 (i_eq.mpr z)
                exact ok_some trivial
        · skip
          have c_6 : ¬ x2.toInt < x3.toInt := fun z => c_6 (i_lt.mpr z)
          exact ok_some trivial
      · skip
        have c_5 : ¬ x_2.toInt = (2 : Int) := fun z => c_5 (i_eq.mpr z)
        unfold f_X5_ringGives_B32
        refine ok_chk ix_1 ?_
        refine ok_ite (fun c_12 => ?_) (fun c_12 => ?_)
        · skip
          have c_12 : (o_howFar x1.toNatClampNeg).toInt = (-1 : Int) := i_eq.mp c_12
          exact ok_some trivial
        · skip
          have c_12 : ¬ (o_howFar x1.toNatClampNeg).toInt = (-1 : Int) := fun z => c_12 (i_eq.mpr z)
          refine ok_chk ix_1 ?_
          first | (have f_13 : (x3 - (o_howFar x1.toNatClampNeg)).toInt = x3.toInt - (o_howFar x1.toNatClampNeg).toInt := i_sub2 rfl rfl (by omega) (by omega)) | skip
          refine ok_nmi (fun x_14 hx_14 kx_14 => ?_)
          refine ok_ite (fun c_15 => ?_) (fun c_15 => ?_)
          · skip
            have c_15 : x_14.toInt = (0 : Int) := i_eq.mp c_15
            exact ok_some trivial
          · skip
            have c_15 : ¬ x_14.toInt = (0 : Int) := fun z => c_15 (i_eq.mpr z)
            refine ok_ite (fun c_16 => ?_) (fun c_16 => ?_)
            · skip
              have c_16 : x_14.toInt = (1 : Int) := i_eq.mp c_16
              exact ok_some trivial
            · skip
              have c_16 : ¬ x_14.toInt = (1 : Int) := fun z => c_16 (i_eq.mpr z)
              exact ok_some trivial
  · skip
    have c_3 : ¬ x_2.toInt = (1 : Int) := fun z => c_3 (i_eq.mpr z)
    unfold f_X5_ringGives_B19
    refine ok_ite (fun c_17 => ?_) (fun c_17 => ?_)
    · skip
      have c_17 : x_2.toInt = (2 : Int) := i_eq.mp c_17
      refine ok_ite (fun c_18 => ?_) (fun c_18 => ?_)
      · skip
        have c_18 : x2.toInt < x3.toInt := i_lt.mp c_18
        unfold f_X5_ringGives_B32
        refine ok_chk ix_1 ?_
        refine ok_ite (fun c_19 => ?_) (fun c_19 => ?_)
        · skip
          have c_19 : (o_howFar x1.toNatClampNeg).toInt = (-1 : Int) := i_eq.mp c_19
          exact ok_some trivial
        · skip
          have c_19 : ¬ (o_howFar x1.toNatClampNeg).toInt = (-1 : Int) := fun z => c_19 (i_eq.mpr z)
          refine ok_chk ix_1 ?_
          first | (have f_20 : (x3 - (o_howFar x1.toNatClampNeg)).toInt = x3.toInt - (o_howFar x1.toNatClampNeg).toInt := i_sub2 rfl rfl (by omega) (by omega)) | skip
          refine ok_nmi (fun x_21 hx_21 kx_21 => ?_)
          refine ok_ite (fun c_22 => ?_) (fun c_22 => ?_)
          · skip
            have c_22 : x_21.toInt = (0 : Int) := i_eq.mp c_22
            exact ok_some trivial
          · skip
            have c_22 : ¬ x_21.toInt = (0 : Int) := fun z => c_22 (i_eq.mpr z)
            refine ok_ite (fun c_23 => ?_) (fun c_23 => ?_)
            · skip
              have c_23 : x_21.toInt = (1 : Int) := i_eq.mp c_23
              exact ok_some trivial
            · skip
              have c_23 : ¬ x_21.toInt = (1 : Int) := fun z => c_23 (i_eq.mpr z)
              exact ok_some trivial
      · skip
        have c_18 : ¬ x2.toInt < x3.toInt := fun z => c_18 (i_lt.mpr z)
        exact ok_some trivial
    · skip
      have c_17 : ¬ x_2.toInt = (2 : Int) := fun z => c_17 (i_eq.mpr z)
      unfold f_X5_ringGives_B32
      refine ok_chk ix_1 ?_
      refine ok_ite (fun c_24 => ?_) (fun c_24 => ?_)
      · skip
        have c_24 : (o_howFar x1.toNatClampNeg).toInt = (-1 : Int) := i_eq.mp c_24
        exact ok_some trivial
      · skip
        have c_24 : ¬ (o_howFar x1.toNatClampNeg).toInt = (-1 : Int) := fun z => c_24 (i_eq.mpr z)
        refine ok_chk ix_1 ?_
        first | (have f_25 : (x3 - (o_howFar x1.toNatClampNeg)).toInt = x3.toInt - (o_howFar x1.toNatClampNeg).toInt := i_sub2 rfl rfl (by omega) (by omega)) | skip
        refine ok_nmi (fun x_26 hx_26 kx_26 => ?_)
        refine ok_ite (fun c_27 => ?_) (fun c_27 => ?_)
        · skip
          have c_27 : x_26.toInt = (0 : Int) := i_eq.mp c_27
          exact ok_some trivial
        · skip
          have c_27 : ¬ x_26.toInt = (0 : Int) := fun z => c_27 (i_eq.mpr z)
          refine ok_ite (fun c_28 => ?_) (fun c_28 => ?_)
          · skip
            have c_28 : x_26.toInt = (1 : Int) := i_eq.mp c_28
            exact ok_some trivial
          · skip
            have c_28 : ¬ x_26.toInt = (1 : Int) := fun z => c_28 (i_eq.mpr z)
            exact ok_some trivial
set_option maxRecDepth 100000 in
set_option maxHeartbeats 4000000 in
theorem s_X5_see (x1 : Int32) (x2 : Int32) (o_seen : Nat → Int32) (h0 : 0 ≤ (x1).toInt) (h1 : (x1).toInt ≤ 6) (h2 : 0 ≤ (x2).toInt) (h3 : (x2).toInt ≤ 99) : okP (f_X5_see x1 x2 o_seen) (fun u => True) := by
  unfold f_X5_see
  first | (have f_1 : (10 * x1).toInt = (10 : Int) * x1.toInt := i_mul2 rfl rfl (by omega) (by omega)) | skip
  first | (have f_2 : (x2 / 10).toInt = x2.toInt / (10 : Int) := i_div2 rfl rfl (by omega) (by omega)) | skip
  first | (have f_3 : ((10 * x1) + (x2 / 10)).toInt = (10 * x1).toInt + (x2 / 10).toInt := i_add2 rfl rfl (by omega) (by omega)) | skip
  refine ok_nmi (fun x_4 hx_4 kx_4 => ?_)
  have ix_5 : ¬ (x_4 < 0 ∨ 70 ≤ x_4.toNatClampNeg) := ix (show 0 ≤ x_4.toInt by omega) (show x_4.toInt < (70 : Nat) by omega)
  refine ok_chk ix_5 ?_
  first | (have f_6 : (x2 - x2 / 10 * 10).toInt = x2.toInt % (10 : Int) := i_rem2 rfl rfl (by omega) (by omega)) | skip
  first | (have o_7 : ((o_seen x_4.toNatClampNeg) ||| (1 <<< ((x2 - x2 / 10 * 10) &&& 31))).toInt = 0 ∨ ((o_seen x_4.toNatClampNeg) ||| (1 <<< ((x2 - x2 / 10 * 10) &&& 31))).toInt = 1 := or01 (show (o_seen x_4.toNatClampNeg).toInt = 0 ∨ (o_seen x_4.toNatClampNeg).toInt = 1 by omega) (show (1 <<< ((x2 - x2 / 10 * 10) &&& 31)).toInt = 0 ∨ (1 <<< ((x2 - x2 / 10 * 10) &&& 31)).toInt = 1 by omega)) | skip
  refine ok_nmx (fun x_8 hx_8 => ?_)
  refine ok_chk ix_5 ?_
  exact ok_some trivial
set_option maxRecDepth 100000 in
set_option maxHeartbeats 4000000 in
theorem s_X5_arrive (x1 : Int32) (x2 : Int32) (x3 : Int32) (x4 : Int32) (o_last : Int32) (o_glide : Int32) (o_count : Int32) (o_weightSum : Int64) (o_toPass : Int32) (o_foundWeight : Int32) (o_foundTurns : Int32) (o_foundSlowed : Int32) (o_cellAt : Nat → Int32) (o_ends : Nat → Int64) (h0 : 0 ≤ (o_last).toInt) (h1 : (o_last).toInt ≤ 6) (h2 : 0 ≤ (o_glide).toInt) (h3 : (o_glide).toInt ≤ 3) : okP (f_X5_arrive x1 x2 x3 x4 o_last o_glide o_count o_weightSum o_toPass o_foundWeight o_foundTurns o_foundSlowed o_cellAt o_ends) (fun u => True) := by
  have l86 : ∀ (n : Nat) (v1 : Int32) (v5 : Int32) (v6 : Int32) (o_count : Int32) (o_weightSum : Int64) (o_toPass : Int32) (o_foundWeight : Int32) (o_foundTurns : Int32) (o_foundSlowed : Int32) (o_ends : Nat → Int64), (4 - v6.toInt).toNat < n → (0 ≤ (v6).toInt) → ((v6).toInt ≤ 4) → okP (f_X5_arrive_L86 n v1 v5 v6 o_last o_glide o_count o_weightSum o_toPass o_foundWeight o_foundTurns o_foundSlowed o_cellAt o_ends) (fun u => True) := by
    intro n
    induction n with
    | zero =>
      intro v1 v5 v6 o_count o_weightSum o_toPass o_foundWeight o_foundTurns o_foundSlowed o_ends hm
      exact absurd hm (Nat.not_lt_zero _)
    | succ n86 ih86 =>
      intro v1 v5 v6 o_count o_weightSum o_toPass o_foundWeight o_foundTurns o_foundSlowed o_ends hm86 g86_0 g86_1
      show okP (f_X5_arrive_L86b (f_X5_arrive_L86 n86) v1 v5 v6 o_last o_glide o_count o_weightSum o_toPass o_foundWeight o_foundTurns o_foundSlowed o_cellAt o_ends) (fun u => True)
      unfold f_X5_arrive_L86b
      refine ok_ite (fun c_1 => ?_) (fun c_1 => ?_)
      · skip
        have c_1 : o_glide.toInt < v6.toInt := i_lt.mp c_1
        exact ok_some trivial
      · skip
        have c_1 : ¬ o_glide.toInt < v6.toInt := fun z => c_1 (i_lt.mpr z)
        have ix_2 : ¬ (o_last < 0 ∨ 7 ≤ o_last.toNatClampNeg) := ix (show 0 ≤ o_last.toInt by omega) (show o_last.toInt < (7 : Nat) by omega)
        refine ok_chk ix_2 ?_
        refine ok_bd1 (s_X6_ahead (o_cellAt o_last.toNatClampNeg) v1 v6) (fun r_3 q_4 => ?_)
        replace q_4 : r_3.toInt = -1 ∨ (0 ≤ r_3.toInt ∧ r_3.toInt < 100) := q_4
        refine ok_ite (fun c_5 => ?_) (fun c_5 => ?_)
        · skip
          have c_5 : r_3.toInt = (-1 : Int) := i_eq.mp c_5
          unfold f_X5_arrive_B144
          first | (have f_6 : (v6 + 1).toInt = v6.toInt + (1 : Int) := i_add2 rfl rfl (by omega) (by omega)) | skip
          refine ok_nmi (fun x_7 hx_7 kx_7 => ?_)
          exact ih86 v1 v5 x_7 o_count o_weightSum o_toPass o_foundWeight o_foundTurns o_foundSlowed o_ends (show (4 - x_7.toInt).toNat < n86 by omega) (show 0 ≤ (x_7).toInt by omega) (show (x_7).toInt ≤ 4 by omega)
        · skip
          have c_5 : ¬ r_3.toInt = (-1 : Int) := fun z => c_5 (i_eq.mpr z)
          have ix_8 : ¬ (r_3 < 0 ∨ 100 ≤ r_3.toNatClampNeg) := ix (show 0 ≤ r_3.toInt by omega) (show r_3.toInt < (100 : Nat) by omega)
          refine ok_chk ix_8 ?_
          refine ok_ite (fun c_9 => ?_) (fun c_9 => ?_)
          · skip
            have c_9 : v6.toInt = (0 : Int) := i_eq.mp c_9
            first | (have f_10 : (2 * v5).toInt = (2 : Int) * v5.toInt := i_mul2 rfl rfl (by omega) (by omega)) | skip
            first | (have f_11 : ((2 * v5).toInt64).toInt = (2 * v5).toInt := j_i2l _) | skip
            unfold f_X5_arrive_B142
            first | (have f_12 : ((o_ends r_3.toNatClampNeg) + ((2 * v5).toInt64)).toInt = (o_ends r_3.toNatClampNeg).toInt + ((2 * v5).toInt64).toInt := j_add2 rfl rfl (by omega) (by omega)) | skip
            refine ok_nmj (fun x_13 hx_13 kx_13 => ?_)
            refine ok_chk ix_8 ?_
            unfold f_X5_arrive_B144
            first | (have f_14 : (v6 + 1).toInt = v6.toInt + (1 : Int) := i_add2 rfl rfl (by omega) (by omega)) | skip
            refine ok_nmi (fun x_15 hx_15 kx_15 => ?_)
            exact ih86 v1 v5 x_15 o_count o_weightSum o_toPass o_foundWeight o_foundTurns o_foundSlowed (vp_updL o_ends r_3.toNatClampNeg x_13) (show (4 - x_15.toInt).toNat < n86 by omega) (show 0 ≤ (x_15).toInt by omega) (show (x_15).toInt ≤ 4 by omega)
          · skip
            have c_9 : ¬ v6.toInt = (0 : Int) := fun z => c_9 (i_eq.mpr z)
            first | (have f_16 : (v5.toInt64).toInt = v5.toInt := j_i2l _) | skip
            unfold f_X5_arrive_B142
            first | (have f_17 : ((o_ends r_3.toNatClampNeg) + v5.toInt64).toInt = (o_ends r_3.toNatClampNeg).toInt + (v5.toInt64).toInt := j_add2 rfl rfl (by omega) (by omega)) | skip
            refine ok_nmj (fun x_18 hx_18 kx_18 => ?_)
            refine ok_chk ix_8 ?_
            unfold f_X5_arrive_B144
            first | (have f_19 : (v6 + 1).toInt = v6.toInt + (1 : Int) := i_add2 rfl rfl (by omega) (by omega)) | skip
            refine ok_nmi (fun x_20 hx_20 kx_20 => ?_)
            exact ih86 v1 v5 x_20 o_count o_weightSum o_toPass o_foundWeight o_foundTurns o_foundSlowed (vp_updL o_ends r_3.toNatClampNeg x_18) (show (4 - x_20.toInt).toNat < n86 by omega) (show 0 ≤ (x_20).toInt by omega) (show (x_20).toInt ≤ 4 by omega)
  unfold f_X5_arrive
  first | (have f_21 : (2 * x2).toInt = (2 : Int) * x2.toInt := i_mul2 rfl rfl (by omega) (by omega)) | skip
  first | (have f_22 : ((2 * x2) + x3).toInt = (2 * x2).toInt + x3.toInt := i_add2 rfl rfl (by omega) (by omega)) | skip
  refine ok_nmx (fun x_23 hx_23 => ?_)
  refine ok_ite (fun c_24 => ?_) (fun c_24 => ?_)
  · skip
    have c_24 : o_toPass.toInt ≤ (0 : Int) := i_le.mp c_24
    refine ok_ite (fun c_25 => ?_) (fun c_25 => ?_)
    · skip
      have c_25 : o_toPass.toInt = (0 : Int) := i_eq.mp c_25
      exact ok_some trivial
    · skip
      have c_25 : ¬ o_toPass.toInt = (0 : Int) := fun z => c_25 (i_eq.mpr z)
      first | (have f_26 : (o_count + 1).toInt = o_count.toInt + (1 : Int) := i_add2 rfl rfl (by omega) (by omega)) | skip
      refine ok_nmi (fun x_27 hx_27 kx_27 => ?_)
      first | (have f_28 : (x_23.toInt64).toInt = x_23.toInt := j_i2l _) | skip
      first | (have f_29 : (o_weightSum + x_23.toInt64).toInt = o_weightSum.toInt + (x_23.toInt64).toInt := j_add2 rfl rfl (by omega) (by omega)) | skip
      refine ok_nmj (fun x_30 hx_30 kx_30 => ?_)
      exact l86 FU x1 x_23 0 x_27 x_30 o_toPass o_foundWeight o_foundTurns o_foundSlowed o_ends (FU_gt (show (4 - (0 : Int)).toNat < 1000000000000 by omega)) (show 0 ≤ (0 : Int) by omega) (show (0 : Int) ≤ 4 by omega)
  · skip
    have c_24 : ¬ o_toPass.toInt ≤ (0 : Int) := fun z => c_24 (i_le.mpr z)
    first | (have f_31 : (o_toPass - 1).toInt = o_toPass.toInt - (1 : Int) := i_sub2 rfl rfl (by omega) (by omega)) | skip
    refine ok_nmi (fun x_32 hx_32 kx_32 => ?_)
    exact ok_some trivial
def FlyS (d : Nat) : Prop := ∀ (x1 : Int32) (x2 : Int32) (x3 : Int32) (x4 : Int32) (x5 : Int32) (x6 : Int32) (x7 : Int32) (o_last : Int32) (o_turnsLet : Int32) (o_slowsLet : Int32) (o_glide : Int32) (o_count : Int32) (o_weightSum : Int64) (o_toPass : Int32) (o_foundWeight : Int32) (o_foundTurns : Int32) (o_foundSlowed : Int32) (o_howFar : Nat → Int32) (o_tones : Nat → Int32) (o_only : Nat → Int32) (o_fars : Nat → Int32) (o_cellAt : Nat → Int32) (o_ends : Nat → Int64) (o_seen : Nat → Int32) (c0 : Int32), (0 ≤ x1.toInt) → (x1.toInt ≤ 6) → (7 ≤ x1.toInt + (d : Int)) → (o_cellAt 0 = c0) → (0 ≤ (o_glide).toInt) → ((o_glide).toInt ≤ 3) → okP (f_X5_fly d x1 x2 x3 x4 x5 x6 x7 o_last o_turnsLet o_slowsLet o_glide o_count o_weightSum o_toPass o_foundWeight o_foundTurns o_foundSlowed o_howFar o_tones o_only o_fars o_cellAt o_ends o_seen) (fun u => (u.2.2.2.2.2.2.1 0 = c0))
set_option maxRecDepth 100000 in
set_option maxHeartbeats 4000000 in
theorem s_X5_choose (d : Nat) (ihf : FlyS d) (x1 : Int32) (x2 : Int32) (x3 : Int32) (x4 : Int32) (x5 : Int32) (x6 : Int32) (x7 : Int32) (o_last : Int32) (o_turnsLet : Int32) (o_slowsLet : Int32) (o_glide : Int32) (o_count : Int32) (o_weightSum : Int64) (o_toPass : Int32) (o_foundWeight : Int32) (o_foundTurns : Int32) (o_foundSlowed : Int32) (o_howFar : Nat → Int32) (o_tones : Nat → Int32) (o_only : Nat → Int32) (o_fars : Nat → Int32) (o_cellAt : Nat → Int32) (o_ends : Nat → Int64) (o_seen : Nat → Int32) (c0 : Int32) (h0 : 0 ≤ x1.toInt) (h1 : x1.toInt ≤ 6) (h2 : 7 ≤ x1.toInt + (d : Int)) (h3 : o_cellAt 0 = c0) (h4 : 0 ≤ (o_glide).toInt) (h5 : (o_glide).toInt ≤ 3) : okP (f_X5_choose (f_X5_fly d) x1 x2 x3 x4 x5 x6 x7 o_last o_turnsLet o_slowsLet o_glide o_count o_weightSum o_toPass o_foundWeight o_foundTurns o_foundSlowed o_howFar o_tones o_only o_fars o_cellAt o_ends o_seen) (fun u => (u.2.2.2.2.2.2.1 0 = c0)) := by
  have l80 : ∀ (n : Nat) (v1 : Int32) (v2 : Int32) (v3 : Int32) (v4 : Int32) (v5 : Int32) (v6 : Int32) (v7 : Int32) (v8 : Int32) (v9 : Int32) (o_count : Int32) (o_weightSum : Int64) (o_toPass : Int32) (o_foundWeight : Int32) (o_foundTurns : Int32) (o_foundSlowed : Int32) (o_cellAt : Nat → Int32) (o_ends : Nat → Int64) (o_seen : Nat → Int32), (8 - v9.toInt).toNat < n → (0 ≤ (v9).toInt) → ((v9).toInt ≤ 8) → (v1.toInt = x1.toInt) → (o_cellAt 0 = c0) → okP (f_X5_choose_L80 (f_X5_fly d) n v1 v2 v3 v4 v5 v6 v7 v8 v9 o_last o_turnsLet o_slowsLet o_glide o_count o_weightSum o_toPass o_foundWeight o_foundTurns o_foundSlowed o_howFar o_tones o_only o_fars o_cellAt o_ends o_seen) (fun u => (u.2.2.2.2.2.2.1 0 = c0)) := by
    intro n
    induction n with
    | zero =>
      intro v1 v2 v3 v4 v5 v6 v7 v8 v9 o_count o_weightSum o_toPass o_foundWeight o_foundTurns o_foundSlowed o_cellAt o_ends o_seen hm
      exact absurd hm (Nat.not_lt_zero _)
    | succ n80 ih80 =>
      intro v1 v2 v3 v4 v5 v6 v7 v8 v9 o_count o_weightSum o_toPass o_foundWeight o_foundTurns o_foundSlowed o_cellAt o_ends o_seen hm80 g80_0 g80_1 g80_2 g80_3
      show okP (f_X5_choose_L80b (f_X5_fly d) (f_X5_choose_L80 (f_X5_fly d) n80) v1 v2 v3 v4 v5 v6 v7 v8 v9 o_last o_turnsLet o_slowsLet o_glide o_count o_weightSum o_toPass o_foundWeight o_foundTurns o_foundSlowed o_howFar o_tones o_only o_fars o_cellAt o_ends o_seen) (fun u => (u.2.2.2.2.2.2.1 0 = c0))
      unfold f_X5_choose_L80b
      refine ok_ite (fun c_1 => ?_) (fun c_1 => ?_)
      · skip
        have c_1 : (8 : Int) ≤ v9.toInt := i_le.mp c_1
        exact ok_some (show (o_cellAt 0 = c0) from by first | with_reducible assumption | with_reducible rfl | (rw [upd_0 (by rw [i_cl]; omega)]; assumption) | omega)
      · skip
        have c_1 : ¬ (8 : Int) ≤ v9.toInt := fun z => c_1 (i_le.mpr z)
        refine ok_bd1 (s_X5_isFound o_toPass) (fun r_2 q_3 => ?_)
        replace q_3 : r_2.toInt = 0 ∨ r_2.toInt = 1 := q_3
        refine ok_ite (fun c_4 => ?_) (fun c_4 => ?_)
        · skip
          have c_4 : r_2.toInt = (0 : Int) := i_eq.mp c_4
          refine ok_ite (fun c_5 => ?_) (fun c_5 => ?_)
          · skip
            have c_5 : v9.toInt = v2.toInt := i_eq.mp c_5
            unfold f_X5_choose_B152
            first | (have f_6 : (v9 + 1).toInt = v9.toInt + (1 : Int) := i_add2 rfl rfl (by omega) (by omega)) | skip
            refine ok_nmi (fun x_7 hx_7 kx_7 => ?_)
            exact ih80 v1 v2 v3 v4 v5 v6 v7 v8 x_7 o_count o_weightSum o_toPass o_foundWeight o_foundTurns o_foundSlowed o_cellAt o_ends o_seen (show (8 - x_7.toInt).toNat < n80 by omega) (show 0 ≤ (x_7).toInt by first | omega | (rw [upd_0 (by rw [i_cl]; omega)]; assumption)) (show (x_7).toInt ≤ 8 by first | omega | (rw [upd_0 (by rw [i_cl]; omega)]; assumption)) (show v1.toInt = x1.toInt by first | omega | (rw [upd_0 (by rw [i_cl]; omega)]; assumption)) (by first | with_reducible assumption | with_reducible rfl | (rw [upd_0 (by rw [i_cl]; omega)]; assumption) | omega)
          · skip
            have c_5 : ¬ v9.toInt = v2.toInt := fun z => c_5 (i_eq.mpr z)
            first | (have f_8 : (v4 + 1).toInt = v4.toInt + (1 : Int) := i_add2 rfl rfl (by omega) (by omega)) | skip
            refine ok_bd9 (ihf v1 v9 v3 (v4 + 1) v5 v6 v7 o_last o_turnsLet o_slowsLet o_glide o_count o_weightSum o_toPass o_foundWeight o_foundTurns o_foundSlowed o_howFar o_tones o_only o_fars o_cellAt o_ends o_seen c0 (show 0 ≤ v1.toInt by first | omega | (rw [upd_0 (by rw [i_cl]; omega)]; assumption)) (show v1.toInt ≤ 6 by first | omega | (rw [upd_0 (by rw [i_cl]; omega)]; assumption)) (show 7 ≤ v1.toInt + (d : Int) by first | omega | (rw [upd_0 (by rw [i_cl]; omega)]; assumption)) (by first | with_reducible assumption | with_reducible rfl | (rw [upd_0 (by rw [i_cl]; omega)]; assumption) | omega) (show 0 ≤ (o_glide).toInt by first | omega | (rw [upd_0 (by rw [i_cl]; omega)]; assumption)) (show (o_glide).toInt ≤ 3 by first | omega | (rw [upd_0 (by rw [i_cl]; omega)]; assumption))) (fun w_9 w_10 w_11 w_12 w_13 w_14 w_15 w_16 w_17 q_18 => ?_)
            replace q_18 : w_15 0 = c0 := q_18
            refine ok_ite (fun c_19 => ?_) (fun c_19 => ?_)
            · skip
              have c_19 : v8.toInt = (0 : Int) := i_eq.mp c_19
              unfold f_X5_choose_B152
              first | (have f_20 : (v9 + 1).toInt = v9.toInt + (1 : Int) := i_add2 rfl rfl (by omega) (by omega)) | skip
              refine ok_nmi (fun x_21 hx_21 kx_21 => ?_)
              exact ih80 v1 v2 v3 v4 v5 v6 v7 v8 x_21 w_9 w_10 w_11 w_12 w_13 w_14 w_15 w_16 w_17 (show (8 - x_21.toInt).toNat < n80 by omega) (show 0 ≤ (x_21).toInt by first | omega | (rw [upd_0 (by rw [i_cl]; omega)]; assumption)) (show (x_21).toInt ≤ 8 by first | omega | (rw [upd_0 (by rw [i_cl]; omega)]; assumption)) (show v1.toInt = x1.toInt by first | omega | (rw [upd_0 (by rw [i_cl]; omega)]; assumption)) (by first | with_reducible assumption | with_reducible rfl | (rw [upd_0 (by rw [i_cl]; omega)]; assumption) | omega)
            · skip
              have c_19 : ¬ v8.toInt = (0 : Int) := fun z => c_19 (i_eq.mpr z)
              refine ok_bd1 (s_X5_isFound w_11) (fun r_22 q_23 => ?_)
              replace q_23 : r_22.toInt = 0 ∨ r_22.toInt = 1 := q_23
              refine ok_ite (fun c_24 => ?_) (fun c_24 => ?_)
              · skip
                have c_24 : r_22.toInt = (0 : Int) := i_eq.mp c_24
                first | (have f_25 : (v3 - 1).toInt = v3.toInt - (1 : Int) := i_sub2 rfl rfl (by omega) (by omega)) | skip
                refine ok_bd9 (ihf v1 v9 (v3 - 1) (v4 + 1) 1 v6 v7 o_last o_turnsLet o_slowsLet o_glide w_9 w_10 w_11 w_12 w_13 w_14 o_howFar o_tones o_only o_fars w_15 w_16 w_17 c0 (show 0 ≤ v1.toInt by first | omega | (rw [upd_0 (by rw [i_cl]; omega)]; assumption)) (show v1.toInt ≤ 6 by first | omega | (rw [upd_0 (by rw [i_cl]; omega)]; assumption)) (show 7 ≤ v1.toInt + (d : Int) by first | omega | (rw [upd_0 (by rw [i_cl]; omega)]; assumption)) (by first | with_reducible assumption | with_reducible rfl | (rw [upd_0 (by rw [i_cl]; omega)]; assumption) | omega) (show 0 ≤ (o_glide).toInt by first | omega | (rw [upd_0 (by rw [i_cl]; omega)]; assumption)) (show (o_glide).toInt ≤ 3 by first | omega | (rw [upd_0 (by rw [i_cl]; omega)]; assumption))) (fun w_26 w_27 w_28 w_29 w_30 w_31 w_32 w_33 w_34 q_35 => ?_)
                replace q_35 : w_32 0 = c0 := q_35
                unfold f_X5_choose_B152
                first | (have f_36 : (v9 + 1).toInt = v9.toInt + (1 : Int) := i_add2 rfl rfl (by omega) (by omega)) | skip
                refine ok_nmi (fun x_37 hx_37 kx_37 => ?_)
                exact ih80 v1 v2 v3 v4 v5 v6 v7 v8 x_37 w_26 w_27 w_28 w_29 w_30 w_31 w_32 w_33 w_34 (show (8 - x_37.toInt).toNat < n80 by omega) (show 0 ≤ (x_37).toInt by first | omega | (rw [upd_0 (by rw [i_cl]; omega)]; assumption)) (show (x_37).toInt ≤ 8 by first | omega | (rw [upd_0 (by rw [i_cl]; omega)]; assumption)) (show v1.toInt = x1.toInt by first | omega | (rw [upd_0 (by rw [i_cl]; omega)]; assumption)) (by first | with_reducible assumption | with_reducible rfl | (rw [upd_0 (by rw [i_cl]; omega)]; assumption) | omega)
              · skip
                have c_24 : ¬ r_22.toInt = (0 : Int) := fun z => c_24 (i_eq.mpr z)
                unfold f_X5_choose_B152
                first | (have f_38 : (v9 + 1).toInt = v9.toInt + (1 : Int) := i_add2 rfl rfl (by omega) (by omega)) | skip
                refine ok_nmi (fun x_39 hx_39 kx_39 => ?_)
                exact ih80 v1 v2 v3 v4 v5 v6 v7 v8 x_39 w_9 w_10 w_11 w_12 w_13 w_14 w_15 w_16 w_17 (show (8 - x_39.toInt).toNat < n80 by omega) (show 0 ≤ (x_39).toInt by first | omega | (rw [upd_0 (by rw [i_cl]; omega)]; assumption)) (show (x_39).toInt ≤ 8 by first | omega | (rw [upd_0 (by rw [i_cl]; omega)]; assumption)) (show v1.toInt = x1.toInt by first | omega | (rw [upd_0 (by rw [i_cl]; omega)]; assumption)) (by first | with_reducible assumption | with_reducible rfl | (rw [upd_0 (by rw [i_cl]; omega)]; assumption) | omega)
        · skip
          have c_4 : ¬ r_2.toInt = (0 : Int) := fun z => c_4 (i_eq.mpr z)
          exact ok_some (show (o_cellAt 0 = c0) from by first | with_reducible assumption | with_reducible rfl | (rw [upd_0 (by rw [i_cl]; omega)]; assumption) | omega)
  unfold f_X5_choose
  refine ok_ite (fun c_40 => ?_) (fun c_40 => ?_)
  · skip
    have c_40 : o_slowsLet.toInt = (0 : Int) := i_eq.mp c_40
    unfold f_X5_choose_B21
    unfold f_X5_choose_B22
    refine ok_bd9 (ihf x1 x2 x3 x4 x5 x6 x7 o_last o_turnsLet o_slowsLet o_glide o_count o_weightSum o_toPass o_foundWeight o_foundTurns o_foundSlowed o_howFar o_tones o_only o_fars o_cellAt o_ends o_seen c0 (show 0 ≤ x1.toInt by first | omega | (rw [upd_0 (by rw [i_cl]; omega)]; assumption)) (show x1.toInt ≤ 6 by first | omega | (rw [upd_0 (by rw [i_cl]; omega)]; assumption)) (show 7 ≤ x1.toInt + (d : Int) by first | omega | (rw [upd_0 (by rw [i_cl]; omega)]; assumption)) (by first | with_reducible assumption | with_reducible rfl | (rw [upd_0 (by rw [i_cl]; omega)]; assumption) | omega) (show 0 ≤ (o_glide).toInt by first | omega | (rw [upd_0 (by rw [i_cl]; omega)]; assumption)) (show (o_glide).toInt ≤ 3 by first | omega | (rw [upd_0 (by rw [i_cl]; omega)]; assumption))) (fun w_41 w_42 w_43 w_44 w_45 w_46 w_47 w_48 w_49 q_50 => ?_)
    replace q_50 : w_47 0 = c0 := q_50
    refine ok_ite (fun c_51 => ?_) (fun c_51 => ?_)
    · skip
      unfold f_X5_choose_B67
      refine ok_ite (fun c_52 => ?_) (fun c_52 => ?_)
      · skip
        have c_52 : x4.toInt < o_turnsLet.toInt := i_lt.mp c_52
        exact l80 FU x1 x2 x3 x4 x5 x6 x7 0 0 w_41 w_42 w_43 w_44 w_45 w_46 w_47 w_48 w_49 (FU_gt (show (8 - (0 : Int)).toNat < 1000000000000 by omega)) (show 0 ≤ (0 : Int) by first | omega | (rw [upd_0 (by rw [i_cl]; omega)]; assumption)) (show (0 : Int) ≤ 8 by first | omega | (rw [upd_0 (by rw [i_cl]; omega)]; assumption)) (show x1.toInt = x1.toInt by first | omega | (rw [upd_0 (by rw [i_cl]; omega)]; assumption)) (by first | with_reducible assumption | with_reducible rfl | (rw [upd_0 (by rw [i_cl]; omega)]; assumption) | omega)
      · skip
        have c_52 : ¬ x4.toInt < o_turnsLet.toInt := fun z => c_52 (i_lt.mpr z)
        exact ok_some (show (w_47 0 = c0) from by first | with_reducible assumption | with_reducible rfl | (rw [upd_0 (by rw [i_cl]; omega)]; assumption) | omega)
    · skip
      exact absurd c_51 (by decide)
  · skip
    have c_40 : ¬ o_slowsLet.toInt = (0 : Int) := fun z => c_40 (i_eq.mpr z)
    refine ok_ite (fun c_53 => ?_) (fun c_53 => ?_)
    · skip
      have c_53 : x5.toInt = (0 : Int) := i_eq.mp c_53
      refine ok_ite (fun c_54 => ?_) (fun c_54 => ?_)
      · skip
        have c_54 : x3.toInt ≤ (1 : Int) := i_le.mp c_54
        unfold f_X5_choose_B21
        unfold f_X5_choose_B22
        refine ok_bd9 (ihf x1 x2 x3 x4 x5 x6 x7 o_last o_turnsLet o_slowsLet o_glide o_count o_weightSum o_toPass o_foundWeight o_foundTurns o_foundSlowed o_howFar o_tones o_only o_fars o_cellAt o_ends o_seen c0 (show 0 ≤ x1.toInt by first | omega | (rw [upd_0 (by rw [i_cl]; omega)]; assumption)) (show x1.toInt ≤ 6 by first | omega | (rw [upd_0 (by rw [i_cl]; omega)]; assumption)) (show 7 ≤ x1.toInt + (d : Int) by first | omega | (rw [upd_0 (by rw [i_cl]; omega)]; assumption)) (by first | with_reducible assumption | with_reducible rfl | (rw [upd_0 (by rw [i_cl]; omega)]; assumption) | omega) (show 0 ≤ (o_glide).toInt by first | omega | (rw [upd_0 (by rw [i_cl]; omega)]; assumption)) (show (o_glide).toInt ≤ 3 by first | omega | (rw [upd_0 (by rw [i_cl]; omega)]; assumption))) (fun w_55 w_56 w_57 w_58 w_59 w_60 w_61 w_62 w_63 q_64 => ?_)
        replace q_64 : w_61 0 = c0 := q_64
        refine ok_ite (fun c_65 => ?_) (fun c_65 => ?_)
        · skip
          unfold f_X5_choose_B67
          refine ok_ite (fun c_66 => ?_) (fun c_66 => ?_)
          · skip
            have c_66 : x4.toInt < o_turnsLet.toInt := i_lt.mp c_66
            exact l80 FU x1 x2 x3 x4 x5 x6 x7 0 0 w_55 w_56 w_57 w_58 w_59 w_60 w_61 w_62 w_63 (FU_gt (show (8 - (0 : Int)).toNat < 1000000000000 by omega)) (show 0 ≤ (0 : Int) by first | omega | (rw [upd_0 (by rw [i_cl]; omega)]; assumption)) (show (0 : Int) ≤ 8 by first | omega | (rw [upd_0 (by rw [i_cl]; omega)]; assumption)) (show x1.toInt = x1.toInt by first | omega | (rw [upd_0 (by rw [i_cl]; omega)]; assumption)) (by first | with_reducible assumption | with_reducible rfl | (rw [upd_0 (by rw [i_cl]; omega)]; assumption) | omega)
          · skip
            have c_66 : ¬ x4.toInt < o_turnsLet.toInt := fun z => c_66 (i_lt.mpr z)
            exact ok_some (show (w_61 0 = c0) from by first | with_reducible assumption | with_reducible rfl | (rw [upd_0 (by rw [i_cl]; omega)]; assumption) | omega)
        · skip
          exact absurd c_65 (by decide)
      · skip
        have c_54 : ¬ x3.toInt ≤ (1 : Int) := fun z => c_54 (i_le.mpr z)
        unfold f_X5_choose_B22
        refine ok_bd9 (ihf x1 x2 x3 x4 x5 x6 x7 o_last o_turnsLet o_slowsLet o_glide o_count o_weightSum o_toPass o_foundWeight o_foundTurns o_foundSlowed o_howFar o_tones o_only o_fars o_cellAt o_ends o_seen c0 (show 0 ≤ x1.toInt by first | omega | (rw [upd_0 (by rw [i_cl]; omega)]; assumption)) (show x1.toInt ≤ 6 by first | omega | (rw [upd_0 (by rw [i_cl]; omega)]; assumption)) (show 7 ≤ x1.toInt + (d : Int) by first | omega | (rw [upd_0 (by rw [i_cl]; omega)]; assumption)) (by first | with_reducible assumption | with_reducible rfl | (rw [upd_0 (by rw [i_cl]; omega)]; assumption) | omega) (show 0 ≤ (o_glide).toInt by first | omega | (rw [upd_0 (by rw [i_cl]; omega)]; assumption)) (show (o_glide).toInt ≤ 3 by first | omega | (rw [upd_0 (by rw [i_cl]; omega)]; assumption))) (fun w_67 w_68 w_69 w_70 w_71 w_72 w_73 w_74 w_75 q_76 => ?_)
        replace q_76 : w_73 0 = c0 := q_76
        refine ok_ite (fun c_77 => ?_) (fun c_77 => ?_)
        · skip
          exact absurd c_77 (by decide)
        · skip
          refine ok_bd1 (s_X5_isFound w_69) (fun r_78 q_79 => ?_)
          replace q_79 : r_78.toInt = 0 ∨ r_78.toInt = 1 := q_79
          refine ok_ite (fun c_80 => ?_) (fun c_80 => ?_)
          · skip
            have c_80 : r_78.toInt = (0 : Int) := i_eq.mp c_80
            first | (have f_81 : (x3 - 1).toInt = x3.toInt - (1 : Int) := i_sub2 rfl rfl (by omega) (by omega)) | skip
            refine ok_bd9 (ihf x1 x2 (x3 - 1) x4 1 x6 x7 o_last o_turnsLet o_slowsLet o_glide w_67 w_68 w_69 w_70 w_71 w_72 o_howFar o_tones o_only o_fars w_73 w_74 w_75 c0 (show 0 ≤ x1.toInt by first | omega | (rw [upd_0 (by rw [i_cl]; omega)]; assumption)) (show x1.toInt ≤ 6 by first | omega | (rw [upd_0 (by rw [i_cl]; omega)]; assumption)) (show 7 ≤ x1.toInt + (d : Int) by first | omega | (rw [upd_0 (by rw [i_cl]; omega)]; assumption)) (by first | with_reducible assumption | with_reducible rfl | (rw [upd_0 (by rw [i_cl]; omega)]; assumption) | omega) (show 0 ≤ (o_glide).toInt by first | omega | (rw [upd_0 (by rw [i_cl]; omega)]; assumption)) (show (o_glide).toInt ≤ 3 by first | omega | (rw [upd_0 (by rw [i_cl]; omega)]; assumption))) (fun w_82 w_83 w_84 w_85 w_86 w_87 w_88 w_89 w_90 q_91 => ?_)
            replace q_91 : w_88 0 = c0 := q_91
            unfold f_X5_choose_B67
            refine ok_ite (fun c_92 => ?_) (fun c_92 => ?_)
            · skip
              have c_92 : x4.toInt < o_turnsLet.toInt := i_lt.mp c_92
              exact l80 FU x1 x2 x3 x4 x5 x6 x7 1 0 w_82 w_83 w_84 w_85 w_86 w_87 w_88 w_89 w_90 (FU_gt (show (8 - (0 : Int)).toNat < 1000000000000 by omega)) (show 0 ≤ (0 : Int) by first | omega | (rw [upd_0 (by rw [i_cl]; omega)]; assumption)) (show (0 : Int) ≤ 8 by first | omega | (rw [upd_0 (by rw [i_cl]; omega)]; assumption)) (show x1.toInt = x1.toInt by first | omega | (rw [upd_0 (by rw [i_cl]; omega)]; assumption)) (by first | with_reducible assumption | with_reducible rfl | (rw [upd_0 (by rw [i_cl]; omega)]; assumption) | omega)
            · skip
              have c_92 : ¬ x4.toInt < o_turnsLet.toInt := fun z => c_92 (i_lt.mpr z)
              exact ok_some (show (w_88 0 = c0) from by first | with_reducible assumption | with_reducible rfl | (rw [upd_0 (by rw [i_cl]; omega)]; assumption) | omega)
          · skip
            have c_80 : ¬ r_78.toInt = (0 : Int) := fun z => c_80 (i_eq.mpr z)
            unfold f_X5_choose_B67
            refine ok_ite (fun c_93 => ?_) (fun c_93 => ?_)
            · skip
              have c_93 : x4.toInt < o_turnsLet.toInt := i_lt.mp c_93
              exact l80 FU x1 x2 x3 x4 x5 x6 x7 1 0 w_67 w_68 w_69 w_70 w_71 w_72 w_73 w_74 w_75 (FU_gt (show (8 - (0 : Int)).toNat < 1000000000000 by omega)) (show 0 ≤ (0 : Int) by first | omega | (rw [upd_0 (by rw [i_cl]; omega)]; assumption)) (show (0 : Int) ≤ 8 by first | omega | (rw [upd_0 (by rw [i_cl]; omega)]; assumption)) (show x1.toInt = x1.toInt by first | omega | (rw [upd_0 (by rw [i_cl]; omega)]; assumption)) (by first | with_reducible assumption | with_reducible rfl | (rw [upd_0 (by rw [i_cl]; omega)]; assumption) | omega)
            · skip
              have c_93 : ¬ x4.toInt < o_turnsLet.toInt := fun z => c_93 (i_lt.mpr z)
              exact ok_some (show (w_73 0 = c0) from by first | with_reducible assumption | with_reducible rfl | (rw [upd_0 (by rw [i_cl]; omega)]; assumption) | omega)
    · skip
      have c_53 : ¬ x5.toInt = (0 : Int) := fun z => c_53 (i_eq.mpr z)
      unfold f_X5_choose_B21
      unfold f_X5_choose_B22
      refine ok_bd9 (ihf x1 x2 x3 x4 x5 x6 x7 o_last o_turnsLet o_slowsLet o_glide o_count o_weightSum o_toPass o_foundWeight o_foundTurns o_foundSlowed o_howFar o_tones o_only o_fars o_cellAt o_ends o_seen c0 (show 0 ≤ x1.toInt by first | omega | (rw [upd_0 (by rw [i_cl]; omega)]; assumption)) (show x1.toInt ≤ 6 by first | omega | (rw [upd_0 (by rw [i_cl]; omega)]; assumption)) (show 7 ≤ x1.toInt + (d : Int) by first | omega | (rw [upd_0 (by rw [i_cl]; omega)]; assumption)) (by first | with_reducible assumption | with_reducible rfl | (rw [upd_0 (by rw [i_cl]; omega)]; assumption) | omega) (show 0 ≤ (o_glide).toInt by first | omega | (rw [upd_0 (by rw [i_cl]; omega)]; assumption)) (show (o_glide).toInt ≤ 3 by first | omega | (rw [upd_0 (by rw [i_cl]; omega)]; assumption))) (fun w_94 w_95 w_96 w_97 w_98 w_99 w_100 w_101 w_102 q_103 => ?_)
      replace q_103 : w_100 0 = c0 := q_103
      refine ok_ite (fun c_104 => ?_) (fun c_104 => ?_)
      · skip
        unfold f_X5_choose_B67
        refine ok_ite (fun c_105 => ?_) (fun c_105 => ?_)
        · skip
          have c_105 : x4.toInt < o_turnsLet.toInt := i_lt.mp c_105
          exact l80 FU x1 x2 x3 x4 x5 x6 x7 0 0 w_94 w_95 w_96 w_97 w_98 w_99 w_100 w_101 w_102 (FU_gt (show (8 - (0 : Int)).toNat < 1000000000000 by omega)) (show 0 ≤ (0 : Int) by first | omega | (rw [upd_0 (by rw [i_cl]; omega)]; assumption)) (show (0 : Int) ≤ 8 by first | omega | (rw [upd_0 (by rw [i_cl]; omega)]; assumption)) (show x1.toInt = x1.toInt by first | omega | (rw [upd_0 (by rw [i_cl]; omega)]; assumption)) (by first | with_reducible assumption | with_reducible rfl | (rw [upd_0 (by rw [i_cl]; omega)]; assumption) | omega)
        · skip
          have c_105 : ¬ x4.toInt < o_turnsLet.toInt := fun z => c_105 (i_lt.mpr z)
          exact ok_some (show (w_100 0 = c0) from by first | with_reducible assumption | with_reducible rfl | (rw [upd_0 (by rw [i_cl]; omega)]; assumption) | omega)
      · skip
        exact absurd c_104 (by decide)
set_option maxRecDepth 100000 in
set_option maxHeartbeats 4000000 in
theorem s_X5_fly : ∀ d : Nat, FlyS d := by
  intro d
  induction d with
  | zero =>
    intro x1 x2 x3 x4 x5 x6 x7 o_last o_turnsLet o_slowsLet o_glide o_count o_weightSum o_toPass o_foundWeight o_foundTurns o_foundSlowed o_howFar o_tones o_only o_fars o_cellAt o_ends o_seen c0 h0 h1 h2 h3 h4 h5
    exfalso
    omega
  | succ d ih =>
    intro x1 x2 x3 x4 x5 x6 x7 o_last o_turnsLet o_slowsLet o_glide o_count o_weightSum o_toPass o_foundWeight o_foundTurns o_foundSlowed o_howFar o_tones o_only o_fars o_cellAt o_ends o_seen c0 h0 h1 h2 h3 h4 h5
    show okP (f_X5_flyb (f_X5_fly d) x1 x2 x3 x4 x5 x6 x7 o_last o_turnsLet o_slowsLet o_glide o_count o_weightSum o_toPass o_foundWeight o_foundTurns o_foundSlowed o_howFar o_tones o_only o_fars o_cellAt o_ends o_seen) (fun u => (u.2.2.2.2.2.2.1 0 = c0))
    unfold f_X5_flyb
    first | (have f_1 : (x7 - (x3 * x3)).toInt = x7.toInt - (x3 * x3).toInt := i_sub2 rfl rfl (by omega) (by omega)) | skip
    refine ok_nmi (fun x_2 hx_2 kx_2 => ?_)
    refine ok_ite (fun c_3 => ?_) (fun c_3 => ?_)
    · skip
      have c_3 : x1.toInt < (0 : Int) := i_lt.mp c_3
      exact ok_some (show (o_cellAt 0 = c0) from by first | with_reducible assumption | with_reducible rfl | (rw [upd_0 (by rw [i_cl]; omega)]; assumption) | omega)
    · skip
      have c_3 : ¬ x1.toInt < (0 : Int) := fun z => c_3 (i_lt.mpr z)
      refine ok_ite (fun c_4 => ?_) (fun c_4 => ?_)
      · skip
        have c_4 : o_last.toInt ≤ x1.toInt := i_le.mp c_4
        exact ok_some (show (o_cellAt 0 = c0) from by first | with_reducible assumption | with_reducible rfl | (rw [upd_0 (by rw [i_cl]; omega)]; assumption) | omega)
      · skip
        have c_4 : ¬ o_last.toInt ≤ x1.toInt := fun z => c_4 (i_le.mpr z)
        refine ok_ite (fun c_5 => ?_) (fun c_5 => ?_)
        · skip
          have c_5 : (6 : Int) ≤ x1.toInt := i_le.mp c_5
          exact ok_some (show (o_cellAt 0 = c0) from by first | with_reducible assumption | with_reducible rfl | (rw [upd_0 (by rw [i_cl]; omega)]; assumption) | omega)
        · skip
          have c_5 : ¬ (6 : Int) ≤ x1.toInt := fun z => c_5 (i_le.mpr z)
          refine ok_ite (fun c_6 => ?_) (fun c_6 => ?_)
          · skip
            have c_6 : (0 : Int) ≤ x_2.toInt := i_le.mp c_6
            have ix_7 : ¬ (x1 < 0 ∨ 7 ≤ x1.toNatClampNeg) := ix (show 0 ≤ x1.toInt by omega) (show x1.toInt < (7 : Nat) by omega)
            refine ok_chk ix_7 ?_
            refine ok_nmi (fun x_8 hx_8 kx_8 => ?_)
            refine ok_bd1 (s_X6_ahead x_8 x2 x3) (fun r_9 q_10 => ?_)
            replace q_10 : r_9.toInt = -1 ∨ (0 ≤ r_9.toInt ∧ r_9.toInt < 100) := q_10
            refine ok_ite (fun c_11 => ?_) (fun c_11 => ?_)
            · skip
              have c_11 : r_9.toInt = (-1 : Int) := i_eq.mp c_11
              exact ok_some (show (o_cellAt 0 = c0) from by first | with_reducible assumption | with_reducible rfl | (rw [upd_0 (by rw [i_cl]; omega)]; assumption) | omega)
            · skip
              have c_11 : ¬ r_9.toInt = (-1 : Int) := fun z => c_11 (i_eq.mpr z)
              refine ok_bd1 (s_X6_isCell x_8) (fun r_12 q_13 => ?_)
              replace q_13 : (r_12.toInt = 1 ∧ 0 ≤ x_8.toInt ∧ x_8.toInt < 100) ∨ (r_12.toInt = 0 ∧ (x_8.toInt < 0 ∨ 100 ≤ x_8.toInt)) := q_13
              refine ok_ite (fun c_14 => ?_) (fun c_14 => ?_)
              · skip
                have c_14 : r_12.toInt = (0 : Int) := i_eq.mp c_14
                replace q_13 : (x_8.toInt < 0 ∨ 100 ≤ x_8.toInt) := by omega
                exact ok_some (show (o_cellAt 0 = c0) from by first | with_reducible assumption | with_reducible rfl | (rw [upd_0 (by rw [i_cl]; omega)]; assumption) | omega)
              · skip
                have c_14 : ¬ r_12.toInt = (0 : Int) := fun z => c_14 (i_eq.mpr z)
                replace q_13 : 0 ≤ x_8.toInt ∧ x_8.toInt < 100 := by omega
                refine ok_bd1 (s_X5_isLet x1 x_8 o_only (show 0 ≤ (x1).toInt by first | omega | (rw [upd_0 (by rw [i_cl]; omega)]; assumption)) (show (x1).toInt ≤ 6 by first | omega | (rw [upd_0 (by rw [i_cl]; omega)]; assumption))) (fun r_15 q_16 => ?_)
                replace q_16 : r_15.toInt = 0 ∨ r_15.toInt = 1 := q_16
                refine ok_ite (fun c_17 => ?_) (fun c_17 => ?_)
                · skip
                  have c_17 : r_15.toInt = (0 : Int) := i_eq.mp c_17
                  exact ok_some (show (o_cellAt 0 = c0) from by first | with_reducible assumption | with_reducible rfl | (rw [upd_0 (by rw [i_cl]; omega)]; assumption) | omega)
                · skip
                  have c_17 : ¬ r_15.toInt = (0 : Int) := fun z => c_17 (i_eq.mpr z)
                  first | (have f_18 : (x1 + 1).toInt = x1.toInt + (1 : Int) := i_add2 rfl rfl (by omega) (by omega)) | skip
                  refine ok_bd1 (s_X5_isLet (x1 + 1) r_9 o_only (show 0 ≤ ((x1 + 1)).toInt by first | omega | (rw [upd_0 (by rw [i_cl]; omega)]; assumption)) (show ((x1 + 1)).toInt ≤ 6 by first | omega | (rw [upd_0 (by rw [i_cl]; omega)]; assumption))) (fun r_19 q_20 => ?_)
                  replace q_20 : r_19.toInt = 0 ∨ r_19.toInt = 1 := q_20
                  refine ok_ite (fun c_21 => ?_) (fun c_21 => ?_)
                  · skip
                    have c_21 : r_19.toInt = (0 : Int) := i_eq.mp c_21
                    exact ok_some (show (o_cellAt 0 = c0) from by first | with_reducible assumption | with_reducible rfl | (rw [upd_0 (by rw [i_cl]; omega)]; assumption) | omega)
                  · skip
                    have c_21 : ¬ r_19.toInt = (0 : Int) := fun z => c_21 (i_eq.mpr z)
                    have ix_22 : ¬ (x_8 < 0 ∨ 100 ≤ x_8.toNatClampNeg) := ix (show 0 ≤ x_8.toInt by omega) (show x_8.toInt < (100 : Nat) by omega)
                    refine ok_chk ix_22 ?_
                    have ix_23 : ¬ (r_9 < 0 ∨ 100 ≤ r_9.toNatClampNeg) := ix (show 0 ≤ r_9.toInt by omega) (show r_9.toInt < (100 : Nat) by omega)
                    refine ok_chk ix_23 ?_
                    refine ok_bd1 (s_X5_ringGives (x1 + 1) (o_fars x_8.toNatClampNeg) (o_fars r_9.toNatClampNeg) o_howFar o_tones (show 0 ≤ ((x1 + 1)).toInt by first | omega | (rw [upd_0 (by rw [i_cl]; omega)]; assumption)) (show ((x1 + 1)).toInt ≤ 6 by first | omega | (rw [upd_0 (by rw [i_cl]; omega)]; assumption))) (fun r_24 q_25 => ?_)
                    refine ok_nmi (fun x_26 hx_26 kx_26 => ?_)
                    refine ok_ite (fun c_27 => ?_) (fun c_27 => ?_)
                    · skip
                      have c_27 : x_26.toInt = (0 : Int) := i_eq.mp c_27
                      exact ok_some (show (o_cellAt 0 = c0) from by first | with_reducible assumption | with_reducible rfl | (rw [upd_0 (by rw [i_cl]; omega)]; assumption) | omega)
                    · skip
                      have c_27 : ¬ x_26.toInt = (0 : Int) := fun z => c_27 (i_eq.mpr z)
                      have ix_28 : ¬ ((x1 + 1) < 0 ∨ 7 ≤ (x1 + 1).toNatClampNeg) := ix (show 0 ≤ (x1 + 1).toInt by omega) (show (x1 + 1).toInt < (7 : Nat) by omega)
                      refine ok_chk ix_28 ?_
                      refine ok_ite (fun c_29 => ?_) (fun c_29 => ?_)
                      · skip
                        have c_29 : (x1 + 1).toInt = o_last.toInt := i_eq.mp c_29
                        refine ok_bd7 (s_X5_arrive x2 x4 x5 x_26 o_last o_glide o_count o_weightSum o_toPass o_foundWeight o_foundTurns o_foundSlowed (upd o_cellAt (x1 + 1).toNatClampNeg r_9) o_ends (show 0 ≤ (o_last).toInt by first | omega | (rw [upd_0 (by rw [i_cl]; omega)]; assumption)) (show (o_last).toInt ≤ 6 by first | omega | (rw [upd_0 (by rw [i_cl]; omega)]; assumption)) (show 0 ≤ (o_glide).toInt by first | omega | (rw [upd_0 (by rw [i_cl]; omega)]; assumption)) (show (o_glide).toInt ≤ 3 by first | omega | (rw [upd_0 (by rw [i_cl]; omega)]; assumption))) (fun w_30 w_31 w_32 w_33 w_34 w_35 w_36 q_37 => ?_)
                        unfold f_X5_fly_B175
                        refine ok_ite (fun c_38 => ?_) (fun c_38 => ?_)
                        · skip
                          have c_38 : w_30.toInt ≤ o_count.toInt := i_le.mp c_38
                          exact ok_some (show ((upd o_cellAt (x1 + 1).toNatClampNeg r_9) 0 = c0) from by first | with_reducible assumption | with_reducible rfl | (rw [upd_0 (by rw [i_cl]; omega)]; assumption) | omega)
                        · skip
                          have c_38 : ¬ w_30.toInt ≤ o_count.toInt := fun z => c_38 (i_le.mpr z)
                          refine ok_bd1 (s_X5_see (x1 + 1) r_9 o_seen (show 0 ≤ ((x1 + 1)).toInt by first | omega | (rw [upd_0 (by rw [i_cl]; omega)]; assumption)) (show ((x1 + 1)).toInt ≤ 6 by first | omega | (rw [upd_0 (by rw [i_cl]; omega)]; assumption)) (show 0 ≤ (r_9).toInt by first | omega | (rw [upd_0 (by rw [i_cl]; omega)]; assumption)) (show (r_9).toInt ≤ 99 by first | omega | (rw [upd_0 (by rw [i_cl]; omega)]; assumption))) (fun w_39 q_40 => ?_)
                          exact ok_some (show ((upd o_cellAt (x1 + 1).toNatClampNeg r_9) 0 = c0) from by first | with_reducible assumption | with_reducible rfl | (rw [upd_0 (by rw [i_cl]; omega)]; assumption) | omega)
                      · skip
                        have c_29 : ¬ (x1 + 1).toInt = o_last.toInt := fun z => c_29 (i_eq.mpr z)
                        refine ok_bd9 (s_X5_choose d ih (x1 + 1) x2 x3 x4 x5 x_26 x_2 o_last o_turnsLet o_slowsLet o_glide o_count o_weightSum o_toPass o_foundWeight o_foundTurns o_foundSlowed o_howFar o_tones o_only o_fars (upd o_cellAt (x1 + 1).toNatClampNeg r_9) o_ends o_seen c0 (show 0 ≤ (x1 + 1).toInt by first | omega | (rw [upd_0 (by rw [i_cl]; omega)]; assumption)) (show (x1 + 1).toInt ≤ 6 by first | omega | (rw [upd_0 (by rw [i_cl]; omega)]; assumption)) (show 7 ≤ (x1 + 1).toInt + (d : Int) by first | omega | (rw [upd_0 (by rw [i_cl]; omega)]; assumption)) (by first | with_reducible assumption | with_reducible rfl | (rw [upd_0 (by rw [i_cl]; omega)]; assumption) | omega) (show 0 ≤ (o_glide).toInt by first | omega | (rw [upd_0 (by rw [i_cl]; omega)]; assumption)) (show (o_glide).toInt ≤ 3 by first | omega | (rw [upd_0 (by rw [i_cl]; omega)]; assumption))) (fun w_41 w_42 w_43 w_44 w_45 w_46 w_47 w_48 w_49 q_50 => ?_)
                        replace q_50 : w_47 0 = c0 := q_50
                        unfold f_X5_fly_B175
                        refine ok_ite (fun c_51 => ?_) (fun c_51 => ?_)
                        · skip
                          have c_51 : w_41.toInt ≤ o_count.toInt := i_le.mp c_51
                          exact ok_some (show (w_47 0 = c0) from by first | with_reducible assumption | with_reducible rfl | (rw [upd_0 (by rw [i_cl]; omega)]; assumption) | omega)
                        · skip
                          have c_51 : ¬ w_41.toInt ≤ o_count.toInt := fun z => c_51 (i_le.mpr z)
                          refine ok_bd1 (s_X5_see (x1 + 1) r_9 w_49 (show 0 ≤ ((x1 + 1)).toInt by first | omega | (rw [upd_0 (by rw [i_cl]; omega)]; assumption)) (show ((x1 + 1)).toInt ≤ 6 by first | omega | (rw [upd_0 (by rw [i_cl]; omega)]; assumption)) (show 0 ≤ (r_9).toInt by first | omega | (rw [upd_0 (by rw [i_cl]; omega)]; assumption)) (show (r_9).toInt ≤ 99 by first | omega | (rw [upd_0 (by rw [i_cl]; omega)]; assumption))) (fun w_52 q_53 => ?_)
                          exact ok_some (show (w_47 0 = c0) from by first | with_reducible assumption | with_reducible rfl | (rw [upd_0 (by rw [i_cl]; omega)]; assumption) | omega)
          · skip
            have c_6 : ¬ (0 : Int) ≤ x_2.toInt := fun z => c_6 (i_le.mpr z)
            exact ok_some (show (o_cellAt 0 = c0) from by first | with_reducible assumption | with_reducible rfl | (rw [upd_0 (by rw [i_cl]; omega)]; assumption) | omega)
set_option maxRecDepth 100000 in
set_option maxHeartbeats 4000000 in
theorem s_X5_goAll (o_last : Int32) (o_turnsLet : Int32) (o_slowsLet : Int32) (o_fuel : Int32) (o_glide : Int32) (o_count : Int32) (o_weightSum : Int64) (o_toPass : Int32) (o_foundNumber : Int32) (o_foundWeight : Int32) (o_foundTurns : Int32) (o_foundSlowed : Int32) (o_howFar : Nat → Int32) (o_tones : Nat → Int32) (o_only : Nat → Int32) (o_fars : Nat → Int32) (o_cellAt : Nat → Int32) (o_ends : Nat → Int64) (o_seen : Nat → Int32) (o_begun : Nat → Int32) (c0 : Int32) (h0 : o_cellAt 0 = c0) (h1 : 0 ≤ (c0).toInt) (h2 : (c0).toInt ≤ 99) (h3 : 0 ≤ (o_glide).toInt) (h4 : (o_glide).toInt ≤ 3) : okP (f_X5_goAll o_last o_turnsLet o_slowsLet o_fuel o_glide o_count o_weightSum o_toPass o_foundNumber o_foundWeight o_foundTurns o_foundSlowed o_howFar o_tones o_only o_fars o_cellAt o_ends o_seen o_begun) (fun u => True) := by
  have l64 : ∀ (n : Nat) (v1 : Int32) (o_count : Int32) (o_weightSum : Int64) (o_toPass : Int32) (o_foundNumber : Int32) (o_foundWeight : Int32) (o_foundTurns : Int32) (o_foundSlowed : Int32) (o_cellAt : Nat → Int32) (o_ends : Nat → Int64) (o_seen : Nat → Int32) (o_begun : Nat → Int32), (24 - v1.toInt).toNat < n → (0 ≤ v1.toInt) → (v1.toInt ≤ 24) → (o_cellAt 0 = c0) → okP (f_X5_goAll_L64 n v1 o_last o_turnsLet o_slowsLet o_fuel o_glide o_count o_weightSum o_toPass o_foundNumber o_foundWeight o_foundTurns o_foundSlowed o_howFar o_tones o_only o_fars o_cellAt o_ends o_seen o_begun) (fun u => True) := by
    intro n
    induction n with
    | zero =>
      intro v1 o_count o_weightSum o_toPass o_foundNumber o_foundWeight o_foundTurns o_foundSlowed o_cellAt o_ends o_seen o_begun hm
      exact absurd hm (Nat.not_lt_zero _)
    | succ n64 ih64 =>
      intro v1 o_count o_weightSum o_toPass o_foundNumber o_foundWeight o_foundTurns o_foundSlowed o_cellAt o_ends o_seen o_begun hm64 g64_0 g64_1 g64_2
      show okP (f_X5_goAll_L64b (f_X5_goAll_L64 n64) v1 o_last o_turnsLet o_slowsLet o_fuel o_glide o_count o_weightSum o_toPass o_foundNumber o_foundWeight o_foundTurns o_foundSlowed o_howFar o_tones o_only o_fars o_cellAt o_ends o_seen o_begun) (fun u => True)
      unfold f_X5_goAll_L64b
      have gc : (o_cellAt 0).toInt = c0.toInt := by rw [g64_2]
      refine ok_ite (fun c_1 => ?_) (fun c_1 => ?_)
      · skip
        have c_1 : (24 : Int) ≤ v1.toInt := i_le.mp c_1
        refine ok_ite (fun c_2 => ?_) (fun c_2 => ?_)
        · skip
          have c_2 : o_count.toInt ≤ (0 : Int) := i_le.mp c_2
          exact ok_some trivial
        · skip
          have c_2 : ¬ o_count.toInt ≤ (0 : Int) := fun z => c_2 (i_le.mpr z)
          refine ok_bd1 (s_X5_see 0 (o_cellAt 0) o_seen (show 0 ≤ (0 : Int) by omega) (show (0 : Int) ≤ 6 by omega) (show 0 ≤ ((o_cellAt 0)).toInt by omega) (show ((o_cellAt 0)).toInt ≤ 99 by omega)) (fun w_3 q_4 => ?_)
          exact ok_some trivial
      · skip
        have c_1 : ¬ (24 : Int) ≤ v1.toInt := fun z => c_1 (i_le.mpr z)
        first | (have f_5 : (v1 / 3).toInt = v1.toInt / (3 : Int) := i_div2 rfl rfl (by omega) (by omega)) | skip
        first | (have f_6 : (v1 - v1 / 3 * 3).toInt = v1.toInt % (3 : Int) := i_rem2 rfl rfl (by omega) (by omega)) | skip
        first | (have f_7 : ((v1 - v1 / 3 * 3) + 1).toInt = (v1 - v1 / 3 * 3).toInt + (1 : Int) := i_add2 rfl rfl (by omega) (by omega)) | skip
        refine ok_bd9 (s_X5_fly 8 0 (v1 / 3) ((v1 - v1 / 3 * 3) + 1) 0 0 1 o_fuel o_last o_turnsLet o_slowsLet o_glide o_count o_weightSum o_toPass o_foundWeight o_foundTurns o_foundSlowed o_howFar o_tones o_only o_fars o_cellAt o_ends o_seen c0 (show 0 ≤ (0 : Int) by omega) (show (0 : Int) ≤ 6 by omega) (show 7 ≤ (0 : Int) + (8 : Int) by omega) (by first | with_reducible assumption | with_reducible rfl | omega) (show 0 ≤ (o_glide).toInt by omega) (show (o_glide).toInt ≤ 3 by omega)) (fun w_8 w_9 w_10 w_11 w_12 w_13 w_14 w_15 w_16 q_17 => ?_)
        replace q_17 : w_14 0 = c0 := q_17
        first | (have f_18 : (w_8 - o_count).toInt = w_8.toInt - o_count.toInt := i_sub2 rfl rfl (by omega) (by omega)) | skip
        refine ok_nmi (fun x_19 hx_19 kx_19 => ?_)
        have ix_20 : ¬ (v1 < 0 ∨ 24 ≤ v1.toNatClampNeg) := ix (show 0 ≤ v1.toInt by omega) (show v1.toInt < (24 : Nat) by omega)
        refine ok_chk ix_20 ?_
        first | (have f_21 : (v1 + 1).toInt = v1.toInt + (1 : Int) := i_add2 rfl rfl (by omega) (by omega)) | skip
        refine ok_nmi (fun x_22 hx_22 kx_22 => ?_)
        exact ih64 x_22 w_8 w_9 w_10 o_foundNumber w_11 w_12 w_13 w_14 w_15 w_16 (upd o_begun v1.toNatClampNeg x_19) (show (24 - x_22.toInt).toNat < n64 by omega) (show 0 ≤ x_22.toInt by omega) (show x_22.toInt ≤ 24 by omega) (by first | with_reducible assumption | with_reducible rfl | omega)
  have l43 : ∀ (n : Nat) (v1 : Int32) (o_count : Int32) (o_weightSum : Int64) (o_toPass : Int32) (o_foundNumber : Int32) (o_foundWeight : Int32) (o_foundTurns : Int32) (o_foundSlowed : Int32) (o_cellAt : Nat → Int32) (o_ends : Nat → Int64) (o_seen : Nat → Int32) (o_begun : Nat → Int32), (70 - v1.toInt).toNat < n → (0 ≤ v1.toInt) → (v1.toInt ≤ 70) → (o_cellAt 0 = c0) → okP (f_X5_goAll_L43 n v1 o_last o_turnsLet o_slowsLet o_fuel o_glide o_count o_weightSum o_toPass o_foundNumber o_foundWeight o_foundTurns o_foundSlowed o_howFar o_tones o_only o_fars o_cellAt o_ends o_seen o_begun) (fun u => True) := by
    intro n
    induction n with
    | zero =>
      intro v1 o_count o_weightSum o_toPass o_foundNumber o_foundWeight o_foundTurns o_foundSlowed o_cellAt o_ends o_seen o_begun hm
      exact absurd hm (Nat.not_lt_zero _)
    | succ n43 ih43 =>
      intro v1 o_count o_weightSum o_toPass o_foundNumber o_foundWeight o_foundTurns o_foundSlowed o_cellAt o_ends o_seen o_begun hm43 g43_0 g43_1 g43_2
      show okP (f_X5_goAll_L43b (f_X5_goAll_L43 n43) v1 o_last o_turnsLet o_slowsLet o_fuel o_glide o_count o_weightSum o_toPass o_foundNumber o_foundWeight o_foundTurns o_foundSlowed o_howFar o_tones o_only o_fars o_cellAt o_ends o_seen o_begun) (fun u => True)
      unfold f_X5_goAll_L43b
      refine ok_ite (fun c_23 => ?_) (fun c_23 => ?_)
      · skip
        have c_23 : (70 : Int) ≤ v1.toInt := i_le.mp c_23
        exact l64 FU 0 o_count o_weightSum o_toPass o_foundNumber o_foundWeight o_foundTurns o_foundSlowed o_cellAt o_ends o_seen o_begun (FU_gt (show (24 - (0 : Int)).toNat < 1000000000000 by omega)) (show 0 ≤ (0 : Int) by omega) (show (0 : Int) ≤ 24 by omega) (by first | with_reducible assumption | with_reducible rfl | omega)
      · skip
        have c_23 : ¬ (70 : Int) ≤ v1.toInt := fun z => c_23 (i_le.mpr z)
        have ix_24 : ¬ (v1 < 0 ∨ 70 ≤ v1.toNatClampNeg) := ix (show 0 ≤ v1.toInt by omega) (show v1.toInt < (70 : Nat) by omega)
        refine ok_chk ix_24 ?_
        first | (have f_25 : (v1 + 1).toInt = v1.toInt + (1 : Int) := i_add2 rfl rfl (by omega) (by omega)) | skip
        refine ok_nmi (fun x_26 hx_26 kx_26 => ?_)
        exact ih43 x_26 o_count o_weightSum o_toPass o_foundNumber o_foundWeight o_foundTurns o_foundSlowed o_cellAt o_ends (upd o_seen v1.toNatClampNeg 0) o_begun (show (70 - x_26.toInt).toNat < n43 by omega) (show 0 ≤ x_26.toInt by omega) (show x_26.toInt ≤ 70 by omega) (by first | with_reducible assumption | with_reducible rfl | omega)
  have l22 : ∀ (n : Nat) (v1 : Int32) (o_count : Int32) (o_weightSum : Int64) (o_toPass : Int32) (o_foundNumber : Int32) (o_foundWeight : Int32) (o_foundTurns : Int32) (o_foundSlowed : Int32) (o_cellAt : Nat → Int32) (o_ends : Nat → Int64) (o_seen : Nat → Int32) (o_begun : Nat → Int32), (100 - v1.toInt).toNat < n → (0 ≤ v1.toInt) → (v1.toInt ≤ 100) → (o_cellAt 0 = c0) → okP (f_X5_goAll_L22 n v1 o_last o_turnsLet o_slowsLet o_fuel o_glide o_count o_weightSum o_toPass o_foundNumber o_foundWeight o_foundTurns o_foundSlowed o_howFar o_tones o_only o_fars o_cellAt o_ends o_seen o_begun) (fun u => True) := by
    intro n
    induction n with
    | zero =>
      intro v1 o_count o_weightSum o_toPass o_foundNumber o_foundWeight o_foundTurns o_foundSlowed o_cellAt o_ends o_seen o_begun hm
      exact absurd hm (Nat.not_lt_zero _)
    | succ n22 ih22 =>
      intro v1 o_count o_weightSum o_toPass o_foundNumber o_foundWeight o_foundTurns o_foundSlowed o_cellAt o_ends o_seen o_begun hm22 g22_0 g22_1 g22_2
      show okP (f_X5_goAll_L22b (f_X5_goAll_L22 n22) v1 o_last o_turnsLet o_slowsLet o_fuel o_glide o_count o_weightSum o_toPass o_foundNumber o_foundWeight o_foundTurns o_foundSlowed o_howFar o_tones o_only o_fars o_cellAt o_ends o_seen o_begun) (fun u => True)
      unfold f_X5_goAll_L22b
      refine ok_ite (fun c_27 => ?_) (fun c_27 => ?_)
      · skip
        have c_27 : (100 : Int) ≤ v1.toInt := i_le.mp c_27
        exact l43 FU 0 o_count o_weightSum o_toPass o_foundNumber o_foundWeight o_foundTurns o_foundSlowed o_cellAt o_ends o_seen o_begun (FU_gt (show (70 - (0 : Int)).toNat < 1000000000000 by omega)) (show 0 ≤ (0 : Int) by omega) (show (0 : Int) ≤ 70 by omega) (by first | with_reducible assumption | with_reducible rfl | omega)
      · skip
        have c_27 : ¬ (100 : Int) ≤ v1.toInt := fun z => c_27 (i_le.mpr z)
        have ix_28 : ¬ (v1 < 0 ∨ 100 ≤ v1.toNatClampNeg) := ix (show 0 ≤ v1.toInt by omega) (show v1.toInt < (100 : Nat) by omega)
        refine ok_chk ix_28 ?_
        first | (have f_29 : (v1 + 1).toInt = v1.toInt + (1 : Int) := i_add2 rfl rfl (by omega) (by omega)) | skip
        refine ok_nmi (fun x_30 hx_30 kx_30 => ?_)
        exact ih22 x_30 o_count o_weightSum o_toPass o_foundNumber o_foundWeight o_foundTurns o_foundSlowed o_cellAt (vp_updL o_ends v1.toNatClampNeg 0) o_seen o_begun (show (100 - x_30.toInt).toNat < n22 by omega) (show 0 ≤ x_30.toInt by omega) (show x_30.toInt ≤ 100 by omega) (by first | with_reducible assumption | with_reducible rfl | omega)
  unfold f_X5_goAll
  exact l22 FU 0 0 0 (-1) (-1) o_foundWeight o_foundTurns o_foundSlowed o_cellAt o_ends o_seen o_begun (FU_gt (show (100 - (0 : Int)).toNat < 1000000000000 by omega)) (show 0 ≤ (0 : Int) by omega) (show (0 : Int) ≤ 100 by omega) (by first | with_reducible assumption | with_reducible rfl | omega)
set_option maxRecDepth 100000 in
set_option maxHeartbeats 4000000 in
theorem s_X5_find (x1 : Int32) (o_last : Int32) (o_turnsLet : Int32) (o_slowsLet : Int32) (o_fuel : Int32) (o_glide : Int32) (o_count : Int32) (o_weightSum : Int64) (o_toPass : Int32) (o_foundNumber : Int32) (o_foundWeight : Int32) (o_foundTurns : Int32) (o_foundSlowed : Int32) (o_howFar : Nat → Int32) (o_tones : Nat → Int32) (o_only : Nat → Int32) (o_fars : Nat → Int32) (o_cellAt : Nat → Int32) (o_ends : Nat → Int64) (o_seen : Nat → Int32) (o_begun : Nat → Int32) (h0 : 0 ≤ (o_glide).toInt) (h1 : (o_glide).toInt ≤ 3) : okP (f_X5_find x1 o_last o_turnsLet o_slowsLet o_fuel o_glide o_count o_weightSum o_toPass o_foundNumber o_foundWeight o_foundTurns o_foundSlowed o_howFar o_tones o_only o_fars o_cellAt o_ends o_seen o_begun) (fun u => (u.1.toInt = 0 ∨ u.1.toInt = 1)) := by
  have l33 : ∀ (n : Nat) (v1 : Int32) (v2 : Int32) (v3 : Int32) (o_count : Int32) (o_weightSum : Int64) (o_toPass : Int32) (o_foundNumber : Int32) (o_foundWeight : Int32) (o_foundTurns : Int32) (o_foundSlowed : Int32) (o_cellAt : Nat → Int32) (o_ends : Nat → Int64) (o_seen : Nat → Int32), (24 - v3.toInt).toNat < n → (0 ≤ v3.toInt) → (v3.toInt ≤ 24) → okP (f_X5_find_L33 n v1 v2 v3 o_last o_turnsLet o_slowsLet o_fuel o_glide o_count o_weightSum o_toPass o_foundNumber o_foundWeight o_foundTurns o_foundSlowed o_howFar o_tones o_only o_fars o_cellAt o_ends o_seen o_begun) (fun u => (u.1.toInt = 0 ∨ u.1.toInt = 1)) := by
    intro n
    induction n with
    | zero =>
      intro v1 v2 v3 o_count o_weightSum o_toPass o_foundNumber o_foundWeight o_foundTurns o_foundSlowed o_cellAt o_ends o_seen hm
      exact absurd hm (Nat.not_lt_zero _)
    | succ n33 ih33 =>
      intro v1 v2 v3 o_count o_weightSum o_toPass o_foundNumber o_foundWeight o_foundTurns o_foundSlowed o_cellAt o_ends o_seen hm33 g33_0 g33_1
      show okP (f_X5_find_L33b (f_X5_find_L33 n33) v1 v2 v3 o_last o_turnsLet o_slowsLet o_fuel o_glide o_count o_weightSum o_toPass o_foundNumber o_foundWeight o_foundTurns o_foundSlowed o_howFar o_tones o_only o_fars o_cellAt o_ends o_seen o_begun) (fun u => (u.1.toInt = 0 ∨ u.1.toInt = 1))
      unfold f_X5_find_L33b
      refine ok_ite (fun c_1 => ?_) (fun c_1 => ?_)
      · skip
        have c_1 : (24 : Int) ≤ v3.toInt := i_le.mp c_1
        exact ok_some (show ((0 : Int) = 0 ∨ (0 : Int) = 1) from by omega)
      · skip
        have c_1 : ¬ (24 : Int) ≤ v3.toInt := fun z => c_1 (i_le.mpr z)
        have ix_2 : ¬ (v3 < 0 ∨ 24 ≤ v3.toNatClampNeg) := ix (show 0 ≤ v3.toInt by omega) (show v3.toInt < (24 : Nat) by omega)
        refine ok_chk ix_2 ?_
        refine ok_ite (fun c_3 => ?_) (fun c_3 => ?_)
        · skip
          have c_3 : (o_begun v3.toNatClampNeg).toInt ≤ v2.toInt := i_le.mp c_3
          refine ok_chk ix_2 ?_
          first | (have f_4 : (v2 - (o_begun v3.toNatClampNeg)).toInt = v2.toInt - (o_begun v3.toNatClampNeg).toInt := i_sub2 rfl rfl (by omega) (by omega)) | skip
          refine ok_nmi (fun x_5 hx_5 kx_5 => ?_)
          first | (have f_6 : (v3 + 1).toInt = v3.toInt + (1 : Int) := i_add2 rfl rfl (by omega) (by omega)) | skip
          refine ok_nmi (fun x_7 hx_7 kx_7 => ?_)
          exact ih33 v1 x_5 x_7 o_count o_weightSum o_toPass o_foundNumber o_foundWeight o_foundTurns o_foundSlowed o_cellAt o_ends o_seen (show (24 - x_7.toInt).toNat < n33 by omega) (show 0 ≤ x_7.toInt by omega) (show x_7.toInt ≤ 24 by omega)
        · skip
          have c_3 : ¬ (o_begun v3.toNatClampNeg).toInt ≤ v2.toInt := fun z => c_3 (i_le.mpr z)
          first | (have f_8 : (v3 / 3).toInt = v3.toInt / (3 : Int) := i_div2 rfl rfl (by omega) (by omega)) | skip
          first | (have f_9 : (v3 - v3 / 3 * 3).toInt = v3.toInt % (3 : Int) := i_rem2 rfl rfl (by omega) (by omega)) | skip
          first | (have f_10 : ((v3 - v3 / 3 * 3) + 1).toInt = (v3 - v3 / 3 * 3).toInt + (1 : Int) := i_add2 rfl rfl (by omega) (by omega)) | skip
          refine ok_bd9 (s_X5_fly 8 0 (v3 / 3) ((v3 - v3 / 3 * 3) + 1) 0 0 1 o_fuel o_last o_turnsLet o_slowsLet o_glide o_count o_weightSum v2 o_foundWeight o_foundTurns o_foundSlowed o_howFar o_tones o_only o_fars o_cellAt o_ends o_seen (o_cellAt 0) (show 0 ≤ (0 : Int) by omega) (show (0 : Int) ≤ 6 by omega) (show 7 ≤ (0 : Int) + (8 : Int) by omega) (by first | with_reducible assumption | with_reducible rfl | omega) (show 0 ≤ (o_glide).toInt by omega) (show (o_glide).toInt ≤ 3 by omega)) (fun w_11 w_12 w_13 w_14 w_15 w_16 w_17 w_18 w_19 q_20 => ?_)
          replace q_20 : w_17 0 = (o_cellAt 0) := q_20
          exact ok_some (show ((1 : Int) = 0 ∨ (1 : Int) = 1) from by omega)
  unfold f_X5_find
  refine ok_ite (fun c_21 => ?_) (fun c_21 => ?_)
  · skip
    have c_21 : x1.toInt < (0 : Int) := i_lt.mp c_21
    exact ok_some (show ((0 : Int) = 0 ∨ (0 : Int) = 1) from by omega)
  · skip
    have c_21 : ¬ x1.toInt < (0 : Int) := fun z => c_21 (i_lt.mpr z)
    refine ok_ite (fun c_22 => ?_) (fun c_22 => ?_)
    · skip
      have c_22 : x1.toInt < o_count.toInt := i_lt.mp c_22
      refine ok_ite (fun c_23 => ?_) (fun c_23 => ?_)
      · skip
        have c_23 : x1.toInt = o_foundNumber.toInt := i_eq.mp c_23
        exact ok_some (show ((1 : Int) = 0 ∨ (1 : Int) = 1) from by omega)
      · skip
        have c_23 : ¬ x1.toInt = o_foundNumber.toInt := fun z => c_23 (i_eq.mpr z)
        exact l33 FU x1 x1 0 o_count o_weightSum o_toPass (-1) o_foundWeight o_foundTurns o_foundSlowed o_cellAt o_ends o_seen (FU_gt (show (24 - (0 : Int)).toNat < 1000000000000 by omega)) (show 0 ≤ (0 : Int) by omega) (show (0 : Int) ≤ 24 by omega)
    · skip
      have c_22 : ¬ x1.toInt < o_count.toInt := fun z => c_22 (i_lt.mpr z)
      exact ok_some (show ((0 : Int) = 0 ∨ (0 : Int) = 1) from by omega)
