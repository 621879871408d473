set_option maxRecDepth 100000 in
set_option maxHeartbeats 4000000 in
theorem s_X6_within (x1 : Int32) (x2 : Int32) (x3 : Int32) : okP (f_X6_within x1 x2 x3) (fun u => ((u.toInt = 1 ∧ x2.toInt ≤ x1.toInt ∧ x1.toInt ≤ x3.toInt) ∨ (u.toInt = 0 ∧ (x1.toInt < x2.toInt ∨ x3.toInt < x1.toInt)))) := by
  unfold f_X6_within
  refine ok_ite (fun c_1 => ?_) (fun c_1 => ?_)
  · skip
    have c_1 : x1.toInt < x2.toInt := i_lt.mp c_1
    exact ok_some (show (((0 : Int) = 1 ∧ x2.toInt ≤ x1.toInt ∧ x1.toInt ≤ x3.toInt) ∨ ((0 : Int) = 0 ∧ (x1.toInt < x2.toInt ∨ x3.toInt < x1.toInt))) from by omega)
  · skip
    have c_1 : ¬ x1.toInt < x2.toInt := fun z => c_1 (i_lt.mpr z)
    refine ok_ite (fun c_2 => ?_) (fun c_2 => ?_)
    · skip
      have c_2 : x3.toInt < x1.toInt := i_lt.mp c_2
      exact ok_some (show (((0 : Int) = 1 ∧ x2.toInt ≤ x1.toInt ∧ x1.toInt ≤ x3.toInt) ∨ ((0 : Int) = 0 ∧ (x1.toInt < x2.toInt ∨ x3.toInt < x1.toInt))) from by omega)
    · skip
      have c_2 : ¬ x3.toInt < x1.toInt := fun z => c_2 (i_lt.mpr z)
      exact ok_some (show (((1 : Int) = 1 ∧ x2.toInt ≤ x1.toInt ∧ x1.toInt ≤ x3.toInt) ∨ ((1 : Int) = 0 ∧ (x1.toInt < x2.toInt ∨ x3.toInt < x1.toInt))) from by omega)
set_option maxRecDepth 100000 in
set_option maxHeartbeats 4000000 in
theorem s_X6_isCell (x1 : Int32) : okP (f_X6_isCell x1) (fun u => ((u.toInt = 1 ∧ 0 ≤ x1.toInt ∧ x1.toInt < 100) ∨ (u.toInt = 0 ∧ (x1.toInt < 0 ∨ 100 ≤ x1.toInt)))) := by
  unfold f_X6_isCell
  refine ok_ite (fun c_1 => ?_) (fun c_1 => ?_)
  · skip
    have c_1 : x1.toInt < (0 : Int) := i_lt.mp c_1
    exact ok_some (show (((0 : Int) = 1 ∧ 0 ≤ x1.toInt ∧ x1.toInt < 100) ∨ ((0 : Int) = 0 ∧ (x1.toInt < 0 ∨ 100 ≤ x1.toInt))) from by omega)
  · skip
    have c_1 : ¬ x1.toInt < (0 : Int) := fun z => c_1 (i_lt.mpr z)
    refine ok_ite (fun c_2 => ?_) (fun c_2 => ?_)
    · skip
      have c_2 : (100 : Int) ≤ x1.toInt := i_le.mp c_2
      exact ok_some (show (((0 : Int) = 1 ∧ 0 ≤ x1.toInt ∧ x1.toInt < 100) ∨ ((0 : Int) = 0 ∧ (x1.toInt < 0 ∨ 100 ≤ x1.toInt))) from by omega)
    · skip
      have c_2 : ¬ (100 : Int) ≤ x1.toInt := fun z => c_2 (i_le.mpr z)
      exact ok_some (show (((1 : Int) = 1 ∧ 0 ≤ x1.toInt ∧ x1.toInt < 100) ∨ ((1 : Int) = 0 ∧ (x1.toInt < 0 ∨ 100 ≤ x1.toInt))) from by omega)
set_option maxRecDepth 100000 in
set_option maxHeartbeats 4000000 in
theorem s_X6_isSheet (x1 : Int32) : okP (f_X6_isSheet x1) (fun u => ((u.toInt = 1 ∧ 0 ≤ x1.toInt ∧ x1.toInt < 4) ∨ (u.toInt = 0 ∧ (x1.toInt < 0 ∨ 4 ≤ x1.toInt)))) := by
  unfold f_X6_isSheet
  refine ok_ite (fun c_1 => ?_) (fun c_1 => ?_)
  · skip
    have c_1 : x1.toInt < (0 : Int) := i_lt.mp c_1
    exact ok_some (show (((0 : Int) = 1 ∧ 0 ≤ x1.toInt ∧ x1.toInt < 4) ∨ ((0 : Int) = 0 ∧ (x1.toInt < 0 ∨ 4 ≤ x1.toInt))) from by omega)
  · skip
    have c_1 : ¬ x1.toInt < (0 : Int) := fun z => c_1 (i_lt.mpr z)
    refine ok_ite (fun c_2 => ?_) (fun c_2 => ?_)
    · skip
      have c_2 : (4 : Int) ≤ x1.toInt := i_le.mp c_2
      exact ok_some (show (((0 : Int) = 1 ∧ 0 ≤ x1.toInt ∧ x1.toInt < 4) ∨ ((0 : Int) = 0 ∧ (x1.toInt < 0 ∨ 4 ≤ x1.toInt))) from by omega)
    · skip
      have c_2 : ¬ (4 : Int) ≤ x1.toInt := fun z => c_2 (i_le.mpr z)
      exact ok_some (show (((1 : Int) = 1 ∧ 0 ≤ x1.toInt ∧ x1.toInt < 4) ∨ ((1 : Int) = 0 ∧ (x1.toInt < 0 ∨ 4 ≤ x1.toInt))) from by omega)
set_option maxRecDepth 100000 in
set_option maxHeartbeats 4000000 in
theorem s_X6_isLane (x1 : Int32) : okP (f_X6_isLane x1) (fun u => ((u.toInt = 1 ∧ 0 ≤ x1.toInt ∧ x1.toInt < 3) ∨ (u.toInt = 0 ∧ (x1.toInt < 0 ∨ 3 ≤ x1.toInt)))) := by
  unfold f_X6_isLane
  refine ok_ite (fun c_1 => ?_) (fun c_1 => ?_)
  · skip
    have c_1 : x1.toInt < (0 : Int) := i_lt.mp c_1
    exact ok_some (show (((0 : Int) = 1 ∧ 0 ≤ x1.toInt ∧ x1.toInt < 3) ∨ ((0 : Int) = 0 ∧ (x1.toInt < 0 ∨ 3 ≤ x1.toInt))) from by omega)
  · skip
    have c_1 : ¬ x1.toInt < (0 : Int) := fun z => c_1 (i_lt.mpr z)
    refine ok_ite (fun c_2 => ?_) (fun c_2 => ?_)
    · skip
      have c_2 : (3 : Int) ≤ x1.toInt := i_le.mp c_2
      exact ok_some (show (((0 : Int) = 1 ∧ 0 ≤ x1.toInt ∧ x1.toInt < 3) ∨ ((0 : Int) = 0 ∧ (x1.toInt < 0 ∨ 3 ≤ x1.toInt))) from by omega)
    · skip
      have c_2 : ¬ (3 : Int) ≤ x1.toInt := fun z => c_2 (i_le.mpr z)
      exact ok_some (show (((1 : Int) = 1 ∧ 0 ≤ x1.toInt ∧ x1.toInt < 3) ∨ ((1 : Int) = 0 ∧ (x1.toInt < 0 ∨ 3 ≤ x1.toInt))) from by omega)
set_option maxRecDepth 100000 in
set_option maxHeartbeats 4000000 in
theorem s_X6_ahead (x1 : Int32) (x2 : Int32) (x3 : Int32) : okP (f_X6_ahead x1 x2 x3) (fun u => (u.toInt = -1 ∨ (0 ≤ u.toInt ∧ u.toInt < 100))) := by
  unfold f_X6_ahead
  refine ok_ite (fun c_1 => ?_) (fun c_1 => ?_)
  · skip
    have c_1 : x1.toInt < (0 : Int) := i_lt.mp c_1
    exact ok_some (show ((-1 : Int) = -1 ∨ (0 ≤ (-1 : Int) ∧ (-1 : Int) < 100)) from by omega)
  · skip
    have c_1 : ¬ x1.toInt < (0 : Int) := fun z => c_1 (i_lt.mpr z)
    refine ok_ite (fun c_2 => ?_) (fun c_2 => ?_)
    · skip
      have c_2 : (100 : Int) ≤ x1.toInt := i_le.mp c_2
      exact ok_some (show ((-1 : Int) = -1 ∨ (0 ≤ (-1 : Int) ∧ (-1 : Int) < 100)) from by omega)
    · skip
      have c_2 : ¬ (100 : Int) ≤ x1.toInt := fun z => c_2 (i_le.mpr z)
      refine ok_ite (fun c_3 => ?_) (fun c_3 => ?_)
      · skip
        have c_3 : x2.toInt < (0 : Int) := i_lt.mp c_3
        exact ok_some (show ((-1 : Int) = -1 ∨ (0 ≤ (-1 : Int) ∧ (-1 : Int) < 100)) from by omega)
      · skip
        have c_3 : ¬ x2.toInt < (0 : Int) := fun z => c_3 (i_lt.mpr z)
        refine ok_ite (fun c_4 => ?_) (fun c_4 => ?_)
        · skip
          have c_4 : x2.toInt < (8 : Int) := i_lt.mp c_4
          first | (have f_5 : (x1 / 10).toInt = x1.toInt / (10 : Int) := i_div2 rfl rfl (by omega) (by omega)) | skip
          have ix_6 : ¬ (x2 < 0 ∨ 8 ≤ x2.toNatClampNeg) := ix (show 0 ≤ x2.toInt by omega) (show x2.toInt < (8 : Nat) by omega)
          refine ok_chk ix_6 ?_
          first | (have f_7 : ((x1 / 10) + (x3 * (tabD x2.toNatClampNeg))).toInt = (x1 / 10).toInt + (x3 * (tabD x2.toNatClampNeg)).toInt := i_add2 rfl rfl (by omega) (by omega)) | skip
          refine ok_nmi (fun x_8 hx_8 kx_8 => ?_)
          first | (have f_9 : (x1 - x1 / 10 * 10).toInt = x1.toInt % (10 : Int) := i_rem2 rfl rfl (by omega) (by omega)) | skip
          refine ok_chk ix_6 ?_
          first | (have f_10 : ((x1 - x1 / 10 * 10) + (x3 * (tabR x2.toNatClampNeg))).toInt = (x1 - x1 / 10 * 10).toInt + (x3 * (tabR x2.toNatClampNeg)).toInt := i_add2 rfl rfl (by omega) (by omega)) | skip
          refine ok_nmi (fun x_11 hx_11 kx_11 => ?_)
          refine ok_ite (fun c_12 => ?_) (fun c_12 => ?_)
          · skip
            have c_12 : x_8.toInt < (0 : Int) := i_lt.mp c_12
            unfold f_X6_ahead_B75
            unfold f_X6_ahead_B76
            refine ok_ite (fun c_13 => ?_) (fun c_13 => ?_)
            · skip
              exact ok_some (show ((-1 : Int) = -1 ∨ (0 ≤ (-1 : Int) ∧ (-1 : Int) < 100)) from by omega)
            · skip
              exact absurd c_13 (by decide)
          · skip
            have c_12 : ¬ x_8.toInt < (0 : Int) := fun z => c_12 (i_lt.mpr z)
            refine ok_ite (fun c_14 => ?_) (fun c_14 => ?_)
            · skip
              have c_14 : (10 : Int) ≤ x_8.toInt := i_le.mp c_14
              unfold f_X6_ahead_B75
              unfold f_X6_ahead_B76
              refine ok_ite (fun c_15 => ?_) (fun c_15 => ?_)
              · skip
                exact ok_some (show ((-1 : Int) = -1 ∨ (0 ≤ (-1 : Int) ∧ (-1 : Int) < 100)) from by omega)
              · skip
                exact absurd c_15 (by decide)
            · skip
              have c_14 : ¬ (10 : Int) ≤ x_8.toInt := fun z => c_14 (i_le.mpr z)
              refine ok_ite (fun c_16 => ?_) (fun c_16 => ?_)
              · skip
                have c_16 : x_11.toInt < (0 : Int) := i_lt.mp c_16
                unfold f_X6_ahead_B75
                unfold f_X6_ahead_B76
                refine ok_ite (fun c_17 => ?_) (fun c_17 => ?_)
                · skip
                  exact ok_some (show ((-1 : Int) = -1 ∨ (0 ≤ (-1 : Int) ∧ (-1 : Int) < 100)) from by omega)
                · skip
                  exact absurd c_17 (by decide)
              · skip
                have c_16 : ¬ x_11.toInt < (0 : Int) := fun z => c_16 (i_lt.mpr z)
                refine ok_ite (fun c_18 => ?_) (fun c_18 => ?_)
                · skip
                  have c_18 : (10 : Int) ≤ x_11.toInt := i_le.mp c_18
                  unfold f_X6_ahead_B75
                  unfold f_X6_ahead_B76
                  refine ok_ite (fun c_19 => ?_) (fun c_19 => ?_)
                  · skip
                    exact ok_some (show ((-1 : Int) = -1 ∨ (0 ≤ (-1 : Int) ∧ (-1 : Int) < 100)) from by omega)
                  · skip
                    exact absurd c_19 (by decide)
                · skip
                  have c_18 : ¬ (10 : Int) ≤ x_11.toInt := fun z => c_18 (i_le.mpr z)
                  unfold f_X6_ahead_B76
                  refine ok_ite (fun c_20 => ?_) (fun c_20 => ?_)
                  · skip
                    exact absurd c_20 (by decide)
                  · skip
                    first | (have f_21 : (10 * x_8).toInt = (10 : Int) * x_8.toInt := i_mul2 rfl rfl (by omega) (by omega)) | skip
                    first | (have f_22 : ((10 * x_8) + x_11).toInt = (10 * x_8).toInt + x_11.toInt := i_add2 rfl rfl (by omega) (by omega)) | skip
                    exact ok_some (show (((10 * x_8) + x_11).toInt = -1 ∨ (0 ≤ ((10 * x_8) + x_11).toInt ∧ ((10 * x_8) + x_11).toInt < 100)) from by omega)
        · skip
          have c_4 : ¬ x2.toInt < (8 : Int) := fun z => c_4 (i_lt.mpr z)
          exact ok_some (show ((-1 : Int) = -1 ∨ (0 ≤ (-1 : Int) ∧ (-1 : Int) < 100)) from by omega)
set_option maxRecDepth 100000 in
set_option maxHeartbeats 4000000 in
theorem s_X6_howManyAbove (n_p1 : Nat) (x2 : Int32) (p1_arr : Nat → Int32) (h0 : n_p1 < 1000) : okP (f_X6_howManyAbove n_p1 x2 p1_arr) (fun u => True) := by
  have l11 : ∀ (n : Nat) (v1 : Int32) (v2 : Int32) (v4 : Int32) (v5 : Int32), ((n_p1 : Int) - v5.toInt).toNat < n → (v4.toInt = n_p1) → (0 ≤ v5.toInt) → (v5.toInt ≤ n_p1) → okP (f_X6_howManyAbove_L11 n_p1 n v1 v2 v4 v5 p1_arr) (fun u => True) := by
    intro n
    induction n with
    | zero =>
      intro v1 v2 v4 v5 hm
      exact absurd hm (Nat.not_lt_zero _)
    | succ n11 ih11 =>
      intro v1 v2 v4 v5 hm11 g11_0 g11_1 g11_2
      show okP (f_X6_howManyAbove_L11b n_p1 (f_X6_howManyAbove_L11 n_p1 n11) v1 v2 v4 v5 p1_arr) (fun u => True)
      unfold f_X6_howManyAbove_L11b
      refine ok_ite (fun c_1 => ?_) (fun c_1 => ?_)
      · skip
        have c_1 : v4.toInt ≤ v5.toInt := i_le.mp c_1
        exact ok_some trivial
      · skip
        have c_1 : ¬ v4.toInt ≤ v5.toInt := fun z => c_1 (i_le.mpr z)
        have ix_2 : ¬ (v5 < 0 ∨ n_p1 ≤ v5.toNatClampNeg) := ix (show 0 ≤ v5.toInt by omega) (show v5.toInt < (n_p1 : Nat) by omega)
        refine ok_chk ix_2 ?_
        refine ok_nmi (fun x_3 hx_3 kx_3 => ?_)
        refine ok_ite (fun c_4 => ?_) (fun c_4 => ?_)
        · skip
          have c_4 : x_3.toInt ≤ v1.toInt := i_le.mp c_4
          unfold f_X6_howManyAbove_B36
          first | (have f_5 : (v2 + 0).toInt = v2.toInt + (0 : Int) := i_add2 rfl rfl (by omega) (by omega)) | skip
          refine ok_nmi (fun x_6 hx_6 kx_6 => ?_)
          first | (have f_7 : (v5 + 1).toInt = v5.toInt + (1 : Int) := i_add2 rfl rfl (by omega) (by omega)) | skip
          refine ok_nmi (fun x_8 hx_8 kx_8 => ?_)
          exact ih11 v1 x_6 v4 x_8 (show ((n_p1 : Int) - x_8.toInt).toNat < n11 by omega) (show v4.toInt = n_p1 by omega) (show 0 ≤ x_8.toInt by omega) (show x_8.toInt ≤ n_p1 by omega)
        · skip
          have c_4 : ¬ x_3.toInt ≤ v1.toInt := fun z => c_4 (i_le.mpr z)
          unfold f_X6_howManyAbove_B36
          first | (have f_9 : (v2 + 1).toInt = v2.toInt + (1 : Int) := i_add2 rfl rfl (by omega) (by omega)) | skip
          refine ok_nmi (fun x_10 hx_10 kx_10 => ?_)
          first | (have f_11 : (v5 + 1).toInt = v5.toInt + (1 : Int) := i_add2 rfl rfl (by omega) (by omega)) | skip
          refine ok_nmi (fun x_12 hx_12 kx_12 => ?_)
          exact ih11 v1 x_10 v4 x_12 (show ((n_p1 : Int) - x_12.toInt).toNat < n11 by omega) (show v4.toInt = n_p1 by omega) (show 0 ≤ x_12.toInt by omega) (show x_12.toInt ≤ n_p1 by omega)
  unfold f_X6_howManyAbove
  have hN : (Int32.ofNat n_p1).toInt = n_p1 := Int32.toInt_ofNat_of_lt (by omega)
  refine ok_nmi (fun x_13 hx_13 kx_13 => ?_)
  exact l11 FU x2 0 x_13 0 (FU_gt (show ((n_p1 : Int) - (0 : Int)).toNat < 1000000000000 by omega)) (show x_13.toInt = n_p1 by omega) (show 0 ≤ (0 : Int) by omega) (show (0 : Int) ≤ n_p1 by omega)
set_option maxRecDepth 100000 in
set_option maxHeartbeats 4000000 in
theorem s_X6_howManyGreater (n_p1 : Nat) (x2 : Int64) (p1_arr : Nat → Int64) (h0 : n_p1 < 1000) : okP (f_X6_howManyGreater n_p1 x2 p1_arr) (fun u => True) := by
  have l13 : ∀ (n : Nat) (v1 : Int64) (v3 : Int32) (v5 : Int32) (v6 : Int32), ((n_p1 : Int) - v6.toInt).toNat < n → (v5.toInt = n_p1) → (0 ≤ v6.toInt) → (v6.toInt ≤ n_p1) → okP (f_X6_howManyGreater_L13 n_p1 n v1 v3 v5 v6 p1_arr) (fun u => True) := by
    intro n
    induction n with
    | zero =>
      intro v1 v3 v5 v6 hm
      exact absurd hm (Nat.not_lt_zero _)
    | succ n13 ih13 =>
      intro v1 v3 v5 v6 hm13 g13_0 g13_1 g13_2
      show okP (f_X6_howManyGreater_L13b n_p1 (f_X6_howManyGreater_L13 n_p1 n13) v1 v3 v5 v6 p1_arr) (fun u => True)
      unfold f_X6_howManyGreater_L13b
      refine ok_ite (fun c_1 => ?_) (fun c_1 => ?_)
      · skip
        have c_1 : v5.toInt ≤ v6.toInt := i_le.mp c_1
        exact ok_some trivial
      · skip
        have c_1 : ¬ v5.toInt ≤ v6.toInt := fun z => c_1 (i_le.mpr z)
        have ix_2 : ¬ (v6 < 0 ∨ n_p1 ≤ v6.toNatClampNeg) := ix (show 0 ≤ v6.toInt by omega) (show v6.toInt < (n_p1 : Nat) by omega)
        refine ok_chk ix_2 ?_
        refine ok_nmj (fun x_3 hx_3 kx_3 => ?_)
        refine ok_ite (fun c_4 => ?_) (fun c_4 => ?_)
        · skip
          have c_4 : x_3.toInt ≤ v1.toInt := j_le.mp ((lg_cmp_le _ _).mp c_4)
          unfold f_X6_howManyGreater_B40
          first | (have f_5 : (v3 + 0).toInt = v3.toInt + (0 : Int) := i_add2 rfl rfl (by omega) (by omega)) | skip
          refine ok_nmi (fun x_6 hx_6 kx_6 => ?_)
          first | (have f_7 : (v6 + 1).toInt = v6.toInt + (1 : Int) := i_add2 rfl rfl (by omega) (by omega)) | skip
          refine ok_nmi (fun x_8 hx_8 kx_8 => ?_)
          exact ih13 v1 x_6 v5 x_8 (show ((n_p1 : Int) - x_8.toInt).toNat < n13 by omega) (show v5.toInt = n_p1 by omega) (show 0 ≤ x_8.toInt by omega) (show x_8.toInt ≤ n_p1 by omega)
        · skip
          have c_4 : ¬ x_3.toInt ≤ v1.toInt := fun z => c_4 ((lg_cmp_le _ _).mpr (j_le.mpr z))
          unfold f_X6_howManyGreater_B40
          first | (have f_9 : (v3 + 1).toInt = v3.toInt + (1 : Int) := i_add2 rfl rfl (by omega) (by omega)) | skip
          refine ok_nmi (fun x_10 hx_10 kx_10 => ?_)
          first | (have f_11 : (v6 + 1).toInt = v6.toInt + (1 : Int) := i_add2 rfl rfl (by omega) (by omega)) | skip
          refine ok_nmi (fun x_12 hx_12 kx_12 => ?_)
          exact ih13 v1 x_10 v5 x_12 (show ((n_p1 : Int) - x_12.toInt).toNat < n13 by omega) (show v5.toInt = n_p1 by omega) (show 0 ≤ x_12.toInt by omega) (show x_12.toInt ≤ n_p1 by omega)
  unfold f_X6_howManyGreater
  have hN : (Int32.ofNat n_p1).toInt = n_p1 := Int32.toInt_ofNat_of_lt (by omega)
  refine ok_nmi (fun x_13 hx_13 kx_13 => ?_)
  exact l13 FU x2 0 x_13 0 (FU_gt (show ((n_p1 : Int) - (0 : Int)).toNat < 1000000000000 by omega)) (show x_13.toInt = n_p1 by omega) (show 0 ≤ (0 : Int) by omega) (show (0 : Int) ≤ n_p1 by omega)
set_option maxRecDepth 100000 in
set_option maxHeartbeats 4000000 in
theorem s_X6_greatestCommon (x1 : Int64) (x2 : Int64) : okP (f_X6_greatestCommon x1 x2) (fun u => True) := by
  have l3 : ∀ (n : Nat) (v0 : Int64) (v2 : Int64) (v4 : Int32), (200 - v4.toInt).toNat < n → (0 ≤ v4.toInt) → (v4.toInt ≤ 200) → okP (f_X6_greatestCommon_L3 n v0 v2 v4) (fun u => True) := by
    intro n
    induction n with
    | zero =>
      intro v0 v2 v4 hm
      exact absurd hm (Nat.not_lt_zero _)
    | succ n3 ih3 =>
      intro v0 v2 v4 hm3 g3_0 g3_1
      show okP (f_X6_greatestCommon_L3b (f_X6_greatestCommon_L3 n3) v0 v2 v4) (fun u => True)
      unfold f_X6_greatestCommon_L3b
      refine ok_ite (fun c_1 => ?_) (fun c_1 => ?_)
      · skip
        have c_1 : (200 : Int) ≤ v4.toInt := i_le.mp c_1
        exact ok_some trivial
      · skip
        have c_1 : ¬ (200 : Int) ≤ v4.toInt := fun z => c_1 (i_le.mpr z)
        refine ok_ite (fun c_2 => ?_) (fun c_2 => ?_)
        · skip
          have c_2 : v2.toInt = (0 : Int) := j_eq.mp ((lg_cmp_eq _ _).mp c_2)
          exact ok_some trivial
        · skip
          have c_2 : ¬ v2.toInt = (0 : Int) := fun z => c_2 ((lg_cmp_eq _ _).mpr (j_eq.mpr z))
          refine ok_chk (nzj (show ¬ v2.toInt = 0 by omega)) ?_
          have rm_3 : (v0 - v0 / v2 * v2).toInt.natAbs < v2.toInt.natAbs := j_rem_lt (by omega)
          refine ok_nmj (fun x_4 hx_4 kx_4 => ?_)
          first | (have f_5 : (v4 + 1).toInt = v4.toInt + (1 : Int) := i_add2 rfl rfl (by omega) (by omega)) | skip
          refine ok_nmi (fun x_6 hx_6 kx_6 => ?_)
          exact ih3 v2 x_4 x_6 (show (200 - x_6.toInt).toNat < n3 by omega) (show 0 ≤ x_6.toInt by omega) (show x_6.toInt ≤ 200 by omega)
  unfold f_X6_greatestCommon
  exact l3 FU x1 x2 0 (FU_gt (show (200 - (0 : Int)).toNat < 1000000000000 by omega)) (show 0 ≤ (0 : Int) by omega) (show (0 : Int) ≤ 200 by omega)
set_option maxRecDepth 100000 in
set_option maxHeartbeats 4000000 in
theorem s_X6_partOf (x1 : Int64) (x2 : Int64) (x3 : Int32) : okP (f_X6_partOf x1 x2 x3) (fun u => True) := by
  unfold f_X6_partOf
  refine ok_ite (fun c_1 => ?_) (fun c_1 => ?_)
  · skip
    have c_1 : (0 : Int) < x2.toInt := j_lt.mp ((lg_cmp_gt _ _).mp c_1)
    refine ok_bd1 (s_X6_greatestCommon x1 x2) (fun r_2 q_3 => ?_)
    refine ok_ite (fun c_4 => ?_) (fun c_4 => ?_)
    · skip
      have c_4 : (0 : Int) < r_2.toInt := j_lt.mp ((lg_cmp_gt _ _).mp c_4)
      refine ok_ite (fun c_5 => ?_) (fun c_5 => ?_)
      · skip
        have c_5 : x3.toInt = (0 : Int) := i_eq.mp c_5
        refine ok_chk (nzj (show ¬ r_2.toInt = 0 by omega)) ?_
        exact ok_some trivial
      · skip
        have c_5 : ¬ x3.toInt = (0 : Int) := fun z => c_5 (i_eq.mpr z)
        refine ok_chk (nzj (show ¬ r_2.toInt = 0 by omega)) ?_
        exact ok_some trivial
    · skip
      have c_4 : ¬ (0 : Int) < r_2.toInt := fun z => c_4 ((lg_cmp_gt _ _).mpr (j_lt.mpr z))
      exact ok_some trivial
  · skip
    have c_1 : ¬ (0 : Int) < x2.toInt := fun z => c_1 ((lg_cmp_gt _ _).mpr (j_lt.mpr z))
    exact ok_some trivial
set_option maxRecDepth 100000 in
set_option maxHeartbeats 4000000 in
theorem s_X4_wholeRoot (x1 : Int32) : okP (f_X4_wholeRoot x1) (fun u => True) := by
  have l2 : ∀ (n : Nat) (v0 : Int32) (v1 : Int32), (100 - v1.toInt).toNat < n → (0 ≤ v1.toInt) → (v1.toInt ≤ 100) → okP (f_X4_wholeRoot_L2 n v0 v1) (fun u => True) := by
    intro n
    induction n with
    | zero =>
      intro v0 v1 hm
      exact absurd hm (Nat.not_lt_zero _)
    | succ n2 ih2 =>
      intro v0 v1 hm2 g2_0 g2_1
      show okP (f_X4_wholeRoot_L2b (f_X4_wholeRoot_L2 n2) v0 v1) (fun u => True)
      unfold f_X4_wholeRoot_L2b
      refine ok_ite (fun c_1 => ?_) (fun c_1 => ?_)
      · skip
        have c_1 : (100 : Int) ≤ v1.toInt := i_le.mp c_1
        exact ok_some trivial
      · skip
        have c_1 : ¬ (100 : Int) ≤ v1.toInt := fun z => c_1 (i_le.mpr z)
        first | (have f_2 : (v1 + 1).toInt = v1.toInt + (1 : Int) := i_add2 rfl rfl (by omega) (by omega)) | skip
        refine ok_ite (fun c_3 => ?_) (fun c_3 => ?_)
        · skip
          have c_3 : v0.toInt < ((v1 + 1) * (v1 + 1)).toInt := i_lt.mp c_3
          exact ok_some trivial
        · skip
          have c_3 : ¬ v0.toInt < ((v1 + 1) * (v1 + 1)).toInt := fun z => c_3 (i_lt.mpr z)
          refine ok_nmi (fun x_4 hx_4 kx_4 => ?_)
          exact ih2 v0 x_4 (show (100 - x_4.toInt).toNat < n2 by omega) (show 0 ≤ x_4.toInt by omega) (show x_4.toInt ≤ 100 by omega)
  unfold f_X4_wholeRoot
  exact l2 FU x1 0 (FU_gt (show (100 - (0 : Int)).toNat < 1000000000000 by omega)) (show 0 ≤ (0 : Int) by omega) (show (0 : Int) ≤ 100 by omega)
set_option maxRecDepth 100000 in
set_option maxHeartbeats 4000000 in
theorem s_X4_take (o_pieceCount : Int32) (o_dragCount : Int32) (o_settings : Nat → Int32) (o_howFar : Nat → Int32) (o_tones : Nat → Int32) (o_currents : Nat → Int32) (o_warmths : Nat → Int32) (o_depths : Nat → Int32) (o_fars : Nat → Int32) (o_pieceCells : Nat → Int32) (o_pieceMonths : Nat → Int32) (o_pieceHighs : Nat → Int32) (o_pieceAges : Nat → Int32) (o_pieceNeeds : Nat → Int32) (o_dragCells : Nat → Int32) (o_dragEighths : Nat → Int32) (p1_pieceCount : Int32) (p1_dragCount : Int32) (p1_settings : Nat → Int32) (p1_howFar : Nat → Int32) (p1_tones : Nat → Int32) (p1_currents : Nat → Int32) (p1_warmths : Nat → Int32) (p1_depths : Nat → Int32) (p1_fars : Nat → Int32) (p1_pieceCells : Nat → Int32) (p1_pieceMonths : Nat → Int32) (p1_pieceHighs : Nat → Int32) (p1_pieceAges : Nat → Int32) (p1_pieceNeeds : Nat → Int32) (p1_dragCells : Nat → Int32) (p1_dragEighths : Nat → Int32) : okP (f_X4_take o_pieceCount o_dragCount o_settings o_howFar o_tones o_currents o_warmths o_depths o_fars o_pieceCells o_pieceMonths o_pieceHighs o_pieceAges o_pieceNeeds o_dragCells o_dragEighths p1_pieceCount p1_dragCount p1_settings p1_howFar p1_tones p1_currents p1_warmths p1_depths p1_fars p1_pieceCells p1_pieceMonths p1_pieceHighs p1_pieceAges p1_pieceNeeds p1_dragCells p1_dragEighths) (fun u => (u.1 = p1_pieceCount) ∧ (u.2.1 = p1_dragCount) ∧ (u.2.2.1 = va_cpy p1_settings o_settings 0 0 8) ∧ (u.2.2.2.1 = va_cpy p1_howFar o_howFar 0 0 7) ∧ (u.2.2.2.2.1 = va_cpy p1_tones o_tones 0 0 7) ∧ (u.2.2.2.2.2.1 = va_cpy p1_currents o_currents 0 0 200) ∧ (u.2.2.2.2.2.2.1 = va_cpy p1_warmths o_warmths 0 0 200) ∧ (u.2.2.2.2.2.2.2.1 = va_cpy p1_depths o_depths 0 0 100) ∧ (u.2.2.2.2.2.2.2.2.1 = va_cpy p1_fars o_fars 0 0 100) ∧ (u.2.2.2.2.2.2.2.2.2.1 = va_cpy p1_pieceCells o_pieceCells 0 0 4) ∧ (u.2.2.2.2.2.2.2.2.2.2.1 = va_cpy p1_pieceMonths o_pieceMonths 0 0 4) ∧ (u.2.2.2.2.2.2.2.2.2.2.2.1 = va_cpy p1_pieceHighs o_pieceHighs 0 0 4) ∧ (u.2.2.2.2.2.2.2.2.2.2.2.2.1 = va_cpy p1_pieceAges o_pieceAges 0 0 4) ∧ (u.2.2.2.2.2.2.2.2.2.2.2.2.2.1 = va_cpy p1_pieceNeeds o_pieceNeeds 0 0 4) ∧ (u.2.2.2.2.2.2.2.2.2.2.2.2.2.2.1 = va_cpy p1_dragCells o_dragCells 0 0 4) ∧ (u.2.2.2.2.2.2.2.2.2.2.2.2.2.2.2 = va_cpy p1_dragEighths o_dragEighths 0 0 4)) := by
  unfold f_X4_take
  exact ok_some (show (p1_pieceCount = p1_pieceCount) ∧ (p1_dragCount = p1_dragCount) ∧ ((va_cpy p1_settings o_settings 0 0 8) = va_cpy p1_settings o_settings 0 0 8) ∧ ((va_cpy p1_howFar o_howFar 0 0 7) = va_cpy p1_howFar o_howFar 0 0 7) ∧ ((va_cpy p1_tones o_tones 0 0 7) = va_cpy p1_tones o_tones 0 0 7) ∧ ((va_cpy p1_currents o_currents 0 0 200) = va_cpy p1_currents o_currents 0 0 200) ∧ ((va_cpy p1_warmths o_warmths 0 0 200) = va_cpy p1_warmths o_warmths 0 0 200) ∧ ((va_cpy p1_depths o_depths 0 0 100) = va_cpy p1_depths o_depths 0 0 100) ∧ ((va_cpy p1_fars o_fars 0 0 100) = va_cpy p1_fars o_fars 0 0 100) ∧ ((va_cpy p1_pieceCells o_pieceCells 0 0 4) = va_cpy p1_pieceCells o_pieceCells 0 0 4) ∧ ((va_cpy p1_pieceMonths o_pieceMonths 0 0 4) = va_cpy p1_pieceMonths o_pieceMonths 0 0 4) ∧ ((va_cpy p1_pieceHighs o_pieceHighs 0 0 4) = va_cpy p1_pieceHighs o_pieceHighs 0 0 4) ∧ ((va_cpy p1_pieceAges o_pieceAges 0 0 4) = va_cpy p1_pieceAges o_pieceAges 0 0 4) ∧ ((va_cpy p1_pieceNeeds o_pieceNeeds 0 0 4) = va_cpy p1_pieceNeeds o_pieceNeeds 0 0 4) ∧ ((va_cpy p1_dragCells o_dragCells 0 0 4) = va_cpy p1_dragCells o_dragCells 0 0 4) ∧ ((va_cpy p1_dragEighths o_dragEighths 0 0 4) = va_cpy p1_dragEighths o_dragEighths 0 0 4) from ⟨by first | with_reducible assumption | with_reducible rfl | rfl | omega, by first | with_reducible assumption | with_reducible rfl | rfl | omega, by first | with_reducible assumption | with_reducible rfl | rfl | omega, by first | with_reducible assumption | with_reducible rfl | rfl | omega, by first | with_reducible assumption | with_reducible rfl | rfl | omega, by first | with_reducible assumption | with_reducible rfl | rfl | omega, by first | with_reducible assumption | with_reducible rfl | rfl | omega, by first | with_reducible assumption | with_reducible rfl | rfl | omega, by first | with_reducible assumption | with_reducible rfl | rfl | omega, by first | with_reducible assumption | with_reducible rfl | rfl | omega, by first | with_reducible assumption | with_reducible rfl | rfl | omega, by first | with_reducible assumption | with_reducible rfl | rfl | omega, by first | with_reducible assumption | with_reducible rfl | rfl | omega, by first | with_reducible assumption | with_reducible rfl | rfl | omega, by first | with_reducible assumption | with_reducible rfl | rfl | omega, by first | with_reducible assumption | with_reducible rfl | rfl | omega⟩)
set_option maxRecDepth 100000 in
set_option maxHeartbeats 4000000 in
theorem s_X4_isDragged (x1 : Int32) (o_dragCount : Int32) (o_dragCells : Nat → Int32) : okP (f_X4_isDragged x1 o_dragCount o_dragCells) (fun u => (u.toInt = 0 ∨ u.toInt = 1)) := by
  have l2 : ∀ (n : Nat) (v1 : Int32) (v2 : Int32), (4 - v2.toInt).toNat < n → (0 ≤ v2.toInt) → (v2.toInt ≤ 4) → okP (f_X4_isDragged_L2 n v1 v2 o_dragCount o_dragCells) (fun u => (u.toInt = 0 ∨ u.toInt = 1)) := by
    intro n
    induction n with
    | zero =>
      intro v1 v2 hm
      exact absurd hm (Nat.not_lt_zero _)
    | succ n2 ih2 =>
      intro v1 v2 hm2 g2_0 g2_1
      show okP (f_X4_isDragged_L2b (f_X4_isDragged_L2 n2) v1 v2 o_dragCount o_dragCells) (fun u => (u.toInt = 0 ∨ u.toInt = 1))
      unfold f_X4_isDragged_L2b
      refine ok_ite (fun c_1 => ?_) (fun c_1 => ?_)
      · skip
        have c_1 : o_dragCount.toInt ≤ v2.toInt := i_le.mp c_1
        exact ok_some (show ((0 : Int) = 0 ∨ (0 : Int) = 1) from by omega)
      · skip
        have c_1 : ¬ o_dragCount.toInt ≤ v2.toInt := fun z => c_1 (i_le.mpr z)
        refine ok_ite (fun c_2 => ?_) (fun c_2 => ?_)
        · skip
          have c_2 : (4 : Int) ≤ v2.toInt := i_le.mp c_2
          exact ok_some (show ((0 : Int) = 0 ∨ (0 : Int) = 1) from by omega)
        · skip
          have c_2 : ¬ (4 : Int) ≤ v2.toInt := fun z => c_2 (i_le.mpr z)
          have ix_3 : ¬ (v2 < 0 ∨ 4 ≤ v2.toNatClampNeg) := ix (show 0 ≤ v2.toInt by omega) (show v2.toInt < (4 : Nat) by omega)
          refine ok_chk ix_3 ?_
          refine ok_ite (fun c_4 => ?_) (fun c_4 => ?_)
          · skip
            have c_4 : (o_dragCells v2.toNatClampNeg).toInt = v1.toInt := i_eq.mp c_4
            exact ok_some (show ((1 : Int) = 0 ∨ (1 : Int) = 1) from by omega)
          · skip
            have c_4 : ¬ (o_dragCells v2.toNatClampNeg).toInt = v1.toInt := fun z => c_4 (i_eq.mpr z)
            first | (have f_5 : (v2 + 1).toInt = v2.toInt + (1 : Int) := i_add2 rfl rfl (by omega) (by omega)) | skip
            refine ok_nmi (fun x_6 hx_6 kx_6 => ?_)
            exact ih2 v1 x_6 (show (4 - x_6.toInt).toNat < n2 by omega) (show 0 ≤ x_6.toInt by omega) (show x_6.toInt ≤ 4 by omega)
  unfold f_X4_isDragged
  exact l2 FU x1 0 (FU_gt (show (4 - (0 : Int)).toNat < 1000000000000 by omega)) (show 0 ≤ (0 : Int) by omega) (show (0 : Int) ≤ 4 by omega)
set_option maxRecDepth 100000 in
set_option maxHeartbeats 4000000 in
theorem s_X4_missed (x1 : Int32) (o_dragCount : Int32) (o_dragCells : Nat → Int32) (o_dragEighths : Nat → Int32) : okP (f_X4_missed x1 o_dragCount o_dragCells o_dragEighths) (fun u => True) := by
  have l5 : ∀ (n : Nat) (v1 : Int32) (v2 : Int64) (v4 : Int32), (4 - v4.toInt).toNat < n → (0 ≤ v4.toInt) → (v4.toInt ≤ 4) → okP (f_X4_missed_L5 n v1 v2 v4 o_dragCount o_dragCells o_dragEighths) (fun u => True) := by
    intro n
    induction n with
    | zero =>
      intro v1 v2 v4 hm
      exact absurd hm (Nat.not_lt_zero _)
    | succ n5 ih5 =>
      intro v1 v2 v4 hm5 g5_0 g5_1
      show okP (f_X4_missed_L5b (f_X4_missed_L5 n5) v1 v2 v4 o_dragCount o_dragCells o_dragEighths) (fun u => True)
      unfold f_X4_missed_L5b
      refine ok_ite (fun c_1 => ?_) (fun c_1 => ?_)
      · skip
        have c_1 : o_dragCount.toInt ≤ v4.toInt := i_le.mp c_1
        exact ok_some trivial
      · skip
        have c_1 : ¬ o_dragCount.toInt ≤ v4.toInt := fun z => c_1 (i_le.mpr z)
        refine ok_ite (fun c_2 => ?_) (fun c_2 => ?_)
        · skip
          have c_2 : (4 : Int) ≤ v4.toInt := i_le.mp c_2
          exact ok_some trivial
        · skip
          have c_2 : ¬ (4 : Int) ≤ v4.toInt := fun z => c_2 (i_le.mpr z)
          have ix_3 : ¬ (v4 < 0 ∨ 4 ≤ v4.toNatClampNeg) := ix (show 0 ≤ v4.toInt by omega) (show v4.toInt < (4 : Nat) by omega)
          refine ok_chk ix_3 ?_
          refine ok_ite (fun c_4 => ?_) (fun c_4 => ?_)
          · skip
            have c_4 : (o_dragCells v4.toNatClampNeg).toInt = v1.toInt := i_eq.mp c_4
            refine ok_chk ix_3 ?_
            first | (have f_5 : (8 - (o_dragEighths v4.toNatClampNeg)).toInt = (8 : Int) - (o_dragEighths v4.toNatClampNeg).toInt := i_sub2 rfl rfl (by omega) (by omega)) | skip
            first | (have f_6 : ((8 - (o_dragEighths v4.toNatClampNeg)).toInt64).toInt = (8 - (o_dragEighths v4.toNatClampNeg)).toInt := j_i2l _) | skip
            unfold f_X4_missed_B49
            refine ok_nmj (fun x_7 hx_7 kx_7 => ?_)
            first | (have f_8 : (v4 + 1).toInt = v4.toInt + (1 : Int) := i_add2 rfl rfl (by omega) (by omega)) | skip
            refine ok_nmi (fun x_9 hx_9 kx_9 => ?_)
            exact ih5 v1 x_7 x_9 (show (4 - x_9.toInt).toNat < n5 by omega) (show 0 ≤ x_9.toInt by omega) (show x_9.toInt ≤ 4 by omega)
          · skip
            have c_4 : ¬ (o_dragCells v4.toNatClampNeg).toInt = v1.toInt := fun z => c_4 (i_eq.mpr z)
            unfold f_X4_missed_B49
            first | (have f_10 : (v2 * 8).toInt = v2.toInt * (8 : Int) := j_mul2 rfl rfl (by omega) (by omega)) | skip
            refine ok_nmj (fun x_11 hx_11 kx_11 => ?_)
            first | (have f_12 : (v4 + 1).toInt = v4.toInt + (1 : Int) := i_add2 rfl rfl (by omega) (by omega)) | skip
            refine ok_nmi (fun x_13 hx_13 kx_13 => ?_)
            exact ih5 v1 x_11 x_13 (show (4 - x_13.toInt).toNat < n5 by omega) (show 0 ≤ x_13.toInt by omega) (show x_13.toInt ≤ 4 by omega)
  unfold f_X4_missed
  exact l5 FU x1 1 0 (FU_gt (show (4 - (0 : Int)).toNat < 1000000000000 by omega)) (show 0 ≤ (0 : Int) by omega) (show (0 : Int) ≤ 4 by omega)
set_option maxRecDepth 100000 in
set_option maxHeartbeats 4000000 in
theorem s_X2_hold (x1 : Int32) (x2 : Int32) (o_lane : Int32) (o_size : Int32) (o_items : Nat → Int32) : okP (f_X2_hold x1 x2 o_lane o_size o_items) (fun u => (u.1 = x1) ∧ (u.2.1 = x2)) := by
  have l12 : ∀ (n : Nat) (v3 : Int32) (o_lane : Int32) (o_size : Int32) (o_items : Nat → Int32), (16 - v3.toInt).toNat < n → (0 ≤ v3.toInt) → (v3.toInt ≤ 16) → (o_lane = x1) → (o_size = x2) → okP (f_X2_hold_L12 n v3 o_lane o_size o_items) (fun u => (u.1 = x1) ∧ (u.2.1 = x2)) := by
    intro n
    induction n with
    | zero =>
      intro v3 o_lane o_size o_items hm
      exact absurd hm (Nat.not_lt_zero _)
    | succ n12 ih12 =>
      intro v3 o_lane o_size o_items hm12 g12_0 g12_1 g12_2 g12_3
      show okP (f_X2_hold_L12b (f_X2_hold_L12 n12) v3 o_lane o_size o_items) (fun u => (u.1 = x1) ∧ (u.2.1 = x2))
      unfold f_X2_hold_L12b
      refine ok_ite (fun c_1 => ?_) (fun c_1 => ?_)
      · skip
        have c_1 : (16 : Int) ≤ v3.toInt := i_le.mp c_1
        exact ok_some (show (o_lane = x1) ∧ (o_size = x2) from ⟨by first | with_reducible assumption | with_reducible rfl | omega, by first | with_reducible assumption | with_reducible rfl | omega⟩)
      · skip
        have c_1 : ¬ (16 : Int) ≤ v3.toInt := fun z => c_1 (i_le.mpr z)
        have ix_2 : ¬ (v3 < 0 ∨ 16 ≤ v3.toNatClampNeg) := ix (show 0 ≤ v3.toInt by omega) (show v3.toInt < (16 : Nat) by omega)
        refine ok_chk ix_2 ?_
        first | (have f_3 : (v3 + 1).toInt = v3.toInt + (1 : Int) := i_add2 rfl rfl (by omega) (by omega)) | skip
        refine ok_nmi (fun x_4 hx_4 kx_4 => ?_)
        exact ih12 x_4 o_lane o_size (upd o_items v3.toNatClampNeg 0) (show (16 - x_4.toInt).toNat < n12 by omega) (show 0 ≤ x_4.toInt by omega) (show x_4.toInt ≤ 16 by omega) (by first | with_reducible assumption | with_reducible rfl | omega) (by first | with_reducible assumption | with_reducible rfl | omega)
  unfold f_X2_hold
  exact l12 FU 0 x1 x2 o_items (FU_gt (show (16 - (0 : Int)).toNat < 1000000000000 by omega)) (show 0 ≤ (0 : Int) by omega) (show (0 : Int) ≤ 16 by omega) (by first | with_reducible assumption | with_reducible rfl | omega) (by first | with_reducible assumption | with_reducible rfl | omega)
set_option maxRecDepth 100000 in
set_option maxHeartbeats 4000000 in
theorem s_X2_holdNothing (o_lane : Int32) (o_size : Int32) : okP (f_X2_holdNothing o_lane o_size) (fun u => (u.1 = -1) ∧ (u.2 = 0) ∧ (u.2.toInt = 0)) := by
  unfold f_X2_holdNothing
  exact ok_some (show ((-1) = -1) ∧ (0 = 0) ∧ ((0 : Int) = 0) from ⟨by first | with_reducible assumption | with_reducible rfl | omega, by first | with_reducible assumption | with_reducible rfl | omega, by omega⟩)
set_option maxRecDepth 100000 in
set_option maxHeartbeats 4000000 in
theorem s_X2_isNothing (o_lane : Int32) : okP (f_X2_isNothing o_lane) (fun u => ((u.toInt = 1 ∧ o_lane.toInt = -1) ∨ (u.toInt = 0 ∧ ¬ o_lane.toInt = -1))) := by
  unfold f_X2_isNothing
  refine ok_ite (fun c_1 => ?_) (fun c_1 => ?_)
  · skip
    have c_1 : o_lane.toInt = (-1 : Int) := i_eq.mp c_1
    exact ok_some (show (((1 : Int) = 1 ∧ o_lane.toInt = -1) ∨ ((1 : Int) = 0 ∧ ¬ o_lane.toInt = -1)) from by omega)
  · skip
    have c_1 : ¬ o_lane.toInt = (-1 : Int) := fun z => c_1 (i_eq.mpr z)
    exact ok_some (show (((0 : Int) = 1 ∧ o_lane.toInt = -1) ∨ ((0 : Int) = 0 ∧ ¬ o_lane.toInt = -1)) from by omega)
set_option maxRecDepth 100000 in
set_option maxHeartbeats 4000000 in
theorem s_X2_has (x1 : Int32) (x2 : Int32) (o_size : Int32) (h0 : 0 ≤ (o_size).toInt) (h1 : (o_size).toInt ≤ 16) : okP (f_X2_has x1 x2 o_size) (fun u => ((u.toInt = 1 ∧ 0 ≤ x1.toInt ∧ 0 ≤ x2.toInt ∧ x1.toInt + x2.toInt ≤ o_size.toInt) ∨ (u.toInt = 0 ∧ (x1.toInt < 0 ∨ x2.toInt < 0 ∨ o_size.toInt < x1.toInt + x2.toInt)))) := by
  unfold f_X2_has
  refine ok_ite (fun c_1 => ?_) (fun c_1 => ?_)
  · skip
    have c_1 : x1.toInt < (0 : Int) := i_lt.mp c_1
    exact ok_some (show (((0 : Int) = 1 ∧ 0 ≤ x1.toInt ∧ 0 ≤ x2.toInt ∧ x1.toInt + x2.toInt ≤ o_size.toInt) ∨ ((0 : Int) = 0 ∧ (x1.toInt < 0 ∨ x2.toInt < 0 ∨ o_size.toInt < x1.toInt + x2.toInt))) from by omega)
  · skip
    have c_1 : ¬ x1.toInt < (0 : Int) := fun z => c_1 (i_lt.mpr z)
    refine ok_ite (fun c_2 => ?_) (fun c_2 => ?_)
    · skip
      have c_2 : x2.toInt < (0 : Int) := i_lt.mp c_2
      exact ok_some (show (((0 : Int) = 1 ∧ 0 ≤ x1.toInt ∧ 0 ≤ x2.toInt ∧ x1.toInt + x2.toInt ≤ o_size.toInt) ∨ ((0 : Int) = 0 ∧ (x1.toInt < 0 ∨ x2.toInt < 0 ∨ o_size.toInt < x1.toInt + x2.toInt))) from by omega)
    · skip
      have c_2 : ¬ x2.toInt < (0 : Int) := fun z => c_2 (i_lt.mpr z)
      refine ok_ite (fun c_3 => ?_) (fun c_3 => ?_)
      · skip
        have c_3 : o_size.toInt < x2.toInt := i_lt.mp c_3
        exact ok_some (show (((0 : Int) = 1 ∧ 0 ≤ x1.toInt ∧ 0 ≤ x2.toInt ∧ x1.toInt + x2.toInt ≤ o_size.toInt) ∨ ((0 : Int) = 0 ∧ (x1.toInt < 0 ∨ x2.toInt < 0 ∨ o_size.toInt < x1.toInt + x2.toInt))) from by omega)
      · skip
        have c_3 : ¬ o_size.toInt < x2.toInt := fun z => c_3 (i_lt.mpr z)
        first | (have f_4 : (o_size - x2).toInt = o_size.toInt - x2.toInt := i_sub2 rfl rfl (by omega) (by omega)) | skip
        refine ok_ite (fun c_5 => ?_) (fun c_5 => ?_)
        · skip
          have c_5 : (o_size - x2).toInt < x1.toInt := i_lt.mp c_5
          exact ok_some (show (((0 : Int) = 1 ∧ 0 ≤ x1.toInt ∧ 0 ≤ x2.toInt ∧ x1.toInt + x2.toInt ≤ o_size.toInt) ∨ ((0 : Int) = 0 ∧ (x1.toInt < 0 ∨ x2.toInt < 0 ∨ o_size.toInt < x1.toInt + x2.toInt))) from by omega)
        · skip
          have c_5 : ¬ (o_size - x2).toInt < x1.toInt := fun z => c_5 (i_lt.mpr z)
          exact ok_some (show (((1 : Int) = 1 ∧ 0 ≤ x1.toInt ∧ 0 ≤ x2.toInt ∧ x1.toInt + x2.toInt ≤ o_size.toInt) ∨ ((1 : Int) = 0 ∧ (x1.toInt < 0 ∨ x2.toInt < 0 ∨ o_size.toInt < x1.toInt + x2.toInt))) from by omega)
set_option maxRecDepth 100000 in
set_option maxHeartbeats 4000000 in
theorem s_X2_put (x1 : Int32) (x2 : Int32) (o_lane : Int32) (o_size : Int32) (o_items : Nat → Int32) (h0 : 0 ≤ (o_size).toInt) (h1 : (o_size).toInt ≤ 16) : okP (f_X2_put x1 x2 o_lane o_size o_items) (fun u => True) := by
  unfold f_X2_put
  refine ok_bd1 (s_X2_has x1 1 o_size (show 0 ≤ (o_size).toInt by omega) (show (o_size).toInt ≤ 16 by omega)) (fun r_1 q_2 => ?_)
  replace q_2 : (r_1.toInt = 1 ∧ 0 ≤ x1.toInt ∧ 0 ≤ (1 : Int) ∧ x1.toInt + (1 : Int) ≤ o_size.toInt) ∨ (r_1.toInt = 0 ∧ (x1.toInt < 0 ∨ (1 : Int) < 0 ∨ o_size.toInt < x1.toInt + (1 : Int))) := q_2
  refine ok_ite (fun c_3 => ?_) (fun c_3 => ?_)
  · skip
    have c_3 : r_1.toInt = (0 : Int) := i_eq.mp c_3
    replace q_2 : (x1.toInt < 0 ∨ (1 : Int) < 0 ∨ o_size.toInt < x1.toInt + (1 : Int)) := by omega
    exact ok_some trivial
  · skip
    have c_3 : ¬ r_1.toInt = (0 : Int) := fun z => c_3 (i_eq.mpr z)
    replace q_2 : 0 ≤ x1.toInt ∧ 0 ≤ (1 : Int) ∧ x1.toInt + (1 : Int) ≤ o_size.toInt := by omega
    refine ok_ite (fun c_4 => ?_) (fun c_4 => ?_)
    · skip
      have c_4 : o_lane.toInt = (0 : Int) := i_eq.mp c_4
      unfold f_X2_put_B40
      have ix_5 : ¬ (x1 < 0 ∨ 16 ≤ x1.toNatClampNeg) := ix (show 0 ≤ x1.toInt by omega) (show x1.toInt < (16 : Nat) by omega)
      refine ok_chk ix_5 ?_
      exact ok_some trivial
    · skip
      have c_4 : ¬ o_lane.toInt = (0 : Int) := fun z => c_4 (i_eq.mpr z)
      refine ok_ite (fun c_6 => ?_) (fun c_6 => ?_)
      · skip
        have c_6 : o_lane.toInt = (1 : Int) := i_eq.mp c_6
        unfold f_X2_put_B40
        have ix_7 : ¬ (x1 < 0 ∨ 16 ≤ x1.toNatClampNeg) := ix (show 0 ≤ x1.toInt by omega) (show x1.toInt < (16 : Nat) by omega)
        refine ok_chk ix_7 ?_
        exact ok_some trivial
      · skip
        have c_6 : ¬ o_lane.toInt = (1 : Int) := fun z => c_6 (i_eq.mpr z)
        unfold f_X2_put_B40
        have ix_8 : ¬ (x1 < 0 ∨ 16 ≤ x1.toNatClampNeg) := ix (show 0 ≤ x1.toInt by omega) (show x1.toInt < (16 : Nat) by omega)
        refine ok_chk ix_8 ?_
        exact ok_some trivial
set_option maxRecDepth 100000 in
set_option maxHeartbeats 4000000 in
theorem s_X2_at (x1 : Int32) (o_size : Int32) (o_items : Nat → Int32) (h0 : 0 ≤ (o_size).toInt) (h1 : (o_size).toInt ≤ 16) : okP (f_X2_at x1 o_size o_items) (fun u => True) := by
  unfold f_X2_at
  refine ok_bd1 (s_X2_has x1 1 o_size (show 0 ≤ (o_size).toInt by omega) (show (o_size).toInt ≤ 16 by omega)) (fun r_1 q_2 => ?_)
  replace q_2 : (r_1.toInt = 1 ∧ 0 ≤ x1.toInt ∧ 0 ≤ (1 : Int) ∧ x1.toInt + (1 : Int) ≤ o_size.toInt) ∨ (r_1.toInt = 0 ∧ (x1.toInt < 0 ∨ (1 : Int) < 0 ∨ o_size.toInt < x1.toInt + (1 : Int))) := q_2
  refine ok_ite (fun c_3 => ?_) (fun c_3 => ?_)
  · skip
    have c_3 : r_1.toInt = (0 : Int) := i_eq.mp c_3
    replace q_2 : (x1.toInt < 0 ∨ (1 : Int) < 0 ∨ o_size.toInt < x1.toInt + (1 : Int)) := by omega
    exact ok_some trivial
  · skip
    have c_3 : ¬ r_1.toInt = (0 : Int) := fun z => c_3 (i_eq.mpr z)
    replace q_2 : 0 ≤ x1.toInt ∧ 0 ≤ (1 : Int) ∧ x1.toInt + (1 : Int) ≤ o_size.toInt := by omega
    have ix_4 : ¬ (x1 < 0 ∨ 16 ≤ x1.toNatClampNeg) := ix (show 0 ≤ x1.toInt by omega) (show x1.toInt < (16 : Nat) by omega)
    refine ok_chk ix_4 ?_
    exact ok_some trivial
set_option maxRecDepth 100000 in
set_option maxHeartbeats 4000000 in
theorem s_X3_byteOf (x1 : Int64) (x2 : Int32) : okP (f_X3_byteOf x1 x2) (fun u => True) := by
  unfold f_X3_byteOf
  first | (have f_1 : (8 * x2).toInt = (8 : Int) * x2.toInt := i_mul2 rfl rfl (by omega) (by omega)) | skip
  exact ok_some trivial
set_option maxRecDepth 100000 in
set_option maxHeartbeats 4000000 in
theorem s_X3_add (x1 : Int64) (x2 : Int32) (o_length : Int32) (o_bytes : Nat → Int32) (h0 : 0 ≤ (o_length).toInt) (h1 : (o_length).toInt ≤ 60) : okP (f_X3_add x1 x2 o_length o_bytes) (fun u => (0 ≤ u.2.1.toInt) ∧ (u.2.1.toInt ≤ 60)) := by
  have l71 : ∀ (n : Nat) (v1 : Int64) (v4 : Int32) (o_length : Int32) (o_bytes : Nat → Int32), (v4.toInt + 1).toNat < n → (-1 ≤ v4.toInt) → (v4.toInt ≤ 7) → (0 ≤ o_length.toInt) → (o_length.toInt + v4.toInt + 1 ≤ 60) → okP (f_X3_add_L71 n v1 v4 o_length o_bytes) (fun u => (0 ≤ u.2.1.toInt) ∧ (u.2.1.toInt ≤ 60)) := by
    intro n
    induction n with
    | zero =>
      intro v1 v4 o_length o_bytes hm
      exact absurd hm (Nat.not_lt_zero _)
    | succ n71 ih71 =>
      intro v1 v4 o_length o_bytes hm71 g71_0 g71_1 g71_2 g71_3
      show okP (f_X3_add_L71b (f_X3_add_L71 n71) v1 v4 o_length o_bytes) (fun u => (0 ≤ u.2.1.toInt) ∧ (u.2.1.toInt ≤ 60))
      unfold f_X3_add_L71b
      refine ok_ite (fun c_1 => ?_) (fun c_1 => ?_)
      · skip
        have c_1 : v4.toInt < (0 : Int) := i_lt.mp c_1
        exact ok_some (show (0 ≤ o_length.toInt) ∧ (o_length.toInt ≤ 60) from ⟨by omega, by omega⟩)
      · skip
        have c_1 : ¬ v4.toInt < (0 : Int) := fun z => c_1 (i_lt.mpr z)
        refine ok_bd1 (s_X3_byteOf v1 v4) (fun r_2 q_3 => ?_)
        have ix_4 : ¬ (o_length < 0 ∨ 60 ≤ o_length.toNatClampNeg) := ix (show 0 ≤ o_length.toInt by omega) (show o_length.toInt < (60 : Nat) by omega)
        refine ok_chk ix_4 ?_
        first | (have f_5 : (o_length + 1).toInt = o_length.toInt + (1 : Int) := i_add2 rfl rfl (by omega) (by omega)) | skip
        refine ok_nmi (fun x_6 hx_6 kx_6 => ?_)
        first | (have f_7 : (v4 + (-1)).toInt = v4.toInt + (-1 : Int) := i_add2 rfl rfl (by omega) (by omega)) | skip
        refine ok_nmi (fun x_8 hx_8 kx_8 => ?_)
        exact ih71 v1 x_8 x_6 (upd o_bytes o_length.toNatClampNeg r_2) (show (x_8.toInt + 1).toNat < n71 by omega) (show -1 ≤ x_8.toInt by omega) (show x_8.toInt ≤ 7 by omega) (show 0 ≤ x_6.toInt by omega) (show x_6.toInt + x_8.toInt + 1 ≤ 60 by omega)
  have l16 : ∀ (n : Nat) (v1 : Int64) (v3 : Int32) (v4 : Int32) (o_length : Int32) (o_bytes : Nat → Int32), (8 - v4.toInt).toNat < n → (1 ≤ v3.toInt) → (v3.toInt ≤ 8) → (0 ≤ v4.toInt) → (v4.toInt ≤ v3.toInt) → (0 ≤ o_length.toInt) → (o_length.toInt ≤ 60) → okP (f_X3_add_L16 n v1 v3 v4 o_length o_bytes) (fun u => (0 ≤ u.2.1.toInt) ∧ (u.2.1.toInt ≤ 60)) := by
    intro n
    induction n with
    | zero =>
      intro v1 v3 v4 o_length o_bytes hm
      exact absurd hm (Nat.not_lt_zero _)
    | succ n16 ih16 =>
      intro v1 v3 v4 o_length o_bytes hm16 g16_0 g16_1 g16_2 g16_3 g16_4 g16_5
      show okP (f_X3_add_L16b (f_X3_add_L16 n16) v1 v3 v4 o_length o_bytes) (fun u => (0 ≤ u.2.1.toInt) ∧ (u.2.1.toInt ≤ 60))
      unfold f_X3_add_L16b
      refine ok_ite (fun c_9 => ?_) (fun c_9 => ?_)
      · skip
        have c_9 : v3.toInt ≤ v4.toInt := i_le.mp c_9
        first | (have f_10 : (o_length + v3).toInt = o_length.toInt + v3.toInt := i_add2 rfl rfl (by omega) (by omega)) | skip
        refine ok_ite (fun c_11 => ?_) (fun c_11 => ?_)
        · skip
          have c_11 : (o_length + v3).toInt ≤ (60 : Int) := i_le.mp c_11
          first | (have f_12 : (v3 - 1).toInt = v3.toInt - (1 : Int) := i_sub2 rfl rfl (by omega) (by omega)) | skip
          refine ok_nmi (fun x_13 hx_13 kx_13 => ?_)
          exact l71 FU v1 x_13 o_length o_bytes (FU_gt (show (x_13.toInt + 1).toNat < 1000000000000 by omega)) (show -1 ≤ x_13.toInt by omega) (show x_13.toInt ≤ 7 by omega) (show 0 ≤ o_length.toInt by omega) (show o_length.toInt + x_13.toInt + 1 ≤ 60 by omega)
        · skip
          have c_11 : ¬ (o_length + v3).toInt ≤ (60 : Int) := fun z => c_11 (i_le.mpr z)
          exact ok_some (show (0 ≤ o_length.toInt) ∧ (o_length.toInt ≤ 60) from ⟨by omega, by omega⟩)
      · skip
        have c_9 : ¬ v3.toInt ≤ v4.toInt := fun z => c_9 (i_le.mpr z)
        refine ok_bd1 (s_X3_byteOf v1 v4) (fun r_14 q_15 => ?_)
        refine ok_ite (fun c_16 => ?_) (fun c_16 => ?_)
        · skip
          have c_16 : r_14.toInt < (32 : Int) := i_lt.mp c_16
          exact ok_some (show (0 ≤ o_length.toInt) ∧ (o_length.toInt ≤ 60) from ⟨by omega, by omega⟩)
        · skip
          have c_16 : ¬ r_14.toInt < (32 : Int) := fun z => c_16 (i_lt.mpr z)
          refine ok_bd1 (s_X3_byteOf v1 v4) (fun r_17 q_18 => ?_)
          refine ok_ite (fun c_19 => ?_) (fun c_19 => ?_)
          · skip
            have c_19 : r_17.toInt ≤ (126 : Int) := i_le.mp c_19
            first | (have f_20 : (v4 + 1).toInt = v4.toInt + (1 : Int) := i_add2 rfl rfl (by omega) (by omega)) | skip
            refine ok_nmi (fun x_21 hx_21 kx_21 => ?_)
            exact ih16 v1 v3 x_21 o_length o_bytes (show (8 - x_21.toInt).toNat < n16 by omega) (show 1 ≤ v3.toInt by omega) (show v3.toInt ≤ 8 by omega) (show 0 ≤ x_21.toInt by omega) (show x_21.toInt ≤ v3.toInt by omega) (show 0 ≤ o_length.toInt by omega) (show o_length.toInt ≤ 60 by omega)
          · skip
            have c_19 : ¬ r_17.toInt ≤ (126 : Int) := fun z => c_19 (i_le.mpr z)
            exact ok_some (show (0 ≤ o_length.toInt) ∧ (o_length.toInt ≤ 60) from ⟨by omega, by omega⟩)
  unfold f_X3_add
  refine ok_ite (fun c_22 => ?_) (fun c_22 => ?_)
  · skip
    have c_22 : x2.toInt < (1 : Int) := i_lt.mp c_22
    exact ok_some (show (0 ≤ o_length.toInt) ∧ (o_length.toInt ≤ 60) from ⟨by omega, by omega⟩)
  · skip
    have c_22 : ¬ x2.toInt < (1 : Int) := fun z => c_22 (i_lt.mpr z)
    refine ok_ite (fun c_23 => ?_) (fun c_23 => ?_)
    · skip
      have c_23 : x2.toInt ≤ (8 : Int) := i_le.mp c_23
      exact l16 FU x1 x2 0 o_length o_bytes (FU_gt (show (8 - (0 : Int)).toNat < 1000000000000 by omega)) (show 1 ≤ x2.toInt by omega) (show x2.toInt ≤ 8 by omega) (show 0 ≤ (0 : Int) by omega) (show (0 : Int) ≤ x2.toInt by omega) (show 0 ≤ o_length.toInt by omega) (show o_length.toInt ≤ 60 by omega)
    · skip
      have c_23 : ¬ x2.toInt ≤ (8 : Int) := fun z => c_23 (i_le.mpr z)
      exact ok_some (show (0 ≤ o_length.toInt) ∧ (o_length.toInt ≤ 60) from ⟨by omega, by omega⟩)
set_option maxRecDepth 100000 in
set_option maxHeartbeats 4000000 in
theorem s_X3_empty (o_length : Int32) : okP (f_X3_empty o_length) (fun u => (u.toInt = 0)) := by
  unfold f_X3_empty
  exact ok_some (show ((0 : Int) = 0) from by omega)
set_option maxRecDepth 100000 in
set_option maxHeartbeats 4000000 in
theorem s_X3_isAtEnd (o_length : Int32) (o_place : Int32) (o_bytes : Nat → Int32) (h0 : 0 ≤ (o_length).toInt) (h1 : (o_length).toInt ≤ 60) (h2 : 0 ≤ o_place.toInt) (h3 : o_place.toInt ≤ o_length.toInt) : okP (f_X3_isAtEnd o_length o_place o_bytes) (fun u => ((u.1.toInt = 1 ∧ o_length.toInt ≤ u.2.toInt) ∨ (u.1.toInt = 0 ∧ u.2.toInt < o_length.toInt)) ∧ (0 ≤ u.2.toInt) ∧ (u.2.toInt ≤ o_length.toInt) ∧ (SkP o_bytes o_length.toInt o_place.toInt u.2.toInt)) := by
  unfold f_X3_isAtEnd
  refine ok_bd1 (s_X3_skipBlanks o_length o_place o_bytes (show 0 ≤ (o_length).toInt by omega) (show (o_length).toInt ≤ 60 by omega) (show 0 ≤ o_place.toInt by omega) (show o_place.toInt ≤ o_length.toInt by omega)) (fun w_1 q_2 => ?_)
  obtain ⟨q_2_0, q_2_1, q_2_2⟩ : (0 ≤ w_1.toInt) ∧ (w_1.toInt ≤ o_length.toInt) ∧ (SkP o_bytes o_length.toInt o_place.toInt w_1.toInt) := q_2
  refine ok_ite (fun c_3 => ?_) (fun c_3 => ?_)
  · skip
    have c_3 : w_1.toInt < o_length.toInt := i_lt.mp c_3
    exact ok_some (show (((0 : Int) = 1 ∧ o_length.toInt ≤ w_1.toInt) ∨ ((0 : Int) = 0 ∧ w_1.toInt < o_length.toInt)) ∧ (0 ≤ w_1.toInt) ∧ (w_1.toInt ≤ o_length.toInt) ∧ (SkP o_bytes o_length.toInt o_place.toInt w_1.toInt) from ⟨by omega, by omega, by omega, by first | with_reducible assumption | with_reducible rfl | omega⟩)
  · skip
    have c_3 : ¬ w_1.toInt < o_length.toInt := fun z => c_3 (i_lt.mpr z)
    exact ok_some (show (((1 : Int) = 1 ∧ o_length.toInt ≤ w_1.toInt) ∨ ((1 : Int) = 0 ∧ w_1.toInt < o_length.toInt)) ∧ (0 ≤ w_1.toInt) ∧ (w_1.toInt ≤ o_length.toInt) ∧ (SkP o_bytes o_length.toInt o_place.toInt w_1.toInt) from ⟨by omega, by omega, by omega, by first | with_reducible assumption | with_reducible rfl | omega⟩)
set_option maxRecDepth 100000 in
set_option maxHeartbeats 4000000 in
theorem s_X3_fault (o_length : Int32) (o_place : Int32) (o_bytes : Nat → Int32) (h0 : 0 ≤ (o_length).toInt) (h1 : (o_length).toInt ≤ 60) (h2 : 0 ≤ o_place.toInt) (h3 : o_place.toInt ≤ o_length.toInt) : okP (f_X3_fault o_length o_place o_bytes) (fun u => (0 ≤ u.2.toInt) ∧ (u.2.toInt ≤ o_length.toInt) ∧ (u.1.toInt < 0) ∧ (u.1.toInt = -20 - u.2.toInt) ∧ (SkP o_bytes o_length.toInt o_place.toInt u.2.toInt)) := by
  unfold f_X3_fault
  refine ok_bd1 (s_X3_skipBlanks o_length o_place o_bytes (show 0 ≤ (o_length).toInt by omega) (show (o_length).toInt ≤ 60 by omega) (show 0 ≤ o_place.toInt by omega) (show o_place.toInt ≤ o_length.toInt by omega)) (fun w_1 q_2 => ?_)
  obtain ⟨q_2_0, q_2_1, q_2_2⟩ : (0 ≤ w_1.toInt) ∧ (w_1.toInt ≤ o_length.toInt) ∧ (SkP o_bytes o_length.toInt o_place.toInt w_1.toInt) := q_2
  first | (have f_3 : ((-20) - w_1).toInt = (-20 : Int) - w_1.toInt := i_sub2 rfl rfl (by omega) (by omega)) | skip
  exact ok_some (show (0 ≤ w_1.toInt) ∧ (w_1.toInt ≤ o_length.toInt) ∧ (((-20) - w_1).toInt < 0) ∧ (((-20) - w_1).toInt = -20 - w_1.toInt) ∧ (SkP o_bytes o_length.toInt o_place.toInt w_1.toInt) from ⟨by omega, by omega, by omega, by omega, by first | with_reducible assumption | with_reducible rfl | omega⟩)
set_option maxRecDepth 100000 in
set_option maxHeartbeats 4000000 in
theorem s_X3_passes (x1 : Int32) (o_length : Int32) (o_place : Int32) (o_bytes : Nat → Int32) (h0 : 0 ≤ (o_length).toInt) (h1 : (o_length).toInt ≤ 60) (h2 : 0 ≤ o_place.toInt) (h3 : o_place.toInt ≤ o_length.toInt) : okP (f_X3_passes x1 o_length o_place o_bytes) (fun u => (0 ≤ u.2.toInt) ∧ (u.2.toInt ≤ o_length.toInt) ∧ (u.1.toInt = 0 ∨ u.1.toInt = 1)) := by
  unfold f_X3_passes
  refine ok_bd2 (s_X3_isAtEnd o_length o_place o_bytes (show 0 ≤ (o_length).toInt by omega) (show (o_length).toInt ≤ 60 by omega) (show 0 ≤ o_place.toInt by omega) (show o_place.toInt ≤ o_length.toInt by omega)) (fun r_1 w_2 q_3 => ?_)
  obtain ⟨q_3_0, q_3_1, q_3_2, q_3_3⟩ : ((r_1.toInt = 1 ∧ o_length.toInt ≤ w_2.toInt) ∨ (r_1.toInt = 0 ∧ w_2.toInt < o_length.toInt)) ∧ (0 ≤ w_2.toInt) ∧ (w_2.toInt ≤ o_length.toInt) ∧ (SkP o_bytes o_length.toInt o_place.toInt w_2.toInt) := q_3
  refine ok_ite (fun c_4 => ?_) (fun c_4 => ?_)
  · skip
    have c_4 : r_1.toInt = (0 : Int) := i_eq.mp c_4
    replace q_3_0 : w_2.toInt < o_length.toInt := by omega
    have ix_5 : ¬ (w_2 < 0 ∨ 60 ≤ w_2.toNatClampNeg) := ix (show 0 ≤ w_2.toInt by omega) (show w_2.toInt < (60 : Nat) by omega)
    refine ok_chk ix_5 ?_
    refine ok_ite (fun c_6 => ?_) (fun c_6 => ?_)
    · skip
      have c_6 : (o_bytes w_2.toNatClampNeg).toInt = x1.toInt := i_eq.mp c_6
      first | (have f_7 : (w_2 + 1).toInt = w_2.toInt + (1 : Int) := i_add2 rfl rfl (by omega) (by omega)) | skip
      refine ok_nmi (fun x_8 hx_8 kx_8 => ?_)
      exact ok_some (show (0 ≤ x_8.toInt) ∧ (x_8.toInt ≤ o_length.toInt) ∧ ((1 : Int) = 0 ∨ (1 : Int) = 1) from ⟨by omega, by omega, by omega⟩)
    · skip
      have c_6 : ¬ (o_bytes w_2.toNatClampNeg).toInt = x1.toInt := fun z => c_6 (i_eq.mpr z)
      exact ok_some (show (0 ≤ w_2.toInt) ∧ (w_2.toInt ≤ o_length.toInt) ∧ ((0 : Int) = 0 ∨ (0 : Int) = 1) from ⟨by omega, by omega, by omega⟩)
  · skip
    have c_4 : ¬ r_1.toInt = (0 : Int) := fun z => c_4 (i_eq.mpr z)
    replace q_3_0 : o_length.toInt ≤ w_2.toInt := by omega
    exact ok_some (show (0 ≤ w_2.toInt) ∧ (w_2.toInt ≤ o_length.toInt) ∧ ((0 : Int) = 0 ∨ (0 : Int) = 1) from ⟨by omega, by omega, by omega⟩)
set_option maxRecDepth 100000 in
set_option maxHeartbeats 4000000 in
theorem s_X3_number (x1 : Int32) (x2 : Int32) (o_length : Int32) (o_place : Int32) (o_bytes : Nat → Int32) (h0 : 0 ≤ (o_length).toInt) (h1 : (o_length).toInt ≤ 60) (h2 : 0 ≤ o_place.toInt) (h3 : o_place.toInt ≤ o_length.toInt) : okP (f_X3_number x1 x2 o_length o_place o_bytes) (fun u => (0 ≤ u.2.toInt) ∧ (u.2.toInt ≤ o_length.toInt) ∧ (u.1.toInt = -1 ∨ (x1.toInt ≤ u.1.toInt ∧ u.1.toInt ≤ x2.toInt))) := by
  have l12 : ∀ (n : Nat) (v1 : Int32) (v2 : Int32) (v3 : Int32) (v4 : Int32) (o_place : Int32), (o_length.toInt - o_place.toInt).toNat < n → (v1.toInt = x1.toInt) → (v2.toInt = x2.toInt) → (0 ≤ v3.toInt) → (v3.toInt ≤ o_place.toInt) → (0 ≤ o_place.toInt) → (o_place.toInt ≤ o_length.toInt) → okP (f_X3_number_L12 n v1 v2 v3 v4 o_length o_place o_bytes) (fun u => (0 ≤ u.2.toInt) ∧ (u.2.toInt ≤ o_length.toInt) ∧ (u.1.toInt = -1 ∨ (x1.toInt ≤ u.1.toInt ∧ u.1.toInt ≤ x2.toInt))) := by
    intro n
    induction n with
    | zero =>
      intro v1 v2 v3 v4 o_place hm
      exact absurd hm (Nat.not_lt_zero _)
    | succ n12 ih12 =>
      intro v1 v2 v3 v4 o_place hm12 g12_0 g12_1 g12_2 g12_3 g12_4 g12_5
      show okP (f_X3_number_L12b (f_X3_number_L12 n12) v1 v2 v3 v4 o_length o_place o_bytes) (fun u => (0 ≤ u.2.toInt) ∧ (u.2.toInt ≤ o_length.toInt) ∧ (u.1.toInt = -1 ∨ (x1.toInt ≤ u.1.toInt ∧ u.1.toInt ≤ x2.toInt)))
      unfold f_X3_number_L12b
      refine ok_ite (fun c_1 => ?_) (fun c_1 => ?_)
      · skip
        have c_1 : o_length.toInt ≤ o_place.toInt := i_le.mp c_1
        unfold f_X3_number_B90
        refine ok_ite (fun c_2 => ?_) (fun c_2 => ?_)
        · skip
          have c_2 : o_place.toInt ≤ v3.toInt := i_le.mp c_2
          unfold f_X3_number_B113
          exact ok_some (show (0 ≤ v3.toInt) ∧ (v3.toInt ≤ o_length.toInt) ∧ ((-1 : Int) = -1 ∨ (x1.toInt ≤ (-1 : Int) ∧ (-1 : Int) ≤ x2.toInt)) from ⟨by omega, by omega, by omega⟩)
        · skip
          have c_2 : ¬ o_place.toInt ≤ v3.toInt := fun z => c_2 (i_le.mpr z)
          refine ok_ite (fun c_3 => ?_) (fun c_3 => ?_)
          · skip
            have c_3 : v4.toInt < v1.toInt := i_lt.mp c_3
            unfold f_X3_number_B113
            exact ok_some (show (0 ≤ v3.toInt) ∧ (v3.toInt ≤ o_length.toInt) ∧ ((-1 : Int) = -1 ∨ (x1.toInt ≤ (-1 : Int) ∧ (-1 : Int) ≤ x2.toInt)) from ⟨by omega, by omega, by omega⟩)
          · skip
            have c_3 : ¬ v4.toInt < v1.toInt := fun z => c_3 (i_lt.mpr z)
            refine ok_ite (fun c_4 => ?_) (fun c_4 => ?_)
            · skip
              have c_4 : v2.toInt < v4.toInt := i_lt.mp c_4
              unfold f_X3_number_B113
              exact ok_some (show (0 ≤ v3.toInt) ∧ (v3.toInt ≤ o_length.toInt) ∧ ((-1 : Int) = -1 ∨ (x1.toInt ≤ (-1 : Int) ∧ (-1 : Int) ≤ x2.toInt)) from ⟨by omega, by omega, by omega⟩)
            · skip
              have c_4 : ¬ v2.toInt < v4.toInt := fun z => c_4 (i_lt.mpr z)
              exact ok_some (show (0 ≤ o_place.toInt) ∧ (o_place.toInt ≤ o_length.toInt) ∧ (v4.toInt = -1 ∨ (x1.toInt ≤ v4.toInt ∧ v4.toInt ≤ x2.toInt)) from ⟨by omega, by omega, by omega⟩)
      · skip
        have c_1 : ¬ o_length.toInt ≤ o_place.toInt := fun z => c_1 (i_le.mpr z)
        have ix_5 : ¬ (o_place < 0 ∨ 60 ≤ o_place.toNatClampNeg) := ix (show 0 ≤ o_place.toInt by omega) (show o_place.toInt < (60 : Nat) by omega)
        refine ok_chk ix_5 ?_
        refine ok_ite (fun c_6 => ?_) (fun c_6 => ?_)
        · skip
          have c_6 : (o_bytes o_place.toNatClampNeg).toInt < (48 : Int) := i_lt.mp c_6
          unfold f_X3_number_B90
          refine ok_ite (fun c_7 => ?_) (fun c_7 => ?_)
          · skip
            have c_7 : o_place.toInt ≤ v3.toInt := i_le.mp c_7
            unfold f_X3_number_B113
            exact ok_some (show (0 ≤ v3.toInt) ∧ (v3.toInt ≤ o_length.toInt) ∧ ((-1 : Int) = -1 ∨ (x1.toInt ≤ (-1 : Int) ∧ (-1 : Int) ≤ x2.toInt)) from ⟨by omega, by omega, by omega⟩)
          · skip
            have c_7 : ¬ o_place.toInt ≤ v3.toInt := fun z => c_7 (i_le.mpr z)
            refine ok_ite (fun c_8 => ?_) (fun c_8 => ?_)
            · skip
              have c_8 : v4.toInt < v1.toInt := i_lt.mp c_8
              unfold f_X3_number_B113
              exact ok_some (show (0 ≤ v3.toInt) ∧ (v3.toInt ≤ o_length.toInt) ∧ ((-1 : Int) = -1 ∨ (x1.toInt ≤ (-1 : Int) ∧ (-1 : Int) ≤ x2.toInt)) from ⟨by omega, by omega, by omega⟩)
            · skip
              have c_8 : ¬ v4.toInt < v1.toInt := fun z => c_8 (i_lt.mpr z)
              refine ok_ite (fun c_9 => ?_) (fun c_9 => ?_)
              · skip
                have c_9 : v2.toInt < v4.toInt := i_lt.mp c_9
                unfold f_X3_number_B113
                exact ok_some (show (0 ≤ v3.toInt) ∧ (v3.toInt ≤ o_length.toInt) ∧ ((-1 : Int) = -1 ∨ (x1.toInt ≤ (-1 : Int) ∧ (-1 : Int) ≤ x2.toInt)) from ⟨by omega, by omega, by omega⟩)
              · skip
                have c_9 : ¬ v2.toInt < v4.toInt := fun z => c_9 (i_lt.mpr z)
                exact ok_some (show (0 ≤ o_place.toInt) ∧ (o_place.toInt ≤ o_length.toInt) ∧ (v4.toInt = -1 ∨ (x1.toInt ≤ v4.toInt ∧ v4.toInt ≤ x2.toInt)) from ⟨by omega, by omega, by omega⟩)
        · skip
          have c_6 : ¬ (o_bytes o_place.toNatClampNeg).toInt < (48 : Int) := fun z => c_6 (i_lt.mpr z)
          refine ok_chk ix_5 ?_
          refine ok_ite (fun c_10 => ?_) (fun c_10 => ?_)
          · skip
            have c_10 : (57 : Int) < (o_bytes o_place.toNatClampNeg).toInt := i_lt.mp c_10
            unfold f_X3_number_B90
            refine ok_ite (fun c_11 => ?_) (fun c_11 => ?_)
            · skip
              have c_11 : o_place.toInt ≤ v3.toInt := i_le.mp c_11
              unfold f_X3_number_B113
              exact ok_some (show (0 ≤ v3.toInt) ∧ (v3.toInt ≤ o_length.toInt) ∧ ((-1 : Int) = -1 ∨ (x1.toInt ≤ (-1 : Int) ∧ (-1 : Int) ≤ x2.toInt)) from ⟨by omega, by omega, by omega⟩)
            · skip
              have c_11 : ¬ o_place.toInt ≤ v3.toInt := fun z => c_11 (i_le.mpr z)
              refine ok_ite (fun c_12 => ?_) (fun c_12 => ?_)
              · skip
                have c_12 : v4.toInt < v1.toInt := i_lt.mp c_12
                unfold f_X3_number_B113
                exact ok_some (show (0 ≤ v3.toInt) ∧ (v3.toInt ≤ o_length.toInt) ∧ ((-1 : Int) = -1 ∨ (x1.toInt ≤ (-1 : Int) ∧ (-1 : Int) ≤ x2.toInt)) from ⟨by omega, by omega, by omega⟩)
              · skip
                have c_12 : ¬ v4.toInt < v1.toInt := fun z => c_12 (i_lt.mpr z)
                refine ok_ite (fun c_13 => ?_) (fun c_13 => ?_)
                · skip
                  have c_13 : v2.toInt < v4.toInt := i_lt.mp c_13
                  unfold f_X3_number_B113
                  exact ok_some (show (0 ≤ v3.toInt) ∧ (v3.toInt ≤ o_length.toInt) ∧ ((-1 : Int) = -1 ∨ (x1.toInt ≤ (-1 : Int) ∧ (-1 : Int) ≤ x2.toInt)) from ⟨by omega, by omega, by omega⟩)
                · skip
                  have c_13 : ¬ v2.toInt < v4.toInt := fun z => c_13 (i_lt.mpr z)
                  exact ok_some (show (0 ≤ o_place.toInt) ∧ (o_place.toInt ≤ o_length.toInt) ∧ (v4.toInt = -1 ∨ (x1.toInt ≤ v4.toInt ∧ v4.toInt ≤ x2.toInt)) from ⟨by omega, by omega, by omega⟩)
          · skip
            have c_10 : ¬ (57 : Int) < (o_bytes o_place.toNatClampNeg).toInt := fun z => c_10 (i_lt.mpr z)
            first | (have f_14 : (10 * v4).toInt = (10 : Int) * v4.toInt := i_mul2 rfl rfl (by omega) (by omega)) | skip
            refine ok_chk ix_5 ?_
            first | (have f_15 : ((10 * v4) + (o_bytes o_place.toNatClampNeg)).toInt = (10 * v4).toInt + (o_bytes o_place.toNatClampNeg).toInt := i_add2 rfl rfl (by omega) (by omega)) | skip
            first | (have f_16 : (((10 * v4) + (o_bytes o_place.toNatClampNeg)) - 48).toInt = ((10 * v4) + (o_bytes o_place.toNatClampNeg)).toInt - (48 : Int) := i_sub2 rfl rfl (by omega) (by omega)) | skip
            refine ok_nmi (fun x_17 hx_17 kx_17 => ?_)
            first | (have f_18 : (o_place + 1).toInt = o_place.toInt + (1 : Int) := i_add2 rfl rfl (by omega) (by omega)) | skip
            refine ok_nmi (fun x_19 hx_19 kx_19 => ?_)
            exact ih12 v1 v2 v3 x_17 x_19 (show (o_length.toInt - x_19.toInt).toNat < n12 by omega) (show v1.toInt = x1.toInt by omega) (show v2.toInt = x2.toInt by omega) (show 0 ≤ v3.toInt by omega) (show v3.toInt ≤ x_19.toInt by omega) (show 0 ≤ x_19.toInt by omega) (show x_19.toInt ≤ o_length.toInt by omega)
  unfold f_X3_number
  refine ok_bd1 (s_X3_skipBlanks o_length o_place o_bytes (show 0 ≤ (o_length).toInt by omega) (show (o_length).toInt ≤ 60 by omega) (show 0 ≤ o_place.toInt by omega) (show o_place.toInt ≤ o_length.toInt by omega)) (fun w_20 q_21 => ?_)
  obtain ⟨q_21_0, q_21_1, q_21_2⟩ : (0 ≤ w_20.toInt) ∧ (w_20.toInt ≤ o_length.toInt) ∧ (SkP o_bytes o_length.toInt o_place.toInt w_20.toInt) := q_21
  exact l12 FU x1 x2 w_20 0 w_20 (FU_gt (show (o_length.toInt - w_20.toInt).toNat < 1000000000000 by omega)) (show x1.toInt = x1.toInt by omega) (show x2.toInt = x2.toInt by omega) (show 0 ≤ w_20.toInt by omega) (show w_20.toInt ≤ w_20.toInt by omega) (show 0 ≤ w_20.toInt by omega) (show w_20.toInt ≤ o_length.toInt by omega)
set_option maxRecDepth 100000 in
set_option maxHeartbeats 4000000 in
theorem s_X3_scanRing (x1 : Int32) (o_length : Int32) (o_place : Int32) (o_bytes : Nat → Int32) (o_newFar : Nat → Int32) (o_newTones : Nat → Int32) (h0 : 0 ≤ (o_length).toInt) (h1 : (o_length).toInt ≤ 60) (h2 : 0 ≤ o_place.toInt) (h3 : o_place.toInt ≤ o_length.toInt) (h4 : 1 ≤ (x1).toInt) (h5 : (x1).toInt ≤ 6) : okP (f_X3_scanRing x1 o_length o_place o_bytes o_newFar o_newTones) (fun u => (0 ≤ u.2.1.toInt) ∧ (u.2.1.toInt ≤ o_length.toInt) ∧ (u.1.toInt = 0 ∨ u.1.toInt = 1)) := by
  unfold f_X3_scanRing
  have ix_1 : ¬ (x1 < 0 ∨ 7 ≤ x1.toNatClampNeg) := ix (show 0 ≤ x1.toInt by omega) (show x1.toInt < (7 : Nat) by omega)
  refine ok_chk ix_1 ?_
  refine ok_bd2 (s_X3_passes 63 o_length o_place o_bytes (show 0 ≤ (o_length).toInt by omega) (show (o_length).toInt ≤ 60 by omega) (show 0 ≤ o_place.toInt by omega) (show o_place.toInt ≤ o_length.toInt by omega)) (fun r_2 w_3 q_4 => ?_)
  obtain ⟨q_4_0, q_4_1, q_4_2⟩ : (0 ≤ w_3.toInt) ∧ (w_3.toInt ≤ o_length.toInt) ∧ (r_2.toInt = 0 ∨ r_2.toInt = 1) := q_4
  refine ok_ite (fun c_5 => ?_) (fun c_5 => ?_)
  · skip
    have c_5 : r_2.toInt = (0 : Int) := i_eq.mp c_5
    refine ok_bd2 (s_X3_number 0 40 o_length w_3 o_bytes (show 0 ≤ (o_length).toInt by omega) (show (o_length).toInt ≤ 60 by omega) (show 0 ≤ w_3.toInt by omega) (show w_3.toInt ≤ o_length.toInt by omega)) (fun r_6 w_7 q_8 => ?_)
    obtain ⟨q_8_0, q_8_1, q_8_2⟩ : (0 ≤ w_7.toInt) ∧ (w_7.toInt ≤ o_length.toInt) ∧ (r_6.toInt = -1 ∨ ((0 : Int) ≤ r_6.toInt ∧ r_6.toInt ≤ (40 : Int))) := q_8
    refine ok_ite (fun c_9 => ?_) (fun c_9 => ?_)
    · skip
      have c_9 : r_6.toInt = (-1 : Int) := i_eq.mp c_9
      exact ok_some (show (0 ≤ w_7.toInt) ∧ (w_7.toInt ≤ o_length.toInt) ∧ ((0 : Int) = 0 ∨ (0 : Int) = 1) from ⟨by omega, by omega, by omega⟩)
    · skip
      have c_9 : ¬ r_6.toInt = (-1 : Int) := fun z => c_9 (i_eq.mpr z)
      refine ok_chk ix_1 ?_
      unfold f_X3_scanRing_B38
      refine ok_bd2 (s_X3_passes 43 o_length w_7 o_bytes (show 0 ≤ (o_length).toInt by omega) (show (o_length).toInt ≤ 60 by omega) (show 0 ≤ w_7.toInt by omega) (show w_7.toInt ≤ o_length.toInt by omega)) (fun r_10 w_11 q_12 => ?_)
      obtain ⟨q_12_0, q_12_1, q_12_2⟩ : (0 ≤ w_11.toInt) ∧ (w_11.toInt ≤ o_length.toInt) ∧ (r_10.toInt = 0 ∨ r_10.toInt = 1) := q_12
      refine ok_ite (fun c_13 => ?_) (fun c_13 => ?_)
      · skip
        have c_13 : r_10.toInt = (0 : Int) := i_eq.mp c_13
        refine ok_bd2 (s_X3_passes 45 o_length w_11 o_bytes (show 0 ≤ (o_length).toInt by omega) (show (o_length).toInt ≤ 60 by omega) (show 0 ≤ w_11.toInt by omega) (show w_11.toInt ≤ o_length.toInt by omega)) (fun r_14 w_15 q_16 => ?_)
        obtain ⟨q_16_0, q_16_1, q_16_2⟩ : (0 ≤ w_15.toInt) ∧ (w_15.toInt ≤ o_length.toInt) ∧ (r_14.toInt = 0 ∨ r_14.toInt = 1) := q_16
        refine ok_ite (fun c_17 => ?_) (fun c_17 => ?_)
        · skip
          have c_17 : r_14.toInt = (0 : Int) := i_eq.mp c_17
          unfold f_X3_scanRing_B70
          refine ok_chk ix_1 ?_
          exact ok_some (show (0 ≤ w_15.toInt) ∧ (w_15.toInt ≤ o_length.toInt) ∧ ((1 : Int) = 0 ∨ (1 : Int) = 1) from ⟨by omega, by omega, by omega⟩)
        · skip
          have c_17 : ¬ r_14.toInt = (0 : Int) := fun z => c_17 (i_eq.mpr z)
          unfold f_X3_scanRing_B70
          refine ok_chk ix_1 ?_
          exact ok_some (show (0 ≤ w_15.toInt) ∧ (w_15.toInt ≤ o_length.toInt) ∧ ((1 : Int) = 0 ∨ (1 : Int) = 1) from ⟨by omega, by omega, by omega⟩)
      · skip
        have c_13 : ¬ r_10.toInt = (0 : Int) := fun z => c_13 (i_eq.mpr z)
        unfold f_X3_scanRing_B70
        refine ok_chk ix_1 ?_
        exact ok_some (show (0 ≤ w_11.toInt) ∧ (w_11.toInt ≤ o_length.toInt) ∧ ((1 : Int) = 0 ∨ (1 : Int) = 1) from ⟨by omega, by omega, by omega⟩)
  · skip
    have c_5 : ¬ r_2.toInt = (0 : Int) := fun z => c_5 (i_eq.mpr z)
    unfold f_X3_scanRing_B38
    refine ok_bd2 (s_X3_passes 43 o_length w_3 o_bytes (show 0 ≤ (o_length).toInt by omega) (show (o_length).toInt ≤ 60 by omega) (show 0 ≤ w_3.toInt by omega) (show w_3.toInt ≤ o_length.toInt by omega)) (fun r_18 w_19 q_20 => ?_)
    obtain ⟨q_20_0, q_20_1, q_20_2⟩ : (0 ≤ w_19.toInt) ∧ (w_19.toInt ≤ o_length.toInt) ∧ (r_18.toInt = 0 ∨ r_18.toInt = 1) := q_20
    refine ok_ite (fun c_21 => ?_) (fun c_21 => ?_)
    · skip
      have c_21 : r_18.toInt = (0 : Int) := i_eq.mp c_21
      refine ok_bd2 (s_X3_passes 45 o_length w_19 o_bytes (show 0 ≤ (o_length).toInt by omega) (show (o_length).toInt ≤ 60 by omega) (show 0 ≤ w_19.toInt by omega) (show w_19.toInt ≤ o_length.toInt by omega)) (fun r_22 w_23 q_24 => ?_)
      obtain ⟨q_24_0, q_24_1, q_24_2⟩ : (0 ≤ w_23.toInt) ∧ (w_23.toInt ≤ o_length.toInt) ∧ (r_22.toInt = 0 ∨ r_22.toInt = 1) := q_24
      refine ok_ite (fun c_25 => ?_) (fun c_25 => ?_)
      · skip
        have c_25 : r_22.toInt = (0 : Int) := i_eq.mp c_25
        unfold f_X3_scanRing_B70
        refine ok_chk ix_1 ?_
        exact ok_some (show (0 ≤ w_23.toInt) ∧ (w_23.toInt ≤ o_length.toInt) ∧ ((1 : Int) = 0 ∨ (1 : Int) = 1) from ⟨by omega, by omega, by omega⟩)
      · skip
        have c_25 : ¬ r_22.toInt = (0 : Int) := fun z => c_25 (i_eq.mpr z)
        unfold f_X3_scanRing_B70
        refine ok_chk ix_1 ?_
        exact ok_some (show (0 ≤ w_23.toInt) ∧ (w_23.toInt ≤ o_length.toInt) ∧ ((1 : Int) = 0 ∨ (1 : Int) = 1) from ⟨by omega, by omega, by omega⟩)
    · skip
      have c_21 : ¬ r_18.toInt = (0 : Int) := fun z => c_21 (i_eq.mpr z)
      unfold f_X3_scanRing_B70
      refine ok_chk ix_1 ?_
      exact ok_some (show (0 ≤ w_19.toInt) ∧ (w_19.toInt ≤ o_length.toInt) ∧ ((1 : Int) = 0 ∨ (1 : Int) = 1) from ⟨by omega, by omega, by omega⟩)
set_option maxRecDepth 100000 in
set_option maxHeartbeats 4000000 in
theorem s_X3_scanRings (o_length : Int32) (o_place : Int32) (o_bytes : Nat → Int32) (o_newFar : Nat → Int32) (o_newTones : Nat → Int32) (h0 : 0 ≤ (o_length).toInt) (h1 : (o_length).toInt ≤ 60) : okP (f_X3_scanRings o_length o_place o_bytes o_newFar o_newTones) (fun u => (0 ≤ u.2.1.toInt) ∧ (u.2.1.toInt ≤ o_length.toInt)) := by
  have l31 : ∀ (n : Nat) (v1 : Int32) (v2 : Int32) (o_place : Int32) (o_newFar : Nat → Int32) (o_newTones : Nat → Int32), (7 - v2.toInt).toNat < n → (0 ≤ v1.toInt) → (v1.toInt ≤ 6) → (1 ≤ v2.toInt) → (v2.toInt ≤ 7) → (0 ≤ o_place.toInt) → (o_place.toInt ≤ o_length.toInt) → okP (f_X3_scanRings_L31 n v1 v2 o_length o_place o_bytes o_newFar o_newTones) (fun u => (0 ≤ u.2.1.toInt) ∧ (u.2.1.toInt ≤ o_length.toInt)) := by
    intro n
    induction n with
    | zero =>
      intro v1 v2 o_place o_newFar o_newTones hm
      exact absurd hm (Nat.not_lt_zero _)
    | succ n31 ih31 =>
      intro v1 v2 o_place o_newFar o_newTones hm31 g31_0 g31_1 g31_2 g31_3 g31_4 g31_5
      show okP (f_X3_scanRings_L31b (f_X3_scanRings_L31 n31) v1 v2 o_length o_place o_bytes o_newFar o_newTones) (fun u => (0 ≤ u.2.1.toInt) ∧ (u.2.1.toInt ≤ o_length.toInt))
      unfold f_X3_scanRings_L31b
      refine ok_ite (fun c_1 => ?_) (fun c_1 => ?_)
      · skip
        have c_1 : (6 : Int) < v2.toInt := i_lt.mp c_1
        refine ok_bd2 (s_X3_fault o_length o_place o_bytes (show 0 ≤ (o_length).toInt by omega) (show (o_length).toInt ≤ 60 by omega) (show 0 ≤ o_place.toInt by omega) (show o_place.toInt ≤ o_length.toInt by omega)) (fun r_2 w_3 q_4 => ?_)
        obtain ⟨q_4_0, q_4_1, q_4_2, q_4_3, q_4_4⟩ : (0 ≤ w_3.toInt) ∧ (w_3.toInt ≤ o_length.toInt) ∧ (r_2.toInt < 0) ∧ (r_2.toInt = -20 - w_3.toInt) ∧ (SkP o_bytes o_length.toInt o_place.toInt w_3.toInt) := q_4
        exact ok_some (show (0 ≤ w_3.toInt) ∧ (w_3.toInt ≤ o_length.toInt) from ⟨by omega, by omega⟩)
      · skip
        have c_1 : ¬ (6 : Int) < v2.toInt := fun z => c_1 (i_lt.mpr z)
        first | (have f_5 : (v1 + 1).toInt = v1.toInt + (1 : Int) := i_add2 rfl rfl (by omega) (by omega)) | skip
        refine ok_bd2 (s_X3_number (v1 + 1) 6 o_length o_place o_bytes (show 0 ≤ (o_length).toInt by omega) (show (o_length).toInt ≤ 60 by omega) (show 0 ≤ o_place.toInt by omega) (show o_place.toInt ≤ o_length.toInt by omega)) (fun r_6 w_7 q_8 => ?_)
        obtain ⟨q_8_0, q_8_1, q_8_2⟩ : (0 ≤ w_7.toInt) ∧ (w_7.toInt ≤ o_length.toInt) ∧ (r_6.toInt = -1 ∨ ((v1 + 1).toInt ≤ r_6.toInt ∧ r_6.toInt ≤ (6 : Int))) := q_8
        refine ok_ite (fun c_9 => ?_) (fun c_9 => ?_)
        · skip
          have c_9 : r_6.toInt = (-1 : Int) := i_eq.mp c_9
          unfold f_X3_scanRings_B69
          refine ok_bd2 (s_X3_fault o_length w_7 o_bytes (show 0 ≤ (o_length).toInt by omega) (show (o_length).toInt ≤ 60 by omega) (show 0 ≤ w_7.toInt by omega) (show w_7.toInt ≤ o_length.toInt by omega)) (fun r_10 w_11 q_12 => ?_)
          obtain ⟨q_12_0, q_12_1, q_12_2, q_12_3, q_12_4⟩ : (0 ≤ w_11.toInt) ∧ (w_11.toInt ≤ o_length.toInt) ∧ (r_10.toInt < 0) ∧ (r_10.toInt = -20 - w_11.toInt) ∧ (SkP o_bytes o_length.toInt w_7.toInt w_11.toInt) := q_12
          exact ok_some (show (0 ≤ w_11.toInt) ∧ (w_11.toInt ≤ o_length.toInt) from ⟨by omega, by omega⟩)
        · skip
          have c_9 : ¬ r_6.toInt = (-1 : Int) := fun z => c_9 (i_eq.mpr z)
          refine ok_bd2 (s_X3_passes 58 o_length w_7 o_bytes (show 0 ≤ (o_length).toInt by omega) (show (o_length).toInt ≤ 60 by omega) (show 0 ≤ w_7.toInt by omega) (show w_7.toInt ≤ o_length.toInt by omega)) (fun r_13 w_14 q_15 => ?_)
          obtain ⟨q_15_0, q_15_1, q_15_2⟩ : (0 ≤ w_14.toInt) ∧ (w_14.toInt ≤ o_length.toInt) ∧ (r_13.toInt = 0 ∨ r_13.toInt = 1) := q_15
          refine ok_ite (fun c_16 => ?_) (fun c_16 => ?_)
          · skip
            have c_16 : r_13.toInt = (0 : Int) := i_eq.mp c_16
            unfold f_X3_scanRings_B69
            refine ok_bd2 (s_X3_fault o_length w_14 o_bytes (show 0 ≤ (o_length).toInt by omega) (show (o_length).toInt ≤ 60 by omega) (show 0 ≤ w_14.toInt by omega) (show w_14.toInt ≤ o_length.toInt by omega)) (fun r_17 w_18 q_19 => ?_)
            obtain ⟨q_19_0, q_19_1, q_19_2, q_19_3, q_19_4⟩ : (0 ≤ w_18.toInt) ∧ (w_18.toInt ≤ o_length.toInt) ∧ (r_17.toInt < 0) ∧ (r_17.toInt = -20 - w_18.toInt) ∧ (SkP o_bytes o_length.toInt w_14.toInt w_18.toInt) := q_19
            exact ok_some (show (0 ≤ w_18.toInt) ∧ (w_18.toInt ≤ o_length.toInt) from ⟨by omega, by omega⟩)
          · skip
            have c_16 : ¬ r_13.toInt = (0 : Int) := fun z => c_16 (i_eq.mpr z)
            refine ok_bd4 (s_X3_scanRing r_6 o_length w_14 o_bytes o_newFar o_newTones (show 0 ≤ (o_length).toInt by omega) (show (o_length).toInt ≤ 60 by omega) (show 0 ≤ w_14.toInt by omega) (show w_14.toInt ≤ o_length.toInt by omega) (show 1 ≤ (r_6).toInt by omega) (show (r_6).toInt ≤ 6 by omega)) (fun r_20 w_21 w_22 w_23 q_24 => ?_)
            obtain ⟨q_24_0, q_24_1, q_24_2⟩ : (0 ≤ w_21.toInt) ∧ (w_21.toInt ≤ o_length.toInt) ∧ (r_20.toInt = 0 ∨ r_20.toInt = 1) := q_24
            refine ok_ite (fun c_25 => ?_) (fun c_25 => ?_)
            · skip
              have c_25 : r_20.toInt = (0 : Int) := i_eq.mp c_25
              unfold f_X3_scanRings_B69
              refine ok_bd2 (s_X3_fault o_length w_21 o_bytes (show 0 ≤ (o_length).toInt by omega) (show (o_length).toInt ≤ 60 by omega) (show 0 ≤ w_21.toInt by omega) (show w_21.toInt ≤ o_length.toInt by omega)) (fun r_26 w_27 q_28 => ?_)
              obtain ⟨q_28_0, q_28_1, q_28_2, q_28_3, q_28_4⟩ : (0 ≤ w_27.toInt) ∧ (w_27.toInt ≤ o_length.toInt) ∧ (r_26.toInt < 0) ∧ (r_26.toInt = -20 - w_27.toInt) ∧ (SkP o_bytes o_length.toInt w_21.toInt w_27.toInt) := q_28
              exact ok_some (show (0 ≤ w_27.toInt) ∧ (w_27.toInt ≤ o_length.toInt) from ⟨by omega, by omega⟩)
            · skip
              have c_25 : ¬ r_20.toInt = (0 : Int) := fun z => c_25 (i_eq.mpr z)
              refine ok_bd2 (s_X3_isAtEnd o_length w_21 o_bytes (show 0 ≤ (o_length).toInt by omega) (show (o_length).toInt ≤ 60 by omega) (show 0 ≤ w_21.toInt by omega) (show w_21.toInt ≤ o_length.toInt by omega)) (fun r_29 w_30 q_31 => ?_)
              obtain ⟨q_31_0, q_31_1, q_31_2, q_31_3⟩ : ((r_29.toInt = 1 ∧ o_length.toInt ≤ w_30.toInt) ∨ (r_29.toInt = 0 ∧ w_30.toInt < o_length.toInt)) ∧ (0 ≤ w_30.toInt) ∧ (w_30.toInt ≤ o_length.toInt) ∧ (SkP o_bytes o_length.toInt w_21.toInt w_30.toInt) := q_31
              refine ok_ite (fun c_32 => ?_) (fun c_32 => ?_)
              · skip
                have c_32 : r_29.toInt = (0 : Int) := i_eq.mp c_32
                replace q_31_0 : w_30.toInt < o_length.toInt := by omega
                refine ok_ite (fun c_33 => ?_) (fun c_33 => ?_)
                · skip
                  have c_33 : v2.toInt = (6 : Int) := i_eq.mp c_33
                  unfold f_X3_scanRings_B98
                  refine ok_bd2 (s_X3_fault o_length w_30 o_bytes (show 0 ≤ (o_length).toInt by omega) (show (o_length).toInt ≤ 60 by omega) (show 0 ≤ w_30.toInt by omega) (show w_30.toInt ≤ o_length.toInt by omega)) (fun r_34 w_35 q_36 => ?_)
                  obtain ⟨q_36_0, q_36_1, q_36_2, q_36_3, q_36_4⟩ : (0 ≤ w_35.toInt) ∧ (w_35.toInt ≤ o_length.toInt) ∧ (r_34.toInt < 0) ∧ (r_34.toInt = -20 - w_35.toInt) ∧ (SkP o_bytes o_length.toInt w_30.toInt w_35.toInt) := q_36
                  exact ok_some (show (0 ≤ w_35.toInt) ∧ (w_35.toInt ≤ o_length.toInt) from ⟨by omega, by omega⟩)
                · skip
                  have c_33 : ¬ v2.toInt = (6 : Int) := fun z => c_33 (i_eq.mpr z)
                  refine ok_bd2 (s_X3_passes 59 o_length w_30 o_bytes (show 0 ≤ (o_length).toInt by omega) (show (o_length).toInt ≤ 60 by omega) (show 0 ≤ w_30.toInt by omega) (show w_30.toInt ≤ o_length.toInt by omega)) (fun r_37 w_38 q_39 => ?_)
                  obtain ⟨q_39_0, q_39_1, q_39_2⟩ : (0 ≤ w_38.toInt) ∧ (w_38.toInt ≤ o_length.toInt) ∧ (r_37.toInt = 0 ∨ r_37.toInt = 1) := q_39
                  refine ok_ite (fun c_40 => ?_) (fun c_40 => ?_)
                  · skip
                    have c_40 : r_37.toInt = (0 : Int) := i_eq.mp c_40
                    unfold f_X3_scanRings_B98
                    refine ok_bd2 (s_X3_fault o_length w_38 o_bytes (show 0 ≤ (o_length).toInt by omega) (show (o_length).toInt ≤ 60 by omega) (show 0 ≤ w_38.toInt by omega) (show w_38.toInt ≤ o_length.toInt by omega)) (fun r_41 w_42 q_43 => ?_)
                    obtain ⟨q_43_0, q_43_1, q_43_2, q_43_3, q_43_4⟩ : (0 ≤ w_42.toInt) ∧ (w_42.toInt ≤ o_length.toInt) ∧ (r_41.toInt < 0) ∧ (r_41.toInt = -20 - w_42.toInt) ∧ (SkP o_bytes o_length.toInt w_38.toInt w_42.toInt) := q_43
                    exact ok_some (show (0 ≤ w_42.toInt) ∧ (w_42.toInt ≤ o_length.toInt) from ⟨by omega, by omega⟩)
                  · skip
                    have c_40 : ¬ r_37.toInt = (0 : Int) := fun z => c_40 (i_eq.mpr z)
                    first | (have f_44 : (v2 + 1).toInt = v2.toInt + (1 : Int) := i_add2 rfl rfl (by omega) (by omega)) | skip
                    refine ok_nmi (fun x_45 hx_45 kx_45 => ?_)
                    exact ih31 r_6 x_45 w_38 w_22 w_23 (show (7 - x_45.toInt).toNat < n31 by omega) (show 0 ≤ r_6.toInt by omega) (show r_6.toInt ≤ 6 by omega) (show 1 ≤ x_45.toInt by omega) (show x_45.toInt ≤ 7 by omega) (show 0 ≤ w_38.toInt by omega) (show w_38.toInt ≤ o_length.toInt by omega)
              · skip
                have c_32 : ¬ r_29.toInt = (0 : Int) := fun z => c_32 (i_eq.mpr z)
                replace q_31_0 : o_length.toInt ≤ w_30.toInt := by omega
                exact ok_some (show (0 ≤ w_30.toInt) ∧ (w_30.toInt ≤ o_length.toInt) from ⟨by omega, by omega⟩)
  have l7 : ∀ (n : Nat) (v1 : Int32) (o_place : Int32) (o_newFar : Nat → Int32) (o_newTones : Nat → Int32), (7 - v1.toInt).toNat < n → (0 ≤ v1.toInt) → (v1.toInt ≤ 7) → (0 ≤ o_place.toInt) → (o_place.toInt ≤ o_length.toInt) → okP (f_X3_scanRings_L7 n v1 o_length o_place o_bytes o_newFar o_newTones) (fun u => (0 ≤ u.2.1.toInt) ∧ (u.2.1.toInt ≤ o_length.toInt)) := by
    intro n
    induction n with
    | zero =>
      intro v1 o_place o_newFar o_newTones hm
      exact absurd hm (Nat.not_lt_zero _)
    | succ n7 ih7 =>
      intro v1 o_place o_newFar o_newTones hm7 g7_0 g7_1 g7_2 g7_3
      show okP (f_X3_scanRings_L7b (f_X3_scanRings_L7 n7) v1 o_length o_place o_bytes o_newFar o_newTones) (fun u => (0 ≤ u.2.1.toInt) ∧ (u.2.1.toInt ≤ o_length.toInt))
      unfold f_X3_scanRings_L7b
      refine ok_ite (fun c_46 => ?_) (fun c_46 => ?_)
      · skip
        have c_46 : (6 : Int) < v1.toInt := i_lt.mp c_46
        exact l31 FU 0 1 o_place o_newFar o_newTones (FU_gt (show (7 - (1 : Int)).toNat < 1000000000000 by omega)) (show 0 ≤ (0 : Int) by omega) (show (0 : Int) ≤ 6 by omega) (show 1 ≤ (1 : Int) by omega) (show (1 : Int) ≤ 7 by omega) (show 0 ≤ o_place.toInt by omega) (show o_place.toInt ≤ o_length.toInt by omega)
      · skip
        have c_46 : ¬ (6 : Int) < v1.toInt := fun z => c_46 (i_lt.mpr z)
        have ix_47 : ¬ (v1 < 0 ∨ 7 ≤ v1.toNatClampNeg) := ix (show 0 ≤ v1.toInt by omega) (show v1.toInt < (7 : Nat) by omega)
        refine ok_chk ix_47 ?_
        first | (have f_48 : (v1 + 1).toInt = v1.toInt + (1 : Int) := i_add2 rfl rfl (by omega) (by omega)) | skip
        refine ok_nmi (fun x_49 hx_49 kx_49 => ?_)
        exact ih7 x_49 o_place (upd o_newFar v1.toNatClampNeg (-2)) o_newTones (show (7 - x_49.toInt).toNat < n7 by omega) (show 0 ≤ x_49.toInt by omega) (show x_49.toInt ≤ 7 by omega) (show 0 ≤ o_place.toInt by omega) (show o_place.toInt ≤ o_length.toInt by omega)
  unfold f_X3_scanRings
  exact l7 FU 0 0 o_newFar o_newTones (FU_gt (show (7 - (0 : Int)).toNat < 1000000000000 by omega)) (show 0 ≤ (0 : Int) by omega) (show (0 : Int) ≤ 7 by omega) (show 0 ≤ (0 : Int) by omega) (show (0 : Int) ≤ o_length.toInt by omega)
set_option maxRecDepth 100000 in
set_option maxHeartbeats 4000000 in
theorem s_X3_readRings (n_p1 : Nat) (n_p2 : Nat) (o_length : Int32) (o_place : Int32) (o_bytes : Nat → Int32) (o_newFar : Nat → Int32) (o_newTones : Nat → Int32) (p1_arr : Nat → Int32) (p2_arr : Nat → Int32) (h0 : n_p1 = 7) (h1 : n_p2 = 7) (h2 : 0 ≤ (o_length).toInt) (h3 : (o_length).toInt ≤ 60) : okP (f_X3_readRings n_p1 n_p2 o_length o_place o_bytes o_newFar o_newTones p1_arr p2_arr) (fun u => True) := by
  have l8 : ∀ (n : Nat) (v3 : Int32) (v4 : Int32) (o_place : Int32) (o_newFar : Nat → Int32) (o_newTones : Nat → Int32) (p1_arr : Nat → Int32) (p2_arr : Nat → Int32), (7 - v4.toInt).toNat < n → (1 ≤ v4.toInt) → (v4.toInt ≤ 7) → okP (f_X3_readRings_L8 n_p1 n_p2 n v3 v4 o_length o_place o_bytes o_newFar o_newTones p1_arr p2_arr) (fun u => True) := by
    intro n
    induction n with
    | zero =>
      intro v3 v4 o_place o_newFar o_newTones p1_arr p2_arr hm
      exact absurd hm (Nat.not_lt_zero _)
    | succ n8 ih8 =>
      intro v3 v4 o_place o_newFar o_newTones p1_arr p2_arr hm8 g8_0 g8_1
      show okP (f_X3_readRings_L8b n_p1 n_p2 (f_X3_readRings_L8 n_p1 n_p2 n8) v3 v4 o_length o_place o_bytes o_newFar o_newTones p1_arr p2_arr) (fun u => True)
      unfold f_X3_readRings_L8b
      refine ok_ite (fun c_1 => ?_) (fun c_1 => ?_)
      · skip
        have c_1 : (6 : Int) < v4.toInt := i_lt.mp c_1
        exact ok_some trivial
      · skip
        have c_1 : ¬ (6 : Int) < v4.toInt := fun z => c_1 (i_lt.mpr z)
        refine ok_ite (fun c_2 => ?_) (fun c_2 => ?_)
        · skip
          have c_2 : v3.toInt ≤ (0 : Int) := i_le.mp c_2
          exact ok_some trivial
        · skip
          have c_2 : ¬ v3.toInt ≤ (0 : Int) := fun z => c_2 (i_le.mpr z)
          have ix_3 : ¬ (v4 < 0 ∨ 7 ≤ v4.toNatClampNeg) := ix (show 0 ≤ v4.toInt by omega) (show v4.toInt < (7 : Nat) by omega)
          refine ok_chk ix_3 ?_
          refine ok_ite (fun c_4 => ?_) (fun c_4 => ?_)
          · skip
            have c_4 : (o_newFar v4.toNatClampNeg).toInt = (-2 : Int) := i_eq.mp c_4
            unfold f_X3_readRings_B53
            first | (have f_5 : (v4 + 1).toInt = v4.toInt + (1 : Int) := i_add2 rfl rfl (by omega) (by omega)) | skip
            refine ok_nmi (fun x_6 hx_6 kx_6 => ?_)
            exact ih8 v3 x_6 o_place o_newFar o_newTones p1_arr p2_arr (show (7 - x_6.toInt).toNat < n8 by omega) (show 1 ≤ x_6.toInt by omega) (show x_6.toInt ≤ 7 by omega)
          · skip
            have c_4 : ¬ (o_newFar v4.toNatClampNeg).toInt = (-2 : Int) := fun z => c_4 (i_eq.mpr z)
            refine ok_chk ix_3 ?_
            refine ok_nmi (fun x_7 hx_7 kx_7 => ?_)
            have ix_8 : ¬ (v4 < 0 ∨ n_p1 ≤ v4.toNatClampNeg) := ix (show 0 ≤ v4.toInt by omega) (show v4.toInt < (n_p1 : Nat) by omega)
            refine ok_chk ix_8 ?_
            refine ok_chk ix_3 ?_
            refine ok_nmi (fun x_9 hx_9 kx_9 => ?_)
            have ix_10 : ¬ (v4 < 0 ∨ n_p2 ≤ v4.toNatClampNeg) := ix (show 0 ≤ v4.toInt by omega) (show v4.toInt < (n_p2 : Nat) by omega)
            refine ok_chk ix_10 ?_
            unfold f_X3_readRings_B53
            first | (have f_11 : (v4 + 1).toInt = v4.toInt + (1 : Int) := i_add2 rfl rfl (by omega) (by omega)) | skip
            refine ok_nmi (fun x_12 hx_12 kx_12 => ?_)
            exact ih8 v3 x_12 o_place o_newFar o_newTones (upd p1_arr v4.toNatClampNeg x_7) (upd p2_arr v4.toNatClampNeg x_9) (show (7 - x_12.toInt).toNat < n8 by omega) (show 1 ≤ x_12.toInt by omega) (show x_12.toInt ≤ 7 by omega)
  unfold f_X3_readRings
  refine ok_bd4 (s_X3_scanRings o_length o_place o_bytes o_newFar o_newTones (show 0 ≤ (o_length).toInt by omega) (show (o_length).toInt ≤ 60 by omega)) (fun r_13 w_14 w_15 w_16 q_17 => ?_)
  obtain ⟨q_17_0, q_17_1⟩ : (0 ≤ w_14.toInt) ∧ (w_14.toInt ≤ o_length.toInt) := q_17
  exact l8 FU r_13 1 w_14 w_15 w_16 p1_arr p2_arr (FU_gt (show (7 - (1 : Int)).toNat < 1000000000000 by omega)) (show 1 ≤ (1 : Int) by omega) (show (1 : Int) ≤ 7 by omega)
set_option maxRecDepth 100000 in
set_option maxHeartbeats 4000000 in
theorem s_X3_readSea (n_p1 : Nat) (x2 : Int32) (o_length : Int32) (o_place : Int32) (o_bytes : Nat → Int32) (o_newCurrents : Nat → Int32) (p1_arr : Nat → Int32) (h0 : n_p1 = 200) (h1 : 0 ≤ (o_length).toInt) (h2 : (o_length).toInt ≤ 60) : okP (f_X3_readSea n_p1 x2 o_length o_place o_bytes o_newCurrents p1_arr) (fun u => True) := by
  have hN : (Int32.ofNat n_p1).toInt = 200 := by rw [h0]; rfl
  have l10 : ∀ (n : Nat) (v2 : Int32) (v3 : Int32) (v4 : Int32) (o_place : Int32) (o_newCurrents : Nat → Int32) (p1_arr : Nat → Int32), (10 - v4.toInt).toNat < n → (v2.toInt = x2.toInt) → (0 ≤ v4.toInt) → (v4.toInt ≤ 10) → (0 ≤ o_place.toInt) → (o_place.toInt ≤ o_length.toInt) → okP (f_X3_readSea_L10 n_p1 n v2 v3 v4 o_length o_place o_bytes o_newCurrents p1_arr) (fun u => True) := by
    intro n
    induction n with
    | zero =>
      intro v2 v3 v4 o_place o_newCurrents p1_arr hm
      exact absurd hm (Nat.not_lt_zero _)
    | succ n10 ih10 =>
      intro v2 v3 v4 o_place o_newCurrents p1_arr hm10 g10_0 g10_1 g10_2 g10_3 g10_4
      show okP (f_X3_readSea_L10b n_p1 (f_X3_readSea_L10 n_p1 n10) v2 v3 v4 o_length o_place o_bytes o_newCurrents p1_arr) (fun u => True)
      unfold f_X3_readSea_L10b
      refine ok_ite (fun c_1 => ?_) (fun c_1 => ?_)
      · skip
        have c_1 : (10 : Int) ≤ v4.toInt := i_le.mp c_1
        refine ok_bd2 (s_X3_isAtEnd o_length o_place o_bytes (show 0 ≤ (o_length).toInt by omega) (show (o_length).toInt ≤ 60 by omega) (show 0 ≤ o_place.toInt by omega) (show o_place.toInt ≤ o_length.toInt by omega)) (fun r_2 w_3 q_4 => ?_)
        obtain ⟨q_4_0, q_4_1, q_4_2, q_4_3⟩ : ((r_2.toInt = 1 ∧ o_length.toInt ≤ w_3.toInt) ∨ (r_2.toInt = 0 ∧ w_3.toInt < o_length.toInt)) ∧ (0 ≤ w_3.toInt) ∧ (w_3.toInt ≤ o_length.toInt) ∧ (SkP o_bytes o_length.toInt o_place.toInt w_3.toInt) := q_4
        refine ok_ite (fun c_5 => ?_) (fun c_5 => ?_)
        · skip
          have c_5 : r_2.toInt = (0 : Int) := i_eq.mp c_5
          replace q_4_0 : w_3.toInt < o_length.toInt := by omega
          unfold f_X3_readSea_B119
          refine ok_bd2 (s_X3_fault o_length w_3 o_bytes (show 0 ≤ (o_length).toInt by omega) (show (o_length).toInt ≤ 60 by omega) (show 0 ≤ w_3.toInt by omega) (show w_3.toInt ≤ o_length.toInt by omega)) (fun r_6 w_7 q_8 => ?_)
          obtain ⟨q_8_0, q_8_1, q_8_2, q_8_3, q_8_4⟩ : (0 ≤ w_7.toInt) ∧ (w_7.toInt ≤ o_length.toInt) ∧ (r_6.toInt < 0) ∧ (r_6.toInt = -20 - w_7.toInt) ∧ (SkP o_bytes o_length.toInt w_3.toInt w_7.toInt) := q_8
          exact ok_some trivial
        · skip
          have c_5 : ¬ r_2.toInt = (0 : Int) := fun z => c_5 (i_eq.mpr z)
          replace q_4_0 : o_length.toInt ≤ w_3.toInt := by omega
          refine ok_ite (fun c_9 => ?_) (fun c_9 => ?_)
          · skip
            have c_9 : v2.toInt < (0 : Int) := i_lt.mp c_9
            unfold f_X3_readSea_B119
            refine ok_bd2 (s_X3_fault o_length w_3 o_bytes (show 0 ≤ (o_length).toInt by omega) (show (o_length).toInt ≤ 60 by omega) (show 0 ≤ w_3.toInt by omega) (show w_3.toInt ≤ o_length.toInt by omega)) (fun r_10 w_11 q_12 => ?_)
            obtain ⟨q_12_0, q_12_1, q_12_2, q_12_3, q_12_4⟩ : (0 ≤ w_11.toInt) ∧ (w_11.toInt ≤ o_length.toInt) ∧ (r_10.toInt < 0) ∧ (r_10.toInt = -20 - w_11.toInt) ∧ (SkP o_bytes o_length.toInt w_3.toInt w_11.toInt) := q_12
            exact ok_some trivial
          · skip
            have c_9 : ¬ v2.toInt < (0 : Int) := fun z => c_9 (i_lt.mpr z)
            first | (have f_13 : ((Int32.ofNat n_p1) - 10).toInt = (Int32.ofNat n_p1).toInt - (10 : Int) := i_sub2 rfl rfl (by omega) (by omega)) | skip
            refine ok_ite (fun c_14 => ?_) (fun c_14 => ?_)
            · skip
              have c_14 : v2.toInt ≤ ((Int32.ofNat n_p1) - 10).toInt := i_le.mp c_14
              refine ok_chk ⟨cp_n (by omega), by rw [i_cl]; omega⟩ ?_
              exact ok_some trivial
            · skip
              have c_14 : ¬ v2.toInt ≤ ((Int32.ofNat n_p1) - 10).toInt := fun z => c_14 (i_le.mpr z)
              unfold f_X3_readSea_B119
              refine ok_bd2 (s_X3_fault o_length w_3 o_bytes (show 0 ≤ (o_length).toInt by omega) (show (o_length).toInt ≤ 60 by omega) (show 0 ≤ w_3.toInt by omega) (show w_3.toInt ≤ o_length.toInt by omega)) (fun r_15 w_16 q_17 => ?_)
              obtain ⟨q_17_0, q_17_1, q_17_2, q_17_3, q_17_4⟩ : (0 ≤ w_16.toInt) ∧ (w_16.toInt ≤ o_length.toInt) ∧ (r_15.toInt < 0) ∧ (r_15.toInt = -20 - w_16.toInt) ∧ (SkP o_bytes o_length.toInt w_3.toInt w_16.toInt) := q_17
              exact ok_some trivial
      · skip
        have c_1 : ¬ (10 : Int) ≤ v4.toInt := fun z => c_1 (i_le.mpr z)
        refine ok_bd2 (s_X3_isAtEnd o_length o_place o_bytes (show 0 ≤ (o_length).toInt by omega) (show (o_length).toInt ≤ 60 by omega) (show 0 ≤ o_place.toInt by omega) (show o_place.toInt ≤ o_length.toInt by omega)) (fun r_18 w_19 q_20 => ?_)
        obtain ⟨q_20_0, q_20_1, q_20_2, q_20_3⟩ : ((r_18.toInt = 1 ∧ o_length.toInt ≤ w_19.toInt) ∨ (r_18.toInt = 0 ∧ w_19.toInt < o_length.toInt)) ∧ (0 ≤ w_19.toInt) ∧ (w_19.toInt ≤ o_length.toInt) ∧ (SkP o_bytes o_length.toInt o_place.toInt w_19.toInt) := q_20
        refine ok_ite (fun c_21 => ?_) (fun c_21 => ?_)
        · skip
          have c_21 : r_18.toInt = (0 : Int) := i_eq.mp c_21
          replace q_20_0 : w_19.toInt < o_length.toInt := by omega
          have ix_22 : ¬ (w_19 < 0 ∨ 60 ≤ w_19.toNatClampNeg) := ix (show 0 ≤ w_19.toInt by omega) (show w_19.toInt < (60 : Nat) by omega)
          refine ok_chk ix_22 ?_
          first | (have f_23 : ((o_bytes w_19.toNatClampNeg) - 48).toInt = (o_bytes w_19.toNatClampNeg).toInt - (48 : Int) := i_sub2 rfl rfl (by omega) (by omega)) | skip
          unfold f_X3_readSea_B40
          refine ok_ite (fun c_24 => ?_) (fun c_24 => ?_)
          · skip
            have c_24 : ((o_bytes w_19.toNatClampNeg) - 48).toInt < (0 : Int) := i_lt.mp c_24
            unfold f_X3_readSea_B54
            refine ok_bd2 (s_X3_fault o_length w_19 o_bytes (show 0 ≤ (o_length).toInt by omega) (show (o_length).toInt ≤ 60 by omega) (show 0 ≤ w_19.toInt by omega) (show w_19.toInt ≤ o_length.toInt by omega)) (fun r_25 w_26 q_27 => ?_)
            obtain ⟨q_27_0, q_27_1, q_27_2, q_27_3, q_27_4⟩ : (0 ≤ w_26.toInt) ∧ (w_26.toInt ≤ o_length.toInt) ∧ (r_25.toInt < 0) ∧ (r_25.toInt = -20 - w_26.toInt) ∧ (SkP o_bytes o_length.toInt w_19.toInt w_26.toInt) := q_27
            exact ok_some trivial
          · skip
            have c_24 : ¬ ((o_bytes w_19.toNatClampNeg) - 48).toInt < (0 : Int) := fun z => c_24 (i_lt.mpr z)
            refine ok_ite (fun c_28 => ?_) (fun c_28 => ?_)
            · skip
              have c_28 : ((o_bytes w_19.toNatClampNeg) - 48).toInt ≤ (8 : Int) := i_le.mp c_28
              have ix_29 : ¬ (v4 < 0 ∨ 10 ≤ v4.toNatClampNeg) := ix (show 0 ≤ v4.toInt by omega) (show v4.toInt < (10 : Nat) by omega)
              refine ok_chk ix_29 ?_
              refine ok_ite (fun c_30 => ?_) (fun c_30 => ?_)
              · skip
                have c_30 : ((o_bytes w_19.toNatClampNeg) - 48).toInt = (8 : Int) := i_eq.mp c_30
                unfold f_X3_readSea_B81
                first | (have f_31 : (v3 + 0).toInt = v3.toInt + (0 : Int) := i_add2 rfl rfl (by omega) (by omega)) | skip
                refine ok_nmi (fun x_32 hx_32 kx_32 => ?_)
                first | (have f_33 : (w_19 + 1).toInt = w_19.toInt + (1 : Int) := i_add2 rfl rfl (by omega) (by omega)) | skip
                refine ok_nmi (fun x_34 hx_34 kx_34 => ?_)
                first | (have f_35 : (v4 + 1).toInt = v4.toInt + (1 : Int) := i_add2 rfl rfl (by omega) (by omega)) | skip
                refine ok_nmi (fun x_36 hx_36 kx_36 => ?_)
                exact ih10 v2 x_32 x_36 x_34 (upd o_newCurrents v4.toNatClampNeg ((o_bytes w_19.toNatClampNeg) - 48)) p1_arr (show (10 - x_36.toInt).toNat < n10 by omega) (show v2.toInt = x2.toInt by omega) (show 0 ≤ x_36.toInt by omega) (show x_36.toInt ≤ 10 by omega) (show 0 ≤ x_34.toInt by omega) (show x_34.toInt ≤ o_length.toInt by omega)
              · skip
                have c_30 : ¬ ((o_bytes w_19.toNatClampNeg) - 48).toInt = (8 : Int) := fun z => c_30 (i_eq.mpr z)
                unfold f_X3_readSea_B81
                first | (have f_37 : (v3 + 1).toInt = v3.toInt + (1 : Int) := i_add2 rfl rfl (by omega) (by omega)) | skip
                refine ok_nmi (fun x_38 hx_38 kx_38 => ?_)
                first | (have f_39 : (w_19 + 1).toInt = w_19.toInt + (1 : Int) := i_add2 rfl rfl (by omega) (by omega)) | skip
                refine ok_nmi (fun x_40 hx_40 kx_40 => ?_)
                first | (have f_41 : (v4 + 1).toInt = v4.toInt + (1 : Int) := i_add2 rfl rfl (by omega) (by omega)) | skip
                refine ok_nmi (fun x_42 hx_42 kx_42 => ?_)
                exact ih10 v2 x_38 x_42 x_40 (upd o_newCurrents v4.toNatClampNeg ((o_bytes w_19.toNatClampNeg) - 48)) p1_arr (show (10 - x_42.toInt).toNat < n10 by omega) (show v2.toInt = x2.toInt by omega) (show 0 ≤ x_42.toInt by omega) (show x_42.toInt ≤ 10 by omega) (show 0 ≤ x_40.toInt by omega) (show x_40.toInt ≤ o_length.toInt by omega)
            · skip
              have c_28 : ¬ ((o_bytes w_19.toNatClampNeg) - 48).toInt ≤ (8 : Int) := fun z => c_28 (i_le.mpr z)
              unfold f_X3_readSea_B54
              refine ok_bd2 (s_X3_fault o_length w_19 o_bytes (show 0 ≤ (o_length).toInt by omega) (show (o_length).toInt ≤ 60 by omega) (show 0 ≤ w_19.toInt by omega) (show w_19.toInt ≤ o_length.toInt by omega)) (fun r_43 w_44 q_45 => ?_)
              obtain ⟨q_45_0, q_45_1, q_45_2, q_45_3, q_45_4⟩ : (0 ≤ w_44.toInt) ∧ (w_44.toInt ≤ o_length.toInt) ∧ (r_43.toInt < 0) ∧ (r_43.toInt = -20 - w_44.toInt) ∧ (SkP o_bytes o_length.toInt w_19.toInt w_44.toInt) := q_45
              exact ok_some trivial
        · skip
          have c_21 : ¬ r_18.toInt = (0 : Int) := fun z => c_21 (i_eq.mpr z)
          replace q_20_0 : o_length.toInt ≤ w_19.toInt := by omega
          unfold f_X3_readSea_B40
          refine ok_ite (fun c_46 => ?_) (fun c_46 => ?_)
          · skip
            unfold f_X3_readSea_B54
            refine ok_bd2 (s_X3_fault o_length w_19 o_bytes (show 0 ≤ (o_length).toInt by omega) (show (o_length).toInt ≤ 60 by omega) (show 0 ≤ w_19.toInt by omega) (show w_19.toInt ≤ o_length.toInt by omega)) (fun r_47 w_48 q_49 => ?_)
            obtain ⟨q_49_0, q_49_1, q_49_2, q_49_3, q_49_4⟩ : (0 ≤ w_48.toInt) ∧ (w_48.toInt ≤ o_length.toInt) ∧ (r_47.toInt < 0) ∧ (r_47.toInt = -20 - w_48.toInt) ∧ (SkP o_bytes o_length.toInt w_19.toInt w_48.toInt) := q_49
            exact ok_some trivial
          · skip
            exact absurd c_46 (by decide)
  unfold f_X3_readSea
  exact l10 FU x2 0 0 0 o_newCurrents p1_arr (FU_gt (show (10 - (0 : Int)).toNat < 1000000000000 by omega)) (show x2.toInt = x2.toInt by omega) (show 0 ≤ (0 : Int) by omega) (show (0 : Int) ≤ 10 by omega) (show 0 ≤ (0 : Int) by omega) (show (0 : Int) ≤ o_length.toInt by omega)
